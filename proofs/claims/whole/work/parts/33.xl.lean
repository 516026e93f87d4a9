def fL_stool (S : CV) (T : TV) (Hs : HV) (G : (Nat → TV)) (O : (Nat → Int64)) (x2 : Int32) (x3 : Int32) (x4 : Int32) (x5 : Int32) : (Int32 × CV × TV × HV × (Nat → TV) × (Nat → Int64)) := (if (fX5_stool S T Hs G x2 x3 x4 x5).1 = none then (0, (fX5_stool S T Hs G x2 x3 x4 x5).2.2.1, (fX5_stool S T Hs G x2 x3 x4 x5).2.2.2.1, (fX5_stool S T Hs G x2 x3 x4 x5).2.2.2.2.1, (fX5_stool S T Hs G x2 x3 x4 x5).2.2.2.2.2, (vp_updL O (0 : Int32).toNatClampNeg ((fX5_stool S T Hs G x2 x3 x4 x5).2.1.toInt64))) else (if (fX5_stool S T Hs G x2 x3 x4 x5).1 = some "java/lang/IllegalArgumentException" then (1, (fX5_stool S T Hs G x2 x3 x4 x5).2.2.1, (fX5_stool S T Hs G x2 x3 x4 x5).2.2.2.1, (fX5_stool S T Hs G x2 x3 x4 x5).2.2.2.2.1, (fX5_stool S T Hs G x2 x3 x4 x5).2.2.2.2.2, O) else (2, (fX5_stool S T Hs G x2 x3 x4 x5).2.2.1, (fX5_stool S T Hs G x2 x3 x4 x5).2.2.2.1, (fX5_stool S T Hs G x2 x3 x4 x5).2.2.2.2.1, (fX5_stool S T Hs G x2 x3 x4 x5).2.2.2.2.2, O)))
def gL_stool (S : CV) (T : TV) (Hs : HV) (G : (Nat → TV)) (O : (Nat → Int64)) (x2 : Int32) (x3 : Int32) (x4 : Int32) (x5 : Int32) : Prop := (((fX5_stool S T Hs G x2 x3 x4 x5).1 = none ∨ (fX5_stool S T Hs G x2 x3 x4 x5).1 = some "java/lang/IllegalArgumentException" ∨ (fX5_stool S T Hs G x2 x3 x4 x5).1 = some "java/lang/UnsupportedOperationException") ∧ (if (fX5_stool S T Hs G x2 x3 x4 x5).1 = none then ((vp_in 0 1) ∧ True) else True))
abbrev rmL_stool : Room := { frames := 8, cells := 1, slots := 6, locals := 131 }
set_option maxHeartbeats 4000000 in
set_option maxRecDepth 100000 in
theorem kL_stool (l : Launch) (D : va_G) (cI cC cT cJ cQ : ClassId) (x ot ou ov oh ox oy ot1 ot2 rr o : Nat) (ra rb rc : Nat → Nat) (S : CV) (T : TV) (Hs : HV) (G : (Nat → TV)) (O : (Nat → Int64)) (x2 : Int32) (x3 : Int32) (x4 : Int32) (x5 : Int32) (hst : l.stackTraces = false) (hn : ∃ j : Nat, j < 9 ∧ Hs.1 = nI j) (hg : gL_stool S T Hs G O x2 x3 x4 x5) : mL l D (TY5 cI cC cT cJ cQ) yL_stool wsL_stool rmL_stool [.ref x, .int x2, .int x3, .int x4, .int x5, .ref o] (w5 x ot ou ov oh ox oy S ++ w3 cI ot ot1 ot2 T ++ w1 oh rr Hs ++ wR cI cT rr ra rb rc G ++ [(o, .inl (cJ, 1, .inr (.inl O)))]) ((fL_stool S T Hs G O x2 x3 x4 x5).1) (w5 x ot ou ov oh ox oy (fL_stool S T Hs G O x2 x3 x4 x5).2.1 ++ w3 cI ot ot1 ot2 (fL_stool S T Hs G O x2 x3 x4 x5).2.2.1 ++ w1 oh rr (fL_stool S T Hs G O x2 x3 x4 x5).2.2.2.1 ++ wR cI cT rr ra rb rc (fL_stool S T Hs G O x2 x3 x4 x5).2.2.2.2.1 ++ [(o, .inl (cJ, 1, .inr (.inl (fL_stool S T Hs G O x2 x3 x4 x5).2.2.2.2.2)))]) 1 := by
  refine mL.ofW (hh := [(0, 14, 17, 13), (0, 14, 21, 15)]) (cc := cL_stool) (maxL := 7) (ret := (some .int)) (by decide) rfl (Nat.le_of_ble_eq_true rfl) ?_
  intro p e s m args below meth c Q ls A hx hb hml hr hlk hts hown hP hK hD hS hl hXE hXN htb hQ
  have hK3 := hK.sub (tys' := TY cI cC cT) [0, 1, 2] rfl
  have hown : s.vm.findClass RL = some m.cls := hown
  have hP : va_P D vwCl (w5 x ot ou ov oh ox oy S ++ w3 cI ot ot1 ot2 T ++ w1 oh rr Hs ++ wR cI cT rr ra rb rc G ++ [(o, .inl (cJ, 1, .inr (.inl O)))]) s.heap := hP
  have hD : va_D A (w5 x ot ou ov oh ox oy S ++ w3 cI ot ot1 ot2 T ++ w1 oh rr Hs ++ wR cI cT rr ra rb rc G ++ [(o, .inl (cJ, 1, .inr (.inl O)))]) := hD
  have hl : lv_has ls 7 [(0, .ref x), (1, .int x2), (2, .int x3), (3, .int x4), (4, .int x5), (5, .ref o)] := hl
  unfold gL_stool at hg
  generalize hHe : s.heap = H at hP ⊢
  have hS : va_S A s.heap H [] := hHe ▸ hS
  generalize hLe : ([] : List Loc) = locs at hS ⊢
  refine lv_aload hx hb dL_stool_0 (lv_at hl 5 rfl) ?_
  refine lv_iconst (v := 0) hx hb dL_stool_2 (by decide) ?_
  refine lv_aload_n hx hb dL_stool_3 rfl (lv_at hl 0 rfl) ?_
  refine lv_iload_n hx hb dL_stool_4 rfl (lv_at hl 1 rfl) ?_
  refine lv_iload_n hx hb dL_stool_5 rfl (lv_at hl 2 rfl) ?_
  refine lv_iload_n hx hb dL_stool_6 rfl (lv_at hl 3 rfl) ?_
  refine lv_iload hx hb dL_stool_7 (lv_at hl 4 rfl) ?_
  obtain ⟨n1, en1⟩ : ∃ z9, z9 = (fX5_stool S T Hs G x2 x3 x4 x5) := ⟨_, rfl⟩
  try rw [← en1] at hg
  have k9 := (kX5_stool l D cI cC cT x ot ou ov oh ox oy ot1 ot2 rr ra rb rc S T Hs G x2 x3 x4 x5 hst hn)
  rw [← en1] at k9
  obtain ⟨o1, hg⟩ := hg
  refine fXq (As := [.int x2, .int x3, .int x4, .int x5]) (rest := [.int 0, .ref o]) (st' := [.int n1.2.1, .int 0, .ref o]) ⟨hx, hb, hml, hown, hts⟩ k9 (cwV 4 hts gL_stool_X5_stool rfl rfl rfl (by decide +kernel) ⟨Nat.le_of_ble_eq_true rfl, Nat.le_of_ble_eq_true rfl⟩) hP hK3 hD hS hXE ([(o, .inl (cJ, 1, .inr (.inl O)))] : va_W) (pmI (fun a => by simp only [cntW_app, cntW_nil] <;> omega)) (w5 x ot ou ov oh ox oy n1.2.2.1 ++ w3 cI ot ot1 ot2 n1.2.2.2.1 ++ w1 oh rr n1.2.2.2.2.1 ++ wR cI cT rr ra rb rc n1.2.2.2.2.2 ++ [(o, .inl (cJ, 1, .inr (.inl O)))]) (pmI (fun a => by simp only [cntW_app, cntW_nil] <;> omega)) rfl 0 (ci := 6) rfl rfl rfl rfl hl.1 rfl rfl (Nat.le_of_ble_eq_true rfl) ⟨Nat.le_of_ble_eq_true rfl, Nat.le_of_ble_eq_true rfl⟩ dL_stool_9 (fun C9 ce9 q9 H locs hE9 hP hD hS hq9 hv9 hc9 => ?_) (fun H locs c_9 hP hD hS => ?_)
  · rcases o1 with h9 | h9 | h9
    · rw [hE9] at h9; cases h9
    · obtain rfl : C9 = "java/lang/IllegalArgumentException" := Option.some.inj (hE9.symm.trans h9)
      have c_9 : ¬ n1.1 = none := by rw [hE9]; exact fun z => nomatch z
      have c_9_0 : n1.1 = some "java/lang/IllegalArgumentException" := h9
      refine vx_catch hown [] ⟨0, 14, 17, 13⟩ [⟨0, 14, 21, 15⟩] htb (fun z hz => nomatch hz) rfl (by decide) (hts (Cond.classLink RL 13 "java/lang/IllegalArgumentException") (by decide +kernel)) (va_Nw.use rfl (hXE.1.1 _ (by decide +kernel))) hq9 hv9 hc9 ?_
      refine lv_astore (lv' := [(6, .ref q9), (0, .ref x), (1, .int x2), (2, .int x3), (3, .int x4), (4, .int x5), (5, .ref o)]) hx hb dL_stool_17 hl (by decide) rfl (fun ls hl => ?_)
      refine lv_iconst (v := 1) hx hb dL_stool_19 (by decide) ?_
      have e9 : fL_stool S T Hs G O x2 x3 x4 x5 = (1, n1.2.2.1, n1.2.2.2.1, n1.2.2.2.2.1, n1.2.2.2.2.2, O) := by rw [fL_stool, ← en1, if_neg c_9, if_pos c_9_0]
      exact rLi hx hb hr hlk hQ hP hS (by rw [e9]) (congrArg (fun z9 : (Int32 × CV × TV × HV × (Nat → TV) × (Nat → Int64)) => (w5 x ot ou ov oh ox oy z9.2.1 ++ w3 cI ot ot1 ot2 z9.2.2.1 ++ w1 oh rr z9.2.2.2.1 ++ wR cI cT rr ra rb rc z9.2.2.2.2.1 ++ [(o, .inl (cJ, 1, .inr (.inl z9.2.2.2.2.2)))] : va_W)) e9).symm rfl ⟨Nat.le_of_ble_eq_true rfl, Nat.le_of_ble_eq_true rfl⟩ dL_stool_20
    · obtain rfl : C9 = "java/lang/UnsupportedOperationException" := Option.some.inj (hE9.symm.trans h9)
      have c_9 : ¬ n1.1 = none := by rw [hE9]; exact fun z => nomatch z
      have c_9_0 : ¬ n1.1 = some "java/lang/IllegalArgumentException" := by rw [h9]; decide
      refine vx_catch hown [⟨0, 14, 17, 13⟩] ⟨0, 14, 21, 15⟩ [] htb (List.forall_mem_cons.mpr ⟨Or.inr ⟨by decide, "java/lang/IllegalArgumentException", hts (Cond.classLink RL 13 "java/lang/IllegalArgumentException") (by decide +kernel), hXN.1⟩, (fun z hz => nomatch hz)⟩) rfl (by decide) (hts (Cond.classLink RL 15 "java/lang/UnsupportedOperationException") (by decide +kernel)) (va_Nw.use rfl (hXE.1.1 _ (by decide +kernel))) hq9 hv9 hc9 ?_
      refine lv_astore (lv' := [(6, .ref q9), (0, .ref x), (1, .int x2), (2, .int x3), (3, .int x4), (4, .int x5), (5, .ref o)]) hx hb dL_stool_21 hl (by decide) rfl (fun ls hl => ?_)
      refine lv_iconst (v := 2) hx hb dL_stool_23 (by decide) ?_
      have e9 : fL_stool S T Hs G O x2 x3 x4 x5 = (2, n1.2.2.1, n1.2.2.2.1, n1.2.2.2.2.1, n1.2.2.2.2.2, O) := by rw [fL_stool, ← en1, if_neg c_9, if_neg c_9_0]
      exact rLi hx hb hr hlk hQ hP hS (by rw [e9]) (congrArg (fun z9 : (Int32 × CV × TV × HV × (Nat → TV) × (Nat → Int64)) => (w5 x ot ou ov oh ox oy z9.2.1 ++ w3 cI ot ot1 ot2 z9.2.2.1 ++ w1 oh rr z9.2.2.2.1 ++ wR cI cT rr ra rb rc z9.2.2.2.2.1 ++ [(o, .inl (cJ, 1, .inr (.inl z9.2.2.2.2.2)))] : va_W)) e9).symm rfl ⟨Nat.le_of_ble_eq_true rfl, Nat.le_of_ble_eq_true rfl⟩ dL_stool_24
  · rw [if_pos c_9] at hg
    refine lv_i2l (v := (n1.2.1.toInt64)) hx hb dL_stool_12 rfl ?_
    obtain ⟨o2, hg⟩ := hg
    refine va_last hx hb hK hP hD hS 33 3 rfl rfl o2 dL_stool_13 (fun H locs hP hD hS => ?_)
    have hP : va_P D vwCl (w5 x ot ou ov oh ox oy n1.2.2.1 ++ w3 cI ot ot1 ot2 n1.2.2.2.1 ++ w1 oh rr n1.2.2.2.2.1 ++ wR cI cT rr ra rb rc n1.2.2.2.2.2 ++ [(o, .inl (cJ, 1, .inr (.inl (vp_updL O (0 : Int32).toNatClampNeg (n1.2.1.toInt64)))))]) H := hP
    have hD : va_D A (w5 x ot ou ov oh ox oy n1.2.2.1 ++ w3 cI ot ot1 ot2 n1.2.2.2.1 ++ w1 oh rr n1.2.2.2.2.1 ++ wR cI cT rr ra rb rc n1.2.2.2.2.2 ++ [(o, .inl (cJ, 1, .inr (.inl (vp_updL O (0 : Int32).toNatClampNeg (n1.2.1.toInt64)))))]) := hD
    refine lv_goto (tgt := 25) hx hb dL_stool_14 (by decide) ?_
    refine lv_iconst (v := 0) hx hb dL_stool_25 (by decide) ?_
    have e9 : fL_stool S T Hs G O x2 x3 x4 x5 = (0, n1.2.2.1, n1.2.2.2.1, n1.2.2.2.2.1, n1.2.2.2.2.2, (vp_updL O (0 : Int32).toNatClampNeg (n1.2.1.toInt64))) := by rw [fL_stool, ← en1, if_pos c_9]
    exact rLi hx hb hr hlk hQ hP hS (by rw [e9]) (congrArg (fun z9 : (Int32 × CV × TV × HV × (Nat → TV) × (Nat → Int64)) => (w5 x ot ou ov oh ox oy z9.2.1 ++ w3 cI ot ot1 ot2 z9.2.2.1 ++ w1 oh rr z9.2.2.2.1 ++ wR cI cT rr ra rb rc z9.2.2.2.2.1 ++ [(o, .inl (cJ, 1, .inr (.inl z9.2.2.2.2.2)))] : va_W)) e9).symm rfl ⟨Nat.le_of_ble_eq_true rfl, Nat.le_of_ble_eq_true rfl⟩ dL_stool_26
def fL_guest (S : CV) (T : TV) (Hs : HV) (G : (Nat → TV)) (O : (Nat → Int64)) (x2 : Int32) (x3 : Int32) : (Int32 × CV × TV × HV × (Nat → TV) × (Nat → Int64)) := (if (fX5_guest S T Hs G x2 x3).1 = none then (0, (fX5_guest S T Hs G x2 x3).2.2.1, (fX5_guest S T Hs G x2 x3).2.2.2.1, (fX5_guest S T Hs G x2 x3).2.2.2.2.1, (fX5_guest S T Hs G x2 x3).2.2.2.2.2, (vp_updL O (0 : Int32).toNatClampNeg ((fX5_guest S T Hs G x2 x3).2.1.toInt64))) else (if (fX5_guest S T Hs G x2 x3).1 = some "java/lang/IllegalArgumentException" then (1, (fX5_guest S T Hs G x2 x3).2.2.1, (fX5_guest S T Hs G x2 x3).2.2.2.1, (fX5_guest S T Hs G x2 x3).2.2.2.2.1, (fX5_guest S T Hs G x2 x3).2.2.2.2.2, O) else (2, (fX5_guest S T Hs G x2 x3).2.2.1, (fX5_guest S T Hs G x2 x3).2.2.2.1, (fX5_guest S T Hs G x2 x3).2.2.2.2.1, (fX5_guest S T Hs G x2 x3).2.2.2.2.2, O)))
def gL_guest (S : CV) (T : TV) (Hs : HV) (G : (Nat → TV)) (O : (Nat → Int64)) (x2 : Int32) (x3 : Int32) : Prop := (((fX5_guest S T Hs G x2 x3).1 = none ∨ (fX5_guest S T Hs G x2 x3).1 = some "java/lang/IllegalArgumentException" ∨ (fX5_guest S T Hs G x2 x3).1 = some "java/lang/UnsupportedOperationException") ∧ (if (fX5_guest S T Hs G x2 x3).1 = none then ((vp_in 0 1) ∧ True) else True))
abbrev rmL_guest : Room := { frames := 8, cells := 1, slots := 6, locals := 129 }
set_option maxHeartbeats 4000000 in
set_option maxRecDepth 100000 in
theorem kL_guest (l : Launch) (D : va_G) (cI cC cT cJ cQ : ClassId) (x ot ou ov oh ox oy ot1 ot2 rr o : Nat) (ra rb rc : Nat → Nat) (S : CV) (T : TV) (Hs : HV) (G : (Nat → TV)) (O : (Nat → Int64)) (x2 : Int32) (x3 : Int32) (hst : l.stackTraces = false) (hn : ∃ j : Nat, j < 9 ∧ Hs.1 = nI j) (hg : gL_guest S T Hs G O x2 x3) : mL l D (TY5 cI cC cT cJ cQ) yL_guest wsL_guest rmL_guest [.ref x, .int x2, .int x3, .ref o] (w5 x ot ou ov oh ox oy S ++ w3 cI ot ot1 ot2 T ++ w1 oh rr Hs ++ wR cI cT rr ra rb rc G ++ [(o, .inl (cJ, 1, .inr (.inl O)))]) ((fL_guest S T Hs G O x2 x3).1) (w5 x ot ou ov oh ox oy (fL_guest S T Hs G O x2 x3).2.1 ++ w3 cI ot ot1 ot2 (fL_guest S T Hs G O x2 x3).2.2.1 ++ w1 oh rr (fL_guest S T Hs G O x2 x3).2.2.2.1 ++ wR cI cT rr ra rb rc (fL_guest S T Hs G O x2 x3).2.2.2.2.1 ++ [(o, .inl (cJ, 1, .inr (.inl (fL_guest S T Hs G O x2 x3).2.2.2.2.2)))]) 1 := by
  refine mL.ofW (hh := [(0, 10, 13, 13), (0, 10, 17, 15)]) (cc := cL_guest) (maxL := 5) (ret := (some .int)) (by decide) rfl (Nat.le_of_ble_eq_true rfl) ?_
  intro p e s m args below meth c Q ls A hx hb hml hr hlk hts hown hP hK hD hS hl hXE hXN htb hQ
  have hK3 := hK.sub (tys' := TY cI cC cT) [0, 1, 2] rfl
  have hown : s.vm.findClass RL = some m.cls := hown
  have hP : va_P D vwCl (w5 x ot ou ov oh ox oy S ++ w3 cI ot ot1 ot2 T ++ w1 oh rr Hs ++ wR cI cT rr ra rb rc G ++ [(o, .inl (cJ, 1, .inr (.inl O)))]) s.heap := hP
  have hD : va_D A (w5 x ot ou ov oh ox oy S ++ w3 cI ot ot1 ot2 T ++ w1 oh rr Hs ++ wR cI cT rr ra rb rc G ++ [(o, .inl (cJ, 1, .inr (.inl O)))]) := hD
  have hl : lv_has ls 5 [(0, .ref x), (1, .int x2), (2, .int x3), (3, .ref o)] := hl
  unfold gL_guest at hg
  generalize hHe : s.heap = H at hP ⊢
  have hS : va_S A s.heap H [] := hHe ▸ hS
  generalize hLe : ([] : List Loc) = locs at hS ⊢
  refine lv_aload_n hx hb dL_guest_0 rfl (lv_at hl 3 rfl) ?_
  refine lv_iconst (v := 0) hx hb dL_guest_1 (by decide) ?_
  refine lv_aload_n hx hb dL_guest_2 rfl (lv_at hl 0 rfl) ?_
  refine lv_iload_n hx hb dL_guest_3 rfl (lv_at hl 1 rfl) ?_
  refine lv_iload_n hx hb dL_guest_4 rfl (lv_at hl 2 rfl) ?_
  obtain ⟨n1, en1⟩ : ∃ z9, z9 = (fX5_guest S T Hs G x2 x3) := ⟨_, rfl⟩
  try rw [← en1] at hg
  have k9 := (kX5_guest l D cI cC cT x ot ou ov oh ox oy ot1 ot2 rr ra rb rc S T Hs G x2 x3 hst hn)
  rw [← en1] at k9
  obtain ⟨o1, hg⟩ := hg
  refine fXq (As := [.int x2, .int x3]) (rest := [.int 0, .ref o]) (st' := [.int n1.2.1, .int 0, .ref o]) ⟨hx, hb, hml, hown, hts⟩ k9 (cwV 2 hts gL_guest_X5_guest rfl rfl rfl (by decide +kernel) ⟨Nat.le_of_ble_eq_true rfl, Nat.le_of_ble_eq_true rfl⟩) hP hK3 hD hS hXE ([(o, .inl (cJ, 1, .inr (.inl O)))] : va_W) (pmI (fun a => by simp only [cntW_app, cntW_nil] <;> omega)) (w5 x ot ou ov oh ox oy n1.2.2.1 ++ w3 cI ot ot1 ot2 n1.2.2.2.1 ++ w1 oh rr n1.2.2.2.2.1 ++ wR cI cT rr ra rb rc n1.2.2.2.2.2 ++ [(o, .inl (cJ, 1, .inr (.inl O)))]) (pmI (fun a => by simp only [cntW_app, cntW_nil] <;> omega)) rfl 0 (ci := 6) rfl rfl rfl rfl hl.1 rfl rfl (Nat.le_of_ble_eq_true rfl) ⟨Nat.le_of_ble_eq_true rfl, Nat.le_of_ble_eq_true rfl⟩ dL_guest_5 (fun C9 ce9 q9 H locs hE9 hP hD hS hq9 hv9 hc9 => ?_) (fun H locs c_5 hP hD hS => ?_)
  · rcases o1 with h9 | h9 | h9
    · rw [hE9] at h9; cases h9
    · obtain rfl : C9 = "java/lang/IllegalArgumentException" := Option.some.inj (hE9.symm.trans h9)
      have c_5 : ¬ n1.1 = none := by rw [hE9]; exact fun z => nomatch z
      have c_5_0 : n1.1 = some "java/lang/IllegalArgumentException" := h9
      refine vx_catch hown [] ⟨0, 10, 13, 13⟩ [⟨0, 10, 17, 15⟩] htb (fun z hz => nomatch hz) rfl (by decide) (hts (Cond.classLink RL 13 "java/lang/IllegalArgumentException") (by decide +kernel)) (va_Nw.use rfl (hXE.1.1 _ (by decide +kernel))) hq9 hv9 hc9 ?_
      refine lv_astore (lv' := [(4, .ref q9), (0, .ref x), (1, .int x2), (2, .int x3), (3, .ref o)]) hx hb dL_guest_13 hl (by decide) rfl (fun ls hl => ?_)
      refine lv_iconst (v := 1) hx hb dL_guest_15 (by decide) ?_
      have e9 : fL_guest S T Hs G O x2 x3 = (1, n1.2.2.1, n1.2.2.2.1, n1.2.2.2.2.1, n1.2.2.2.2.2, O) := by rw [fL_guest, ← en1, if_neg c_5, if_pos c_5_0]
      exact rLi hx hb hr hlk hQ hP hS (by rw [e9]) (congrArg (fun z9 : (Int32 × CV × TV × HV × (Nat → TV) × (Nat → Int64)) => (w5 x ot ou ov oh ox oy z9.2.1 ++ w3 cI ot ot1 ot2 z9.2.2.1 ++ w1 oh rr z9.2.2.2.1 ++ wR cI cT rr ra rb rc z9.2.2.2.2.1 ++ [(o, .inl (cJ, 1, .inr (.inl z9.2.2.2.2.2)))] : va_W)) e9).symm rfl ⟨Nat.le_of_ble_eq_true rfl, Nat.le_of_ble_eq_true rfl⟩ dL_guest_16
    · obtain rfl : C9 = "java/lang/UnsupportedOperationException" := Option.some.inj (hE9.symm.trans h9)
      have c_5 : ¬ n1.1 = none := by rw [hE9]; exact fun z => nomatch z
      have c_5_0 : ¬ n1.1 = some "java/lang/IllegalArgumentException" := by rw [h9]; decide
      refine vx_catch hown [⟨0, 10, 13, 13⟩] ⟨0, 10, 17, 15⟩ [] htb (List.forall_mem_cons.mpr ⟨Or.inr ⟨by decide, "java/lang/IllegalArgumentException", hts (Cond.classLink RL 13 "java/lang/IllegalArgumentException") (by decide +kernel), hXN.1⟩, (fun z hz => nomatch hz)⟩) rfl (by decide) (hts (Cond.classLink RL 15 "java/lang/UnsupportedOperationException") (by decide +kernel)) (va_Nw.use rfl (hXE.1.1 _ (by decide +kernel))) hq9 hv9 hc9 ?_
      refine lv_astore (lv' := [(4, .ref q9), (0, .ref x), (1, .int x2), (2, .int x3), (3, .ref o)]) hx hb dL_guest_17 hl (by decide) rfl (fun ls hl => ?_)
      refine lv_iconst (v := 2) hx hb dL_guest_19 (by decide) ?_
      have e9 : fL_guest S T Hs G O x2 x3 = (2, n1.2.2.1, n1.2.2.2.1, n1.2.2.2.2.1, n1.2.2.2.2.2, O) := by rw [fL_guest, ← en1, if_neg c_5, if_neg c_5_0]
      exact rLi hx hb hr hlk hQ hP hS (by rw [e9]) (congrArg (fun z9 : (Int32 × CV × TV × HV × (Nat → TV) × (Nat → Int64)) => (w5 x ot ou ov oh ox oy z9.2.1 ++ w3 cI ot ot1 ot2 z9.2.2.1 ++ w1 oh rr z9.2.2.2.1 ++ wR cI cT rr ra rb rc z9.2.2.2.2.1 ++ [(o, .inl (cJ, 1, .inr (.inl z9.2.2.2.2.2)))] : va_W)) e9).symm rfl ⟨Nat.le_of_ble_eq_true rfl, Nat.le_of_ble_eq_true rfl⟩ dL_guest_20
  · rw [if_pos c_5] at hg
    refine lv_i2l (v := (n1.2.1.toInt64)) hx hb dL_guest_8 rfl ?_
    obtain ⟨o2, hg⟩ := hg
    refine va_last hx hb hK hP hD hS 33 3 rfl rfl o2 dL_guest_9 (fun H locs hP hD hS => ?_)
    have hP : va_P D vwCl (w5 x ot ou ov oh ox oy n1.2.2.1 ++ w3 cI ot ot1 ot2 n1.2.2.2.1 ++ w1 oh rr n1.2.2.2.2.1 ++ wR cI cT rr ra rb rc n1.2.2.2.2.2 ++ [(o, .inl (cJ, 1, .inr (.inl (vp_updL O (0 : Int32).toNatClampNeg (n1.2.1.toInt64)))))]) H := hP
    have hD : va_D A (w5 x ot ou ov oh ox oy n1.2.2.1 ++ w3 cI ot ot1 ot2 n1.2.2.2.1 ++ w1 oh rr n1.2.2.2.2.1 ++ wR cI cT rr ra rb rc n1.2.2.2.2.2 ++ [(o, .inl (cJ, 1, .inr (.inl (vp_updL O (0 : Int32).toNatClampNeg (n1.2.1.toInt64)))))]) := hD
    refine lv_goto (tgt := 21) hx hb dL_guest_10 (by decide) ?_
    refine lv_iconst (v := 0) hx hb dL_guest_21 (by decide) ?_
    have e9 : fL_guest S T Hs G O x2 x3 = (0, n1.2.2.1, n1.2.2.2.1, n1.2.2.2.2.1, n1.2.2.2.2.2, (vp_updL O (0 : Int32).toNatClampNeg (n1.2.1.toInt64))) := by rw [fL_guest, ← en1, if_pos c_5]
    exact rLi hx hb hr hlk hQ hP hS (by rw [e9]) (congrArg (fun z9 : (Int32 × CV × TV × HV × (Nat → TV) × (Nat → Int64)) => (w5 x ot ou ov oh ox oy z9.2.1 ++ w3 cI ot ot1 ot2 z9.2.2.1 ++ w1 oh rr z9.2.2.2.1 ++ wR cI cT rr ra rb rc z9.2.2.2.2.1 ++ [(o, .inl (cJ, 1, .inr (.inl z9.2.2.2.2.2)))] : va_W)) e9).symm rfl ⟨Nat.le_of_ble_eq_true rfl, Nat.le_of_ble_eq_true rfl⟩ dL_guest_22
def fL_cat (S : CV) (T : TV) (Hs : HV) (G : (Nat → TV)) (O : (Nat → Int64)) (x2 : Int32) : (Int32 × CV × TV × HV × (Nat → TV) × (Nat → Int64)) := (if (fX5_cat S T Hs G x2).1 = none then (0, (fX5_cat S T Hs G x2).2.2.1, (fX5_cat S T Hs G x2).2.2.2.1, (fX5_cat S T Hs G x2).2.2.2.2.1, (fX5_cat S T Hs G x2).2.2.2.2.2, (vp_updL O (0 : Int32).toNatClampNeg ((fX5_cat S T Hs G x2).2.1.toInt64))) else (if (fX5_cat S T Hs G x2).1 = some "java/lang/IllegalArgumentException" then (1, (fX5_cat S T Hs G x2).2.2.1, (fX5_cat S T Hs G x2).2.2.2.1, (fX5_cat S T Hs G x2).2.2.2.2.1, (fX5_cat S T Hs G x2).2.2.2.2.2, O) else (2, (fX5_cat S T Hs G x2).2.2.1, (fX5_cat S T Hs G x2).2.2.2.1, (fX5_cat S T Hs G x2).2.2.2.2.1, (fX5_cat S T Hs G x2).2.2.2.2.2, O)))
def gL_cat (S : CV) (T : TV) (Hs : HV) (G : (Nat → TV)) (O : (Nat → Int64)) (x2 : Int32) : Prop := (((fX5_cat S T Hs G x2).1 = none ∨ (fX5_cat S T Hs G x2).1 = some "java/lang/IllegalArgumentException" ∨ (fX5_cat S T Hs G x2).1 = some "java/lang/UnsupportedOperationException") ∧ (if (fX5_cat S T Hs G x2).1 = none then ((vp_in 0 1) ∧ True) else True))
abbrev rmL_cat : Room := { frames := 8, cells := 1, slots := 6, locals := 128 }
set_option maxHeartbeats 4000000 in
set_option maxRecDepth 100000 in
theorem kL_cat (l : Launch) (D : va_G) (cI cC cT cJ cQ : ClassId) (x ot ou ov oh ox oy ot1 ot2 rr o : Nat) (ra rb rc : Nat → Nat) (S : CV) (T : TV) (Hs : HV) (G : (Nat → TV)) (O : (Nat → Int64)) (x2 : Int32) (hst : l.stackTraces = false) (hn : ∃ j : Nat, j < 9 ∧ Hs.1 = nI j) (hg : gL_cat S T Hs G O x2) : mL l D (TY5 cI cC cT cJ cQ) yL_cat wsL_cat rmL_cat [.ref x, .int x2, .ref o] (w5 x ot ou ov oh ox oy S ++ w3 cI ot ot1 ot2 T ++ w1 oh rr Hs ++ wR cI cT rr ra rb rc G ++ [(o, .inl (cJ, 1, .inr (.inl O)))]) ((fL_cat S T Hs G O x2).1) (w5 x ot ou ov oh ox oy (fL_cat S T Hs G O x2).2.1 ++ w3 cI ot ot1 ot2 (fL_cat S T Hs G O x2).2.2.1 ++ w1 oh rr (fL_cat S T Hs G O x2).2.2.2.1 ++ wR cI cT rr ra rb rc (fL_cat S T Hs G O x2).2.2.2.2.1 ++ [(o, .inl (cJ, 1, .inr (.inl (fL_cat S T Hs G O x2).2.2.2.2.2)))]) 1 := by
  refine mL.ofW (hh := [(0, 9, 12, 13), (0, 9, 15, 15)]) (cc := cL_cat) (maxL := 4) (ret := (some .int)) (by decide) rfl (Nat.le_of_ble_eq_true rfl) ?_
  intro p e s m args below meth c Q ls A hx hb hml hr hlk hts hown hP hK hD hS hl hXE hXN htb hQ
  have hK3 := hK.sub (tys' := TY cI cC cT) [0, 1, 2] rfl
  have hown : s.vm.findClass RL = some m.cls := hown
  have hP : va_P D vwCl (w5 x ot ou ov oh ox oy S ++ w3 cI ot ot1 ot2 T ++ w1 oh rr Hs ++ wR cI cT rr ra rb rc G ++ [(o, .inl (cJ, 1, .inr (.inl O)))]) s.heap := hP
  have hD : va_D A (w5 x ot ou ov oh ox oy S ++ w3 cI ot ot1 ot2 T ++ w1 oh rr Hs ++ wR cI cT rr ra rb rc G ++ [(o, .inl (cJ, 1, .inr (.inl O)))]) := hD
  have hl : lv_has ls 4 [(0, .ref x), (1, .int x2), (2, .ref o)] := hl
  unfold gL_cat at hg
  generalize hHe : s.heap = H at hP ⊢
  have hS : va_S A s.heap H [] := hHe ▸ hS
  generalize hLe : ([] : List Loc) = locs at hS ⊢
  refine lv_aload_n hx hb dL_cat_0 rfl (lv_at hl 2 rfl) ?_
  refine lv_iconst (v := 0) hx hb dL_cat_1 (by decide) ?_
  refine lv_aload_n hx hb dL_cat_2 rfl (lv_at hl 0 rfl) ?_
  refine lv_iload_n hx hb dL_cat_3 rfl (lv_at hl 1 rfl) ?_
  obtain ⟨n1, en1⟩ : ∃ z9, z9 = (fX5_cat S T Hs G x2) := ⟨_, rfl⟩
  try rw [← en1] at hg
  have k9 := (kX5_cat l D cI cC cT x ot ou ov oh ox oy ot1 ot2 rr ra rb rc S T Hs G x2 hst hn)
  rw [← en1] at k9
  obtain ⟨o1, hg⟩ := hg
  refine fXq (As := [.int x2]) (rest := [.int 0, .ref o]) (st' := [.int n1.2.1, .int 0, .ref o]) ⟨hx, hb, hml, hown, hts⟩ k9 (cwV 1 hts gL_cat_X5_cat rfl rfl rfl (by decide +kernel) ⟨Nat.le_of_ble_eq_true rfl, Nat.le_of_ble_eq_true rfl⟩) hP hK3 hD hS hXE ([(o, .inl (cJ, 1, .inr (.inl O)))] : va_W) (pmI (fun a => by simp only [cntW_app, cntW_nil] <;> omega)) (w5 x ot ou ov oh ox oy n1.2.2.1 ++ w3 cI ot ot1 ot2 n1.2.2.2.1 ++ w1 oh rr n1.2.2.2.2.1 ++ wR cI cT rr ra rb rc n1.2.2.2.2.2 ++ [(o, .inl (cJ, 1, .inr (.inl O)))]) (pmI (fun a => by simp only [cntW_app, cntW_nil] <;> omega)) rfl 0 (ci := 6) rfl rfl rfl rfl hl.1 rfl rfl (Nat.le_of_ble_eq_true rfl) ⟨Nat.le_of_ble_eq_true rfl, Nat.le_of_ble_eq_true rfl⟩ dL_cat_4 (fun C9 ce9 q9 H locs hE9 hP hD hS hq9 hv9 hc9 => ?_) (fun H locs c_4 hP hD hS => ?_)
  · rcases o1 with h9 | h9 | h9
    · rw [hE9] at h9; cases h9
    · obtain rfl : C9 = "java/lang/IllegalArgumentException" := Option.some.inj (hE9.symm.trans h9)
      have c_4 : ¬ n1.1 = none := by rw [hE9]; exact fun z => nomatch z
      have c_4_0 : n1.1 = some "java/lang/IllegalArgumentException" := h9
      refine vx_catch hown [] ⟨0, 9, 12, 13⟩ [⟨0, 9, 15, 15⟩] htb (fun z hz => nomatch hz) rfl (by decide) (hts (Cond.classLink RL 13 "java/lang/IllegalArgumentException") (by decide +kernel)) (va_Nw.use rfl (hXE.1.1 _ (by decide +kernel))) hq9 hv9 hc9 ?_
      refine lv_astore_n (lv' := [(3, .ref q9), (0, .ref x), (1, .int x2), (2, .ref o)]) hx hb dL_cat_12 rfl hl (by decide) rfl (fun ls hl => ?_)
      refine lv_iconst (v := 1) hx hb dL_cat_13 (by decide) ?_
      have e9 : fL_cat S T Hs G O x2 = (1, n1.2.2.1, n1.2.2.2.1, n1.2.2.2.2.1, n1.2.2.2.2.2, O) := by rw [fL_cat, ← en1, if_neg c_4, if_pos c_4_0]
      exact rLi hx hb hr hlk hQ hP hS (by rw [e9]) (congrArg (fun z9 : (Int32 × CV × TV × HV × (Nat → TV) × (Nat → Int64)) => (w5 x ot ou ov oh ox oy z9.2.1 ++ w3 cI ot ot1 ot2 z9.2.2.1 ++ w1 oh rr z9.2.2.2.1 ++ wR cI cT rr ra rb rc z9.2.2.2.2.1 ++ [(o, .inl (cJ, 1, .inr (.inl z9.2.2.2.2.2)))] : va_W)) e9).symm rfl ⟨Nat.le_of_ble_eq_true rfl, Nat.le_of_ble_eq_true rfl⟩ dL_cat_14
    · obtain rfl : C9 = "java/lang/UnsupportedOperationException" := Option.some.inj (hE9.symm.trans h9)
      have c_4 : ¬ n1.1 = none := by rw [hE9]; exact fun z => nomatch z
      have c_4_0 : ¬ n1.1 = some "java/lang/IllegalArgumentException" := by rw [h9]; decide
      refine vx_catch hown [⟨0, 9, 12, 13⟩] ⟨0, 9, 15, 15⟩ [] htb (List.forall_mem_cons.mpr ⟨Or.inr ⟨by decide, "java/lang/IllegalArgumentException", hts (Cond.classLink RL 13 "java/lang/IllegalArgumentException") (by decide +kernel), hXN.1⟩, (fun z hz => nomatch hz)⟩) rfl (by decide) (hts (Cond.classLink RL 15 "java/lang/UnsupportedOperationException") (by decide +kernel)) (va_Nw.use rfl (hXE.1.1 _ (by decide +kernel))) hq9 hv9 hc9 ?_
      refine lv_astore_n (lv' := [(3, .ref q9), (0, .ref x), (1, .int x2), (2, .ref o)]) hx hb dL_cat_15 rfl hl (by decide) rfl (fun ls hl => ?_)
      refine lv_iconst (v := 2) hx hb dL_cat_16 (by decide) ?_
      have e9 : fL_cat S T Hs G O x2 = (2, n1.2.2.1, n1.2.2.2.1, n1.2.2.2.2.1, n1.2.2.2.2.2, O) := by rw [fL_cat, ← en1, if_neg c_4, if_neg c_4_0]
      exact rLi hx hb hr hlk hQ hP hS (by rw [e9]) (congrArg (fun z9 : (Int32 × CV × TV × HV × (Nat → TV) × (Nat → Int64)) => (w5 x ot ou ov oh ox oy z9.2.1 ++ w3 cI ot ot1 ot2 z9.2.2.1 ++ w1 oh rr z9.2.2.2.1 ++ wR cI cT rr ra rb rc z9.2.2.2.2.1 ++ [(o, .inl (cJ, 1, .inr (.inl z9.2.2.2.2.2)))] : va_W)) e9).symm rfl ⟨Nat.le_of_ble_eq_true rfl, Nat.le_of_ble_eq_true rfl⟩ dL_cat_17
  · rw [if_pos c_4] at hg
    refine lv_i2l (v := (n1.2.1.toInt64)) hx hb dL_cat_7 rfl ?_
    obtain ⟨o2, hg⟩ := hg
    refine va_last hx hb hK hP hD hS 33 3 rfl rfl o2 dL_cat_8 (fun H locs hP hD hS => ?_)
    have hP : va_P D vwCl (w5 x ot ou ov oh ox oy n1.2.2.1 ++ w3 cI ot ot1 ot2 n1.2.2.2.1 ++ w1 oh rr n1.2.2.2.2.1 ++ wR cI cT rr ra rb rc n1.2.2.2.2.2 ++ [(o, .inl (cJ, 1, .inr (.inl (vp_updL O (0 : Int32).toNatClampNeg (n1.2.1.toInt64)))))]) H := hP
    have hD : va_D A (w5 x ot ou ov oh ox oy n1.2.2.1 ++ w3 cI ot ot1 ot2 n1.2.2.2.1 ++ w1 oh rr n1.2.2.2.2.1 ++ wR cI cT rr ra rb rc n1.2.2.2.2.2 ++ [(o, .inl (cJ, 1, .inr (.inl (vp_updL O (0 : Int32).toNatClampNeg (n1.2.1.toInt64)))))]) := hD
    refine lv_goto (tgt := 18) hx hb dL_cat_9 (by decide) ?_
    refine lv_iconst (v := 0) hx hb dL_cat_18 (by decide) ?_
    have e9 : fL_cat S T Hs G O x2 = (0, n1.2.2.1, n1.2.2.2.1, n1.2.2.2.2.1, n1.2.2.2.2.2, (vp_updL O (0 : Int32).toNatClampNeg (n1.2.1.toInt64))) := by rw [fL_cat, ← en1, if_pos c_4]
    exact rLi hx hb hr hlk hQ hP hS (by rw [e9]) (congrArg (fun z9 : (Int32 × CV × TV × HV × (Nat → TV) × (Nat → Int64)) => (w5 x ot ou ov oh ox oy z9.2.1 ++ w3 cI ot ot1 ot2 z9.2.2.1 ++ w1 oh rr z9.2.2.2.1 ++ wR cI cT rr ra rb rc z9.2.2.2.2.1 ++ [(o, .inl (cJ, 1, .inr (.inl z9.2.2.2.2.2)))] : va_W)) e9).symm rfl ⟨Nat.le_of_ble_eq_true rfl, Nat.le_of_ble_eq_true rfl⟩ dL_cat_19
def fL_sit (S : CV) (T : TV) (Hs : HV) (G : (Nat → TV)) (O : (Nat → Int64)) (x2 : Int32) (x3 : Int32) : (Int32 × CV × TV × HV × (Nat → TV) × (Nat → Int64)) := (if (fX5_sit S T Hs G x2 x3).1 = none then (0, (fX5_sit S T Hs G x2 x3).2.2.1, (fX5_sit S T Hs G x2 x3).2.2.2.1, (fX5_sit S T Hs G x2 x3).2.2.2.2.1, (fX5_sit S T Hs G x2 x3).2.2.2.2.2, (vp_updL O (0 : Int32).toNatClampNeg ((fX5_sit S T Hs G x2 x3).2.1.toInt64))) else (if (fX5_sit S T Hs G x2 x3).1 = some "java/lang/IndexOutOfBoundsException" then (1, (fX5_sit S T Hs G x2 x3).2.2.1, (fX5_sit S T Hs G x2 x3).2.2.2.1, (fX5_sit S T Hs G x2 x3).2.2.2.2.1, (fX5_sit S T Hs G x2 x3).2.2.2.2.2, O) else (2, (fX5_sit S T Hs G x2 x3).2.2.1, (fX5_sit S T Hs G x2 x3).2.2.2.1, (fX5_sit S T Hs G x2 x3).2.2.2.2.1, (fX5_sit S T Hs G x2 x3).2.2.2.2.2, O)))
def gL_sit (S : CV) (T : TV) (Hs : HV) (G : (Nat → TV)) (O : (Nat → Int64)) (x2 : Int32) (x3 : Int32) : Prop := (((fX5_sit S T Hs G x2 x3).1 = none ∨ (fX5_sit S T Hs G x2 x3).1 = some "java/lang/IndexOutOfBoundsException" ∨ (fX5_sit S T Hs G x2 x3).1 = some "java/lang/UnsupportedOperationException") ∧ (if (fX5_sit S T Hs G x2 x3).1 = none then ((vp_in 0 1) ∧ True) else True))
abbrev rmL_sit : Room := { frames := 8, cells := 1, slots := 6, locals := 135 }
set_option maxHeartbeats 4000000 in
set_option maxRecDepth 100000 in
theorem kL_sit (l : Launch) (D : va_G) (cI cC cT cJ cQ : ClassId) (x ot ou ov oh ox oy ot1 ot2 rr o : Nat) (ra rb rc : Nat → Nat) (S : CV) (T : TV) (Hs : HV) (G : (Nat → TV)) (O : (Nat → Int64)) (x2 : Int32) (x3 : Int32) (hst : l.stackTraces = false) (hn : ∃ j : Nat, j < 9 ∧ Hs.1 = nI j) (hg : gL_sit S T Hs G O x2 x3) : mL l D (TY5 cI cC cT cJ cQ) yL_sit wsL_sit rmL_sit [.ref x, .int x2, .int x3, .ref o] (w5 x ot ou ov oh ox oy S ++ w3 cI ot ot1 ot2 T ++ w1 oh rr Hs ++ wR cI cT rr ra rb rc G ++ [(o, .inl (cJ, 1, .inr (.inl O)))]) ((fL_sit S T Hs G O x2 x3).1) (w5 x ot ou ov oh ox oy (fL_sit S T Hs G O x2 x3).2.1 ++ w3 cI ot ot1 ot2 (fL_sit S T Hs G O x2 x3).2.2.1 ++ w1 oh rr (fL_sit S T Hs G O x2 x3).2.2.2.1 ++ wR cI cT rr ra rb rc (fL_sit S T Hs G O x2 x3).2.2.2.2.1 ++ [(o, .inl (cJ, 1, .inr (.inl (fL_sit S T Hs G O x2 x3).2.2.2.2.2)))]) 1 := by
  refine mL.ofW (hh := [(0, 10, 13, 28), (0, 10, 17, 15)]) (cc := cL_sit) (maxL := 5) (ret := (some .int)) (by decide) rfl (Nat.le_of_ble_eq_true rfl) ?_
  intro p e s m args below meth c Q ls A hx hb hml hr hlk hts hown hP hK hD hS hl hXE hXN htb hQ
  have hK3 := hK.sub (tys' := TY cI cC cT) [0, 1, 2] rfl
  have hown : s.vm.findClass RL = some m.cls := hown
  have hP : va_P D vwCl (w5 x ot ou ov oh ox oy S ++ w3 cI ot ot1 ot2 T ++ w1 oh rr Hs ++ wR cI cT rr ra rb rc G ++ [(o, .inl (cJ, 1, .inr (.inl O)))]) s.heap := hP
  have hD : va_D A (w5 x ot ou ov oh ox oy S ++ w3 cI ot ot1 ot2 T ++ w1 oh rr Hs ++ wR cI cT rr ra rb rc G ++ [(o, .inl (cJ, 1, .inr (.inl O)))]) := hD
  have hl : lv_has ls 5 [(0, .ref x), (1, .int x2), (2, .int x3), (3, .ref o)] := hl
  unfold gL_sit at hg
  generalize hHe : s.heap = H at hP ⊢
  have hS : va_S A s.heap H [] := hHe ▸ hS
  generalize hLe : ([] : List Loc) = locs at hS ⊢
  refine lv_aload_n hx hb dL_sit_0 rfl (lv_at hl 3 rfl) ?_
  refine lv_iconst (v := 0) hx hb dL_sit_1 (by decide) ?_
  refine lv_aload_n hx hb dL_sit_2 rfl (lv_at hl 0 rfl) ?_
  refine lv_iload_n hx hb dL_sit_3 rfl (lv_at hl 1 rfl) ?_
  refine lv_iload_n hx hb dL_sit_4 rfl (lv_at hl 2 rfl) ?_
  obtain ⟨n1, en1⟩ : ∃ z9, z9 = (fX5_sit S T Hs G x2 x3) := ⟨_, rfl⟩
  try rw [← en1] at hg
  have k9 := (kX5_sit l D cI cC cT x ot ou ov oh ox oy ot1 ot2 rr ra rb rc S T Hs G x2 x3 hst hn)
  rw [← en1] at k9
  obtain ⟨o1, hg⟩ := hg
  refine fXq (As := [.int x2, .int x3]) (rest := [.int 0, .ref o]) (st' := [.int n1.2.1, .int 0, .ref o]) ⟨hx, hb, hml, hown, hts⟩ k9 (cwV 2 hts gL_sit_X5_sit rfl rfl rfl (by decide +kernel) ⟨Nat.le_of_ble_eq_true rfl, Nat.le_of_ble_eq_true rfl⟩) hP hK3 hD hS hXE ([(o, .inl (cJ, 1, .inr (.inl O)))] : va_W) (pmI (fun a => by simp only [cntW_app, cntW_nil] <;> omega)) (w5 x ot ou ov oh ox oy n1.2.2.1 ++ w3 cI ot ot1 ot2 n1.2.2.2.1 ++ w1 oh rr n1.2.2.2.2.1 ++ wR cI cT rr ra rb rc n1.2.2.2.2.2 ++ [(o, .inl (cJ, 1, .inr (.inl O)))]) (pmI (fun a => by simp only [cntW_app, cntW_nil] <;> omega)) rfl 0 (ci := 6) rfl rfl rfl rfl hl.1 rfl rfl (Nat.le_of_ble_eq_true rfl) ⟨Nat.le_of_ble_eq_true rfl, Nat.le_of_ble_eq_true rfl⟩ dL_sit_5 (fun C9 ce9 q9 H locs hE9 hP hD hS hq9 hv9 hc9 => ?_) (fun H locs c_5 hP hD hS => ?_)
  · rcases o1 with h9 | h9 | h9
    · rw [hE9] at h9; cases h9
    · obtain rfl : C9 = "java/lang/IndexOutOfBoundsException" := Option.some.inj (hE9.symm.trans h9)
      have c_5 : ¬ n1.1 = none := by rw [hE9]; exact fun z => nomatch z
      have c_5_0 : n1.1 = some "java/lang/IndexOutOfBoundsException" := h9
      refine vx_catch hown [] ⟨0, 10, 13, 28⟩ [⟨0, 10, 17, 15⟩] htb (fun z hz => nomatch hz) rfl (by decide) (hts (Cond.classLink RL 28 "java/lang/IndexOutOfBoundsException") (by decide +kernel)) (va_Nw.use rfl (hXE.1.1 _ (by decide +kernel))) hq9 hv9 hc9 ?_
      refine lv_astore (lv' := [(4, .ref q9), (0, .ref x), (1, .int x2), (2, .int x3), (3, .ref o)]) hx hb dL_sit_13 hl (by decide) rfl (fun ls hl => ?_)
      refine lv_iconst (v := 1) hx hb dL_sit_15 (by decide) ?_
      have e9 : fL_sit S T Hs G O x2 x3 = (1, n1.2.2.1, n1.2.2.2.1, n1.2.2.2.2.1, n1.2.2.2.2.2, O) := by rw [fL_sit, ← en1, if_neg c_5, if_pos c_5_0]
      exact rLi hx hb hr hlk hQ hP hS (by rw [e9]) (congrArg (fun z9 : (Int32 × CV × TV × HV × (Nat → TV) × (Nat → Int64)) => (w5 x ot ou ov oh ox oy z9.2.1 ++ w3 cI ot ot1 ot2 z9.2.2.1 ++ w1 oh rr z9.2.2.2.1 ++ wR cI cT rr ra rb rc z9.2.2.2.2.1 ++ [(o, .inl (cJ, 1, .inr (.inl z9.2.2.2.2.2)))] : va_W)) e9).symm rfl ⟨Nat.le_of_ble_eq_true rfl, Nat.le_of_ble_eq_true rfl⟩ dL_sit_16
    · obtain rfl : C9 = "java/lang/UnsupportedOperationException" := Option.some.inj (hE9.symm.trans h9)
      have c_5 : ¬ n1.1 = none := by rw [hE9]; exact fun z => nomatch z
      have c_5_0 : ¬ n1.1 = some "java/lang/IndexOutOfBoundsException" := by rw [h9]; decide
      refine vx_catch hown [⟨0, 10, 13, 28⟩] ⟨0, 10, 17, 15⟩ [] htb (List.forall_mem_cons.mpr ⟨Or.inr ⟨by decide, "java/lang/IndexOutOfBoundsException", hts (Cond.classLink RL 28 "java/lang/IndexOutOfBoundsException") (by decide +kernel), hXN.2.1⟩, (fun z hz => nomatch hz)⟩) rfl (by decide) (hts (Cond.classLink RL 15 "java/lang/UnsupportedOperationException") (by decide +kernel)) (va_Nw.use rfl (hXE.1.1 _ (by decide +kernel))) hq9 hv9 hc9 ?_
      refine lv_astore (lv' := [(4, .ref q9), (0, .ref x), (1, .int x2), (2, .int x3), (3, .ref o)]) hx hb dL_sit_17 hl (by decide) rfl (fun ls hl => ?_)
      refine lv_iconst (v := 2) hx hb dL_sit_19 (by decide) ?_
      have e9 : fL_sit S T Hs G O x2 x3 = (2, n1.2.2.1, n1.2.2.2.1, n1.2.2.2.2.1, n1.2.2.2.2.2, O) := by rw [fL_sit, ← en1, if_neg c_5, if_neg c_5_0]
      exact rLi hx hb hr hlk hQ hP hS (by rw [e9]) (congrArg (fun z9 : (Int32 × CV × TV × HV × (Nat → TV) × (Nat → Int64)) => (w5 x ot ou ov oh ox oy z9.2.1 ++ w3 cI ot ot1 ot2 z9.2.2.1 ++ w1 oh rr z9.2.2.2.1 ++ wR cI cT rr ra rb rc z9.2.2.2.2.1 ++ [(o, .inl (cJ, 1, .inr (.inl z9.2.2.2.2.2)))] : va_W)) e9).symm rfl ⟨Nat.le_of_ble_eq_true rfl, Nat.le_of_ble_eq_true rfl⟩ dL_sit_20
  · rw [if_pos c_5] at hg
    refine lv_i2l (v := (n1.2.1.toInt64)) hx hb dL_sit_8 rfl ?_
    obtain ⟨o2, hg⟩ := hg
    refine va_last hx hb hK hP hD hS 33 3 rfl rfl o2 dL_sit_9 (fun H locs hP hD hS => ?_)
    have hP : va_P D vwCl (w5 x ot ou ov oh ox oy n1.2.2.1 ++ w3 cI ot ot1 ot2 n1.2.2.2.1 ++ w1 oh rr n1.2.2.2.2.1 ++ wR cI cT rr ra rb rc n1.2.2.2.2.2 ++ [(o, .inl (cJ, 1, .inr (.inl (vp_updL O (0 : Int32).toNatClampNeg (n1.2.1.toInt64)))))]) H := hP
    have hD : va_D A (w5 x ot ou ov oh ox oy n1.2.2.1 ++ w3 cI ot ot1 ot2 n1.2.2.2.1 ++ w1 oh rr n1.2.2.2.2.1 ++ wR cI cT rr ra rb rc n1.2.2.2.2.2 ++ [(o, .inl (cJ, 1, .inr (.inl (vp_updL O (0 : Int32).toNatClampNeg (n1.2.1.toInt64)))))]) := hD
    refine lv_goto (tgt := 21) hx hb dL_sit_10 (by decide) ?_
    refine lv_iconst (v := 0) hx hb dL_sit_21 (by decide) ?_
    have e9 : fL_sit S T Hs G O x2 x3 = (0, n1.2.2.1, n1.2.2.2.1, n1.2.2.2.2.1, n1.2.2.2.2.2, (vp_updL O (0 : Int32).toNatClampNeg (n1.2.1.toInt64))) := by rw [fL_sit, ← en1, if_pos c_5]
    exact rLi hx hb hr hlk hQ hP hS (by rw [e9]) (congrArg (fun z9 : (Int32 × CV × TV × HV × (Nat → TV) × (Nat → Int64)) => (w5 x ot ou ov oh ox oy z9.2.1 ++ w3 cI ot ot1 ot2 z9.2.2.1 ++ w1 oh rr z9.2.2.2.1 ++ wR cI cT rr ra rb rc z9.2.2.2.2.1 ++ [(o, .inl (cJ, 1, .inr (.inl z9.2.2.2.2.2)))] : va_W)) e9).symm rfl ⟨Nat.le_of_ble_eq_true rfl, Nat.le_of_ble_eq_true rfl⟩ dL_sit_22
def fL_getUp (S : CV) (T : TV) (Hs : HV) (G : (Nat → TV)) (O : (Nat → Int64)) (x2 : Int32) : (Int32 × CV × TV × HV × (Nat → TV) × (Nat → Int64)) := (if (fX5_getUp S T Hs G x2).1 = none then (0, (fX5_getUp S T Hs G x2).2.2.1, (fX5_getUp S T Hs G x2).2.2.2.1, (fX5_getUp S T Hs G x2).2.2.2.2.1, (fX5_getUp S T Hs G x2).2.2.2.2.2, (vp_updL O (0 : Int32).toNatClampNeg ((fX5_getUp S T Hs G x2).2.1.toInt64))) else (if (fX5_getUp S T Hs G x2).1 = some "java/lang/IndexOutOfBoundsException" then (1, (fX5_getUp S T Hs G x2).2.2.1, (fX5_getUp S T Hs G x2).2.2.2.1, (fX5_getUp S T Hs G x2).2.2.2.2.1, (fX5_getUp S T Hs G x2).2.2.2.2.2, O) else (2, (fX5_getUp S T Hs G x2).2.2.1, (fX5_getUp S T Hs G x2).2.2.2.1, (fX5_getUp S T Hs G x2).2.2.2.2.1, (fX5_getUp S T Hs G x2).2.2.2.2.2, O)))
def gL_getUp (S : CV) (T : TV) (Hs : HV) (G : (Nat → TV)) (O : (Nat → Int64)) (x2 : Int32) : Prop := (((fX5_getUp S T Hs G x2).1 = none ∨ (fX5_getUp S T Hs G x2).1 = some "java/lang/IndexOutOfBoundsException" ∨ (fX5_getUp S T Hs G x2).1 = some "java/lang/UnsupportedOperationException") ∧ (if (fX5_getUp S T Hs G x2).1 = none then ((vp_in 0 1) ∧ True) else True))
abbrev rmL_getUp : Room := { frames := 8, cells := 1, slots := 6, locals := 128 }
set_option maxHeartbeats 4000000 in
set_option maxRecDepth 100000 in
theorem kL_getUp (l : Launch) (D : va_G) (cI cC cT cJ cQ : ClassId) (x ot ou ov oh ox oy ot1 ot2 rr o : Nat) (ra rb rc : Nat → Nat) (S : CV) (T : TV) (Hs : HV) (G : (Nat → TV)) (O : (Nat → Int64)) (x2 : Int32) (hst : l.stackTraces = false) (hn : ∃ j : Nat, j < 9 ∧ Hs.1 = nI j) (hg : gL_getUp S T Hs G O x2) : mL l D (TY5 cI cC cT cJ cQ) yL_getUp wsL_getUp rmL_getUp [.ref x, .int x2, .ref o] (w5 x ot ou ov oh ox oy S ++ w3 cI ot ot1 ot2 T ++ w1 oh rr Hs ++ wR cI cT rr ra rb rc G ++ [(o, .inl (cJ, 1, .inr (.inl O)))]) ((fL_getUp S T Hs G O x2).1) (w5 x ot ou ov oh ox oy (fL_getUp S T Hs G O x2).2.1 ++ w3 cI ot ot1 ot2 (fL_getUp S T Hs G O x2).2.2.1 ++ w1 oh rr (fL_getUp S T Hs G O x2).2.2.2.1 ++ wR cI cT rr ra rb rc (fL_getUp S T Hs G O x2).2.2.2.2.1 ++ [(o, .inl (cJ, 1, .inr (.inl (fL_getUp S T Hs G O x2).2.2.2.2.2)))]) 1 := by
  refine mL.ofW (hh := [(0, 9, 12, 28), (0, 9, 15, 15)]) (cc := cL_getUp) (maxL := 4) (ret := (some .int)) (by decide) rfl (Nat.le_of_ble_eq_true rfl) ?_
  intro p e s m args below meth c Q ls A hx hb hml hr hlk hts hown hP hK hD hS hl hXE hXN htb hQ
  have hK3 := hK.sub (tys' := TY cI cC cT) [0, 1, 2] rfl
  have hown : s.vm.findClass RL = some m.cls := hown
  have hP : va_P D vwCl (w5 x ot ou ov oh ox oy S ++ w3 cI ot ot1 ot2 T ++ w1 oh rr Hs ++ wR cI cT rr ra rb rc G ++ [(o, .inl (cJ, 1, .inr (.inl O)))]) s.heap := hP
  have hD : va_D A (w5 x ot ou ov oh ox oy S ++ w3 cI ot ot1 ot2 T ++ w1 oh rr Hs ++ wR cI cT rr ra rb rc G ++ [(o, .inl (cJ, 1, .inr (.inl O)))]) := hD
  have hl : lv_has ls 4 [(0, .ref x), (1, .int x2), (2, .ref o)] := hl
  unfold gL_getUp at hg
  generalize hHe : s.heap = H at hP ⊢
  have hS : va_S A s.heap H [] := hHe ▸ hS
  generalize hLe : ([] : List Loc) = locs at hS ⊢
  refine lv_aload_n hx hb dL_getUp_0 rfl (lv_at hl 2 rfl) ?_
  refine lv_iconst (v := 0) hx hb dL_getUp_1 (by decide) ?_
  refine lv_aload_n hx hb dL_getUp_2 rfl (lv_at hl 0 rfl) ?_
  refine lv_iload_n hx hb dL_getUp_3 rfl (lv_at hl 1 rfl) ?_
  obtain ⟨n1, en1⟩ : ∃ z9, z9 = (fX5_getUp S T Hs G x2) := ⟨_, rfl⟩
  try rw [← en1] at hg
  have k9 := (kX5_getUp l D cI cC cT x ot ou ov oh ox oy ot1 ot2 rr ra rb rc S T Hs G x2 hst hn)
  rw [← en1] at k9
  obtain ⟨o1, hg⟩ := hg
  refine fXq (As := [.int x2]) (rest := [.int 0, .ref o]) (st' := [.int n1.2.1, .int 0, .ref o]) ⟨hx, hb, hml, hown, hts⟩ k9 (cwV 1 hts gL_getUp_X5_getUp rfl rfl rfl (by decide +kernel) ⟨Nat.le_of_ble_eq_true rfl, Nat.le_of_ble_eq_true rfl⟩) hP hK3 hD hS hXE ([(o, .inl (cJ, 1, .inr (.inl O)))] : va_W) (pmI (fun a => by simp only [cntW_app, cntW_nil] <;> omega)) (w5 x ot ou ov oh ox oy n1.2.2.1 ++ w3 cI ot ot1 ot2 n1.2.2.2.1 ++ w1 oh rr n1.2.2.2.2.1 ++ wR cI cT rr ra rb rc n1.2.2.2.2.2 ++ [(o, .inl (cJ, 1, .inr (.inl O)))]) (pmI (fun a => by simp only [cntW_app, cntW_nil] <;> omega)) rfl 0 (ci := 6) rfl rfl rfl rfl hl.1 rfl rfl (Nat.le_of_ble_eq_true rfl) ⟨Nat.le_of_ble_eq_true rfl, Nat.le_of_ble_eq_true rfl⟩ dL_getUp_4 (fun C9 ce9 q9 H locs hE9 hP hD hS hq9 hv9 hc9 => ?_) (fun H locs c_4 hP hD hS => ?_)
  · rcases o1 with h9 | h9 | h9
    · rw [hE9] at h9; cases h9
    · obtain rfl : C9 = "java/lang/IndexOutOfBoundsException" := Option.some.inj (hE9.symm.trans h9)
      have c_4 : ¬ n1.1 = none := by rw [hE9]; exact fun z => nomatch z
      have c_4_0 : n1.1 = some "java/lang/IndexOutOfBoundsException" := h9
      refine vx_catch hown [] ⟨0, 9, 12, 28⟩ [⟨0, 9, 15, 15⟩] htb (fun z hz => nomatch hz) rfl (by decide) (hts (Cond.classLink RL 28 "java/lang/IndexOutOfBoundsException") (by decide +kernel)) (va_Nw.use rfl (hXE.1.1 _ (by decide +kernel))) hq9 hv9 hc9 ?_
      refine lv_astore_n (lv' := [(3, .ref q9), (0, .ref x), (1, .int x2), (2, .ref o)]) hx hb dL_getUp_12 rfl hl (by decide) rfl (fun ls hl => ?_)
      refine lv_iconst (v := 1) hx hb dL_getUp_13 (by decide) ?_
      have e9 : fL_getUp S T Hs G O x2 = (1, n1.2.2.1, n1.2.2.2.1, n1.2.2.2.2.1, n1.2.2.2.2.2, O) := by rw [fL_getUp, ← en1, if_neg c_4, if_pos c_4_0]
      exact rLi hx hb hr hlk hQ hP hS (by rw [e9]) (congrArg (fun z9 : (Int32 × CV × TV × HV × (Nat → TV) × (Nat → Int64)) => (w5 x ot ou ov oh ox oy z9.2.1 ++ w3 cI ot ot1 ot2 z9.2.2.1 ++ w1 oh rr z9.2.2.2.1 ++ wR cI cT rr ra rb rc z9.2.2.2.2.1 ++ [(o, .inl (cJ, 1, .inr (.inl z9.2.2.2.2.2)))] : va_W)) e9).symm rfl ⟨Nat.le_of_ble_eq_true rfl, Nat.le_of_ble_eq_true rfl⟩ dL_getUp_14
    · obtain rfl : C9 = "java/lang/UnsupportedOperationException" := Option.some.inj (hE9.symm.trans h9)
      have c_4 : ¬ n1.1 = none := by rw [hE9]; exact fun z => nomatch z
      have c_4_0 : ¬ n1.1 = some "java/lang/IndexOutOfBoundsException" := by rw [h9]; decide
      refine vx_catch hown [⟨0, 9, 12, 28⟩] ⟨0, 9, 15, 15⟩ [] htb (List.forall_mem_cons.mpr ⟨Or.inr ⟨by decide, "java/lang/IndexOutOfBoundsException", hts (Cond.classLink RL 28 "java/lang/IndexOutOfBoundsException") (by decide +kernel), hXN.2.1⟩, (fun z hz => nomatch hz)⟩) rfl (by decide) (hts (Cond.classLink RL 15 "java/lang/UnsupportedOperationException") (by decide +kernel)) (va_Nw.use rfl (hXE.1.1 _ (by decide +kernel))) hq9 hv9 hc9 ?_
      refine lv_astore_n (lv' := [(3, .ref q9), (0, .ref x), (1, .int x2), (2, .ref o)]) hx hb dL_getUp_15 rfl hl (by decide) rfl (fun ls hl => ?_)
      refine lv_iconst (v := 2) hx hb dL_getUp_16 (by decide) ?_
      have e9 : fL_getUp S T Hs G O x2 = (2, n1.2.2.1, n1.2.2.2.1, n1.2.2.2.2.1, n1.2.2.2.2.2, O) := by rw [fL_getUp, ← en1, if_neg c_4, if_neg c_4_0]
      exact rLi hx hb hr hlk hQ hP hS (by rw [e9]) (congrArg (fun z9 : (Int32 × CV × TV × HV × (Nat → TV) × (Nat → Int64)) => (w5 x ot ou ov oh ox oy z9.2.1 ++ w3 cI ot ot1 ot2 z9.2.2.1 ++ w1 oh rr z9.2.2.2.1 ++ wR cI cT rr ra rb rc z9.2.2.2.2.1 ++ [(o, .inl (cJ, 1, .inr (.inl z9.2.2.2.2.2)))] : va_W)) e9).symm rfl ⟨Nat.le_of_ble_eq_true rfl, Nat.le_of_ble_eq_true rfl⟩ dL_getUp_17
  · rw [if_pos c_4] at hg
    refine lv_i2l (v := (n1.2.1.toInt64)) hx hb dL_getUp_7 rfl ?_
    obtain ⟨o2, hg⟩ := hg
    refine va_last hx hb hK hP hD hS 33 3 rfl rfl o2 dL_getUp_8 (fun H locs hP hD hS => ?_)
    have hP : va_P D vwCl (w5 x ot ou ov oh ox oy n1.2.2.1 ++ w3 cI ot ot1 ot2 n1.2.2.2.1 ++ w1 oh rr n1.2.2.2.2.1 ++ wR cI cT rr ra rb rc n1.2.2.2.2.2 ++ [(o, .inl (cJ, 1, .inr (.inl (vp_updL O (0 : Int32).toNatClampNeg (n1.2.1.toInt64)))))]) H := hP
    have hD : va_D A (w5 x ot ou ov oh ox oy n1.2.2.1 ++ w3 cI ot ot1 ot2 n1.2.2.2.1 ++ w1 oh rr n1.2.2.2.2.1 ++ wR cI cT rr ra rb rc n1.2.2.2.2.2 ++ [(o, .inl (cJ, 1, .inr (.inl (vp_updL O (0 : Int32).toNatClampNeg (n1.2.1.toInt64)))))]) := hD
    refine lv_goto (tgt := 18) hx hb dL_getUp_9 (by decide) ?_
    refine lv_iconst (v := 0) hx hb dL_getUp_18 (by decide) ?_
    have e9 : fL_getUp S T Hs G O x2 = (0, n1.2.2.1, n1.2.2.2.1, n1.2.2.2.2.1, n1.2.2.2.2.2, (vp_updL O (0 : Int32).toNatClampNeg (n1.2.1.toInt64))) := by rw [fL_getUp, ← en1, if_pos c_4]
    exact rLi hx hb hr hlk hQ hP hS (by rw [e9]) (congrArg (fun z9 : (Int32 × CV × TV × HV × (Nat → TV) × (Nat → Int64)) => (w5 x ot ou ov oh ox oy z9.2.1 ++ w3 cI ot ot1 ot2 z9.2.2.1 ++ w1 oh rr z9.2.2.2.1 ++ wR cI cT rr ra rb rc z9.2.2.2.2.1 ++ [(o, .inl (cJ, 1, .inr (.inl z9.2.2.2.2.2)))] : va_W)) e9).symm rfl ⟨Nat.le_of_ble_eq_true rfl, Nat.le_of_ble_eq_true rfl⟩ dL_getUp_19
def fL_stoolOf (S : CV) (T : TV) (O : (Nat → Int64)) (x2 : Int32) (x3 : Int32) : (Int32 × (Nat → Int64)) := (if (fX5_stoolOf S T x2 x3).1 = none then (0, (vp_updL O (0 : Int32).toNatClampNeg ((fX5_stoolOf S T x2 x3).2.toInt64))) else (if (fX5_stoolOf S T x2 x3).1 = some "java/lang/IndexOutOfBoundsException" then (1, O) else (2, O)))
def gL_stoolOf (S : CV) (T : TV) (O : (Nat → Int64)) (x2 : Int32) (x3 : Int32) : Prop := (((fX5_stoolOf S T x2 x3).1 = none ∨ (fX5_stoolOf S T x2 x3).1 = some "java/lang/IndexOutOfBoundsException" ∨ (fX5_stoolOf S T x2 x3).1 = some "java/lang/IllegalArgumentException") ∧ (if (fX5_stoolOf S T x2 x3).1 = none then ((vp_in 0 1) ∧ True) else True))
abbrev rmL_stoolOf : Room := { frames := 8, cells := 2, slots := 12, locals := 125 }
set_option maxHeartbeats 4000000 in
set_option maxRecDepth 100000 in
theorem kL_stoolOf (l : Launch) (D : va_G) (cI cC cT cJ cQ : ClassId) (x ot ou ov oh ox oy ot1 ot2 o : Nat) (S : CV) (T : TV) (O : (Nat → Int64)) (x2 : Int32) (x3 : Int32) (hst : l.stackTraces = false) (hg : gL_stoolOf S T O x2 x3) : mL l D (TY5 cI cC cT cJ cQ) yL_stoolOf wsL_stoolOf rmL_stoolOf [.ref x, .int x2, .int x3, .ref o] (w5 x ot ou ov oh ox oy S ++ w3 cI ot ot1 ot2 T ++ [(o, .inl (cJ, 1, .inr (.inl O)))]) ((fL_stoolOf S T O x2 x3).1) (w5 x ot ou ov oh ox oy S ++ w3 cI ot ot1 ot2 T ++ [(o, .inl (cJ, 1, .inr (.inl (fL_stoolOf S T O x2 x3).2)))]) 2 := by
  refine mL.ofW (hh := [(0, 10, 13, 28), (0, 10, 17, 13)]) (cc := cL_stoolOf) (maxL := 5) (ret := (some .int)) (by decide) rfl (Nat.le_of_ble_eq_true rfl) ?_
  intro p e s m args below meth c Q ls A hx hb hml hr hlk hts hown hP hK hD hS hl hXE hXN htb hQ
  have hK3 := hK.sub (tys' := TY cI cC cT) [0, 1, 2] rfl
  have hown : s.vm.findClass RL = some m.cls := hown
  have hP : va_P D vwCl (w5 x ot ou ov oh ox oy S ++ w3 cI ot ot1 ot2 T ++ [(o, .inl (cJ, 1, .inr (.inl O)))]) s.heap := hP
  have hD : va_D A (w5 x ot ou ov oh ox oy S ++ w3 cI ot ot1 ot2 T ++ [(o, .inl (cJ, 1, .inr (.inl O)))]) := hD
  have hl : lv_has ls 5 [(0, .ref x), (1, .int x2), (2, .int x3), (3, .ref o)] := hl
  unfold gL_stoolOf at hg
  generalize hHe : s.heap = H at hP ⊢
  have hS : va_S A s.heap H [] := hHe ▸ hS
  generalize hLe : ([] : List Loc) = locs at hS ⊢
  refine lv_aload_n hx hb dL_stoolOf_0 rfl (lv_at hl 3 rfl) ?_
  refine lv_iconst (v := 0) hx hb dL_stoolOf_1 (by decide) ?_
  refine lv_aload_n hx hb dL_stoolOf_2 rfl (lv_at hl 0 rfl) ?_
  refine lv_iload_n hx hb dL_stoolOf_3 rfl (lv_at hl 1 rfl) ?_
  refine lv_iload_n hx hb dL_stoolOf_4 rfl (lv_at hl 2 rfl) ?_
  obtain ⟨n1, en1⟩ : ∃ z9, z9 = (fX5_stoolOf S T x2 x3) := ⟨_, rfl⟩
  try rw [← en1] at hg
  have k9 := (kX5_stoolOf l D cI cC cT x ot ou ov oh ox oy ot1 ot2 S T x2 x3 hst)
  rw [← en1] at k9
  obtain ⟨o1, hg⟩ := hg
  refine fXq (As := [.int x2, .int x3]) (rest := [.int 0, .ref o]) (st' := [.int n1.2, .int 0, .ref o]) ⟨hx, hb, hml, hown, hts⟩ k9 (cwV 2 hts gL_stoolOf_X5_stoolOf rfl rfl rfl (by decide +kernel) ⟨Nat.le_of_ble_eq_true rfl, Nat.le_of_ble_eq_true rfl⟩) hP hK3 hD hS hXE ([(o, .inl (cJ, 1, .inr (.inl O)))] : va_W) (pmI (fun a => by simp only [cntW_app, cntW_nil] <;> omega)) (w5 x ot ou ov oh ox oy S ++ w3 cI ot ot1 ot2 T ++ [(o, .inl (cJ, 1, .inr (.inl O)))]) (pmI (fun a => by simp only [cntW_app, cntW_nil] <;> omega)) rfl 0 (ci := 6) rfl rfl rfl rfl hl.1 rfl rfl (Nat.le_of_ble_eq_true rfl) ⟨Nat.le_of_ble_eq_true rfl, Nat.le_of_ble_eq_true rfl⟩ dL_stoolOf_5 (fun C9 ce9 q9 H locs hE9 hP hD hS hq9 hv9 hc9 => ?_) (fun H locs c_5 hP hD hS => ?_)
  · rcases o1 with h9 | h9 | h9
    · rw [hE9] at h9; cases h9
    · obtain rfl : C9 = "java/lang/IndexOutOfBoundsException" := Option.some.inj (hE9.symm.trans h9)
      have c_5 : ¬ n1.1 = none := by rw [hE9]; exact fun z => nomatch z
      have c_5_0 : n1.1 = some "java/lang/IndexOutOfBoundsException" := h9
      refine vx_catch hown [] ⟨0, 10, 13, 28⟩ [⟨0, 10, 17, 13⟩] htb (fun z hz => nomatch hz) rfl (by decide) (hts (Cond.classLink RL 28 "java/lang/IndexOutOfBoundsException") (by decide +kernel)) (va_Nw.use rfl (hXE.1.1 _ (by decide +kernel))) hq9 hv9 hc9 ?_
      refine lv_astore (lv' := [(4, .ref q9), (0, .ref x), (1, .int x2), (2, .int x3), (3, .ref o)]) hx hb dL_stoolOf_13 hl (by decide) rfl (fun ls hl => ?_)
      refine lv_iconst (v := 1) hx hb dL_stoolOf_15 (by decide) ?_
      have e9 : fL_stoolOf S T O x2 x3 = (1, O) := by rw [fL_stoolOf, ← en1, if_neg c_5, if_pos c_5_0]
      exact rLi hx hb hr hlk hQ hP hS (by rw [e9]) (congrArg (fun z9 : (Int32 × (Nat → Int64)) => (w5 x ot ou ov oh ox oy S ++ w3 cI ot ot1 ot2 T ++ [(o, .inl (cJ, 1, .inr (.inl z9.2)))] : va_W)) e9).symm rfl ⟨Nat.le_of_ble_eq_true rfl, Nat.le_of_ble_eq_true rfl⟩ dL_stoolOf_16
    · obtain rfl : C9 = "java/lang/IllegalArgumentException" := Option.some.inj (hE9.symm.trans h9)
      have c_5 : ¬ n1.1 = none := by rw [hE9]; exact fun z => nomatch z
      have c_5_0 : ¬ n1.1 = some "java/lang/IndexOutOfBoundsException" := by rw [h9]; decide
      refine vx_catch hown [⟨0, 10, 13, 28⟩] ⟨0, 10, 17, 13⟩ [] htb (List.forall_mem_cons.mpr ⟨Or.inr ⟨by decide, "java/lang/IndexOutOfBoundsException", hts (Cond.classLink RL 28 "java/lang/IndexOutOfBoundsException") (by decide +kernel), hXN.2.2⟩, (fun z hz => nomatch hz)⟩) rfl (by decide) (hts (Cond.classLink RL 13 "java/lang/IllegalArgumentException") (by decide +kernel)) (va_Nw.use rfl (hXE.1.1 _ (by decide +kernel))) hq9 hv9 hc9 ?_
      refine lv_astore (lv' := [(4, .ref q9), (0, .ref x), (1, .int x2), (2, .int x3), (3, .ref o)]) hx hb dL_stoolOf_17 hl (by decide) rfl (fun ls hl => ?_)
      refine lv_iconst (v := 2) hx hb dL_stoolOf_19 (by decide) ?_
      have e9 : fL_stoolOf S T O x2 x3 = (2, O) := by rw [fL_stoolOf, ← en1, if_neg c_5, if_neg c_5_0]
      exact rLi hx hb hr hlk hQ hP hS (by rw [e9]) (congrArg (fun z9 : (Int32 × (Nat → Int64)) => (w5 x ot ou ov oh ox oy S ++ w3 cI ot ot1 ot2 T ++ [(o, .inl (cJ, 1, .inr (.inl z9.2)))] : va_W)) e9).symm rfl ⟨Nat.le_of_ble_eq_true rfl, Nat.le_of_ble_eq_true rfl⟩ dL_stoolOf_20
  · rw [if_pos c_5] at hg
    refine lv_i2l (v := (n1.2.toInt64)) hx hb dL_stoolOf_8 rfl ?_
    obtain ⟨o2, hg⟩ := hg
    refine va_last hx hb hK hP hD hS 4 3 rfl rfl o2 dL_stoolOf_9 (fun H locs hP hD hS => ?_)
    have hP : va_P D vwCl (w5 x ot ou ov oh ox oy S ++ w3 cI ot ot1 ot2 T ++ [(o, .inl (cJ, 1, .inr (.inl (vp_updL O (0 : Int32).toNatClampNeg (n1.2.toInt64)))))]) H := hP
    have hD : va_D A (w5 x ot ou ov oh ox oy S ++ w3 cI ot ot1 ot2 T ++ [(o, .inl (cJ, 1, .inr (.inl (vp_updL O (0 : Int32).toNatClampNeg (n1.2.toInt64)))))]) := hD
    refine lv_goto (tgt := 21) hx hb dL_stoolOf_10 (by decide) ?_
    refine lv_iconst (v := 0) hx hb dL_stoolOf_21 (by decide) ?_
    have e9 : fL_stoolOf S T O x2 x3 = (0, (vp_updL O (0 : Int32).toNatClampNeg (n1.2.toInt64))) := by rw [fL_stoolOf, ← en1, if_pos c_5]
    exact rLi hx hb hr hlk hQ hP hS (by rw [e9]) (congrArg (fun z9 : (Int32 × (Nat → Int64)) => (w5 x ot ou ov oh ox oy S ++ w3 cI ot ot1 ot2 T ++ [(o, .inl (cJ, 1, .inr (.inl z9.2)))] : va_W)) e9).symm rfl ⟨Nat.le_of_ble_eq_true rfl, Nat.le_of_ble_eq_true rfl⟩ dL_stoolOf_22
def fL_sitterOf (S : CV) (T : TV) (O : (Nat → Int64)) (x2 : Int32) (x3 : Int32) : (Int32 × (Nat → Int64)) := (if (fX5_sitterOf S T x2 x3).1 = none then (0, (vp_updL O (0 : Int32).toNatClampNeg ((fX5_sitterOf S T x2 x3).2.toInt64))) else (if (fX5_sitterOf S T x2 x3).1 = some "java/lang/IndexOutOfBoundsException" then (1, O) else (2, O)))
def gL_sitterOf (S : CV) (T : TV) (O : (Nat → Int64)) (x2 : Int32) (x3 : Int32) : Prop := (((fX5_sitterOf S T x2 x3).1 = none ∨ (fX5_sitterOf S T x2 x3).1 = some "java/lang/IndexOutOfBoundsException" ∨ (fX5_sitterOf S T x2 x3).1 = some "java/lang/IllegalArgumentException") ∧ (if (fX5_sitterOf S T x2 x3).1 = none then ((vp_in 0 1) ∧ True) else True))
abbrev rmL_sitterOf : Room := { frames := 8, cells := 2, slots := 12, locals := 125 }
set_option maxHeartbeats 4000000 in
set_option maxRecDepth 100000 in
theorem kL_sitterOf (l : Launch) (D : va_G) (cI cC cT cJ cQ : ClassId) (x ot ou ov oh ox oy ot1 ot2 o : Nat) (S : CV) (T : TV) (O : (Nat → Int64)) (x2 : Int32) (x3 : Int32) (hst : l.stackTraces = false) (hg : gL_sitterOf S T O x2 x3) : mL l D (TY5 cI cC cT cJ cQ) yL_sitterOf wsL_sitterOf rmL_sitterOf [.ref x, .int x2, .int x3, .ref o] (w5 x ot ou ov oh ox oy S ++ w3 cI ot ot1 ot2 T ++ [(o, .inl (cJ, 1, .inr (.inl O)))]) ((fL_sitterOf S T O x2 x3).1) (w5 x ot ou ov oh ox oy S ++ w3 cI ot ot1 ot2 T ++ [(o, .inl (cJ, 1, .inr (.inl (fL_sitterOf S T O x2 x3).2)))]) 2 := by
  refine mL.ofW (hh := [(0, 10, 13, 28), (0, 10, 17, 13)]) (cc := cL_sitterOf) (maxL := 5) (ret := (some .int)) (by decide) rfl (Nat.le_of_ble_eq_true rfl) ?_
  intro p e s m args below meth c Q ls A hx hb hml hr hlk hts hown hP hK hD hS hl hXE hXN htb hQ
  have hK3 := hK.sub (tys' := TY cI cC cT) [0, 1, 2] rfl
  have hown : s.vm.findClass RL = some m.cls := hown
  have hP : va_P D vwCl (w5 x ot ou ov oh ox oy S ++ w3 cI ot ot1 ot2 T ++ [(o, .inl (cJ, 1, .inr (.inl O)))]) s.heap := hP
  have hD : va_D A (w5 x ot ou ov oh ox oy S ++ w3 cI ot ot1 ot2 T ++ [(o, .inl (cJ, 1, .inr (.inl O)))]) := hD
  have hl : lv_has ls 5 [(0, .ref x), (1, .int x2), (2, .int x3), (3, .ref o)] := hl
  unfold gL_sitterOf at hg
  generalize hHe : s.heap = H at hP ⊢
  have hS : va_S A s.heap H [] := hHe ▸ hS
  generalize hLe : ([] : List Loc) = locs at hS ⊢
  refine lv_aload_n hx hb dL_sitterOf_0 rfl (lv_at hl 3 rfl) ?_
  refine lv_iconst (v := 0) hx hb dL_sitterOf_1 (by decide) ?_
  refine lv_aload_n hx hb dL_sitterOf_2 rfl (lv_at hl 0 rfl) ?_
  refine lv_iload_n hx hb dL_sitterOf_3 rfl (lv_at hl 1 rfl) ?_
  refine lv_iload_n hx hb dL_sitterOf_4 rfl (lv_at hl 2 rfl) ?_
  obtain ⟨n1, en1⟩ : ∃ z9, z9 = (fX5_sitterOf S T x2 x3) := ⟨_, rfl⟩
  try rw [← en1] at hg
  have k9 := (kX5_sitterOf l D cI cC cT x ot ou ov oh ox oy ot1 ot2 S T x2 x3 hst)
  rw [← en1] at k9
  obtain ⟨o1, hg⟩ := hg
  refine fXq (As := [.int x2, .int x3]) (rest := [.int 0, .ref o]) (st' := [.int n1.2, .int 0, .ref o]) ⟨hx, hb, hml, hown, hts⟩ k9 (cwV 2 hts gL_sitterOf_X5_sitterOf rfl rfl rfl (by decide +kernel) ⟨Nat.le_of_ble_eq_true rfl, Nat.le_of_ble_eq_true rfl⟩) hP hK3 hD hS hXE ([(o, .inl (cJ, 1, .inr (.inl O)))] : va_W) (pmI (fun a => by simp only [cntW_app, cntW_nil] <;> omega)) (w5 x ot ou ov oh ox oy S ++ w3 cI ot ot1 ot2 T ++ [(o, .inl (cJ, 1, .inr (.inl O)))]) (pmI (fun a => by simp only [cntW_app, cntW_nil] <;> omega)) rfl 0 (ci := 6) rfl rfl rfl rfl hl.1 rfl rfl (Nat.le_of_ble_eq_true rfl) ⟨Nat.le_of_ble_eq_true rfl, Nat.le_of_ble_eq_true rfl⟩ dL_sitterOf_5 (fun C9 ce9 q9 H locs hE9 hP hD hS hq9 hv9 hc9 => ?_) (fun H locs c_5 hP hD hS => ?_)
  · rcases o1 with h9 | h9 | h9
    · rw [hE9] at h9; cases h9
    · obtain rfl : C9 = "java/lang/IndexOutOfBoundsException" := Option.some.inj (hE9.symm.trans h9)
      have c_5 : ¬ n1.1 = none := by rw [hE9]; exact fun z => nomatch z
      have c_5_0 : n1.1 = some "java/lang/IndexOutOfBoundsException" := h9
      refine vx_catch hown [] ⟨0, 10, 13, 28⟩ [⟨0, 10, 17, 13⟩] htb (fun z hz => nomatch hz) rfl (by decide) (hts (Cond.classLink RL 28 "java/lang/IndexOutOfBoundsException") (by decide +kernel)) (va_Nw.use rfl (hXE.1.1 _ (by decide +kernel))) hq9 hv9 hc9 ?_
      refine lv_astore (lv' := [(4, .ref q9), (0, .ref x), (1, .int x2), (2, .int x3), (3, .ref o)]) hx hb dL_sitterOf_13 hl (by decide) rfl (fun ls hl => ?_)
      refine lv_iconst (v := 1) hx hb dL_sitterOf_15 (by decide) ?_
      have e9 : fL_sitterOf S T O x2 x3 = (1, O) := by rw [fL_sitterOf, ← en1, if_neg c_5, if_pos c_5_0]
      exact rLi hx hb hr hlk hQ hP hS (by rw [e9]) (congrArg (fun z9 : (Int32 × (Nat → Int64)) => (w5 x ot ou ov oh ox oy S ++ w3 cI ot ot1 ot2 T ++ [(o, .inl (cJ, 1, .inr (.inl z9.2)))] : va_W)) e9).symm rfl ⟨Nat.le_of_ble_eq_true rfl, Nat.le_of_ble_eq_true rfl⟩ dL_sitterOf_16
    · obtain rfl : C9 = "java/lang/IllegalArgumentException" := Option.some.inj (hE9.symm.trans h9)
      have c_5 : ¬ n1.1 = none := by rw [hE9]; exact fun z => nomatch z
      have c_5_0 : ¬ n1.1 = some "java/lang/IndexOutOfBoundsException" := by rw [h9]; decide
      refine vx_catch hown [⟨0, 10, 13, 28⟩] ⟨0, 10, 17, 13⟩ [] htb (List.forall_mem_cons.mpr ⟨Or.inr ⟨by decide, "java/lang/IndexOutOfBoundsException", hts (Cond.classLink RL 28 "java/lang/IndexOutOfBoundsException") (by decide +kernel), hXN.2.2⟩, (fun z hz => nomatch hz)⟩) rfl (by decide) (hts (Cond.classLink RL 13 "java/lang/IllegalArgumentException") (by decide +kernel)) (va_Nw.use rfl (hXE.1.1 _ (by decide +kernel))) hq9 hv9 hc9 ?_
      refine lv_astore (lv' := [(4, .ref q9), (0, .ref x), (1, .int x2), (2, .int x3), (3, .ref o)]) hx hb dL_sitterOf_17 hl (by decide) rfl (fun ls hl => ?_)
      refine lv_iconst (v := 2) hx hb dL_sitterOf_19 (by decide) ?_
      have e9 : fL_sitterOf S T O x2 x3 = (2, O) := by rw [fL_sitterOf, ← en1, if_neg c_5, if_neg c_5_0]
      exact rLi hx hb hr hlk hQ hP hS (by rw [e9]) (congrArg (fun z9 : (Int32 × (Nat → Int64)) => (w5 x ot ou ov oh ox oy S ++ w3 cI ot ot1 ot2 T ++ [(o, .inl (cJ, 1, .inr (.inl z9.2)))] : va_W)) e9).symm rfl ⟨Nat.le_of_ble_eq_true rfl, Nat.le_of_ble_eq_true rfl⟩ dL_sitterOf_20
  · rw [if_pos c_5] at hg
    refine lv_i2l (v := (n1.2.toInt64)) hx hb dL_sitterOf_8 rfl ?_
    obtain ⟨o2, hg⟩ := hg
    refine va_last hx hb hK hP hD hS 4 3 rfl rfl o2 dL_sitterOf_9 (fun H locs hP hD hS => ?_)
    have hP : va_P D vwCl (w5 x ot ou ov oh ox oy S ++ w3 cI ot ot1 ot2 T ++ [(o, .inl (cJ, 1, .inr (.inl (vp_updL O (0 : Int32).toNatClampNeg (n1.2.toInt64)))))]) H := hP
    have hD : va_D A (w5 x ot ou ov oh ox oy S ++ w3 cI ot ot1 ot2 T ++ [(o, .inl (cJ, 1, .inr (.inl (vp_updL O (0 : Int32).toNatClampNeg (n1.2.toInt64)))))]) := hD
    refine lv_goto (tgt := 21) hx hb dL_sitterOf_10 (by decide) ?_
    refine lv_iconst (v := 0) hx hb dL_sitterOf_21 (by decide) ?_
    have e9 : fL_sitterOf S T O x2 x3 = (0, (vp_updL O (0 : Int32).toNatClampNeg (n1.2.toInt64))) := by rw [fL_sitterOf, ← en1, if_pos c_5]
    exact rLi hx hb hr hlk hQ hP hS (by rw [e9]) (congrArg (fun z9 : (Int32 × (Nat → Int64)) => (w5 x ot ou ov oh ox oy S ++ w3 cI ot ot1 ot2 T ++ [(o, .inl (cJ, 1, .inr (.inl z9.2)))] : va_W)) e9).symm rfl ⟨Nat.le_of_ble_eq_true rfl, Nat.le_of_ble_eq_true rfl⟩ dL_sitterOf_22
def fL_clash (S : CV) (T : TV) (O : (Nat → Int64)) (x2 : Int32) (x3 : Int32) : (Int32 × (Nat → Int64)) := (if (fX5_clash S T x2 x3).1 = none then (if (fX5_clash S T x2 x3).2 = 0 then (0, (vp_updL O (0 : Int32).toNatClampNeg 0)) else (0, (vp_updL O (0 : Int32).toNatClampNeg 1))) else (1, O))
def gL_clash (S : CV) (T : TV) (O : (Nat → Int64)) (x2 : Int32) (x3 : Int32) : Prop := (((fX5_clash S T x2 x3).1 = none ∨ (fX5_clash S T x2 x3).1 = some "java/lang/IndexOutOfBoundsException") ∧ (if (fX5_clash S T x2 x3).1 = none then (if (fX5_clash S T x2 x3).2 = 0 then ((vp_in 0 1) ∧ True) else ((vp_in 0 1) ∧ True)) else True))
abbrev rmL_clash : Room := { frames := 8, cells := 2, slots := 12, locals := 125 }
set_option maxHeartbeats 4000000 in
set_option maxRecDepth 100000 in
theorem kL_clash (l : Launch) (D : va_G) (cI cC cT cJ cQ : ClassId) (x ot ou ov oh ox oy ot1 ot2 o : Nat) (S : CV) (T : TV) (O : (Nat → Int64)) (x2 : Int32) (x3 : Int32) (hst : l.stackTraces = false) (hg : gL_clash S T O x2 x3) : mL l D (TY5 cI cC cT cJ cQ) yL_clash wsL_clash rmL_clash [.ref x, .int x2, .int x3, .ref o] (w5 x ot ou ov oh ox oy S ++ w3 cI ot ot1 ot2 T ++ [(o, .inl (cJ, 1, .inr (.inl O)))]) ((fL_clash S T O x2 x3).1) (w5 x ot ou ov oh ox oy S ++ w3 cI ot ot1 ot2 T ++ [(o, .inl (cJ, 1, .inr (.inl (fL_clash S T O x2 x3).2)))]) 2 := by
  refine mL.ofW (hh := [(0, 17, 20, 28)]) (cc := cL_clash) (maxL := 5) (ret := (some .int)) (by decide) rfl (Nat.le_of_ble_eq_true rfl) ?_
  intro p e s m args below meth c Q ls A hx hb hml hr hlk hts hown hP hK hD hS hl hXE hXN htb hQ
  have hK3 := hK.sub (tys' := TY cI cC cT) [0, 1, 2] rfl
  have hown : s.vm.findClass RL = some m.cls := hown
  have hP : va_P D vwCl (w5 x ot ou ov oh ox oy S ++ w3 cI ot ot1 ot2 T ++ [(o, .inl (cJ, 1, .inr (.inl O)))]) s.heap := hP
  have hD : va_D A (w5 x ot ou ov oh ox oy S ++ w3 cI ot ot1 ot2 T ++ [(o, .inl (cJ, 1, .inr (.inl O)))]) := hD
  have hl : lv_has ls 5 [(0, .ref x), (1, .int x2), (2, .int x3), (3, .ref o)] := hl
  unfold gL_clash at hg
  generalize hHe : s.heap = H at hP ⊢
  have hS : va_S A s.heap H [] := hHe ▸ hS
  generalize hLe : ([] : List Loc) = locs at hS ⊢
  refine lv_aload_n hx hb dL_clash_0 rfl (lv_at hl 3 rfl) ?_
  refine lv_iconst (v := 0) hx hb dL_clash_1 (by decide) ?_
  refine lv_aload_n hx hb dL_clash_2 rfl (lv_at hl 0 rfl) ?_
  refine lv_iload_n hx hb dL_clash_3 rfl (lv_at hl 1 rfl) ?_
  refine lv_iload_n hx hb dL_clash_4 rfl (lv_at hl 2 rfl) ?_
  obtain ⟨n1, en1⟩ : ∃ z9, z9 = (fX5_clash S T x2 x3) := ⟨_, rfl⟩
  try rw [← en1] at hg
  have k9 := (kX5_clash l D cI cC cT x ot ou ov oh ox oy ot1 ot2 S T x2 x3 hst)
  rw [← en1] at k9
  obtain ⟨o1, hg⟩ := hg
  refine fXq (As := [.int x2, .int x3]) (rest := [.int 0, .ref o]) (st' := [.int n1.2, .int 0, .ref o]) ⟨hx, hb, hml, hown, hts⟩ k9 (cwV 2 hts gL_clash_X5_clash rfl rfl rfl (by decide +kernel) ⟨Nat.le_of_ble_eq_true rfl, Nat.le_of_ble_eq_true rfl⟩) hP hK3 hD hS hXE ([(o, .inl (cJ, 1, .inr (.inl O)))] : va_W) (pmI (fun a => by simp only [cntW_app, cntW_nil] <;> omega)) (w5 x ot ou ov oh ox oy S ++ w3 cI ot ot1 ot2 T ++ [(o, .inl (cJ, 1, .inr (.inl O)))]) (pmI (fun a => by simp only [cntW_app, cntW_nil] <;> omega)) rfl 0 (ci := 6) rfl rfl rfl rfl hl.1 rfl rfl (Nat.le_of_ble_eq_true rfl) ⟨Nat.le_of_ble_eq_true rfl, Nat.le_of_ble_eq_true rfl⟩ dL_clash_5 (fun C9 ce9 q9 H locs hE9 hP hD hS hq9 hv9 hc9 => ?_) (fun H locs c_5 hP hD hS => ?_)
  · rcases o1 with h9 | h9
    · rw [hE9] at h9; cases h9
    · obtain rfl : C9 = "java/lang/IndexOutOfBoundsException" := Option.some.inj (hE9.symm.trans h9)
      have c_5 : ¬ n1.1 = none := by rw [hE9]; exact fun z => nomatch z
      refine vx_catch hown [] ⟨0, 17, 20, 28⟩ [] htb (fun z hz => nomatch hz) rfl (by decide) (hts (Cond.classLink RL 28 "java/lang/IndexOutOfBoundsException") (by decide +kernel)) (va_Nw.use rfl (hXE.1.1 _ (by decide +kernel))) hq9 hv9 hc9 ?_
      refine lv_astore (lv' := [(4, .ref q9), (0, .ref x), (1, .int x2), (2, .int x3), (3, .ref o)]) hx hb dL_clash_20 hl (by decide) rfl (fun ls hl => ?_)
      refine lv_iconst (v := 1) hx hb dL_clash_22 (by decide) ?_
      have e9 : fL_clash S T O x2 x3 = (1, O) := by rw [fL_clash, ← en1, if_neg c_5]
      exact rLi hx hb hr hlk hQ hP hS (by rw [e9]) (congrArg (fun z9 : (Int32 × (Nat → Int64)) => (w5 x ot ou ov oh ox oy S ++ w3 cI ot ot1 ot2 T ++ [(o, .inl (cJ, 1, .inr (.inl z9.2)))] : va_W)) e9).symm rfl ⟨Nat.le_of_ble_eq_true rfl, Nat.le_of_ble_eq_true rfl⟩ dL_clash_23
  · rw [if_pos c_5] at hg
    refine lv_if_eq (tgt := 15) hx hb dL_clash_8 (by decide) (fun c_8_1 => ?_) (fun c_8_1 => ?_)
    · rw [if_pos c_8_1] at hg
      refine lv_lconst (v := 0) hx hb dL_clash_15 (by decide) ?_
      obtain ⟨o2, hg⟩ := hg
      refine va_last hx hb hK hP hD hS 4 3 rfl rfl o2 dL_clash_16 (fun H locs hP hD hS => ?_)
      have hP : va_P D vwCl (w5 x ot ou ov oh ox oy S ++ w3 cI ot ot1 ot2 T ++ [(o, .inl (cJ, 1, .inr (.inl (vp_updL O (0 : Int32).toNatClampNeg 0))))]) H := hP
      have hD : va_D A (w5 x ot ou ov oh ox oy S ++ w3 cI ot ot1 ot2 T ++ [(o, .inl (cJ, 1, .inr (.inl (vp_updL O (0 : Int32).toNatClampNeg 0))))]) := hD
      refine lv_goto (tgt := 24) hx hb dL_clash_17 (by decide) ?_
      refine lv_iconst (v := 0) hx hb dL_clash_24 (by decide) ?_
      have e9 : fL_clash S T O x2 x3 = (0, (vp_updL O (0 : Int32).toNatClampNeg 0)) := by rw [fL_clash, ← en1, if_pos c_5, if_pos c_8_1]
      exact rLi hx hb hr hlk hQ hP hS (by rw [e9]) (congrArg (fun z9 : (Int32 × (Nat → Int64)) => (w5 x ot ou ov oh ox oy S ++ w3 cI ot ot1 ot2 T ++ [(o, .inl (cJ, 1, .inr (.inl z9.2)))] : va_W)) e9).symm rfl ⟨Nat.le_of_ble_eq_true rfl, Nat.le_of_ble_eq_true rfl⟩ dL_clash_25
    · rw [if_neg c_8_1] at hg
      refine lv_lconst (v := 1) hx hb dL_clash_11 (by decide) ?_
      refine lv_goto (tgt := 16) hx hb dL_clash_12 (by decide) ?_
      obtain ⟨o3, hg⟩ := hg
      refine va_last hx hb hK hP hD hS 4 3 rfl rfl o3 dL_clash_16 (fun H locs hP hD hS => ?_)
      have hP : va_P D vwCl (w5 x ot ou ov oh ox oy S ++ w3 cI ot ot1 ot2 T ++ [(o, .inl (cJ, 1, .inr (.inl (vp_updL O (0 : Int32).toNatClampNeg 1))))]) H := hP
      have hD : va_D A (w5 x ot ou ov oh ox oy S ++ w3 cI ot ot1 ot2 T ++ [(o, .inl (cJ, 1, .inr (.inl (vp_updL O (0 : Int32).toNatClampNeg 1))))]) := hD
      refine lv_goto (tgt := 24) hx hb dL_clash_17 (by decide) ?_
      refine lv_iconst (v := 0) hx hb dL_clash_24 (by decide) ?_
      have e9 : fL_clash S T O x2 x3 = (0, (vp_updL O (0 : Int32).toNatClampNeg 1)) := by rw [fL_clash, ← en1, if_pos c_5, if_neg c_8_1]
      exact rLi hx hb hr hlk hQ hP hS (by rw [e9]) (congrArg (fun z9 : (Int32 × (Nat → Int64)) => (w5 x ot ou ov oh ox oy S ++ w3 cI ot ot1 ot2 T ++ [(o, .inl (cJ, 1, .inr (.inl z9.2)))] : va_W)) e9).symm rfl ⟨Nat.le_of_ble_eq_true rfl, Nat.le_of_ble_eq_true rfl⟩ dL_clash_25
def fL_brawl (S : CV) (T : TV) (Hs : HV) (G : (Nat → TV)) (O : (Nat → Int64)) (x2 : Int32) (x3 : Int32) : (Int32 × CV × TV × HV × (Nat → TV) × (Nat → Int64)) := (if (fX5_brawl S T Hs G x2 x3).1 = none then (0, (fX5_brawl S T Hs G x2 x3).2.2.1, (fX5_brawl S T Hs G x2 x3).2.2.2.1, (fX5_brawl S T Hs G x2 x3).2.2.2.2.1, (fX5_brawl S T Hs G x2 x3).2.2.2.2.2, (vp_updL O (0 : Int32).toNatClampNeg ((fX5_brawl S T Hs G x2 x3).2.1.toInt64))) else (if (fX5_brawl S T Hs G x2 x3).1 = some "java/lang/IndexOutOfBoundsException" then (1, (fX5_brawl S T Hs G x2 x3).2.2.1, (fX5_brawl S T Hs G x2 x3).2.2.2.1, (fX5_brawl S T Hs G x2 x3).2.2.2.2.1, (fX5_brawl S T Hs G x2 x3).2.2.2.2.2, O) else (if (fX5_brawl S T Hs G x2 x3).1 = some "java/lang/IllegalArgumentException" then (2, (fX5_brawl S T Hs G x2 x3).2.2.1, (fX5_brawl S T Hs G x2 x3).2.2.2.1, (fX5_brawl S T Hs G x2 x3).2.2.2.2.1, (fX5_brawl S T Hs G x2 x3).2.2.2.2.2, O) else (3, (fX5_brawl S T Hs G x2 x3).2.2.1, (fX5_brawl S T Hs G x2 x3).2.2.2.1, (fX5_brawl S T Hs G x2 x3).2.2.2.2.1, (fX5_brawl S T Hs G x2 x3).2.2.2.2.2, O))))
def gL_brawl (S : CV) (T : TV) (Hs : HV) (G : (Nat → TV)) (O : (Nat → Int64)) (x2 : Int32) (x3 : Int32) : Prop := (((fX5_brawl S T Hs G x2 x3).1 = none ∨ (fX5_brawl S T Hs G x2 x3).1 = some "java/lang/IndexOutOfBoundsException" ∨ (fX5_brawl S T Hs G x2 x3).1 = some "java/lang/IllegalArgumentException" ∨ (fX5_brawl S T Hs G x2 x3).1 = some "java/lang/UnsupportedOperationException") ∧ (if (fX5_brawl S T Hs G x2 x3).1 = none then ((vp_in 0 1) ∧ True) else True))
abbrev rmL_brawl : Room := { frames := 8, cells := 1, slots := 6, locals := 141 }
set_option maxHeartbeats 4000000 in
set_option maxRecDepth 100000 in
theorem kL_brawl (l : Launch) (D : va_G) (cI cC cT cJ cQ : ClassId) (x ot ou ov oh ox oy ot1 ot2 rr o : Nat) (ra rb rc : Nat → Nat) (S : CV) (T : TV) (Hs : HV) (G : (Nat → TV)) (O : (Nat → Int64)) (x2 : Int32) (x3 : Int32) (hst : l.stackTraces = false) (hn : ∃ j : Nat, j < 9 ∧ Hs.1 = nI j) (hg : gL_brawl S T Hs G O x2 x3) : mL l D (TY5 cI cC cT cJ cQ) yL_brawl wsL_brawl rmL_brawl [.ref x, .int x2, .int x3, .ref o] (w5 x ot ou ov oh ox oy S ++ w3 cI ot ot1 ot2 T ++ w1 oh rr Hs ++ wR cI cT rr ra rb rc G ++ [(o, .inl (cJ, 1, .inr (.inl O)))]) ((fL_brawl S T Hs G O x2 x3).1) (w5 x ot ou ov oh ox oy (fL_brawl S T Hs G O x2 x3).2.1 ++ w3 cI ot ot1 ot2 (fL_brawl S T Hs G O x2 x3).2.2.1 ++ w1 oh rr (fL_brawl S T Hs G O x2 x3).2.2.2.1 ++ wR cI cT rr ra rb rc (fL_brawl S T Hs G O x2 x3).2.2.2.2.1 ++ [(o, .inl (cJ, 1, .inr (.inl (fL_brawl S T Hs G O x2 x3).2.2.2.2.2)))]) 1 := by
  refine mL.ofW (hh := [(0, 10, 13, 28), (0, 10, 17, 13), (0, 10, 21, 15)]) (cc := cL_brawl) (maxL := 5) (ret := (some .int)) (by decide) rfl (Nat.le_of_ble_eq_true rfl) ?_
  intro p e s m args below meth c Q ls A hx hb hml hr hlk hts hown hP hK hD hS hl hXE hXN htb hQ
  have hK3 := hK.sub (tys' := TY cI cC cT) [0, 1, 2] rfl
  have hown : s.vm.findClass RL = some m.cls := hown
  have hP : va_P D vwCl (w5 x ot ou ov oh ox oy S ++ w3 cI ot ot1 ot2 T ++ w1 oh rr Hs ++ wR cI cT rr ra rb rc G ++ [(o, .inl (cJ, 1, .inr (.inl O)))]) s.heap := hP
  have hD : va_D A (w5 x ot ou ov oh ox oy S ++ w3 cI ot ot1 ot2 T ++ w1 oh rr Hs ++ wR cI cT rr ra rb rc G ++ [(o, .inl (cJ, 1, .inr (.inl O)))]) := hD
  have hl : lv_has ls 5 [(0, .ref x), (1, .int x2), (2, .int x3), (3, .ref o)] := hl
  unfold gL_brawl at hg
  generalize hHe : s.heap = H at hP ⊢
  have hS : va_S A s.heap H [] := hHe ▸ hS
  generalize hLe : ([] : List Loc) = locs at hS ⊢
  refine lv_aload_n hx hb dL_brawl_0 rfl (lv_at hl 3 rfl) ?_
  refine lv_iconst (v := 0) hx hb dL_brawl_1 (by decide) ?_
  refine lv_aload_n hx hb dL_brawl_2 rfl (lv_at hl 0 rfl) ?_
  refine lv_iload_n hx hb dL_brawl_3 rfl (lv_at hl 1 rfl) ?_
  refine lv_iload_n hx hb dL_brawl_4 rfl (lv_at hl 2 rfl) ?_
  obtain ⟨n1, en1⟩ : ∃ z9, z9 = (fX5_brawl S T Hs G x2 x3) := ⟨_, rfl⟩
  try rw [← en1] at hg
  have k9 := (kX5_brawl l D cI cC cT x ot ou ov oh ox oy ot1 ot2 rr ra rb rc S T Hs G x2 x3 hst hn)
  rw [← en1] at k9
  obtain ⟨o1, hg⟩ := hg
  refine fXq (As := [.int x2, .int x3]) (rest := [.int 0, .ref o]) (st' := [.int n1.2.1, .int 0, .ref o]) ⟨hx, hb, hml, hown, hts⟩ k9 (cwV 2 hts gL_brawl_X5_brawl rfl rfl rfl (by decide +kernel) ⟨Nat.le_of_ble_eq_true rfl, Nat.le_of_ble_eq_true rfl⟩) hP hK3 hD hS hXE ([(o, .inl (cJ, 1, .inr (.inl O)))] : va_W) (pmI (fun a => by simp only [cntW_app, cntW_nil] <;> omega)) (w5 x ot ou ov oh ox oy n1.2.2.1 ++ w3 cI ot ot1 ot2 n1.2.2.2.1 ++ w1 oh rr n1.2.2.2.2.1 ++ wR cI cT rr ra rb rc n1.2.2.2.2.2 ++ [(o, .inl (cJ, 1, .inr (.inl O)))]) (pmI (fun a => by simp only [cntW_app, cntW_nil] <;> omega)) rfl 0 (ci := 6) rfl rfl rfl rfl hl.1 rfl rfl (Nat.le_of_ble_eq_true rfl) ⟨Nat.le_of_ble_eq_true rfl, Nat.le_of_ble_eq_true rfl⟩ dL_brawl_5 (fun C9 ce9 q9 H locs hE9 hP hD hS hq9 hv9 hc9 => ?_) (fun H locs c_5 hP hD hS => ?_)
  · rcases o1 with h9 | h9 | h9 | h9
    · rw [hE9] at h9; cases h9
    · obtain rfl : C9 = "java/lang/IndexOutOfBoundsException" := Option.some.inj (hE9.symm.trans h9)
      have c_5 : ¬ n1.1 = none := by rw [hE9]; exact fun z => nomatch z
      have c_5_0 : n1.1 = some "java/lang/IndexOutOfBoundsException" := h9
      refine vx_catch hown [] ⟨0, 10, 13, 28⟩ [⟨0, 10, 17, 13⟩, ⟨0, 10, 21, 15⟩] htb (fun z hz => nomatch hz) rfl (by decide) (hts (Cond.classLink RL 28 "java/lang/IndexOutOfBoundsException") (by decide +kernel)) (va_Nw.use rfl (hXE.1.1 _ (by decide +kernel))) hq9 hv9 hc9 ?_
      refine lv_astore (lv' := [(4, .ref q9), (0, .ref x), (1, .int x2), (2, .int x3), (3, .ref o)]) hx hb dL_brawl_13 hl (by decide) rfl (fun ls hl => ?_)
      refine lv_iconst (v := 1) hx hb dL_brawl_15 (by decide) ?_
      have e9 : fL_brawl S T Hs G O x2 x3 = (1, n1.2.2.1, n1.2.2.2.1, n1.2.2.2.2.1, n1.2.2.2.2.2, O) := by rw [fL_brawl, ← en1, if_neg c_5, if_pos c_5_0]
      exact rLi hx hb hr hlk hQ hP hS (by rw [e9]) (congrArg (fun z9 : (Int32 × CV × TV × HV × (Nat → TV) × (Nat → Int64)) => (w5 x ot ou ov oh ox oy z9.2.1 ++ w3 cI ot ot1 ot2 z9.2.2.1 ++ w1 oh rr z9.2.2.2.1 ++ wR cI cT rr ra rb rc z9.2.2.2.2.1 ++ [(o, .inl (cJ, 1, .inr (.inl z9.2.2.2.2.2)))] : va_W)) e9).symm rfl ⟨Nat.le_of_ble_eq_true rfl, Nat.le_of_ble_eq_true rfl⟩ dL_brawl_16
    · obtain rfl : C9 = "java/lang/IllegalArgumentException" := Option.some.inj (hE9.symm.trans h9)
      have c_5 : ¬ n1.1 = none := by rw [hE9]; exact fun z => nomatch z
      have c_5_0 : ¬ n1.1 = some "java/lang/IndexOutOfBoundsException" := by rw [h9]; decide
      have c_5_1 : n1.1 = some "java/lang/IllegalArgumentException" := h9
      refine vx_catch hown [⟨0, 10, 13, 28⟩] ⟨0, 10, 17, 13⟩ [⟨0, 10, 21, 15⟩] htb (List.forall_mem_cons.mpr ⟨Or.inr ⟨by decide, "java/lang/IndexOutOfBoundsException", hts (Cond.classLink RL 28 "java/lang/IndexOutOfBoundsException") (by decide +kernel), hXN.2.2⟩, (fun z hz => nomatch hz)⟩) rfl (by decide) (hts (Cond.classLink RL 13 "java/lang/IllegalArgumentException") (by decide +kernel)) (va_Nw.use rfl (hXE.1.1 _ (by decide +kernel))) hq9 hv9 hc9 ?_
      refine lv_astore (lv' := [(4, .ref q9), (0, .ref x), (1, .int x2), (2, .int x3), (3, .ref o)]) hx hb dL_brawl_17 hl (by decide) rfl (fun ls hl => ?_)
      refine lv_iconst (v := 2) hx hb dL_brawl_19 (by decide) ?_
      have e9 : fL_brawl S T Hs G O x2 x3 = (2, n1.2.2.1, n1.2.2.2.1, n1.2.2.2.2.1, n1.2.2.2.2.2, O) := by rw [fL_brawl, ← en1, if_neg c_5, if_neg c_5_0, if_pos c_5_1]
      exact rLi hx hb hr hlk hQ hP hS (by rw [e9]) (congrArg (fun z9 : (Int32 × CV × TV × HV × (Nat → TV) × (Nat → Int64)) => (w5 x ot ou ov oh ox oy z9.2.1 ++ w3 cI ot ot1 ot2 z9.2.2.1 ++ w1 oh rr z9.2.2.2.1 ++ wR cI cT rr ra rb rc z9.2.2.2.2.1 ++ [(o, .inl (cJ, 1, .inr (.inl z9.2.2.2.2.2)))] : va_W)) e9).symm rfl ⟨Nat.le_of_ble_eq_true rfl, Nat.le_of_ble_eq_true rfl⟩ dL_brawl_20
    · obtain rfl : C9 = "java/lang/UnsupportedOperationException" := Option.some.inj (hE9.symm.trans h9)
      have c_5 : ¬ n1.1 = none := by rw [hE9]; exact fun z => nomatch z
      have c_5_0 : ¬ n1.1 = some "java/lang/IndexOutOfBoundsException" := by rw [h9]; decide
      have c_5_1 : ¬ n1.1 = some "java/lang/IllegalArgumentException" := by rw [h9]; decide
      refine vx_catch hown [⟨0, 10, 13, 28⟩, ⟨0, 10, 17, 13⟩] ⟨0, 10, 21, 15⟩ [] htb (List.forall_mem_cons.mpr ⟨Or.inr ⟨by decide, "java/lang/IndexOutOfBoundsException", hts (Cond.classLink RL 28 "java/lang/IndexOutOfBoundsException") (by decide +kernel), hXN.2.1⟩, (List.forall_mem_cons.mpr ⟨Or.inr ⟨by decide, "java/lang/IllegalArgumentException", hts (Cond.classLink RL 13 "java/lang/IllegalArgumentException") (by decide +kernel), hXN.1⟩, (fun z hz => nomatch hz)⟩)⟩) rfl (by decide) (hts (Cond.classLink RL 15 "java/lang/UnsupportedOperationException") (by decide +kernel)) (va_Nw.use rfl (hXE.1.1 _ (by decide +kernel))) hq9 hv9 hc9 ?_
      refine lv_astore (lv' := [(4, .ref q9), (0, .ref x), (1, .int x2), (2, .int x3), (3, .ref o)]) hx hb dL_brawl_21 hl (by decide) rfl (fun ls hl => ?_)
      refine lv_iconst (v := 3) hx hb dL_brawl_23 (by decide) ?_
      have e9 : fL_brawl S T Hs G O x2 x3 = (3, n1.2.2.1, n1.2.2.2.1, n1.2.2.2.2.1, n1.2.2.2.2.2, O) := by rw [fL_brawl, ← en1, if_neg c_5, if_neg c_5_0, if_neg c_5_1]
      exact rLi hx hb hr hlk hQ hP hS (by rw [e9]) (congrArg (fun z9 : (Int32 × CV × TV × HV × (Nat → TV) × (Nat → Int64)) => (w5 x ot ou ov oh ox oy z9.2.1 ++ w3 cI ot ot1 ot2 z9.2.2.1 ++ w1 oh rr z9.2.2.2.1 ++ wR cI cT rr ra rb rc z9.2.2.2.2.1 ++ [(o, .inl (cJ, 1, .inr (.inl z9.2.2.2.2.2)))] : va_W)) e9).symm rfl ⟨Nat.le_of_ble_eq_true rfl, Nat.le_of_ble_eq_true rfl⟩ dL_brawl_24
  · rw [if_pos c_5] at hg
    refine lv_i2l (v := (n1.2.1.toInt64)) hx hb dL_brawl_8 rfl ?_
    obtain ⟨o2, hg⟩ := hg
    refine va_last hx hb hK hP hD hS 33 3 rfl rfl o2 dL_brawl_9 (fun H locs hP hD hS => ?_)
    have hP : va_P D vwCl (w5 x ot ou ov oh ox oy n1.2.2.1 ++ w3 cI ot ot1 ot2 n1.2.2.2.1 ++ w1 oh rr n1.2.2.2.2.1 ++ wR cI cT rr ra rb rc n1.2.2.2.2.2 ++ [(o, .inl (cJ, 1, .inr (.inl (vp_updL O (0 : Int32).toNatClampNeg (n1.2.1.toInt64)))))]) H := hP
    have hD : va_D A (w5 x ot ou ov oh ox oy n1.2.2.1 ++ w3 cI ot ot1 ot2 n1.2.2.2.1 ++ w1 oh rr n1.2.2.2.2.1 ++ wR cI cT rr ra rb rc n1.2.2.2.2.2 ++ [(o, .inl (cJ, 1, .inr (.inl (vp_updL O (0 : Int32).toNatClampNeg (n1.2.1.toInt64)))))]) := hD
    refine lv_goto (tgt := 25) hx hb dL_brawl_10 (by decide) ?_
    refine lv_iconst (v := 0) hx hb dL_brawl_25 (by decide) ?_
    have e9 : fL_brawl S T Hs G O x2 x3 = (0, n1.2.2.1, n1.2.2.2.1, n1.2.2.2.2.1, n1.2.2.2.2.2, (vp_updL O (0 : Int32).toNatClampNeg (n1.2.1.toInt64))) := by rw [fL_brawl, ← en1, if_pos c_5]
    exact rLi hx hb hr hlk hQ hP hS (by rw [e9]) (congrArg (fun z9 : (Int32 × CV × TV × HV × (Nat → TV) × (Nat → Int64)) => (w5 x ot ou ov oh ox oy z9.2.1 ++ w3 cI ot ot1 ot2 z9.2.2.1 ++ w1 oh rr z9.2.2.2.1 ++ wR cI cT rr ra rb rc z9.2.2.2.2.1 ++ [(o, .inl (cJ, 1, .inr (.inl z9.2.2.2.2.2)))] : va_W)) e9).symm rfl ⟨Nat.le_of_ble_eq_true rfl, Nat.le_of_ble_eq_true rfl⟩ dL_brawl_26
def fL_swap (S : CV) (T : TV) (Hs : HV) (G : (Nat → TV)) (O : (Nat → Int64)) (x2 : Int32) (x3 : Int32) : (Int32 × CV × TV × HV × (Nat → TV) × (Nat → Int64)) := (if (fX5_swap S T Hs G x2 x3).1 = none then (0, (fX5_swap S T Hs G x2 x3).2.2.1, (fX5_swap S T Hs G x2 x3).2.2.2.1, (fX5_swap S T Hs G x2 x3).2.2.2.2.1, (fX5_swap S T Hs G x2 x3).2.2.2.2.2, (vp_updL O (0 : Int32).toNatClampNeg ((fX5_swap S T Hs G x2 x3).2.1.toInt64))) else (if (fX5_swap S T Hs G x2 x3).1 = some "java/lang/IndexOutOfBoundsException" then (1, (fX5_swap S T Hs G x2 x3).2.2.1, (fX5_swap S T Hs G x2 x3).2.2.2.1, (fX5_swap S T Hs G x2 x3).2.2.2.2.1, (fX5_swap S T Hs G x2 x3).2.2.2.2.2, O) else (if (fX5_swap S T Hs G x2 x3).1 = some "java/lang/IllegalArgumentException" then (2, (fX5_swap S T Hs G x2 x3).2.2.1, (fX5_swap S T Hs G x2 x3).2.2.2.1, (fX5_swap S T Hs G x2 x3).2.2.2.2.1, (fX5_swap S T Hs G x2 x3).2.2.2.2.2, O) else (3, (fX5_swap S T Hs G x2 x3).2.2.1, (fX5_swap S T Hs G x2 x3).2.2.2.1, (fX5_swap S T Hs G x2 x3).2.2.2.2.1, (fX5_swap S T Hs G x2 x3).2.2.2.2.2, O))))
def gL_swap (S : CV) (T : TV) (Hs : HV) (G : (Nat → TV)) (O : (Nat → Int64)) (x2 : Int32) (x3 : Int32) : Prop := (((fX5_swap S T Hs G x2 x3).1 = none ∨ (fX5_swap S T Hs G x2 x3).1 = some "java/lang/IndexOutOfBoundsException" ∨ (fX5_swap S T Hs G x2 x3).1 = some "java/lang/IllegalArgumentException" ∨ (fX5_swap S T Hs G x2 x3).1 = some "java/lang/UnsupportedOperationException") ∧ (if (fX5_swap S T Hs G x2 x3).1 = none then ((vp_in 0 1) ∧ True) else True))
abbrev rmL_swap : Room := { frames := 8, cells := 1, slots := 6, locals := 136 }
set_option maxHeartbeats 4000000 in
set_option maxRecDepth 100000 in
theorem kL_swap (l : Launch) (D : va_G) (cI cC cT cJ cQ : ClassId) (x ot ou ov oh ox oy ot1 ot2 rr o : Nat) (ra rb rc : Nat → Nat) (S : CV) (T : TV) (Hs : HV) (G : (Nat → TV)) (O : (Nat → Int64)) (x2 : Int32) (x3 : Int32) (hst : l.stackTraces = false) (hn : ∃ j : Nat, j < 9 ∧ Hs.1 = nI j) (hg : gL_swap S T Hs G O x2 x3) : mL l D (TY5 cI cC cT cJ cQ) yL_swap wsL_swap rmL_swap [.ref x, .int x2, .int x3, .ref o] (w5 x ot ou ov oh ox oy S ++ w3 cI ot ot1 ot2 T ++ w1 oh rr Hs ++ wR cI cT rr ra rb rc G ++ [(o, .inl (cJ, 1, .inr (.inl O)))]) ((fL_swap S T Hs G O x2 x3).1) (w5 x ot ou ov oh ox oy (fL_swap S T Hs G O x2 x3).2.1 ++ w3 cI ot ot1 ot2 (fL_swap S T Hs G O x2 x3).2.2.1 ++ w1 oh rr (fL_swap S T Hs G O x2 x3).2.2.2.1 ++ wR cI cT rr ra rb rc (fL_swap S T Hs G O x2 x3).2.2.2.2.1 ++ [(o, .inl (cJ, 1, .inr (.inl (fL_swap S T Hs G O x2 x3).2.2.2.2.2)))]) 1 := by
  refine mL.ofW (hh := [(0, 10, 13, 28), (0, 10, 17, 13), (0, 10, 21, 15)]) (cc := cL_swap) (maxL := 5) (ret := (some .int)) (by decide) rfl (Nat.le_of_ble_eq_true rfl) ?_
  intro p e s m args below meth c Q ls A hx hb hml hr hlk hts hown hP hK hD hS hl hXE hXN htb hQ
  have hK3 := hK.sub (tys' := TY cI cC cT) [0, 1, 2] rfl
  have hown : s.vm.findClass RL = some m.cls := hown
  have hP : va_P D vwCl (w5 x ot ou ov oh ox oy S ++ w3 cI ot ot1 ot2 T ++ w1 oh rr Hs ++ wR cI cT rr ra rb rc G ++ [(o, .inl (cJ, 1, .inr (.inl O)))]) s.heap := hP
  have hD : va_D A (w5 x ot ou ov oh ox oy S ++ w3 cI ot ot1 ot2 T ++ w1 oh rr Hs ++ wR cI cT rr ra rb rc G ++ [(o, .inl (cJ, 1, .inr (.inl O)))]) := hD
  have hl : lv_has ls 5 [(0, .ref x), (1, .int x2), (2, .int x3), (3, .ref o)] := hl
  unfold gL_swap at hg
  generalize hHe : s.heap = H at hP ⊢
  have hS : va_S A s.heap H [] := hHe ▸ hS
  generalize hLe : ([] : List Loc) = locs at hS ⊢
  refine lv_aload_n hx hb dL_swap_0 rfl (lv_at hl 3 rfl) ?_
  refine lv_iconst (v := 0) hx hb dL_swap_1 (by decide) ?_
  refine lv_aload_n hx hb dL_swap_2 rfl (lv_at hl 0 rfl) ?_
  refine lv_iload_n hx hb dL_swap_3 rfl (lv_at hl 1 rfl) ?_
  refine lv_iload_n hx hb dL_swap_4 rfl (lv_at hl 2 rfl) ?_
  obtain ⟨n1, en1⟩ : ∃ z9, z9 = (fX5_swap S T Hs G x2 x3) := ⟨_, rfl⟩
  try rw [← en1] at hg
  have k9 := (kX5_swap l D cI cC cT x ot ou ov oh ox oy ot1 ot2 rr ra rb rc S T Hs G x2 x3 hst hn)
  rw [← en1] at k9
  obtain ⟨o1, hg⟩ := hg
  refine fXq (As := [.int x2, .int x3]) (rest := [.int 0, .ref o]) (st' := [.int n1.2.1, .int 0, .ref o]) ⟨hx, hb, hml, hown, hts⟩ k9 (cwV 2 hts gL_swap_X5_swap rfl rfl rfl (by decide +kernel) ⟨Nat.le_of_ble_eq_true rfl, Nat.le_of_ble_eq_true rfl⟩) hP hK3 hD hS hXE ([(o, .inl (cJ, 1, .inr (.inl O)))] : va_W) (pmI (fun a => by simp only [cntW_app, cntW_nil] <;> omega)) (w5 x ot ou ov oh ox oy n1.2.2.1 ++ w3 cI ot ot1 ot2 n1.2.2.2.1 ++ w1 oh rr n1.2.2.2.2.1 ++ wR cI cT rr ra rb rc n1.2.2.2.2.2 ++ [(o, .inl (cJ, 1, .inr (.inl O)))]) (pmI (fun a => by simp only [cntW_app, cntW_nil] <;> omega)) rfl 0 (ci := 6) rfl rfl rfl rfl hl.1 rfl rfl (Nat.le_of_ble_eq_true rfl) ⟨Nat.le_of_ble_eq_true rfl, Nat.le_of_ble_eq_true rfl⟩ dL_swap_5 (fun C9 ce9 q9 H locs hE9 hP hD hS hq9 hv9 hc9 => ?_) (fun H locs c_5 hP hD hS => ?_)
  · rcases o1 with h9 | h9 | h9 | h9
    · rw [hE9] at h9; cases h9
    · obtain rfl : C9 = "java/lang/IndexOutOfBoundsException" := Option.some.inj (hE9.symm.trans h9)
      have c_5 : ¬ n1.1 = none := by rw [hE9]; exact fun z => nomatch z
      have c_5_0 : n1.1 = some "java/lang/IndexOutOfBoundsException" := h9
      refine vx_catch hown [] ⟨0, 10, 13, 28⟩ [⟨0, 10, 17, 13⟩, ⟨0, 10, 21, 15⟩] htb (fun z hz => nomatch hz) rfl (by decide) (hts (Cond.classLink RL 28 "java/lang/IndexOutOfBoundsException") (by decide +kernel)) (va_Nw.use rfl (hXE.1.1 _ (by decide +kernel))) hq9 hv9 hc9 ?_
      refine lv_astore (lv' := [(4, .ref q9), (0, .ref x), (1, .int x2), (2, .int x3), (3, .ref o)]) hx hb dL_swap_13 hl (by decide) rfl (fun ls hl => ?_)
      refine lv_iconst (v := 1) hx hb dL_swap_15 (by decide) ?_
      have e9 : fL_swap S T Hs G O x2 x3 = (1, n1.2.2.1, n1.2.2.2.1, n1.2.2.2.2.1, n1.2.2.2.2.2, O) := by rw [fL_swap, ← en1, if_neg c_5, if_pos c_5_0]
      exact rLi hx hb hr hlk hQ hP hS (by rw [e9]) (congrArg (fun z9 : (Int32 × CV × TV × HV × (Nat → TV) × (Nat → Int64)) => (w5 x ot ou ov oh ox oy z9.2.1 ++ w3 cI ot ot1 ot2 z9.2.2.1 ++ w1 oh rr z9.2.2.2.1 ++ wR cI cT rr ra rb rc z9.2.2.2.2.1 ++ [(o, .inl (cJ, 1, .inr (.inl z9.2.2.2.2.2)))] : va_W)) e9).symm rfl ⟨Nat.le_of_ble_eq_true rfl, Nat.le_of_ble_eq_true rfl⟩ dL_swap_16
    · obtain rfl : C9 = "java/lang/IllegalArgumentException" := Option.some.inj (hE9.symm.trans h9)
      have c_5 : ¬ n1.1 = none := by rw [hE9]; exact fun z => nomatch z
      have c_5_0 : ¬ n1.1 = some "java/lang/IndexOutOfBoundsException" := by rw [h9]; decide
      have c_5_1 : n1.1 = some "java/lang/IllegalArgumentException" := h9
      refine vx_catch hown [⟨0, 10, 13, 28⟩] ⟨0, 10, 17, 13⟩ [⟨0, 10, 21, 15⟩] htb (List.forall_mem_cons.mpr ⟨Or.inr ⟨by decide, "java/lang/IndexOutOfBoundsException", hts (Cond.classLink RL 28 "java/lang/IndexOutOfBoundsException") (by decide +kernel), hXN.2.2⟩, (fun z hz => nomatch hz)⟩) rfl (by decide) (hts (Cond.classLink RL 13 "java/lang/IllegalArgumentException") (by decide +kernel)) (va_Nw.use rfl (hXE.1.1 _ (by decide +kernel))) hq9 hv9 hc9 ?_
      refine lv_astore (lv' := [(4, .ref q9), (0, .ref x), (1, .int x2), (2, .int x3), (3, .ref o)]) hx hb dL_swap_17 hl (by decide) rfl (fun ls hl => ?_)
      refine lv_iconst (v := 2) hx hb dL_swap_19 (by decide) ?_
      have e9 : fL_swap S T Hs G O x2 x3 = (2, n1.2.2.1, n1.2.2.2.1, n1.2.2.2.2.1, n1.2.2.2.2.2, O) := by rw [fL_swap, ← en1, if_neg c_5, if_neg c_5_0, if_pos c_5_1]
      exact rLi hx hb hr hlk hQ hP hS (by rw [e9]) (congrArg (fun z9 : (Int32 × CV × TV × HV × (Nat → TV) × (Nat → Int64)) => (w5 x ot ou ov oh ox oy z9.2.1 ++ w3 cI ot ot1 ot2 z9.2.2.1 ++ w1 oh rr z9.2.2.2.1 ++ wR cI cT rr ra rb rc z9.2.2.2.2.1 ++ [(o, .inl (cJ, 1, .inr (.inl z9.2.2.2.2.2)))] : va_W)) e9).symm rfl ⟨Nat.le_of_ble_eq_true rfl, Nat.le_of_ble_eq_true rfl⟩ dL_swap_20
    · obtain rfl : C9 = "java/lang/UnsupportedOperationException" := Option.some.inj (hE9.symm.trans h9)
      have c_5 : ¬ n1.1 = none := by rw [hE9]; exact fun z => nomatch z
      have c_5_0 : ¬ n1.1 = some "java/lang/IndexOutOfBoundsException" := by rw [h9]; decide
      have c_5_1 : ¬ n1.1 = some "java/lang/IllegalArgumentException" := by rw [h9]; decide
      refine vx_catch hown [⟨0, 10, 13, 28⟩, ⟨0, 10, 17, 13⟩] ⟨0, 10, 21, 15⟩ [] htb (List.forall_mem_cons.mpr ⟨Or.inr ⟨by decide, "java/lang/IndexOutOfBoundsException", hts (Cond.classLink RL 28 "java/lang/IndexOutOfBoundsException") (by decide +kernel), hXN.2.1⟩, (List.forall_mem_cons.mpr ⟨Or.inr ⟨by decide, "java/lang/IllegalArgumentException", hts (Cond.classLink RL 13 "java/lang/IllegalArgumentException") (by decide +kernel), hXN.1⟩, (fun z hz => nomatch hz)⟩)⟩) rfl (by decide) (hts (Cond.classLink RL 15 "java/lang/UnsupportedOperationException") (by decide +kernel)) (va_Nw.use rfl (hXE.1.1 _ (by decide +kernel))) hq9 hv9 hc9 ?_
      refine lv_astore (lv' := [(4, .ref q9), (0, .ref x), (1, .int x2), (2, .int x3), (3, .ref o)]) hx hb dL_swap_21 hl (by decide) rfl (fun ls hl => ?_)
      refine lv_iconst (v := 3) hx hb dL_swap_23 (by decide) ?_
      have e9 : fL_swap S T Hs G O x2 x3 = (3, n1.2.2.1, n1.2.2.2.1, n1.2.2.2.2.1, n1.2.2.2.2.2, O) := by rw [fL_swap, ← en1, if_neg c_5, if_neg c_5_0, if_neg c_5_1]
      exact rLi hx hb hr hlk hQ hP hS (by rw [e9]) (congrArg (fun z9 : (Int32 × CV × TV × HV × (Nat → TV) × (Nat → Int64)) => (w5 x ot ou ov oh ox oy z9.2.1 ++ w3 cI ot ot1 ot2 z9.2.2.1 ++ w1 oh rr z9.2.2.2.1 ++ wR cI cT rr ra rb rc z9.2.2.2.2.1 ++ [(o, .inl (cJ, 1, .inr (.inl z9.2.2.2.2.2)))] : va_W)) e9).symm rfl ⟨Nat.le_of_ble_eq_true rfl, Nat.le_of_ble_eq_true rfl⟩ dL_swap_24
  · rw [if_pos c_5] at hg
    refine lv_i2l (v := (n1.2.1.toInt64)) hx hb dL_swap_8 rfl ?_
    obtain ⟨o2, hg⟩ := hg
    refine va_last hx hb hK hP hD hS 33 3 rfl rfl o2 dL_swap_9 (fun H locs hP hD hS => ?_)
    have hP : va_P D vwCl (w5 x ot ou ov oh ox oy n1.2.2.1 ++ w3 cI ot ot1 ot2 n1.2.2.2.1 ++ w1 oh rr n1.2.2.2.2.1 ++ wR cI cT rr ra rb rc n1.2.2.2.2.2 ++ [(o, .inl (cJ, 1, .inr (.inl (vp_updL O (0 : Int32).toNatClampNeg (n1.2.1.toInt64)))))]) H := hP
    have hD : va_D A (w5 x ot ou ov oh ox oy n1.2.2.1 ++ w3 cI ot ot1 ot2 n1.2.2.2.1 ++ w1 oh rr n1.2.2.2.2.1 ++ wR cI cT rr ra rb rc n1.2.2.2.2.2 ++ [(o, .inl (cJ, 1, .inr (.inl (vp_updL O (0 : Int32).toNatClampNeg (n1.2.1.toInt64)))))]) := hD
    refine lv_goto (tgt := 25) hx hb dL_swap_10 (by decide) ?_
    refine lv_iconst (v := 0) hx hb dL_swap_25 (by decide) ?_
    have e9 : fL_swap S T Hs G O x2 x3 = (0, n1.2.2.1, n1.2.2.2.1, n1.2.2.2.2.1, n1.2.2.2.2.2, (vp_updL O (0 : Int32).toNatClampNeg (n1.2.1.toInt64))) := by rw [fL_swap, ← en1, if_pos c_5]
    exact rLi hx hb hr hlk hQ hP hS (by rw [e9]) (congrArg (fun z9 : (Int32 × CV × TV × HV × (Nat → TV) × (Nat → Int64)) => (w5 x ot ou ov oh ox oy z9.2.1 ++ w3 cI ot ot1 ot2 z9.2.2.1 ++ w1 oh rr z9.2.2.2.1 ++ wR cI cT rr ra rb rc z9.2.2.2.2.1 ++ [(o, .inl (cJ, 1, .inr (.inl z9.2.2.2.2.2)))] : va_W)) e9).symm rfl ⟨Nat.le_of_ble_eq_true rfl, Nat.le_of_ble_eq_true rfl⟩ dL_swap_26
def fL_bestSwap (S : CV) (T : TV) (Tr : TV) (O : (Nat → Int64)) (x2 : Int32) : (Int32 × TV × (Nat → Int64)) := (if (fX5_bestSwap S T Tr x2).1 = none then (0, (fX5_bestSwap S T Tr x2).2.2, (vp_updL O (0 : Int32).toNatClampNeg ((fX5_bestSwap S T Tr x2).2.1.toInt64))) else (1, (fX5_bestSwap S T Tr x2).2.2, O))
def gL_bestSwap (S : CV) (T : TV) (Tr : TV) (O : (Nat → Int64)) (x2 : Int32) : Prop := (((fX5_bestSwap S T Tr x2).1 = none ∨ (fX5_bestSwap S T Tr x2).1 = some "java/util/NoSuchElementException") ∧ (if (fX5_bestSwap S T Tr x2).1 = none then ((vp_in 0 1) ∧ True) else True))
abbrev rmL_bestSwap : Room := { frames := 7, cells := 1, slots := 6, locals := 137 }
set_option maxHeartbeats 4000000 in
set_option maxRecDepth 100000 in
theorem kL_bestSwap (l : Launch) (D : va_G) (cI cC cT cJ cQ : ClassId) (x ot ou ov oh ox oy ot1 ot2 ou1 ou2 o : Nat) (S : CV) (T : TV) (Tr : TV) (O : (Nat → Int64)) (x2 : Int32) (hst : l.stackTraces = false) (hg : gL_bestSwap S T Tr O x2) : mL l D (TY5 cI cC cT cJ cQ) yL_bestSwap wsL_bestSwap rmL_bestSwap [.ref x, .int x2, .ref o] (w5 x ot ou ov oh ox oy S ++ w3 cI ot ot1 ot2 T ++ w3 cI ou ou1 ou2 Tr ++ [(o, .inl (cJ, 1, .inr (.inl O)))]) ((fL_bestSwap S T Tr O x2).1) (w5 x ot ou ov oh ox oy S ++ w3 cI ot ot1 ot2 T ++ w3 cI ou ou1 ou2 (fL_bestSwap S T Tr O x2).2.1 ++ [(o, .inl (cJ, 1, .inr (.inl (fL_bestSwap S T Tr O x2).2.2)))]) 1 := by
  refine mL.ofW (hh := [(0, 9, 12, 53)]) (cc := cL_bestSwap) (maxL := 4) (ret := (some .int)) (by decide) rfl (Nat.le_of_ble_eq_true rfl) ?_
  intro p e s m args below meth c Q ls A hx hb hml hr hlk hts hown hP hK hD hS hl hXE hXN htb hQ
  have hK3 := hK.sub (tys' := TY cI cC cT) [0, 1, 2] rfl
  have hown : s.vm.findClass RL = some m.cls := hown
  have hP : va_P D vwCl (w5 x ot ou ov oh ox oy S ++ w3 cI ot ot1 ot2 T ++ w3 cI ou ou1 ou2 Tr ++ [(o, .inl (cJ, 1, .inr (.inl O)))]) s.heap := hP
  have hD : va_D A (w5 x ot ou ov oh ox oy S ++ w3 cI ot ot1 ot2 T ++ w3 cI ou ou1 ou2 Tr ++ [(o, .inl (cJ, 1, .inr (.inl O)))]) := hD
  have hl : lv_has ls 4 [(0, .ref x), (1, .int x2), (2, .ref o)] := hl
  unfold gL_bestSwap at hg
  generalize hHe : s.heap = H at hP ⊢
  have hS : va_S A s.heap H [] := hHe ▸ hS
  generalize hLe : ([] : List Loc) = locs at hS ⊢
  refine lv_aload_n hx hb dL_bestSwap_0 rfl (lv_at hl 2 rfl) ?_
  refine lv_iconst (v := 0) hx hb dL_bestSwap_1 (by decide) ?_
  refine lv_aload_n hx hb dL_bestSwap_2 rfl (lv_at hl 0 rfl) ?_
  refine lv_iload_n hx hb dL_bestSwap_3 rfl (lv_at hl 1 rfl) ?_
  obtain ⟨n1, en1⟩ : ∃ z9, z9 = (fX5_bestSwap S T Tr x2) := ⟨_, rfl⟩
  try rw [← en1] at hg
  have k9 := (kX5_bestSwap l D cI cC cT x ot ou ov oh ox oy ot1 ot2 ou1 ou2 S T Tr x2 hst)
  rw [← en1] at k9
  obtain ⟨o1, hg⟩ := hg
  refine fXq (As := [.int x2]) (rest := [.int 0, .ref o]) (st' := [.int n1.2.1, .int 0, .ref o]) ⟨hx, hb, hml, hown, hts⟩ k9 (cwV 1 hts gL_bestSwap_X5_bestSwap rfl rfl rfl (by decide +kernel) ⟨Nat.le_of_ble_eq_true rfl, Nat.le_of_ble_eq_true rfl⟩) hP hK3 hD hS hXE ([(o, .inl (cJ, 1, .inr (.inl O)))] : va_W) (pmI (fun a => by simp only [cntW_app, cntW_nil] <;> omega)) (w5 x ot ou ov oh ox oy S ++ w3 cI ot ot1 ot2 T ++ w3 cI ou ou1 ou2 n1.2.2 ++ [(o, .inl (cJ, 1, .inr (.inl O)))]) (pmI (fun a => by simp only [cntW_app, cntW_nil] <;> omega)) rfl 0 (ci := 6) rfl rfl rfl rfl hl.1 rfl rfl (Nat.le_of_ble_eq_true rfl) ⟨Nat.le_of_ble_eq_true rfl, Nat.le_of_ble_eq_true rfl⟩ dL_bestSwap_4 (fun C9 ce9 q9 H locs hE9 hP hD hS hq9 hv9 hc9 => ?_) (fun H locs c_4 hP hD hS => ?_)
  · rcases o1 with h9 | h9
    · rw [hE9] at h9; cases h9
    · obtain rfl : C9 = "java/util/NoSuchElementException" := Option.some.inj (hE9.symm.trans h9)
      have c_4 : ¬ n1.1 = none := by rw [hE9]; exact fun z => nomatch z
      refine vx_catch hown [] ⟨0, 9, 12, 53⟩ [] htb (fun z hz => nomatch hz) rfl (by decide) (hts (Cond.classLink RL 53 "java/util/NoSuchElementException") (by decide +kernel)) (va_Nw.use rfl (hXE.1.1 _ (by decide +kernel))) hq9 hv9 hc9 ?_
      refine lv_astore_n (lv' := [(3, .ref q9), (0, .ref x), (1, .int x2), (2, .ref o)]) hx hb dL_bestSwap_12 rfl hl (by decide) rfl (fun ls hl => ?_)
      refine lv_iconst (v := 1) hx hb dL_bestSwap_13 (by decide) ?_
      have e9 : fL_bestSwap S T Tr O x2 = (1, n1.2.2, O) := by rw [fL_bestSwap, ← en1, if_neg c_4]
      exact rLi hx hb hr hlk hQ hP hS (by rw [e9]) (congrArg (fun z9 : (Int32 × TV × (Nat → Int64)) => (w5 x ot ou ov oh ox oy S ++ w3 cI ot ot1 ot2 T ++ w3 cI ou ou1 ou2 z9.2.1 ++ [(o, .inl (cJ, 1, .inr (.inl z9.2.2)))] : va_W)) e9).symm rfl ⟨Nat.le_of_ble_eq_true rfl, Nat.le_of_ble_eq_true rfl⟩ dL_bestSwap_14
  · rw [if_pos c_4] at hg
    refine lv_i2l (v := (n1.2.1.toInt64)) hx hb dL_bestSwap_7 rfl ?_
    obtain ⟨o2, hg⟩ := hg
    refine va_last hx hb hK hP hD hS 7 3 rfl rfl o2 dL_bestSwap_8 (fun H locs hP hD hS => ?_)
    have hP : va_P D vwCl (w5 x ot ou ov oh ox oy S ++ w3 cI ot ot1 ot2 T ++ w3 cI ou ou1 ou2 n1.2.2 ++ [(o, .inl (cJ, 1, .inr (.inl (vp_updL O (0 : Int32).toNatClampNeg (n1.2.1.toInt64)))))]) H := hP
    have hD : va_D A (w5 x ot ou ov oh ox oy S ++ w3 cI ot ot1 ot2 T ++ w3 cI ou ou1 ou2 n1.2.2 ++ [(o, .inl (cJ, 1, .inr (.inl (vp_updL O (0 : Int32).toNatClampNeg (n1.2.1.toInt64)))))]) := hD
    refine lv_goto (tgt := 15) hx hb dL_bestSwap_9 (by decide) ?_
    refine lv_iconst (v := 0) hx hb dL_bestSwap_15 (by decide) ?_
    have e9 : fL_bestSwap S T Tr O x2 = (0, n1.2.2, (vp_updL O (0 : Int32).toNatClampNeg (n1.2.1.toInt64))) := by rw [fL_bestSwap, ← en1, if_pos c_4]
    exact rLi hx hb hr hlk hQ hP hS (by rw [e9]) (congrArg (fun z9 : (Int32 × TV × (Nat → Int64)) => (w5 x ot ou ov oh ox oy S ++ w3 cI ot ot1 ot2 T ++ w3 cI ou ou1 ou2 z9.2.1 ++ [(o, .inl (cJ, 1, .inr (.inl z9.2.2)))] : va_W)) e9).symm rfl ⟨Nat.le_of_ble_eq_true rfl, Nat.le_of_ble_eq_true rfl⟩ dL_bestSwap_16
def fL_coin (S : CV) (T : TV) (Hs : HV) (G : (Nat → TV)) (O : (Nat → Int64)) (x2 : Int32) : (Int32 × CV × TV × HV × (Nat → TV) × (Nat → Int64)) := (if (fX5_coin S T Hs G x2).1 = none then (0, (fX5_coin S T Hs G x2).2.2.1, (fX5_coin S T Hs G x2).2.2.2.1, (fX5_coin S T Hs G x2).2.2.2.2.1, (fX5_coin S T Hs G x2).2.2.2.2.2, (vp_updL O (0 : Int32).toNatClampNeg ((fX5_coin S T Hs G x2).2.1.toInt64))) else (if (fX5_coin S T Hs G x2).1 = some "java/lang/IndexOutOfBoundsException" then (1, (fX5_coin S T Hs G x2).2.2.1, (fX5_coin S T Hs G x2).2.2.2.1, (fX5_coin S T Hs G x2).2.2.2.2.1, (fX5_coin S T Hs G x2).2.2.2.2.2, O) else (2, (fX5_coin S T Hs G x2).2.2.1, (fX5_coin S T Hs G x2).2.2.2.1, (fX5_coin S T Hs G x2).2.2.2.2.1, (fX5_coin S T Hs G x2).2.2.2.2.2, O)))
def gL_coin (S : CV) (T : TV) (Hs : HV) (G : (Nat → TV)) (O : (Nat → Int64)) (x2 : Int32) : Prop := (((fX5_coin S T Hs G x2).1 = none ∨ (fX5_coin S T Hs G x2).1 = some "java/lang/IndexOutOfBoundsException" ∨ (fX5_coin S T Hs G x2).1 = some "java/lang/UnsupportedOperationException") ∧ (if (fX5_coin S T Hs G x2).1 = none then ((vp_in 0 1) ∧ True) else True))
abbrev rmL_coin : Room := { frames := 8, cells := 1, slots := 6, locals := 128 }
set_option maxHeartbeats 4000000 in
set_option maxRecDepth 100000 in
theorem kL_coin (l : Launch) (D : va_G) (cI cC cT cJ cQ : ClassId) (x ot ou ov oh ox oy ot1 ot2 rr o : Nat) (ra rb rc : Nat → Nat) (S : CV) (T : TV) (Hs : HV) (G : (Nat → TV)) (O : (Nat → Int64)) (x2 : Int32) (hst : l.stackTraces = false) (hn : ∃ j : Nat, j < 9 ∧ Hs.1 = nI j) (hg : gL_coin S T Hs G O x2) : mL l D (TY5 cI cC cT cJ cQ) yL_coin wsL_coin rmL_coin [.ref x, .int x2, .ref o] (w5 x ot ou ov oh ox oy S ++ w3 cI ot ot1 ot2 T ++ w1 oh rr Hs ++ wR cI cT rr ra rb rc G ++ [(o, .inl (cJ, 1, .inr (.inl O)))]) ((fL_coin S T Hs G O x2).1) (w5 x ot ou ov oh ox oy (fL_coin S T Hs G O x2).2.1 ++ w3 cI ot ot1 ot2 (fL_coin S T Hs G O x2).2.2.1 ++ w1 oh rr (fL_coin S T Hs G O x2).2.2.2.1 ++ wR cI cT rr ra rb rc (fL_coin S T Hs G O x2).2.2.2.2.1 ++ [(o, .inl (cJ, 1, .inr (.inl (fL_coin S T Hs G O x2).2.2.2.2.2)))]) 1 := by
  refine mL.ofW (hh := [(0, 9, 12, 28), (0, 9, 15, 15)]) (cc := cL_coin) (maxL := 4) (ret := (some .int)) (by decide) rfl (Nat.le_of_ble_eq_true rfl) ?_
  intro p e s m args below meth c Q ls A hx hb hml hr hlk hts hown hP hK hD hS hl hXE hXN htb hQ
  have hK3 := hK.sub (tys' := TY cI cC cT) [0, 1, 2] rfl
  have hown : s.vm.findClass RL = some m.cls := hown
  have hP : va_P D vwCl (w5 x ot ou ov oh ox oy S ++ w3 cI ot ot1 ot2 T ++ w1 oh rr Hs ++ wR cI cT rr ra rb rc G ++ [(o, .inl (cJ, 1, .inr (.inl O)))]) s.heap := hP
  have hD : va_D A (w5 x ot ou ov oh ox oy S ++ w3 cI ot ot1 ot2 T ++ w1 oh rr Hs ++ wR cI cT rr ra rb rc G ++ [(o, .inl (cJ, 1, .inr (.inl O)))]) := hD
  have hl : lv_has ls 4 [(0, .ref x), (1, .int x2), (2, .ref o)] := hl
  unfold gL_coin at hg
  generalize hHe : s.heap = H at hP ⊢
  have hS : va_S A s.heap H [] := hHe ▸ hS
  generalize hLe : ([] : List Loc) = locs at hS ⊢
  refine lv_aload_n hx hb dL_coin_0 rfl (lv_at hl 2 rfl) ?_
  refine lv_iconst (v := 0) hx hb dL_coin_1 (by decide) ?_
  refine lv_aload_n hx hb dL_coin_2 rfl (lv_at hl 0 rfl) ?_
  refine lv_iload_n hx hb dL_coin_3 rfl (lv_at hl 1 rfl) ?_
  obtain ⟨n1, en1⟩ : ∃ z9, z9 = (fX5_coin S T Hs G x2) := ⟨_, rfl⟩
  try rw [← en1] at hg
  have k9 := (kX5_coin l D cI cC cT x ot ou ov oh ox oy ot1 ot2 rr ra rb rc S T Hs G x2 hst hn)
  rw [← en1] at k9
  obtain ⟨o1, hg⟩ := hg
  refine fXq (As := [.int x2]) (rest := [.int 0, .ref o]) (st' := [.int n1.2.1, .int 0, .ref o]) ⟨hx, hb, hml, hown, hts⟩ k9 (cwV 1 hts gL_coin_X5_coin rfl rfl rfl (by decide +kernel) ⟨Nat.le_of_ble_eq_true rfl, Nat.le_of_ble_eq_true rfl⟩) hP hK3 hD hS hXE ([(o, .inl (cJ, 1, .inr (.inl O)))] : va_W) (pmI (fun a => by simp only [cntW_app, cntW_nil] <;> omega)) (w5 x ot ou ov oh ox oy n1.2.2.1 ++ w3 cI ot ot1 ot2 n1.2.2.2.1 ++ w1 oh rr n1.2.2.2.2.1 ++ wR cI cT rr ra rb rc n1.2.2.2.2.2 ++ [(o, .inl (cJ, 1, .inr (.inl O)))]) (pmI (fun a => by simp only [cntW_app, cntW_nil] <;> omega)) rfl 0 (ci := 6) rfl rfl rfl rfl hl.1 rfl rfl (Nat.le_of_ble_eq_true rfl) ⟨Nat.le_of_ble_eq_true rfl, Nat.le_of_ble_eq_true rfl⟩ dL_coin_4 (fun C9 ce9 q9 H locs hE9 hP hD hS hq9 hv9 hc9 => ?_) (fun H locs c_4 hP hD hS => ?_)
  · rcases o1 with h9 | h9 | h9
    · rw [hE9] at h9; cases h9
    · obtain rfl : C9 = "java/lang/IndexOutOfBoundsException" := Option.some.inj (hE9.symm.trans h9)
      have c_4 : ¬ n1.1 = none := by rw [hE9]; exact fun z => nomatch z
      have c_4_0 : n1.1 = some "java/lang/IndexOutOfBoundsException" := h9
      refine vx_catch hown [] ⟨0, 9, 12, 28⟩ [⟨0, 9, 15, 15⟩] htb (fun z hz => nomatch hz) rfl (by decide) (hts (Cond.classLink RL 28 "java/lang/IndexOutOfBoundsException") (by decide +kernel)) (va_Nw.use rfl (hXE.1.1 _ (by decide +kernel))) hq9 hv9 hc9 ?_
      refine lv_astore_n (lv' := [(3, .ref q9), (0, .ref x), (1, .int x2), (2, .ref o)]) hx hb dL_coin_12 rfl hl (by decide) rfl (fun ls hl => ?_)
      refine lv_iconst (v := 1) hx hb dL_coin_13 (by decide) ?_
      have e9 : fL_coin S T Hs G O x2 = (1, n1.2.2.1, n1.2.2.2.1, n1.2.2.2.2.1, n1.2.2.2.2.2, O) := by rw [fL_coin, ← en1, if_neg c_4, if_pos c_4_0]
      exact rLi hx hb hr hlk hQ hP hS (by rw [e9]) (congrArg (fun z9 : (Int32 × CV × TV × HV × (Nat → TV) × (Nat → Int64)) => (w5 x ot ou ov oh ox oy z9.2.1 ++ w3 cI ot ot1 ot2 z9.2.2.1 ++ w1 oh rr z9.2.2.2.1 ++ wR cI cT rr ra rb rc z9.2.2.2.2.1 ++ [(o, .inl (cJ, 1, .inr (.inl z9.2.2.2.2.2)))] : va_W)) e9).symm rfl ⟨Nat.le_of_ble_eq_true rfl, Nat.le_of_ble_eq_true rfl⟩ dL_coin_14
    · obtain rfl : C9 = "java/lang/UnsupportedOperationException" := Option.some.inj (hE9.symm.trans h9)
      have c_4 : ¬ n1.1 = none := by rw [hE9]; exact fun z => nomatch z
      have c_4_0 : ¬ n1.1 = some "java/lang/IndexOutOfBoundsException" := by rw [h9]; decide
      refine vx_catch hown [⟨0, 9, 12, 28⟩] ⟨0, 9, 15, 15⟩ [] htb (List.forall_mem_cons.mpr ⟨Or.inr ⟨by decide, "java/lang/IndexOutOfBoundsException", hts (Cond.classLink RL 28 "java/lang/IndexOutOfBoundsException") (by decide +kernel), hXN.2.1⟩, (fun z hz => nomatch hz)⟩) rfl (by decide) (hts (Cond.classLink RL 15 "java/lang/UnsupportedOperationException") (by decide +kernel)) (va_Nw.use rfl (hXE.1.1 _ (by decide +kernel))) hq9 hv9 hc9 ?_
      refine lv_astore_n (lv' := [(3, .ref q9), (0, .ref x), (1, .int x2), (2, .ref o)]) hx hb dL_coin_15 rfl hl (by decide) rfl (fun ls hl => ?_)
      refine lv_iconst (v := 2) hx hb dL_coin_16 (by decide) ?_
      have e9 : fL_coin S T Hs G O x2 = (2, n1.2.2.1, n1.2.2.2.1, n1.2.2.2.2.1, n1.2.2.2.2.2, O) := by rw [fL_coin, ← en1, if_neg c_4, if_neg c_4_0]
      exact rLi hx hb hr hlk hQ hP hS (by rw [e9]) (congrArg (fun z9 : (Int32 × CV × TV × HV × (Nat → TV) × (Nat → Int64)) => (w5 x ot ou ov oh ox oy z9.2.1 ++ w3 cI ot ot1 ot2 z9.2.2.1 ++ w1 oh rr z9.2.2.2.1 ++ wR cI cT rr ra rb rc z9.2.2.2.2.1 ++ [(o, .inl (cJ, 1, .inr (.inl z9.2.2.2.2.2)))] : va_W)) e9).symm rfl ⟨Nat.le_of_ble_eq_true rfl, Nat.le_of_ble_eq_true rfl⟩ dL_coin_17
  · rw [if_pos c_4] at hg
    refine lv_i2l (v := (n1.2.1.toInt64)) hx hb dL_coin_7 rfl ?_
    obtain ⟨o2, hg⟩ := hg
    refine va_last hx hb hK hP hD hS 33 3 rfl rfl o2 dL_coin_8 (fun H locs hP hD hS => ?_)
    have hP : va_P D vwCl (w5 x ot ou ov oh ox oy n1.2.2.1 ++ w3 cI ot ot1 ot2 n1.2.2.2.1 ++ w1 oh rr n1.2.2.2.2.1 ++ wR cI cT rr ra rb rc n1.2.2.2.2.2 ++ [(o, .inl (cJ, 1, .inr (.inl (vp_updL O (0 : Int32).toNatClampNeg (n1.2.1.toInt64)))))]) H := hP
    have hD : va_D A (w5 x ot ou ov oh ox oy n1.2.2.1 ++ w3 cI ot ot1 ot2 n1.2.2.2.1 ++ w1 oh rr n1.2.2.2.2.1 ++ wR cI cT rr ra rb rc n1.2.2.2.2.2 ++ [(o, .inl (cJ, 1, .inr (.inl (vp_updL O (0 : Int32).toNatClampNeg (n1.2.1.toInt64)))))]) := hD
    refine lv_goto (tgt := 18) hx hb dL_coin_9 (by decide) ?_
    refine lv_iconst (v := 0) hx hb dL_coin_18 (by decide) ?_
    have e9 : fL_coin S T Hs G O x2 = (0, n1.2.2.1, n1.2.2.2.1, n1.2.2.2.2.1, n1.2.2.2.2.2, (vp_updL O (0 : Int32).toNatClampNeg (n1.2.1.toInt64))) := by rw [fL_coin, ← en1, if_pos c_4]
    exact rLi hx hb hr hlk hQ hP hS (by rw [e9]) (congrArg (fun z9 : (Int32 × CV × TV × HV × (Nat → TV) × (Nat → Int64)) => (w5 x ot ou ov oh ox oy z9.2.1 ++ w3 cI ot ot1 ot2 z9.2.2.1 ++ w1 oh rr z9.2.2.2.1 ++ wR cI cT rr ra rb rc z9.2.2.2.2.1 ++ [(o, .inl (cJ, 1, .inr (.inl z9.2.2.2.2.2)))] : va_W)) e9).symm rfl ⟨Nat.le_of_ble_eq_true rfl, Nat.le_of_ble_eq_true rfl⟩ dL_coin_19
def fL_takeCoin (S : CV) (T : TV) (Hs : HV) (G : (Nat → TV)) (O : (Nat → Int64)) (x2 : Int32) : (Int32 × CV × TV × HV × (Nat → TV) × (Nat → Int64)) := (if (fX5_takeCoin S T Hs G x2).1 = none then (0, (fX5_takeCoin S T Hs G x2).2.2.1, (fX5_takeCoin S T Hs G x2).2.2.2.1, (fX5_takeCoin S T Hs G x2).2.2.2.2.1, (fX5_takeCoin S T Hs G x2).2.2.2.2.2, (vp_updL O (0 : Int32).toNatClampNeg ((fX5_takeCoin S T Hs G x2).2.1.toInt64))) else (if (fX5_takeCoin S T Hs G x2).1 = some "java/lang/IndexOutOfBoundsException" then (1, (fX5_takeCoin S T Hs G x2).2.2.1, (fX5_takeCoin S T Hs G x2).2.2.2.1, (fX5_takeCoin S T Hs G x2).2.2.2.2.1, (fX5_takeCoin S T Hs G x2).2.2.2.2.2, O) else (2, (fX5_takeCoin S T Hs G x2).2.2.1, (fX5_takeCoin S T Hs G x2).2.2.2.1, (fX5_takeCoin S T Hs G x2).2.2.2.2.1, (fX5_takeCoin S T Hs G x2).2.2.2.2.2, O)))
def gL_takeCoin (S : CV) (T : TV) (Hs : HV) (G : (Nat → TV)) (O : (Nat → Int64)) (x2 : Int32) : Prop := (((fX5_takeCoin S T Hs G x2).1 = none ∨ (fX5_takeCoin S T Hs G x2).1 = some "java/lang/IndexOutOfBoundsException" ∨ (fX5_takeCoin S T Hs G x2).1 = some "java/lang/UnsupportedOperationException") ∧ (if (fX5_takeCoin S T Hs G x2).1 = none then ((vp_in 0 1) ∧ True) else True))
abbrev rmL_takeCoin : Room := { frames := 8, cells := 1, slots := 6, locals := 128 }
set_option maxHeartbeats 4000000 in
set_option maxRecDepth 100000 in
theorem kL_takeCoin (l : Launch) (D : va_G) (cI cC cT cJ cQ : ClassId) (x ot ou ov oh ox oy ot1 ot2 rr o : Nat) (ra rb rc : Nat → Nat) (S : CV) (T : TV) (Hs : HV) (G : (Nat → TV)) (O : (Nat → Int64)) (x2 : Int32) (hst : l.stackTraces = false) (hn : ∃ j : Nat, j < 9 ∧ Hs.1 = nI j) (hg : gL_takeCoin S T Hs G O x2) : mL l D (TY5 cI cC cT cJ cQ) yL_takeCoin wsL_takeCoin rmL_takeCoin [.ref x, .int x2, .ref o] (w5 x ot ou ov oh ox oy S ++ w3 cI ot ot1 ot2 T ++ w1 oh rr Hs ++ wR cI cT rr ra rb rc G ++ [(o, .inl (cJ, 1, .inr (.inl O)))]) ((fL_takeCoin S T Hs G O x2).1) (w5 x ot ou ov oh ox oy (fL_takeCoin S T Hs G O x2).2.1 ++ w3 cI ot ot1 ot2 (fL_takeCoin S T Hs G O x2).2.2.1 ++ w1 oh rr (fL_takeCoin S T Hs G O x2).2.2.2.1 ++ wR cI cT rr ra rb rc (fL_takeCoin S T Hs G O x2).2.2.2.2.1 ++ [(o, .inl (cJ, 1, .inr (.inl (fL_takeCoin S T Hs G O x2).2.2.2.2.2)))]) 1 := by
  refine mL.ofW (hh := [(0, 9, 12, 28), (0, 9, 15, 15)]) (cc := cL_takeCoin) (maxL := 4) (ret := (some .int)) (by decide) rfl (Nat.le_of_ble_eq_true rfl) ?_
  intro p e s m args below meth c Q ls A hx hb hml hr hlk hts hown hP hK hD hS hl hXE hXN htb hQ
  have hK3 := hK.sub (tys' := TY cI cC cT) [0, 1, 2] rfl
  have hown : s.vm.findClass RL = some m.cls := hown
  have hP : va_P D vwCl (w5 x ot ou ov oh ox oy S ++ w3 cI ot ot1 ot2 T ++ w1 oh rr Hs ++ wR cI cT rr ra rb rc G ++ [(o, .inl (cJ, 1, .inr (.inl O)))]) s.heap := hP
  have hD : va_D A (w5 x ot ou ov oh ox oy S ++ w3 cI ot ot1 ot2 T ++ w1 oh rr Hs ++ wR cI cT rr ra rb rc G ++ [(o, .inl (cJ, 1, .inr (.inl O)))]) := hD
  have hl : lv_has ls 4 [(0, .ref x), (1, .int x2), (2, .ref o)] := hl
  unfold gL_takeCoin at hg
  generalize hHe : s.heap = H at hP ⊢
  have hS : va_S A s.heap H [] := hHe ▸ hS
  generalize hLe : ([] : List Loc) = locs at hS ⊢
  refine lv_aload_n hx hb dL_takeCoin_0 rfl (lv_at hl 2 rfl) ?_
  refine lv_iconst (v := 0) hx hb dL_takeCoin_1 (by decide) ?_
  refine lv_aload_n hx hb dL_takeCoin_2 rfl (lv_at hl 0 rfl) ?_
  refine lv_iload_n hx hb dL_takeCoin_3 rfl (lv_at hl 1 rfl) ?_
  obtain ⟨n1, en1⟩ : ∃ z9, z9 = (fX5_takeCoin S T Hs G x2) := ⟨_, rfl⟩
  try rw [← en1] at hg
  have k9 := (kX5_takeCoin l D cI cC cT x ot ou ov oh ox oy ot1 ot2 rr ra rb rc S T Hs G x2 hst hn)
  rw [← en1] at k9
  obtain ⟨o1, hg⟩ := hg
  refine fXq (As := [.int x2]) (rest := [.int 0, .ref o]) (st' := [.int n1.2.1, .int 0, .ref o]) ⟨hx, hb, hml, hown, hts⟩ k9 (cwV 1 hts gL_takeCoin_X5_takeCoin rfl rfl rfl (by decide +kernel) ⟨Nat.le_of_ble_eq_true rfl, Nat.le_of_ble_eq_true rfl⟩) hP hK3 hD hS hXE ([(o, .inl (cJ, 1, .inr (.inl O)))] : va_W) (pmI (fun a => by simp only [cntW_app, cntW_nil] <;> omega)) (w5 x ot ou ov oh ox oy n1.2.2.1 ++ w3 cI ot ot1 ot2 n1.2.2.2.1 ++ w1 oh rr n1.2.2.2.2.1 ++ wR cI cT rr ra rb rc n1.2.2.2.2.2 ++ [(o, .inl (cJ, 1, .inr (.inl O)))]) (pmI (fun a => by simp only [cntW_app, cntW_nil] <;> omega)) rfl 0 (ci := 6) rfl rfl rfl rfl hl.1 rfl rfl (Nat.le_of_ble_eq_true rfl) ⟨Nat.le_of_ble_eq_true rfl, Nat.le_of_ble_eq_true rfl⟩ dL_takeCoin_4 (fun C9 ce9 q9 H locs hE9 hP hD hS hq9 hv9 hc9 => ?_) (fun H locs c_4 hP hD hS => ?_)
  · rcases o1 with h9 | h9 | h9
    · rw [hE9] at h9; cases h9
    · obtain rfl : C9 = "java/lang/IndexOutOfBoundsException" := Option.some.inj (hE9.symm.trans h9)
      have c_4 : ¬ n1.1 = none := by rw [hE9]; exact fun z => nomatch z
      have c_4_0 : n1.1 = some "java/lang/IndexOutOfBoundsException" := h9
      refine vx_catch hown [] ⟨0, 9, 12, 28⟩ [⟨0, 9, 15, 15⟩] htb (fun z hz => nomatch hz) rfl (by decide) (hts (Cond.classLink RL 28 "java/lang/IndexOutOfBoundsException") (by decide +kernel)) (va_Nw.use rfl (hXE.1.1 _ (by decide +kernel))) hq9 hv9 hc9 ?_
      refine lv_astore_n (lv' := [(3, .ref q9), (0, .ref x), (1, .int x2), (2, .ref o)]) hx hb dL_takeCoin_12 rfl hl (by decide) rfl (fun ls hl => ?_)
      refine lv_iconst (v := 1) hx hb dL_takeCoin_13 (by decide) ?_
      have e9 : fL_takeCoin S T Hs G O x2 = (1, n1.2.2.1, n1.2.2.2.1, n1.2.2.2.2.1, n1.2.2.2.2.2, O) := by rw [fL_takeCoin, ← en1, if_neg c_4, if_pos c_4_0]
      exact rLi hx hb hr hlk hQ hP hS (by rw [e9]) (congrArg (fun z9 : (Int32 × CV × TV × HV × (Nat → TV) × (Nat → Int64)) => (w5 x ot ou ov oh ox oy z9.2.1 ++ w3 cI ot ot1 ot2 z9.2.2.1 ++ w1 oh rr z9.2.2.2.1 ++ wR cI cT rr ra rb rc z9.2.2.2.2.1 ++ [(o, .inl (cJ, 1, .inr (.inl z9.2.2.2.2.2)))] : va_W)) e9).symm rfl ⟨Nat.le_of_ble_eq_true rfl, Nat.le_of_ble_eq_true rfl⟩ dL_takeCoin_14
    · obtain rfl : C9 = "java/lang/UnsupportedOperationException" := Option.some.inj (hE9.symm.trans h9)
      have c_4 : ¬ n1.1 = none := by rw [hE9]; exact fun z => nomatch z
      have c_4_0 : ¬ n1.1 = some "java/lang/IndexOutOfBoundsException" := by rw [h9]; decide
      refine vx_catch hown [⟨0, 9, 12, 28⟩] ⟨0, 9, 15, 15⟩ [] htb (List.forall_mem_cons.mpr ⟨Or.inr ⟨by decide, "java/lang/IndexOutOfBoundsException", hts (Cond.classLink RL 28 "java/lang/IndexOutOfBoundsException") (by decide +kernel), hXN.2.1⟩, (fun z hz => nomatch hz)⟩) rfl (by decide) (hts (Cond.classLink RL 15 "java/lang/UnsupportedOperationException") (by decide +kernel)) (va_Nw.use rfl (hXE.1.1 _ (by decide +kernel))) hq9 hv9 hc9 ?_
      refine lv_astore_n (lv' := [(3, .ref q9), (0, .ref x), (1, .int x2), (2, .ref o)]) hx hb dL_takeCoin_15 rfl hl (by decide) rfl (fun ls hl => ?_)
      refine lv_iconst (v := 2) hx hb dL_takeCoin_16 (by decide) ?_
      have e9 : fL_takeCoin S T Hs G O x2 = (2, n1.2.2.1, n1.2.2.2.1, n1.2.2.2.2.1, n1.2.2.2.2.2, O) := by rw [fL_takeCoin, ← en1, if_neg c_4, if_neg c_4_0]
      exact rLi hx hb hr hlk hQ hP hS (by rw [e9]) (congrArg (fun z9 : (Int32 × CV × TV × HV × (Nat → TV) × (Nat → Int64)) => (w5 x ot ou ov oh ox oy z9.2.1 ++ w3 cI ot ot1 ot2 z9.2.2.1 ++ w1 oh rr z9.2.2.2.1 ++ wR cI cT rr ra rb rc z9.2.2.2.2.1 ++ [(o, .inl (cJ, 1, .inr (.inl z9.2.2.2.2.2)))] : va_W)) e9).symm rfl ⟨Nat.le_of_ble_eq_true rfl, Nat.le_of_ble_eq_true rfl⟩ dL_takeCoin_17
  · rw [if_pos c_4] at hg
    refine lv_i2l (v := (n1.2.1.toInt64)) hx hb dL_takeCoin_7 rfl ?_
    obtain ⟨o2, hg⟩ := hg
    refine va_last hx hb hK hP hD hS 33 3 rfl rfl o2 dL_takeCoin_8 (fun H locs hP hD hS => ?_)
    have hP : va_P D vwCl (w5 x ot ou ov oh ox oy n1.2.2.1 ++ w3 cI ot ot1 ot2 n1.2.2.2.1 ++ w1 oh rr n1.2.2.2.2.1 ++ wR cI cT rr ra rb rc n1.2.2.2.2.2 ++ [(o, .inl (cJ, 1, .inr (.inl (vp_updL O (0 : Int32).toNatClampNeg (n1.2.1.toInt64)))))]) H := hP
    have hD : va_D A (w5 x ot ou ov oh ox oy n1.2.2.1 ++ w3 cI ot ot1 ot2 n1.2.2.2.1 ++ w1 oh rr n1.2.2.2.2.1 ++ wR cI cT rr ra rb rc n1.2.2.2.2.2 ++ [(o, .inl (cJ, 1, .inr (.inl (vp_updL O (0 : Int32).toNatClampNeg (n1.2.1.toInt64)))))]) := hD
    refine lv_goto (tgt := 18) hx hb dL_takeCoin_9 (by decide) ?_
    refine lv_iconst (v := 0) hx hb dL_takeCoin_18 (by decide) ?_
    have e9 : fL_takeCoin S T Hs G O x2 = (0, n1.2.2.1, n1.2.2.2.1, n1.2.2.2.2.1, n1.2.2.2.2.2, (vp_updL O (0 : Int32).toNatClampNeg (n1.2.1.toInt64))) := by rw [fL_takeCoin, ← en1, if_pos c_4]
    exact rLi hx hb hr hlk hQ hP hS (by rw [e9]) (congrArg (fun z9 : (Int32 × CV × TV × HV × (Nat → TV) × (Nat → Int64)) => (w5 x ot ou ov oh ox oy z9.2.1 ++ w3 cI ot ot1 ot2 z9.2.2.1 ++ w1 oh rr z9.2.2.2.1 ++ wR cI cT rr ra rb rc z9.2.2.2.2.1 ++ [(o, .inl (cJ, 1, .inr (.inl z9.2.2.2.2.2)))] : va_W)) e9).symm rfl ⟨Nat.le_of_ble_eq_true rfl, Nat.le_of_ble_eq_true rfl⟩ dL_takeCoin_19
def fL_tilt (S : CV) (T : TV) (O : (Nat → UInt64)) (x2 : Int32) : (Int32 × (Nat → UInt64)) := (if (fX5_tilt S T x2).1 = none then (0, (vf_upd O (0 : Int32).toNatClampNeg (FP.f2d (fX5_tilt S T x2).2))) else (1, O))
def gL_tilt (S : CV) (T : TV) (O : (Nat → UInt64)) (x2 : Int32) : Prop := (((fX5_tilt S T x2).1 = none ∨ (fX5_tilt S T x2).1 = some "java/lang/IndexOutOfBoundsException") ∧ (if (fX5_tilt S T x2).1 = none then ((vf_n64 (FP.f2d (fX5_tilt S T x2).2)) ∧ (vp_in 0 1) ∧ True) else True))
abbrev rmL_tilt : Room := { frames := 8, cells := 1, slots := 6, locals := 124 }
set_option maxHeartbeats 4000000 in
set_option maxRecDepth 100000 in
theorem kL_tilt (l : Launch) (D : va_G) (cI cC cT cJ cQ : ClassId) (x ot ou ov oh ox oy ot1 ot2 o : Nat) (S : CV) (T : TV) (O : (Nat → UInt64)) (x2 : Int32) (hst : l.stackTraces = false) (hg : gL_tilt S T O x2) : mL l D (TY5 cI cC cT cJ cQ) yL_tilt wsL_tilt rmL_tilt [.ref x, .int x2, .ref o] (w5 x ot ou ov oh ox oy S ++ w3 cI ot ot1 ot2 T ++ [(o, .inl (cQ, 1, .inr (.inr (.inr (.inl O)))))]) ((fL_tilt S T O x2).1) (w5 x ot ou ov oh ox oy S ++ w3 cI ot ot1 ot2 T ++ [(o, .inl (cQ, 1, .inr (.inr (.inr (.inl (fL_tilt S T O x2).2)))))]) 1 := by
  refine mL.ofW (hh := [(0, 9, 12, 28)]) (cc := cL_tilt) (maxL := 4) (ret := (some .int)) (by decide) rfl (Nat.le_of_ble_eq_true rfl) ?_
  intro p e s m args below meth c Q ls A hx hb hml hr hlk hts hown hP hK hD hS hl hXE hXN htb hQ
  have hK3 := hK.sub (tys' := TY cI cC cT) [0, 1, 2] rfl
  have hown : s.vm.findClass RL = some m.cls := hown
  have hP : va_P D vwCl (w5 x ot ou ov oh ox oy S ++ w3 cI ot ot1 ot2 T ++ [(o, .inl (cQ, 1, .inr (.inr (.inr (.inl O)))))]) s.heap := hP
  have hD : va_D A (w5 x ot ou ov oh ox oy S ++ w3 cI ot ot1 ot2 T ++ [(o, .inl (cQ, 1, .inr (.inr (.inr (.inl O)))))]) := hD
  have hl : lv_has ls 4 [(0, .ref x), (1, .int x2), (2, .ref o)] := hl
  unfold gL_tilt at hg
  generalize hHe : s.heap = H at hP ⊢
  have hS : va_S A s.heap H [] := hHe ▸ hS
  generalize hLe : ([] : List Loc) = locs at hS ⊢
  refine lv_aload_n hx hb dL_tilt_0 rfl (lv_at hl 2 rfl) ?_
  refine lv_iconst (v := 0) hx hb dL_tilt_1 (by decide) ?_
  refine lv_aload_n hx hb dL_tilt_2 rfl (lv_at hl 0 rfl) ?_
  refine lv_iload_n hx hb dL_tilt_3 rfl (lv_at hl 1 rfl) ?_
  obtain ⟨n1, en1⟩ : ∃ z9, z9 = (fX5_tilt S T x2) := ⟨_, rfl⟩
  try rw [← en1] at hg
  have k9 := (kX5_tilt l D cI cC cT x ot ou ov oh ox oy ot1 ot2 S T x2 hst)
  rw [← en1] at k9
  obtain ⟨o1, hg⟩ := hg
  refine fXq (As := [.int x2]) (rest := [.int 0, .ref o]) (st' := [.float n1.2, .int 0, .ref o]) ⟨hx, hb, hml, hown, hts⟩ k9 (cwV 1 hts gL_tilt_X5_tilt rfl rfl rfl (by decide +kernel) ⟨Nat.le_of_ble_eq_true rfl, Nat.le_of_ble_eq_true rfl⟩) hP hK3 hD hS hXE ([(o, .inl (cQ, 1, .inr (.inr (.inr (.inl O)))))] : va_W) (pmI (fun a => by simp only [cntW_app, cntW_nil] <;> omega)) (w5 x ot ou ov oh ox oy S ++ w3 cI ot ot1 ot2 T ++ [(o, .inl (cQ, 1, .inr (.inr (.inr (.inl O)))))]) (pmI (fun a => by simp only [cntW_app, cntW_nil] <;> omega)) rfl 0 (ci := 6) rfl rfl rfl rfl hl.1 rfl rfl (Nat.le_of_ble_eq_true rfl) ⟨Nat.le_of_ble_eq_true rfl, Nat.le_of_ble_eq_true rfl⟩ dL_tilt_4 (fun C9 ce9 q9 H locs hE9 hP hD hS hq9 hv9 hc9 => ?_) (fun H locs c_4 hP hD hS => ?_)
  · rcases o1 with h9 | h9
    · rw [hE9] at h9; cases h9
    · obtain rfl : C9 = "java/lang/IndexOutOfBoundsException" := Option.some.inj (hE9.symm.trans h9)
      have c_4 : ¬ n1.1 = none := by rw [hE9]; exact fun z => nomatch z
      refine vx_catch hown [] ⟨0, 9, 12, 28⟩ [] htb (fun z hz => nomatch hz) rfl (by decide) (hts (Cond.classLink RL 28 "java/lang/IndexOutOfBoundsException") (by decide +kernel)) (va_Nw.use rfl (hXE.1.1 _ (by decide +kernel))) hq9 hv9 hc9 ?_
      refine lv_astore_n (lv' := [(3, .ref q9), (0, .ref x), (1, .int x2), (2, .ref o)]) hx hb dL_tilt_12 rfl hl (by decide) rfl (fun ls hl => ?_)
      refine lv_iconst (v := 1) hx hb dL_tilt_13 (by decide) ?_
      have e9 : fL_tilt S T O x2 = (1, O) := by rw [fL_tilt, ← en1, if_neg c_4]
      exact rLi hx hb hr hlk hQ hP hS (by rw [e9]) (congrArg (fun z9 : (Int32 × (Nat → UInt64)) => (w5 x ot ou ov oh ox oy S ++ w3 cI ot ot1 ot2 T ++ [(o, .inl (cQ, 1, .inr (.inr (.inr (.inl z9.2)))))] : va_W)) e9).symm rfl ⟨Nat.le_of_ble_eq_true rfl, Nat.le_of_ble_eq_true rfl⟩ dL_tilt_14
  · rw [if_pos c_4] at hg
    obtain ⟨o2, hg⟩ := hg
    refine lv_f2d hx hb dL_tilt_7 o2 ?_
    obtain ⟨o3, hg⟩ := hg
    refine va_dast hx hb hK hP hD hS 4 4 rfl rfl o3 dL_tilt_8 (fun H locs hP hD hS => ?_)
    have hP : va_P D vwCl (w5 x ot ou ov oh ox oy S ++ w3 cI ot ot1 ot2 T ++ [(o, .inl (cQ, 1, .inr (.inr (.inr (.inl (vf_upd O (0 : Int32).toNatClampNeg (FP.f2d n1.2)))))))]) H := hP
    have hD : va_D A (w5 x ot ou ov oh ox oy S ++ w3 cI ot ot1 ot2 T ++ [(o, .inl (cQ, 1, .inr (.inr (.inr (.inl (vf_upd O (0 : Int32).toNatClampNeg (FP.f2d n1.2)))))))]) := hD
    refine lv_goto (tgt := 15) hx hb dL_tilt_9 (by decide) ?_
    refine lv_iconst (v := 0) hx hb dL_tilt_15 (by decide) ?_
    have e9 : fL_tilt S T O x2 = (0, (vf_upd O (0 : Int32).toNatClampNeg (FP.f2d n1.2))) := by rw [fL_tilt, ← en1, if_pos c_4]
    exact rLi hx hb hr hlk hQ hP hS (by rw [e9]) (congrArg (fun z9 : (Int32 × (Nat → UInt64)) => (w5 x ot ou ov oh ox oy S ++ w3 cI ot ot1 ot2 T ++ [(o, .inl (cQ, 1, .inr (.inr (.inr (.inl z9.2)))))] : va_W)) e9).symm rfl ⟨Nat.le_of_ble_eq_true rfl, Nat.le_of_ble_eq_true rfl⟩ dL_tilt_16
def fL_tiltBits (S : CV) (T : TV) (O : (Nat → Int64)) (x2 : Int32) : (Int32 × (Nat → Int64)) := (if (fX5_tiltBits S T x2).1 = none then (0, (vp_updL O (0 : Int32).toNatClampNeg ((fX5_tiltBits S T x2).2.toInt64))) else (1, O))
def gL_tiltBits (S : CV) (T : TV) (O : (Nat → Int64)) (x2 : Int32) : Prop := (((fX5_tiltBits S T x2).1 = none ∨ (fX5_tiltBits S T x2).1 = some "java/lang/IndexOutOfBoundsException") ∧ (if (fX5_tiltBits S T x2).1 = none then ((vp_in 0 1) ∧ True) else True))
abbrev rmL_tiltBits : Room := { frames := 8, cells := 1, slots := 6, locals := 124 }
set_option maxHeartbeats 4000000 in
set_option maxRecDepth 100000 in
theorem kL_tiltBits (l : Launch) (D : va_G) (cI cC cT cJ cQ : ClassId) (x ot ou ov oh ox oy ot1 ot2 o : Nat) (S : CV) (T : TV) (O : (Nat → Int64)) (x2 : Int32) (hst : l.stackTraces = false) (hg : gL_tiltBits S T O x2) : mL l D (TY5 cI cC cT cJ cQ) yL_tiltBits wsL_tiltBits rmL_tiltBits [.ref x, .int x2, .ref o] (w5 x ot ou ov oh ox oy S ++ w3 cI ot ot1 ot2 T ++ [(o, .inl (cJ, 1, .inr (.inl O)))]) ((fL_tiltBits S T O x2).1) (w5 x ot ou ov oh ox oy S ++ w3 cI ot ot1 ot2 T ++ [(o, .inl (cJ, 1, .inr (.inl (fL_tiltBits S T O x2).2)))]) 1 := by
  refine mL.ofW (hh := [(0, 9, 12, 28)]) (cc := cL_tiltBits) (maxL := 4) (ret := (some .int)) (by decide) rfl (Nat.le_of_ble_eq_true rfl) ?_
  intro p e s m args below meth c Q ls A hx hb hml hr hlk hts hown hP hK hD hS hl hXE hXN htb hQ
  have hK3 := hK.sub (tys' := TY cI cC cT) [0, 1, 2] rfl
  have hown : s.vm.findClass RL = some m.cls := hown
  have hP : va_P D vwCl (w5 x ot ou ov oh ox oy S ++ w3 cI ot ot1 ot2 T ++ [(o, .inl (cJ, 1, .inr (.inl O)))]) s.heap := hP
  have hD : va_D A (w5 x ot ou ov oh ox oy S ++ w3 cI ot ot1 ot2 T ++ [(o, .inl (cJ, 1, .inr (.inl O)))]) := hD
  have hl : lv_has ls 4 [(0, .ref x), (1, .int x2), (2, .ref o)] := hl
  unfold gL_tiltBits at hg
  generalize hHe : s.heap = H at hP ⊢
  have hS : va_S A s.heap H [] := hHe ▸ hS
  generalize hLe : ([] : List Loc) = locs at hS ⊢
  refine lv_aload_n hx hb dL_tiltBits_0 rfl (lv_at hl 2 rfl) ?_
  refine lv_iconst (v := 0) hx hb dL_tiltBits_1 (by decide) ?_
  refine lv_aload_n hx hb dL_tiltBits_2 rfl (lv_at hl 0 rfl) ?_
  refine lv_iload_n hx hb dL_tiltBits_3 rfl (lv_at hl 1 rfl) ?_
  obtain ⟨n1, en1⟩ : ∃ z9, z9 = (fX5_tiltBits S T x2) := ⟨_, rfl⟩
  try rw [← en1] at hg
  have k9 := (kX5_tiltBits l D cI cC cT x ot ou ov oh ox oy ot1 ot2 S T x2 hst)
  rw [← en1] at k9
  obtain ⟨o1, hg⟩ := hg
  refine fXq (As := [.int x2]) (rest := [.int 0, .ref o]) (st' := [.int n1.2, .int 0, .ref o]) ⟨hx, hb, hml, hown, hts⟩ k9 (cwV 1 hts gL_tiltBits_X5_tiltBits rfl rfl rfl (by decide +kernel) ⟨Nat.le_of_ble_eq_true rfl, Nat.le_of_ble_eq_true rfl⟩) hP hK3 hD hS hXE ([(o, .inl (cJ, 1, .inr (.inl O)))] : va_W) (pmI (fun a => by simp only [cntW_app, cntW_nil] <;> omega)) (w5 x ot ou ov oh ox oy S ++ w3 cI ot ot1 ot2 T ++ [(o, .inl (cJ, 1, .inr (.inl O)))]) (pmI (fun a => by simp only [cntW_app, cntW_nil] <;> omega)) rfl 0 (ci := 6) rfl rfl rfl rfl hl.1 rfl rfl (Nat.le_of_ble_eq_true rfl) ⟨Nat.le_of_ble_eq_true rfl, Nat.le_of_ble_eq_true rfl⟩ dL_tiltBits_4 (fun C9 ce9 q9 H locs hE9 hP hD hS hq9 hv9 hc9 => ?_) (fun H locs c_4 hP hD hS => ?_)
  · rcases o1 with h9 | h9
    · rw [hE9] at h9; cases h9
    · obtain rfl : C9 = "java/lang/IndexOutOfBoundsException" := Option.some.inj (hE9.symm.trans h9)
      have c_4 : ¬ n1.1 = none := by rw [hE9]; exact fun z => nomatch z
      refine vx_catch hown [] ⟨0, 9, 12, 28⟩ [] htb (fun z hz => nomatch hz) rfl (by decide) (hts (Cond.classLink RL 28 "java/lang/IndexOutOfBoundsException") (by decide +kernel)) (va_Nw.use rfl (hXE.1.1 _ (by decide +kernel))) hq9 hv9 hc9 ?_
      refine lv_astore_n (lv' := [(3, .ref q9), (0, .ref x), (1, .int x2), (2, .ref o)]) hx hb dL_tiltBits_12 rfl hl (by decide) rfl (fun ls hl => ?_)
      refine lv_iconst (v := 1) hx hb dL_tiltBits_13 (by decide) ?_
      have e9 : fL_tiltBits S T O x2 = (1, O) := by rw [fL_tiltBits, ← en1, if_neg c_4]
      exact rLi hx hb hr hlk hQ hP hS (by rw [e9]) (congrArg (fun z9 : (Int32 × (Nat → Int64)) => (w5 x ot ou ov oh ox oy S ++ w3 cI ot ot1 ot2 T ++ [(o, .inl (cJ, 1, .inr (.inl z9.2)))] : va_W)) e9).symm rfl ⟨Nat.le_of_ble_eq_true rfl, Nat.le_of_ble_eq_true rfl⟩ dL_tiltBits_14
  · rw [if_pos c_4] at hg
    refine lv_i2l (v := (n1.2.toInt64)) hx hb dL_tiltBits_7 rfl ?_
    obtain ⟨o2, hg⟩ := hg
    refine va_last hx hb hK hP hD hS 4 3 rfl rfl o2 dL_tiltBits_8 (fun H locs hP hD hS => ?_)
    have hP : va_P D vwCl (w5 x ot ou ov oh ox oy S ++ w3 cI ot ot1 ot2 T ++ [(o, .inl (cJ, 1, .inr (.inl (vp_updL O (0 : Int32).toNatClampNeg (n1.2.toInt64)))))]) H := hP
    have hD : va_D A (w5 x ot ou ov oh ox oy S ++ w3 cI ot ot1 ot2 T ++ [(o, .inl (cJ, 1, .inr (.inl (vp_updL O (0 : Int32).toNatClampNeg (n1.2.toInt64)))))]) := hD
    refine lv_goto (tgt := 15) hx hb dL_tiltBits_9 (by decide) ?_
    refine lv_iconst (v := 0) hx hb dL_tiltBits_15 (by decide) ?_
    have e9 : fL_tiltBits S T O x2 = (0, (vp_updL O (0 : Int32).toNatClampNeg (n1.2.toInt64))) := by rw [fL_tiltBits, ← en1, if_pos c_4]
    exact rLi hx hb hr hlk hQ hP hS (by rw [e9]) (congrArg (fun z9 : (Int32 × (Nat → Int64)) => (w5 x ot ou ov oh ox oy S ++ w3 cI ot ot1 ot2 T ++ [(o, .inl (cJ, 1, .inr (.inl z9.2)))] : va_W)) e9).symm rfl ⟨Nat.le_of_ble_eq_true rfl, Nat.le_of_ble_eq_true rfl⟩ dL_tiltBits_16
def fL_plusTilt (S : CV) (T : TV) (O : (Nat → Int64)) (x2 : Int32) (x3 : Int32) : (Int32 × (Nat → Int64)) := (if (fX5_plusTilt S T x2 x3).1 = none then (0, (vp_updL O (0 : Int32).toNatClampNeg ((fX5_plusTilt S T x2 x3).2.toInt64))) else (if (fX5_plusTilt S T x2 x3).1 = some "java/lang/IndexOutOfBoundsException" then (1, O) else (2, O)))
def gL_plusTilt (S : CV) (T : TV) (O : (Nat → Int64)) (x2 : Int32) (x3 : Int32) : Prop := ((gX5_plusTilt S T x2 x3) ∧ ((fX5_plusTilt S T x2 x3).1 = none ∨ (fX5_plusTilt S T x2 x3).1 = some "java/lang/IndexOutOfBoundsException" ∨ (fX5_plusTilt S T x2 x3).1 = some "java/lang/IllegalArgumentException") ∧ (if (fX5_plusTilt S T x2 x3).1 = none then ((vp_in 0 1) ∧ True) else True))
abbrev rmL_plusTilt : Room := { frames := 8, cells := 2, slots := 12, locals := 125 }
set_option maxHeartbeats 4000000 in
set_option maxRecDepth 100000 in
theorem kL_plusTilt (l : Launch) (D : va_G) (cI cC cT cJ cQ : ClassId) (x ot ou ov oh ox oy ot1 ot2 o : Nat) (S : CV) (T : TV) (O : (Nat → Int64)) (x2 : Int32) (x3 : Int32) (hst : l.stackTraces = false) (hg : gL_plusTilt S T O x2 x3) : mL l D (TY5 cI cC cT cJ cQ) yL_plusTilt wsL_plusTilt rmL_plusTilt [.ref x, .int x2, .int x3, .ref o] (w5 x ot ou ov oh ox oy S ++ w3 cI ot ot1 ot2 T ++ [(o, .inl (cJ, 1, .inr (.inl O)))]) ((fL_plusTilt S T O x2 x3).1) (w5 x ot ou ov oh ox oy S ++ w3 cI ot ot1 ot2 T ++ [(o, .inl (cJ, 1, .inr (.inl (fL_plusTilt S T O x2 x3).2)))]) 2 := by
  refine mL.ofW (hh := [(0, 10, 13, 28), (0, 10, 17, 13)]) (cc := cL_plusTilt) (maxL := 5) (ret := (some .int)) (by decide) rfl (Nat.le_of_ble_eq_true rfl) ?_
  intro p e s m args below meth c Q ls A hx hb hml hr hlk hts hown hP hK hD hS hl hXE hXN htb hQ
  have hK3 := hK.sub (tys' := TY cI cC cT) [0, 1, 2] rfl
  have hown : s.vm.findClass RL = some m.cls := hown
  have hP : va_P D vwCl (w5 x ot ou ov oh ox oy S ++ w3 cI ot ot1 ot2 T ++ [(o, .inl (cJ, 1, .inr (.inl O)))]) s.heap := hP
  have hD : va_D A (w5 x ot ou ov oh ox oy S ++ w3 cI ot ot1 ot2 T ++ [(o, .inl (cJ, 1, .inr (.inl O)))]) := hD
  have hl : lv_has ls 5 [(0, .ref x), (1, .int x2), (2, .int x3), (3, .ref o)] := hl
  unfold gL_plusTilt at hg
  generalize hHe : s.heap = H at hP ⊢
  have hS : va_S A s.heap H [] := hHe ▸ hS
  generalize hLe : ([] : List Loc) = locs at hS ⊢
  refine lv_aload_n hx hb dL_plusTilt_0 rfl (lv_at hl 3 rfl) ?_
  refine lv_iconst (v := 0) hx hb dL_plusTilt_1 (by decide) ?_
  refine lv_aload_n hx hb dL_plusTilt_2 rfl (lv_at hl 0 rfl) ?_
  refine lv_iload_n hx hb dL_plusTilt_3 rfl (lv_at hl 1 rfl) ?_
  refine lv_iload_n hx hb dL_plusTilt_4 rfl (lv_at hl 2 rfl) ?_
  obtain ⟨n1, en1⟩ : ∃ z9, z9 = (fX5_plusTilt S T x2 x3) := ⟨_, rfl⟩
  try rw [← en1] at hg
  obtain ⟨o1, hg⟩ := hg
  have k9 := (kX5_plusTilt l D cI cC cT x ot ou ov oh ox oy ot1 ot2 S T x2 x3 hst o1)
  rw [← en1] at k9
  obtain ⟨o2, hg⟩ := hg
  refine fXq (As := [.int x2, .int x3]) (rest := [.int 0, .ref o]) (st' := [.int n1.2, .int 0, .ref o]) ⟨hx, hb, hml, hown, hts⟩ k9 (cwV 2 hts gL_plusTilt_X5_plusTilt rfl rfl rfl (by decide +kernel) ⟨Nat.le_of_ble_eq_true rfl, Nat.le_of_ble_eq_true rfl⟩) hP hK3 hD hS hXE ([(o, .inl (cJ, 1, .inr (.inl O)))] : va_W) (pmI (fun a => by simp only [cntW_app, cntW_nil] <;> omega)) (w5 x ot ou ov oh ox oy S ++ w3 cI ot ot1 ot2 T ++ [(o, .inl (cJ, 1, .inr (.inl O)))]) (pmI (fun a => by simp only [cntW_app, cntW_nil] <;> omega)) rfl 0 (ci := 6) rfl rfl rfl rfl hl.1 rfl rfl (Nat.le_of_ble_eq_true rfl) ⟨Nat.le_of_ble_eq_true rfl, Nat.le_of_ble_eq_true rfl⟩ dL_plusTilt_5 (fun C9 ce9 q9 H locs hE9 hP hD hS hq9 hv9 hc9 => ?_) (fun H locs c_5 hP hD hS => ?_)
  · rcases o2 with h9 | h9 | h9
    · rw [hE9] at h9; cases h9
    · obtain rfl : C9 = "java/lang/IndexOutOfBoundsException" := Option.some.inj (hE9.symm.trans h9)
      have c_5 : ¬ n1.1 = none := by rw [hE9]; exact fun z => nomatch z
      have c_5_0 : n1.1 = some "java/lang/IndexOutOfBoundsException" := h9
      refine vx_catch hown [] ⟨0, 10, 13, 28⟩ [⟨0, 10, 17, 13⟩] htb (fun z hz => nomatch hz) rfl (by decide) (hts (Cond.classLink RL 28 "java/lang/IndexOutOfBoundsException") (by decide +kernel)) (va_Nw.use rfl (hXE.1.1 _ (by decide +kernel))) hq9 hv9 hc9 ?_
      refine lv_astore (lv' := [(4, .ref q9), (0, .ref x), (1, .int x2), (2, .int x3), (3, .ref o)]) hx hb dL_plusTilt_13 hl (by decide) rfl (fun ls hl => ?_)
      refine lv_iconst (v := 1) hx hb dL_plusTilt_15 (by decide) ?_
      have e9 : fL_plusTilt S T O x2 x3 = (1, O) := by rw [fL_plusTilt, ← en1, if_neg c_5, if_pos c_5_0]
      exact rLi hx hb hr hlk hQ hP hS (by rw [e9]) (congrArg (fun z9 : (Int32 × (Nat → Int64)) => (w5 x ot ou ov oh ox oy S ++ w3 cI ot ot1 ot2 T ++ [(o, .inl (cJ, 1, .inr (.inl z9.2)))] : va_W)) e9).symm rfl ⟨Nat.le_of_ble_eq_true rfl, Nat.le_of_ble_eq_true rfl⟩ dL_plusTilt_16
    · obtain rfl : C9 = "java/lang/IllegalArgumentException" := Option.some.inj (hE9.symm.trans h9)
      have c_5 : ¬ n1.1 = none := by rw [hE9]; exact fun z => nomatch z
      have c_5_0 : ¬ n1.1 = some "java/lang/IndexOutOfBoundsException" := by rw [h9]; decide
      refine vx_catch hown [⟨0, 10, 13, 28⟩] ⟨0, 10, 17, 13⟩ [] htb (List.forall_mem_cons.mpr ⟨Or.inr ⟨by decide, "java/lang/IndexOutOfBoundsException", hts (Cond.classLink RL 28 "java/lang/IndexOutOfBoundsException") (by decide +kernel), hXN.2.2⟩, (fun z hz => nomatch hz)⟩) rfl (by decide) (hts (Cond.classLink RL 13 "java/lang/IllegalArgumentException") (by decide +kernel)) (va_Nw.use rfl (hXE.1.1 _ (by decide +kernel))) hq9 hv9 hc9 ?_
      refine lv_astore (lv' := [(4, .ref q9), (0, .ref x), (1, .int x2), (2, .int x3), (3, .ref o)]) hx hb dL_plusTilt_17 hl (by decide) rfl (fun ls hl => ?_)
      refine lv_iconst (v := 2) hx hb dL_plusTilt_19 (by decide) ?_
      have e9 : fL_plusTilt S T O x2 x3 = (2, O) := by rw [fL_plusTilt, ← en1, if_neg c_5, if_neg c_5_0]
      exact rLi hx hb hr hlk hQ hP hS (by rw [e9]) (congrArg (fun z9 : (Int32 × (Nat → Int64)) => (w5 x ot ou ov oh ox oy S ++ w3 cI ot ot1 ot2 T ++ [(o, .inl (cJ, 1, .inr (.inl z9.2)))] : va_W)) e9).symm rfl ⟨Nat.le_of_ble_eq_true rfl, Nat.le_of_ble_eq_true rfl⟩ dL_plusTilt_20
  · rw [if_pos c_5] at hg
    refine lv_i2l (v := (n1.2.toInt64)) hx hb dL_plusTilt_8 rfl ?_
    obtain ⟨o3, hg⟩ := hg
    refine va_last hx hb hK hP hD hS 4 3 rfl rfl o3 dL_plusTilt_9 (fun H locs hP hD hS => ?_)
    have hP : va_P D vwCl (w5 x ot ou ov oh ox oy S ++ w3 cI ot ot1 ot2 T ++ [(o, .inl (cJ, 1, .inr (.inl (vp_updL O (0 : Int32).toNatClampNeg (n1.2.toInt64)))))]) H := hP
    have hD : va_D A (w5 x ot ou ov oh ox oy S ++ w3 cI ot ot1 ot2 T ++ [(o, .inl (cJ, 1, .inr (.inl (vp_updL O (0 : Int32).toNatClampNeg (n1.2.toInt64)))))]) := hD
    refine lv_goto (tgt := 21) hx hb dL_plusTilt_10 (by decide) ?_
    refine lv_iconst (v := 0) hx hb dL_plusTilt_21 (by decide) ?_
    have e9 : fL_plusTilt S T O x2 x3 = (0, (vp_updL O (0 : Int32).toNatClampNeg (n1.2.toInt64))) := by rw [fL_plusTilt, ← en1, if_pos c_5]
    exact rLi hx hb hr hlk hQ hP hS (by rw [e9]) (congrArg (fun z9 : (Int32 × (Nat → Int64)) => (w5 x ot ou ov oh ox oy S ++ w3 cI ot ot1 ot2 T ++ [(o, .inl (cJ, 1, .inr (.inl z9.2)))] : va_W)) e9).symm rfl ⟨Nat.le_of_ble_eq_true rfl, Nat.le_of_ble_eq_true rfl⟩ dL_plusTilt_22
def fL_noiseOf (S : CV) (T : TV) (O : (Nat → UInt64)) (x2 : Int32) : (Int32 × (Nat → UInt64)) := (if (fX5_noiseOf S T x2).1 = none then (0, (vf_upd O (0 : Int32).toNatClampNeg (FP.f2d (fX5_noiseOf S T x2).2))) else (1, O))
def gL_noiseOf (S : CV) (T : TV) (O : (Nat → UInt64)) (x2 : Int32) : Prop := (((fX5_noiseOf S T x2).1 = none ∨ (fX5_noiseOf S T x2).1 = some "java/lang/IndexOutOfBoundsException") ∧ (if (fX5_noiseOf S T x2).1 = none then ((vf_n64 (FP.f2d (fX5_noiseOf S T x2).2)) ∧ (vp_in 0 1) ∧ True) else True))
abbrev rmL_noiseOf : Room := { frames := 8, cells := 1, slots := 6, locals := 124 }
set_option maxHeartbeats 4000000 in
set_option maxRecDepth 100000 in
theorem kL_noiseOf (l : Launch) (D : va_G) (cI cC cT cJ cQ : ClassId) (x ot ou ov oh ox oy ot1 ot2 o : Nat) (S : CV) (T : TV) (O : (Nat → UInt64)) (x2 : Int32) (hst : l.stackTraces = false) (hg : gL_noiseOf S T O x2) : mL l D (TY5 cI cC cT cJ cQ) yL_noiseOf wsL_noiseOf rmL_noiseOf [.ref x, .int x2, .ref o] (w5 x ot ou ov oh ox oy S ++ w3 cI ot ot1 ot2 T ++ [(o, .inl (cQ, 1, .inr (.inr (.inr (.inl O)))))]) ((fL_noiseOf S T O x2).1) (w5 x ot ou ov oh ox oy S ++ w3 cI ot ot1 ot2 T ++ [(o, .inl (cQ, 1, .inr (.inr (.inr (.inl (fL_noiseOf S T O x2).2)))))]) 1 := by
  refine mL.ofW (hh := [(0, 9, 12, 28)]) (cc := cL_noiseOf) (maxL := 4) (ret := (some .int)) (by decide) rfl (Nat.le_of_ble_eq_true rfl) ?_
  intro p e s m args below meth c Q ls A hx hb hml hr hlk hts hown hP hK hD hS hl hXE hXN htb hQ
  have hK3 := hK.sub (tys' := TY cI cC cT) [0, 1, 2] rfl
  have hown : s.vm.findClass RL = some m.cls := hown
  have hP : va_P D vwCl (w5 x ot ou ov oh ox oy S ++ w3 cI ot ot1 ot2 T ++ [(o, .inl (cQ, 1, .inr (.inr (.inr (.inl O)))))]) s.heap := hP
  have hD : va_D A (w5 x ot ou ov oh ox oy S ++ w3 cI ot ot1 ot2 T ++ [(o, .inl (cQ, 1, .inr (.inr (.inr (.inl O)))))]) := hD
  have hl : lv_has ls 4 [(0, .ref x), (1, .int x2), (2, .ref o)] := hl
  unfold gL_noiseOf at hg
  generalize hHe : s.heap = H at hP ⊢
  have hS : va_S A s.heap H [] := hHe ▸ hS
  generalize hLe : ([] : List Loc) = locs at hS ⊢
  refine lv_aload_n hx hb dL_noiseOf_0 rfl (lv_at hl 2 rfl) ?_
  refine lv_iconst (v := 0) hx hb dL_noiseOf_1 (by decide) ?_
  refine lv_aload_n hx hb dL_noiseOf_2 rfl (lv_at hl 0 rfl) ?_
  refine lv_iload_n hx hb dL_noiseOf_3 rfl (lv_at hl 1 rfl) ?_
  obtain ⟨n1, en1⟩ : ∃ z9, z9 = (fX5_noiseOf S T x2) := ⟨_, rfl⟩
  try rw [← en1] at hg
  have k9 := (kX5_noiseOf l D cI cC cT x ot ou ov oh ox oy ot1 ot2 S T x2 hst)
  rw [← en1] at k9
  obtain ⟨o1, hg⟩ := hg
  refine fXq (As := [.int x2]) (rest := [.int 0, .ref o]) (st' := [.float n1.2, .int 0, .ref o]) ⟨hx, hb, hml, hown, hts⟩ k9 (cwV 1 hts gL_noiseOf_X5_noiseOf rfl rfl rfl (by decide +kernel) ⟨Nat.le_of_ble_eq_true rfl, Nat.le_of_ble_eq_true rfl⟩) hP hK3 hD hS hXE ([(o, .inl (cQ, 1, .inr (.inr (.inr (.inl O)))))] : va_W) (pmI (fun a => by simp only [cntW_app, cntW_nil] <;> omega)) (w5 x ot ou ov oh ox oy S ++ w3 cI ot ot1 ot2 T ++ [(o, .inl (cQ, 1, .inr (.inr (.inr (.inl O)))))]) (pmI (fun a => by simp only [cntW_app, cntW_nil] <;> omega)) rfl 0 (ci := 6) rfl rfl rfl rfl hl.1 rfl rfl (Nat.le_of_ble_eq_true rfl) ⟨Nat.le_of_ble_eq_true rfl, Nat.le_of_ble_eq_true rfl⟩ dL_noiseOf_4 (fun C9 ce9 q9 H locs hE9 hP hD hS hq9 hv9 hc9 => ?_) (fun H locs c_4 hP hD hS => ?_)
  · rcases o1 with h9 | h9
    · rw [hE9] at h9; cases h9
    · obtain rfl : C9 = "java/lang/IndexOutOfBoundsException" := Option.some.inj (hE9.symm.trans h9)
      have c_4 : ¬ n1.1 = none := by rw [hE9]; exact fun z => nomatch z
      refine vx_catch hown [] ⟨0, 9, 12, 28⟩ [] htb (fun z hz => nomatch hz) rfl (by decide) (hts (Cond.classLink RL 28 "java/lang/IndexOutOfBoundsException") (by decide +kernel)) (va_Nw.use rfl (hXE.1.1 _ (by decide +kernel))) hq9 hv9 hc9 ?_
      refine lv_astore_n (lv' := [(3, .ref q9), (0, .ref x), (1, .int x2), (2, .ref o)]) hx hb dL_noiseOf_12 rfl hl (by decide) rfl (fun ls hl => ?_)
      refine lv_iconst (v := 1) hx hb dL_noiseOf_13 (by decide) ?_
      have e9 : fL_noiseOf S T O x2 = (1, O) := by rw [fL_noiseOf, ← en1, if_neg c_4]
      exact rLi hx hb hr hlk hQ hP hS (by rw [e9]) (congrArg (fun z9 : (Int32 × (Nat → UInt64)) => (w5 x ot ou ov oh ox oy S ++ w3 cI ot ot1 ot2 T ++ [(o, .inl (cQ, 1, .inr (.inr (.inr (.inl z9.2)))))] : va_W)) e9).symm rfl ⟨Nat.le_of_ble_eq_true rfl, Nat.le_of_ble_eq_true rfl⟩ dL_noiseOf_14
  · rw [if_pos c_4] at hg
    obtain ⟨o2, hg⟩ := hg
    refine lv_f2d hx hb dL_noiseOf_7 o2 ?_
    obtain ⟨o3, hg⟩ := hg
    refine va_dast hx hb hK hP hD hS 4 4 rfl rfl o3 dL_noiseOf_8 (fun H locs hP hD hS => ?_)
    have hP : va_P D vwCl (w5 x ot ou ov oh ox oy S ++ w3 cI ot ot1 ot2 T ++ [(o, .inl (cQ, 1, .inr (.inr (.inr (.inl (vf_upd O (0 : Int32).toNatClampNeg (FP.f2d n1.2)))))))]) H := hP
    have hD : va_D A (w5 x ot ou ov oh ox oy S ++ w3 cI ot ot1 ot2 T ++ [(o, .inl (cQ, 1, .inr (.inr (.inr (.inl (vf_upd O (0 : Int32).toNatClampNeg (FP.f2d n1.2)))))))]) := hD
    refine lv_goto (tgt := 15) hx hb dL_noiseOf_9 (by decide) ?_
    refine lv_iconst (v := 0) hx hb dL_noiseOf_15 (by decide) ?_
    have e9 : fL_noiseOf S T O x2 = (0, (vf_upd O (0 : Int32).toNatClampNeg (FP.f2d n1.2))) := by rw [fL_noiseOf, ← en1, if_pos c_4]
    exact rLi hx hb hr hlk hQ hP hS (by rw [e9]) (congrArg (fun z9 : (Int32 × (Nat → UInt64)) => (w5 x ot ou ov oh ox oy S ++ w3 cI ot ot1 ot2 T ++ [(o, .inl (cQ, 1, .inr (.inr (.inr (.inl z9.2)))))] : va_W)) e9).symm rfl ⟨Nat.le_of_ble_eq_true rfl, Nat.le_of_ble_eq_true rfl⟩ dL_noiseOf_16
def fL_tilted (S : CV) (T : TV) (O : (Nat → Int64)) (x2 : Int32) : (Int32 × (Nat → Int64)) := (if (fX5_tilted S T x2).1 = none then (0, (vp_updL O (0 : Int32).toNatClampNeg ((fX5_tilted S T x2).2.toInt64))) else (1, O))
def gL_tilted (S : CV) (T : TV) (O : (Nat → Int64)) (x2 : Int32) : Prop := (((fX5_tilted S T x2).1 = none ∨ (fX5_tilted S T x2).1 = some "java/util/NoSuchElementException") ∧ (if (fX5_tilted S T x2).1 = none then ((vp_in 0 1) ∧ True) else True))
abbrev rmL_tilted : Room := { frames := 7, cells := 1, slots := 6, locals := 114 }
set_option maxHeartbeats 4000000 in
set_option maxRecDepth 100000 in
theorem kL_tilted (l : Launch) (D : va_G) (cI cC cT cJ cQ : ClassId) (x ot ou ov oh ox oy ot1 ot2 o : Nat) (S : CV) (T : TV) (O : (Nat → Int64)) (x2 : Int32) (hst : l.stackTraces = false) (hg : gL_tilted S T O x2) : mL l D (TY5 cI cC cT cJ cQ) yL_tilted wsL_tilted rmL_tilted [.ref x, .int x2, .ref o] (w5 x ot ou ov oh ox oy S ++ w3 cI ot ot1 ot2 T ++ [(o, .inl (cJ, 1, .inr (.inl O)))]) ((fL_tilted S T O x2).1) (w5 x ot ou ov oh ox oy S ++ w3 cI ot ot1 ot2 T ++ [(o, .inl (cJ, 1, .inr (.inl (fL_tilted S T O x2).2)))]) 1 := by
  refine mL.ofW (hh := [(0, 9, 12, 53)]) (cc := cL_tilted) (maxL := 4) (ret := (some .int)) (by decide) rfl (Nat.le_of_ble_eq_true rfl) ?_
  intro p e s m args below meth c Q ls A hx hb hml hr hlk hts hown hP hK hD hS hl hXE hXN htb hQ
  have hK3 := hK.sub (tys' := TY cI cC cT) [0, 1, 2] rfl
  have hown : s.vm.findClass RL = some m.cls := hown
  have hP : va_P D vwCl (w5 x ot ou ov oh ox oy S ++ w3 cI ot ot1 ot2 T ++ [(o, .inl (cJ, 1, .inr (.inl O)))]) s.heap := hP
  have hD : va_D A (w5 x ot ou ov oh ox oy S ++ w3 cI ot ot1 ot2 T ++ [(o, .inl (cJ, 1, .inr (.inl O)))]) := hD
  have hl : lv_has ls 4 [(0, .ref x), (1, .int x2), (2, .ref o)] := hl
  unfold gL_tilted at hg
  generalize hHe : s.heap = H at hP ⊢
  have hS : va_S A s.heap H [] := hHe ▸ hS
  generalize hLe : ([] : List Loc) = locs at hS ⊢
  refine lv_aload_n hx hb dL_tilted_0 rfl (lv_at hl 2 rfl) ?_
  refine lv_iconst (v := 0) hx hb dL_tilted_1 (by decide) ?_
  refine lv_aload_n hx hb dL_tilted_2 rfl (lv_at hl 0 rfl) ?_
  refine lv_iload_n hx hb dL_tilted_3 rfl (lv_at hl 1 rfl) ?_
  obtain ⟨n1, en1⟩ : ∃ z9, z9 = (fX5_tilted S T x2) := ⟨_, rfl⟩
  try rw [← en1] at hg
  have k9 := (kX5_tilted l D cI cC cT x ot ou ov oh ox oy ot1 ot2 S T x2 hst)
  rw [← en1] at k9
  obtain ⟨o1, hg⟩ := hg
  refine fXq (As := [.int x2]) (rest := [.int 0, .ref o]) (st' := [.int n1.2, .int 0, .ref o]) ⟨hx, hb, hml, hown, hts⟩ k9 (cwV 1 hts gL_tilted_X5_tilted rfl rfl rfl (by decide +kernel) ⟨Nat.le_of_ble_eq_true rfl, Nat.le_of_ble_eq_true rfl⟩) hP hK3 hD hS hXE ([(o, .inl (cJ, 1, .inr (.inl O)))] : va_W) (pmI (fun a => by simp only [cntW_app, cntW_nil] <;> omega)) (w5 x ot ou ov oh ox oy S ++ w3 cI ot ot1 ot2 T ++ [(o, .inl (cJ, 1, .inr (.inl O)))]) (pmI (fun a => by simp only [cntW_app, cntW_nil] <;> omega)) rfl 0 (ci := 6) rfl rfl rfl rfl hl.1 rfl rfl (Nat.le_of_ble_eq_true rfl) ⟨Nat.le_of_ble_eq_true rfl, Nat.le_of_ble_eq_true rfl⟩ dL_tilted_4 (fun C9 ce9 q9 H locs hE9 hP hD hS hq9 hv9 hc9 => ?_) (fun H locs c_4 hP hD hS => ?_)
  · rcases o1 with h9 | h9
    · rw [hE9] at h9; cases h9
    · obtain rfl : C9 = "java/util/NoSuchElementException" := Option.some.inj (hE9.symm.trans h9)
      have c_4 : ¬ n1.1 = none := by rw [hE9]; exact fun z => nomatch z
      refine vx_catch hown [] ⟨0, 9, 12, 53⟩ [] htb (fun z hz => nomatch hz) rfl (by decide) (hts (Cond.classLink RL 53 "java/util/NoSuchElementException") (by decide +kernel)) (va_Nw.use rfl (hXE.1.1 _ (by decide +kernel))) hq9 hv9 hc9 ?_
      refine lv_astore_n (lv' := [(3, .ref q9), (0, .ref x), (1, .int x2), (2, .ref o)]) hx hb dL_tilted_12 rfl hl (by decide) rfl (fun ls hl => ?_)
      refine lv_iconst (v := 1) hx hb dL_tilted_13 (by decide) ?_
      have e9 : fL_tilted S T O x2 = (1, O) := by rw [fL_tilted, ← en1, if_neg c_4]
      exact rLi hx hb hr hlk hQ hP hS (by rw [e9]) (congrArg (fun z9 : (Int32 × (Nat → Int64)) => (w5 x ot ou ov oh ox oy S ++ w3 cI ot ot1 ot2 T ++ [(o, .inl (cJ, 1, .inr (.inl z9.2)))] : va_W)) e9).symm rfl ⟨Nat.le_of_ble_eq_true rfl, Nat.le_of_ble_eq_true rfl⟩ dL_tilted_14
  · rw [if_pos c_4] at hg
    refine lv_i2l (v := (n1.2.toInt64)) hx hb dL_tilted_7 rfl ?_
    obtain ⟨o2, hg⟩ := hg
    refine va_last hx hb hK hP hD hS 4 3 rfl rfl o2 dL_tilted_8 (fun H locs hP hD hS => ?_)
    have hP : va_P D vwCl (w5 x ot ou ov oh ox oy S ++ w3 cI ot ot1 ot2 T ++ [(o, .inl (cJ, 1, .inr (.inl (vp_updL O (0 : Int32).toNatClampNeg (n1.2.toInt64)))))]) H := hP
    have hD : va_D A (w5 x ot ou ov oh ox oy S ++ w3 cI ot ot1 ot2 T ++ [(o, .inl (cJ, 1, .inr (.inl (vp_updL O (0 : Int32).toNatClampNeg (n1.2.toInt64)))))]) := hD
    refine lv_goto (tgt := 15) hx hb dL_tilted_9 (by decide) ?_
    refine lv_iconst (v := 0) hx hb dL_tilted_15 (by decide) ?_
    have e9 : fL_tilted S T O x2 = (0, (vp_updL O (0 : Int32).toNatClampNeg (n1.2.toInt64))) := by rw [fL_tilted, ← en1, if_pos c_4]
    exact rLi hx hb hr hlk hQ hP hS (by rw [e9]) (congrArg (fun z9 : (Int32 × (Nat → Int64)) => (w5 x ot ou ov oh ox oy S ++ w3 cI ot ot1 ot2 T ++ [(o, .inl (cJ, 1, .inr (.inl z9.2)))] : va_W)) e9).symm rfl ⟨Nat.le_of_ble_eq_true rfl, Nat.le_of_ble_eq_true rfl⟩ dL_tilted_16
def fL_ranked (S : CV) (T : TV) (O : (Nat → Int64)) (x2 : Int32) : (Int32 × (Nat → Int64)) := (if (fX5_ranked S T x2).1 = none then (0, (vp_updL O (0 : Int32).toNatClampNeg ((fX5_ranked S T x2).2.toInt64))) else (1, O))
def gL_ranked (S : CV) (T : TV) (O : (Nat → Int64)) (x2 : Int32) : Prop := (((fX5_ranked S T x2).1 = none ∨ (fX5_ranked S T x2).1 = some "java/util/NoSuchElementException") ∧ (if (fX5_ranked S T x2).1 = none then ((vp_in 0 1) ∧ True) else True))
abbrev rmL_ranked : Room := { frames := 7, cells := 1, slots := 6, locals := 104 }
set_option maxHeartbeats 4000000 in
set_option maxRecDepth 100000 in
theorem kL_ranked (l : Launch) (D : va_G) (cI cC cT cJ cQ : ClassId) (x ot ou ov oh ox oy ot1 ot2 o : Nat) (S : CV) (T : TV) (O : (Nat → Int64)) (x2 : Int32) (hst : l.stackTraces = false) (hg : gL_ranked S T O x2) : mL l D (TY5 cI cC cT cJ cQ) yL_ranked wsL_ranked rmL_ranked [.ref x, .int x2, .ref o] (w5 x ot ou ov oh ox oy S ++ w3 cI ot ot1 ot2 T ++ [(o, .inl (cJ, 1, .inr (.inl O)))]) ((fL_ranked S T O x2).1) (w5 x ot ou ov oh ox oy S ++ w3 cI ot ot1 ot2 T ++ [(o, .inl (cJ, 1, .inr (.inl (fL_ranked S T O x2).2)))]) 1 := by
  refine mL.ofW (hh := [(0, 9, 12, 53)]) (cc := cL_ranked) (maxL := 4) (ret := (some .int)) (by decide) rfl (Nat.le_of_ble_eq_true rfl) ?_
  intro p e s m args below meth c Q ls A hx hb hml hr hlk hts hown hP hK hD hS hl hXE hXN htb hQ
  have hK3 := hK.sub (tys' := TY cI cC cT) [0, 1, 2] rfl
  have hown : s.vm.findClass RL = some m.cls := hown
  have hP : va_P D vwCl (w5 x ot ou ov oh ox oy S ++ w3 cI ot ot1 ot2 T ++ [(o, .inl (cJ, 1, .inr (.inl O)))]) s.heap := hP
  have hD : va_D A (w5 x ot ou ov oh ox oy S ++ w3 cI ot ot1 ot2 T ++ [(o, .inl (cJ, 1, .inr (.inl O)))]) := hD
  have hl : lv_has ls 4 [(0, .ref x), (1, .int x2), (2, .ref o)] := hl
  unfold gL_ranked at hg
  generalize hHe : s.heap = H at hP ⊢
  have hS : va_S A s.heap H [] := hHe ▸ hS
  generalize hLe : ([] : List Loc) = locs at hS ⊢
  refine lv_aload_n hx hb dL_ranked_0 rfl (lv_at hl 2 rfl) ?_
  refine lv_iconst (v := 0) hx hb dL_ranked_1 (by decide) ?_
  refine lv_aload_n hx hb dL_ranked_2 rfl (lv_at hl 0 rfl) ?_
  refine lv_iload_n hx hb dL_ranked_3 rfl (lv_at hl 1 rfl) ?_
  obtain ⟨n1, en1⟩ : ∃ z9, z9 = (fX5_ranked S T x2) := ⟨_, rfl⟩
  try rw [← en1] at hg
  have k9 := (kX5_ranked l D cI cC cT x ot ou ov oh ox oy ot1 ot2 S T x2 hst)
  rw [← en1] at k9
  obtain ⟨o1, hg⟩ := hg
  refine fXq (As := [.int x2]) (rest := [.int 0, .ref o]) (st' := [.int n1.2, .int 0, .ref o]) ⟨hx, hb, hml, hown, hts⟩ k9 (cwV 1 hts gL_ranked_X5_ranked rfl rfl rfl (by decide +kernel) ⟨Nat.le_of_ble_eq_true rfl, Nat.le_of_ble_eq_true rfl⟩) hP hK3 hD hS hXE ([(o, .inl (cJ, 1, .inr (.inl O)))] : va_W) (pmI (fun a => by simp only [cntW_app, cntW_nil] <;> omega)) (w5 x ot ou ov oh ox oy S ++ w3 cI ot ot1 ot2 T ++ [(o, .inl (cJ, 1, .inr (.inl O)))]) (pmI (fun a => by simp only [cntW_app, cntW_nil] <;> omega)) rfl 0 (ci := 6) rfl rfl rfl rfl hl.1 rfl rfl (Nat.le_of_ble_eq_true rfl) ⟨Nat.le_of_ble_eq_true rfl, Nat.le_of_ble_eq_true rfl⟩ dL_ranked_4 (fun C9 ce9 q9 H locs hE9 hP hD hS hq9 hv9 hc9 => ?_) (fun H locs c_4 hP hD hS => ?_)
  · rcases o1 with h9 | h9
    · rw [hE9] at h9; cases h9
    · obtain rfl : C9 = "java/util/NoSuchElementException" := Option.some.inj (hE9.symm.trans h9)
      have c_4 : ¬ n1.1 = none := by rw [hE9]; exact fun z => nomatch z
      refine vx_catch hown [] ⟨0, 9, 12, 53⟩ [] htb (fun z hz => nomatch hz) rfl (by decide) (hts (Cond.classLink RL 53 "java/util/NoSuchElementException") (by decide +kernel)) (va_Nw.use rfl (hXE.1.1 _ (by decide +kernel))) hq9 hv9 hc9 ?_
      refine lv_astore_n (lv' := [(3, .ref q9), (0, .ref x), (1, .int x2), (2, .ref o)]) hx hb dL_ranked_12 rfl hl (by decide) rfl (fun ls hl => ?_)
      refine lv_iconst (v := 1) hx hb dL_ranked_13 (by decide) ?_
      have e9 : fL_ranked S T O x2 = (1, O) := by rw [fL_ranked, ← en1, if_neg c_4]
      exact rLi hx hb hr hlk hQ hP hS (by rw [e9]) (congrArg (fun z9 : (Int32 × (Nat → Int64)) => (w5 x ot ou ov oh ox oy S ++ w3 cI ot ot1 ot2 T ++ [(o, .inl (cJ, 1, .inr (.inl z9.2)))] : va_W)) e9).symm rfl ⟨Nat.le_of_ble_eq_true rfl, Nat.le_of_ble_eq_true rfl⟩ dL_ranked_14
  · rw [if_pos c_4] at hg
    refine lv_i2l (v := (n1.2.toInt64)) hx hb dL_ranked_7 rfl ?_
    obtain ⟨o2, hg⟩ := hg
    refine va_last hx hb hK hP hD hS 4 3 rfl rfl o2 dL_ranked_8 (fun H locs hP hD hS => ?_)
    have hP : va_P D vwCl (w5 x ot ou ov oh ox oy S ++ w3 cI ot ot1 ot2 T ++ [(o, .inl (cJ, 1, .inr (.inl (vp_updL O (0 : Int32).toNatClampNeg (n1.2.toInt64)))))]) H := hP
    have hD : va_D A (w5 x ot ou ov oh ox oy S ++ w3 cI ot ot1 ot2 T ++ [(o, .inl (cJ, 1, .inr (.inl (vp_updL O (0 : Int32).toNatClampNeg (n1.2.toInt64)))))]) := hD
    refine lv_goto (tgt := 15) hx hb dL_ranked_9 (by decide) ?_
    refine lv_iconst (v := 0) hx hb dL_ranked_15 (by decide) ?_
    have e9 : fL_ranked S T O x2 = (0, (vp_updL O (0 : Int32).toNatClampNeg (n1.2.toInt64))) := by rw [fL_ranked, ← en1, if_pos c_4]
    exact rLi hx hb hr hlk hQ hP hS (by rw [e9]) (congrArg (fun z9 : (Int32 × (Nat → Int64)) => (w5 x ot ou ov oh ox oy S ++ w3 cI ot ot1 ot2 T ++ [(o, .inl (cJ, 1, .inr (.inl z9.2)))] : va_W)) e9).symm rfl ⟨Nat.le_of_ble_eq_true rfl, Nat.le_of_ble_eq_true rfl⟩ dL_ranked_16
def fL_stoolLine (S : CV) (T : TV) (Ln : LV) (O : (Nat → Int64)) (x2 : Int32) : (Int32 × LV × (Nat → Int64)) := (if (fX5_stoolLine S T Ln x2).1 = none then (0, (fX5_stoolLine S T Ln x2).2.2, (vp_updL O (0 : Int32).toNatClampNeg ((fX5_stoolLine S T Ln x2).2.1.toInt64))) else (1, (fX5_stoolLine S T Ln x2).2.2, O))
def gL_stoolLine (S : CV) (T : TV) (Ln : LV) (O : (Nat → Int64)) (x2 : Int32) : Prop := (((fX5_stoolLine S T Ln x2).1 = none ∨ (fX5_stoolLine S T Ln x2).1 = some "java/lang/IndexOutOfBoundsException") ∧ (if (fX5_stoolLine S T Ln x2).1 = none then ((vp_in 0 1) ∧ True) else True))
abbrev rmL_stoolLine : Room := { frames := 8, cells := 1, slots := 6, locals := 124 }
set_option maxHeartbeats 4000000 in
set_option maxRecDepth 100000 in
theorem kL_stoolLine (l : Launch) (D : va_G) (cI cC cT cJ cQ : ClassId) (x ot ou ov oh ox oy ot1 ot2 oy1 o : Nat) (S : CV) (T : TV) (Ln : LV) (O : (Nat → Int64)) (x2 : Int32) (hst : l.stackTraces = false) (hg : gL_stoolLine S T Ln O x2) : mL l D (TY5 cI cC cT cJ cQ) yL_stoolLine wsL_stoolLine rmL_stoolLine [.ref x, .int x2, .ref o] (w5 x ot ou ov oh ox oy S ++ w3 cI ot ot1 ot2 T ++ w2 cC oy oy1 Ln ++ [(o, .inl (cJ, 1, .inr (.inl O)))]) ((fL_stoolLine S T Ln O x2).1) (w5 x ot ou ov oh ox oy S ++ w3 cI ot ot1 ot2 T ++ w2 cC oy oy1 (fL_stoolLine S T Ln O x2).2.1 ++ [(o, .inl (cJ, 1, .inr (.inl (fL_stoolLine S T Ln O x2).2.2)))]) 1 := by
  refine mL.ofW (hh := [(0, 9, 12, 28)]) (cc := cL_stoolLine) (maxL := 4) (ret := (some .int)) (by decide) rfl (Nat.le_of_ble_eq_true rfl) ?_
  intro p e s m args below meth c Q ls A hx hb hml hr hlk hts hown hP hK hD hS hl hXE hXN htb hQ
  have hK3 := hK.sub (tys' := TY cI cC cT) [0, 1, 2] rfl
  have hown : s.vm.findClass RL = some m.cls := hown
  have hP : va_P D vwCl (w5 x ot ou ov oh ox oy S ++ w3 cI ot ot1 ot2 T ++ w2 cC oy oy1 Ln ++ [(o, .inl (cJ, 1, .inr (.inl O)))]) s.heap := hP
  have hD : va_D A (w5 x ot ou ov oh ox oy S ++ w3 cI ot ot1 ot2 T ++ w2 cC oy oy1 Ln ++ [(o, .inl (cJ, 1, .inr (.inl O)))]) := hD
  have hl : lv_has ls 4 [(0, .ref x), (1, .int x2), (2, .ref o)] := hl
  unfold gL_stoolLine at hg
  generalize hHe : s.heap = H at hP ⊢
  have hS : va_S A s.heap H [] := hHe ▸ hS
  generalize hLe : ([] : List Loc) = locs at hS ⊢
  refine lv_aload_n hx hb dL_stoolLine_0 rfl (lv_at hl 2 rfl) ?_
  refine lv_iconst (v := 0) hx hb dL_stoolLine_1 (by decide) ?_
  refine lv_aload_n hx hb dL_stoolLine_2 rfl (lv_at hl 0 rfl) ?_
  refine lv_iload_n hx hb dL_stoolLine_3 rfl (lv_at hl 1 rfl) ?_
  obtain ⟨n1, en1⟩ : ∃ z9, z9 = (fX5_stoolLine S T Ln x2) := ⟨_, rfl⟩
  try rw [← en1] at hg
  have k9 := (kX5_stoolLine l D cI cC cT x ot ou ov oh ox oy ot1 ot2 oy1 S T Ln x2 hst)
  rw [← en1] at k9
  obtain ⟨o1, hg⟩ := hg
  refine fXq (As := [.int x2]) (rest := [.int 0, .ref o]) (st' := [.int n1.2.1, .int 0, .ref o]) ⟨hx, hb, hml, hown, hts⟩ k9 (cwV 1 hts gL_stoolLine_X5_stoolLine rfl rfl rfl (by decide +kernel) ⟨Nat.le_of_ble_eq_true rfl, Nat.le_of_ble_eq_true rfl⟩) hP hK3 hD hS hXE ([(o, .inl (cJ, 1, .inr (.inl O)))] : va_W) (pmI (fun a => by simp only [cntW_app, cntW_nil] <;> omega)) (w5 x ot ou ov oh ox oy S ++ w3 cI ot ot1 ot2 T ++ w2 cC oy oy1 n1.2.2 ++ [(o, .inl (cJ, 1, .inr (.inl O)))]) (pmI (fun a => by simp only [cntW_app, cntW_nil] <;> omega)) rfl 0 (ci := 6) rfl rfl rfl rfl hl.1 rfl rfl (Nat.le_of_ble_eq_true rfl) ⟨Nat.le_of_ble_eq_true rfl, Nat.le_of_ble_eq_true rfl⟩ dL_stoolLine_4 (fun C9 ce9 q9 H locs hE9 hP hD hS hq9 hv9 hc9 => ?_) (fun H locs c_4 hP hD hS => ?_)
  · rcases o1 with h9 | h9
    · rw [hE9] at h9; cases h9
    · obtain rfl : C9 = "java/lang/IndexOutOfBoundsException" := Option.some.inj (hE9.symm.trans h9)
      have c_4 : ¬ n1.1 = none := by rw [hE9]; exact fun z => nomatch z
      refine vx_catch hown [] ⟨0, 9, 12, 28⟩ [] htb (fun z hz => nomatch hz) rfl (by decide) (hts (Cond.classLink RL 28 "java/lang/IndexOutOfBoundsException") (by decide +kernel)) (va_Nw.use rfl (hXE.1.1 _ (by decide +kernel))) hq9 hv9 hc9 ?_
      refine lv_astore_n (lv' := [(3, .ref q9), (0, .ref x), (1, .int x2), (2, .ref o)]) hx hb dL_stoolLine_12 rfl hl (by decide) rfl (fun ls hl => ?_)
      refine lv_iconst (v := 1) hx hb dL_stoolLine_13 (by decide) ?_
      have e9 : fL_stoolLine S T Ln O x2 = (1, n1.2.2, O) := by rw [fL_stoolLine, ← en1, if_neg c_4]
      exact rLi hx hb hr hlk hQ hP hS (by rw [e9]) (congrArg (fun z9 : (Int32 × LV × (Nat → Int64)) => (w5 x ot ou ov oh ox oy S ++ w3 cI ot ot1 ot2 T ++ w2 cC oy oy1 z9.2.1 ++ [(o, .inl (cJ, 1, .inr (.inl z9.2.2)))] : va_W)) e9).symm rfl ⟨Nat.le_of_ble_eq_true rfl, Nat.le_of_ble_eq_true rfl⟩ dL_stoolLine_14
  · rw [if_pos c_4] at hg
    refine lv_i2l (v := (n1.2.1.toInt64)) hx hb dL_stoolLine_7 rfl ?_
    obtain ⟨o2, hg⟩ := hg
    refine va_last hx hb hK hP hD hS 6 3 rfl rfl o2 dL_stoolLine_8 (fun H locs hP hD hS => ?_)
    have hP : va_P D vwCl (w5 x ot ou ov oh ox oy S ++ w3 cI ot ot1 ot2 T ++ w2 cC oy oy1 n1.2.2 ++ [(o, .inl (cJ, 1, .inr (.inl (vp_updL O (0 : Int32).toNatClampNeg (n1.2.1.toInt64)))))]) H := hP
    have hD : va_D A (w5 x ot ou ov oh ox oy S ++ w3 cI ot ot1 ot2 T ++ w2 cC oy oy1 n1.2.2 ++ [(o, .inl (cJ, 1, .inr (.inl (vp_updL O (0 : Int32).toNatClampNeg (n1.2.1.toInt64)))))]) := hD
    refine lv_goto (tgt := 15) hx hb dL_stoolLine_9 (by decide) ?_
    refine lv_iconst (v := 0) hx hb dL_stoolLine_15 (by decide) ?_
    have e9 : fL_stoolLine S T Ln O x2 = (0, n1.2.2, (vp_updL O (0 : Int32).toNatClampNeg (n1.2.1.toInt64))) := by rw [fL_stoolLine, ← en1, if_pos c_4]
    exact rLi hx hb hr hlk hQ hP hS (by rw [e9]) (congrArg (fun z9 : (Int32 × LV × (Nat → Int64)) => (w5 x ot ou ov oh ox oy S ++ w3 cI ot ot1 ot2 T ++ w2 cC oy oy1 z9.2.1 ++ [(o, .inl (cJ, 1, .inr (.inl z9.2.2)))] : va_W)) e9).symm rfl ⟨Nat.le_of_ble_eq_true rfl, Nat.le_of_ble_eq_true rfl⟩ dL_stoolLine_16
def fL_character (S : CV) (Ln : LV) (O : (Nat → Int64)) (x2 : Int32) : (Int32 × (Nat → Int64)) := (if (fX5_character S Ln x2).1 = none then (0, (vp_updL O (0 : Int32).toNatClampNeg ((fX5_character S Ln x2).2.toInt64))) else (1, O))
def gL_character (S : CV) (Ln : LV) (O : (Nat → Int64)) (x2 : Int32) : Prop := ((gX5_character S Ln x2) ∧ ((fX5_character S Ln x2).1 = none ∨ (fX5_character S Ln x2).1 = some "java/lang/IndexOutOfBoundsException") ∧ (if (fX5_character S Ln x2).1 = none then ((vp_in 0 1) ∧ True) else True))
abbrev rmL_character : Room := { frames := 7, cells := 1, slots := 6, locals := 103 }
set_option maxHeartbeats 4000000 in
set_option maxRecDepth 100000 in
theorem kL_character (l : Launch) (D : va_G) (cI cC cT cJ cQ : ClassId) (x ot ou ov oh ox oy oy1 o : Nat) (S : CV) (Ln : LV) (O : (Nat → Int64)) (x2 : Int32) (hst : l.stackTraces = false) (hc : ∀ i, narrow .char (.int (Ln.1 i)) = .int (Ln.1 i)) (hg : gL_character S Ln O x2) : mL l D (TY5 cI cC cT cJ cQ) yL_character wsL_character rmL_character [.ref x, .int x2, .ref o] (w5 x ot ou ov oh ox oy S ++ w2 cC oy oy1 Ln ++ [(o, .inl (cJ, 1, .inr (.inl O)))]) ((fL_character S Ln O x2).1) (w5 x ot ou ov oh ox oy S ++ w2 cC oy oy1 Ln ++ [(o, .inl (cJ, 1, .inr (.inl (fL_character S Ln O x2).2)))]) 1 := by
  refine mL.ofW (hh := [(0, 9, 12, 28)]) (cc := cL_character) (maxL := 4) (ret := (some .int)) (by decide) rfl (Nat.le_of_ble_eq_true rfl) ?_
  intro p e s m args below meth c Q ls A hx hb hml hr hlk hts hown hP hK hD hS hl hXE hXN htb hQ
  have hK3 := hK.sub (tys' := TY cI cC cT) [0, 1, 2] rfl
  have hown : s.vm.findClass RL = some m.cls := hown
  have hP : va_P D vwCl (w5 x ot ou ov oh ox oy S ++ w2 cC oy oy1 Ln ++ [(o, .inl (cJ, 1, .inr (.inl O)))]) s.heap := hP
  have hD : va_D A (w5 x ot ou ov oh ox oy S ++ w2 cC oy oy1 Ln ++ [(o, .inl (cJ, 1, .inr (.inl O)))]) := hD
  have hl : lv_has ls 4 [(0, .ref x), (1, .int x2), (2, .ref o)] := hl
  unfold gL_character at hg
  generalize hHe : s.heap = H at hP ⊢
  have hS : va_S A s.heap H [] := hHe ▸ hS
  generalize hLe : ([] : List Loc) = locs at hS ⊢
  refine lv_aload_n hx hb dL_character_0 rfl (lv_at hl 2 rfl) ?_
  refine lv_iconst (v := 0) hx hb dL_character_1 (by decide) ?_
  refine lv_aload_n hx hb dL_character_2 rfl (lv_at hl 0 rfl) ?_
  refine lv_iload_n hx hb dL_character_3 rfl (lv_at hl 1 rfl) ?_
  obtain ⟨n1, en1⟩ : ∃ z9, z9 = (fX5_character S Ln x2) := ⟨_, rfl⟩
  try rw [← en1] at hg
  obtain ⟨o1, hg⟩ := hg
  have k9 := (kX5_character l D cI cC cT x ot ou ov oh ox oy oy1 S Ln x2 hst hc o1)
  rw [← en1] at k9
  obtain ⟨o2, hg⟩ := hg
  refine fXq (As := [.int x2]) (rest := [.int 0, .ref o]) (st' := [.int n1.2, .int 0, .ref o]) ⟨hx, hb, hml, hown, hts⟩ k9 (cwV 1 hts gL_character_X5_character rfl rfl rfl (by decide +kernel) ⟨Nat.le_of_ble_eq_true rfl, Nat.le_of_ble_eq_true rfl⟩) hP hK3 hD hS hXE ([(o, .inl (cJ, 1, .inr (.inl O)))] : va_W) (pmI (fun a => by simp only [cntW_app, cntW_nil] <;> omega)) (w5 x ot ou ov oh ox oy S ++ w2 cC oy oy1 Ln ++ [(o, .inl (cJ, 1, .inr (.inl O)))]) (pmI (fun a => by simp only [cntW_app, cntW_nil] <;> omega)) rfl 0 (ci := 6) rfl rfl rfl rfl hl.1 rfl rfl (Nat.le_of_ble_eq_true rfl) ⟨Nat.le_of_ble_eq_true rfl, Nat.le_of_ble_eq_true rfl⟩ dL_character_4 (fun C9 ce9 q9 H locs hE9 hP hD hS hq9 hv9 hc9 => ?_) (fun H locs c_4 hP hD hS => ?_)
  · rcases o2 with h9 | h9
    · rw [hE9] at h9; cases h9
    · obtain rfl : C9 = "java/lang/IndexOutOfBoundsException" := Option.some.inj (hE9.symm.trans h9)
      have c_4 : ¬ n1.1 = none := by rw [hE9]; exact fun z => nomatch z
      refine vx_catch hown [] ⟨0, 9, 12, 28⟩ [] htb (fun z hz => nomatch hz) rfl (by decide) (hts (Cond.classLink RL 28 "java/lang/IndexOutOfBoundsException") (by decide +kernel)) (va_Nw.use rfl (hXE.1.1 _ (by decide +kernel))) hq9 hv9 hc9 ?_
      refine lv_astore_n (lv' := [(3, .ref q9), (0, .ref x), (1, .int x2), (2, .ref o)]) hx hb dL_character_12 rfl hl (by decide) rfl (fun ls hl => ?_)
      refine lv_iconst (v := 1) hx hb dL_character_13 (by decide) ?_
      have e9 : fL_character S Ln O x2 = (1, O) := by rw [fL_character, ← en1, if_neg c_4]
      exact rLi hx hb hr hlk hQ hP hS (by rw [e9]) (congrArg (fun z9 : (Int32 × (Nat → Int64)) => (w5 x ot ou ov oh ox oy S ++ w2 cC oy oy1 Ln ++ [(o, .inl (cJ, 1, .inr (.inl z9.2)))] : va_W)) e9).symm rfl ⟨Nat.le_of_ble_eq_true rfl, Nat.le_of_ble_eq_true rfl⟩ dL_character_14
  · rw [if_pos c_4] at hg
    refine lv_i2l (v := (n1.2.toInt64)) hx hb dL_character_7 rfl ?_
    obtain ⟨o3, hg⟩ := hg
    refine va_last hx hb hK hP hD hS 3 3 rfl rfl o3 dL_character_8 (fun H locs hP hD hS => ?_)
    have hP : va_P D vwCl (w5 x ot ou ov oh ox oy S ++ w2 cC oy oy1 Ln ++ [(o, .inl (cJ, 1, .inr (.inl (vp_updL O (0 : Int32).toNatClampNeg (n1.2.toInt64)))))]) H := hP
    have hD : va_D A (w5 x ot ou ov oh ox oy S ++ w2 cC oy oy1 Ln ++ [(o, .inl (cJ, 1, .inr (.inl (vp_updL O (0 : Int32).toNatClampNeg (n1.2.toInt64)))))]) := hD
    refine lv_goto (tgt := 15) hx hb dL_character_9 (by decide) ?_
    refine lv_iconst (v := 0) hx hb dL_character_15 (by decide) ?_
    have e9 : fL_character S Ln O x2 = (0, (vp_updL O (0 : Int32).toNatClampNeg (n1.2.toInt64))) := by rw [fL_character, ← en1, if_pos c_4]
    exact rLi hx hb hr hlk hQ hP hS (by rw [e9]) (congrArg (fun z9 : (Int32 × (Nat → Int64)) => (w5 x ot ou ov oh ox oy S ++ w2 cC oy oy1 Ln ++ [(o, .inl (cJ, 1, .inr (.inl z9.2)))] : va_W)) e9).symm rfl ⟨Nat.le_of_ble_eq_true rfl, Nat.le_of_ble_eq_true rfl⟩ dL_character_16
def fL_append (S : CV) (Xt : XV) (O : (Nat → Int64)) (x2 : Int32) : (Int32 × XV × (Nat → Int64)) := (if (fX5_append S Xt x2).1 = none then (0, (fX5_append S Xt x2).2.2, (vp_updL O (0 : Int32).toNatClampNeg ((fX5_append S Xt x2).2.1.toInt64))) else (1, (fX5_append S Xt x2).2.2, O))
def gL_append (S : CV) (Xt : XV) (O : (Nat → Int64)) (x2 : Int32) : Prop := (((fX5_append S Xt x2).1 = none ∨ (fX5_append S Xt x2).1 = some "java/lang/IllegalStateException") ∧ (if (fX5_append S Xt x2).1 = none then ((vp_in 0 1) ∧ True) else True))
abbrev rmL_append : Room := { frames := 7, cells := 1, slots := 6, locals := 103 }
set_option maxHeartbeats 4000000 in
set_option maxRecDepth 100000 in
theorem kL_append (l : Launch) (D : va_G) (cI cC cT cJ cQ : ClassId) (x ot ou ov oh ox oy ox1 ox2 o : Nat) (S : CV) (Xt : XV) (O : (Nat → Int64)) (x2 : Int32) (hst : l.stackTraces = false) (hg : gL_append S Xt O x2) : mL l D (TY5 cI cC cT cJ cQ) yL_append wsL_append rmL_append [.ref x, .int x2, .ref o] (w5 x ot ou ov oh ox oy S ++ w4 cI cC ox ox1 ox2 Xt ++ [(o, .inl (cJ, 1, .inr (.inl O)))]) ((fL_append S Xt O x2).1) (w5 x ot ou ov oh ox oy S ++ w4 cI cC ox ox1 ox2 (fL_append S Xt O x2).2.1 ++ [(o, .inl (cJ, 1, .inr (.inl (fL_append S Xt O x2).2.2)))]) 1 := by
  refine mL.ofW (hh := [(0, 9, 12, 91)]) (cc := cL_append) (maxL := 4) (ret := (some .int)) (by decide) rfl (Nat.le_of_ble_eq_true rfl) ?_
  intro p e s m args below meth c Q ls A hx hb hml hr hlk hts hown hP hK hD hS hl hXE hXN htb hQ
  have hK3 := hK.sub (tys' := TY cI cC cT) [0, 1, 2] rfl
  have hown : s.vm.findClass RL = some m.cls := hown
  have hP : va_P D vwCl (w5 x ot ou ov oh ox oy S ++ w4 cI cC ox ox1 ox2 Xt ++ [(o, .inl (cJ, 1, .inr (.inl O)))]) s.heap := hP
  have hD : va_D A (w5 x ot ou ov oh ox oy S ++ w4 cI cC ox ox1 ox2 Xt ++ [(o, .inl (cJ, 1, .inr (.inl O)))]) := hD
  have hl : lv_has ls 4 [(0, .ref x), (1, .int x2), (2, .ref o)] := hl
  unfold gL_append at hg
  generalize hHe : s.heap = H at hP ⊢
  have hS : va_S A s.heap H [] := hHe ▸ hS
  generalize hLe : ([] : List Loc) = locs at hS ⊢
  refine lv_aload_n hx hb dL_append_0 rfl (lv_at hl 2 rfl) ?_
  refine lv_iconst (v := 0) hx hb dL_append_1 (by decide) ?_
  refine lv_aload_n hx hb dL_append_2 rfl (lv_at hl 0 rfl) ?_
  refine lv_iload_n hx hb dL_append_3 rfl (lv_at hl 1 rfl) ?_
  obtain ⟨n1, en1⟩ : ∃ z9, z9 = (fX5_append S Xt x2) := ⟨_, rfl⟩
  try rw [← en1] at hg
  have k9 := (kX5_append l D cI cC cT x ot ou ov oh ox oy ox1 ox2 S Xt x2 hst)
  rw [← en1] at k9
  obtain ⟨o1, hg⟩ := hg
  refine fXq (As := [.int x2]) (rest := [.int 0, .ref o]) (st' := [.int n1.2.1, .int 0, .ref o]) ⟨hx, hb, hml, hown, hts⟩ k9 (cwV 1 hts gL_append_X5_append rfl rfl rfl (by decide +kernel) ⟨Nat.le_of_ble_eq_true rfl, Nat.le_of_ble_eq_true rfl⟩) hP hK3 hD hS hXE ([(o, .inl (cJ, 1, .inr (.inl O)))] : va_W) (pmI (fun a => by simp only [cntW_app, cntW_nil] <;> omega)) (w5 x ot ou ov oh ox oy S ++ w4 cI cC ox ox1 ox2 n1.2.2 ++ [(o, .inl (cJ, 1, .inr (.inl O)))]) (pmI (fun a => by simp only [cntW_app, cntW_nil] <;> omega)) rfl 0 (ci := 6) rfl rfl rfl rfl hl.1 rfl rfl (Nat.le_of_ble_eq_true rfl) ⟨Nat.le_of_ble_eq_true rfl, Nat.le_of_ble_eq_true rfl⟩ dL_append_4 (fun C9 ce9 q9 H locs hE9 hP hD hS hq9 hv9 hc9 => ?_) (fun H locs c_4 hP hD hS => ?_)
  · rcases o1 with h9 | h9
    · rw [hE9] at h9; cases h9
    · obtain rfl : C9 = "java/lang/IllegalStateException" := Option.some.inj (hE9.symm.trans h9)
      have c_4 : ¬ n1.1 = none := by rw [hE9]; exact fun z => nomatch z
      refine vx_catch hown [] ⟨0, 9, 12, 91⟩ [] htb (fun z hz => nomatch hz) rfl (by decide) (hts (Cond.classLink RL 91 "java/lang/IllegalStateException") (by decide +kernel)) (va_Nw.use rfl (hXE.1.1 _ (by decide +kernel))) hq9 hv9 hc9 ?_
      refine lv_astore_n (lv' := [(3, .ref q9), (0, .ref x), (1, .int x2), (2, .ref o)]) hx hb dL_append_12 rfl hl (by decide) rfl (fun ls hl => ?_)
      refine lv_iconst (v := 1) hx hb dL_append_13 (by decide) ?_
      have e9 : fL_append S Xt O x2 = (1, n1.2.2, O) := by rw [fL_append, ← en1, if_neg c_4]
      exact rLi hx hb hr hlk hQ hP hS (by rw [e9]) (congrArg (fun z9 : (Int32 × XV × (Nat → Int64)) => (w5 x ot ou ov oh ox oy S ++ w4 cI cC ox ox1 ox2 z9.2.1 ++ [(o, .inl (cJ, 1, .inr (.inl z9.2.2)))] : va_W)) e9).symm rfl ⟨Nat.le_of_ble_eq_true rfl, Nat.le_of_ble_eq_true rfl⟩ dL_append_14
  · rw [if_pos c_4] at hg
    refine lv_i2l (v := (n1.2.1.toInt64)) hx hb dL_append_7 rfl ?_
    obtain ⟨o2, hg⟩ := hg
    refine va_last hx hb hK hP hD hS 4 3 rfl rfl o2 dL_append_8 (fun H locs hP hD hS => ?_)
    have hP : va_P D vwCl (w5 x ot ou ov oh ox oy S ++ w4 cI cC ox ox1 ox2 n1.2.2 ++ [(o, .inl (cJ, 1, .inr (.inl (vp_updL O (0 : Int32).toNatClampNeg (n1.2.1.toInt64)))))]) H := hP
    have hD : va_D A (w5 x ot ou ov oh ox oy S ++ w4 cI cC ox ox1 ox2 n1.2.2 ++ [(o, .inl (cJ, 1, .inr (.inl (vp_updL O (0 : Int32).toNatClampNeg (n1.2.1.toInt64)))))]) := hD
    refine lv_goto (tgt := 15) hx hb dL_append_9 (by decide) ?_
    refine lv_iconst (v := 0) hx hb dL_append_15 (by decide) ?_
    have e9 : fL_append S Xt O x2 = (0, n1.2.2, (vp_updL O (0 : Int32).toNatClampNeg (n1.2.1.toInt64))) := by rw [fL_append, ← en1, if_pos c_4]
    exact rLi hx hb hr hlk hQ hP hS (by rw [e9]) (congrArg (fun z9 : (Int32 × XV × (Nat → Int64)) => (w5 x ot ou ov oh ox oy S ++ w4 cI cC ox ox1 ox2 z9.2.1 ++ [(o, .inl (cJ, 1, .inr (.inl z9.2.2)))] : va_W)) e9).symm rfl ⟨Nat.le_of_ble_eq_true rfl, Nat.le_of_ble_eq_true rfl⟩ dL_append_16
def fL_run (S : CV) (T : TV) (Hs : HV) (G : (Nat → TV)) (Xt : XV) (O : (Nat → Int64))  : (Int32 × CV × TV × HV × (Nat → TV) × XV × (Nat → Int64)) := (if (fX5_run S T Hs G Xt).1 = none then (0, (fX5_run S T Hs G Xt).2.2.1, (fX5_run S T Hs G Xt).2.2.2.1, (fX5_run S T Hs G Xt).2.2.2.2.1, (fX5_run S T Hs G Xt).2.2.2.2.2.1, (fX5_run S T Hs G Xt).2.2.2.2.2.2, (vp_updL O (0 : Int32).toNatClampNeg ((fX5_run S T Hs G Xt).2.1.toInt64))) else (if (fX5_run S T Hs G Xt).1 = some "java/lang/IllegalArgumentException" then (1, (fX5_run S T Hs G Xt).2.2.1, (fX5_run S T Hs G Xt).2.2.2.1, (fX5_run S T Hs G Xt).2.2.2.2.1, (fX5_run S T Hs G Xt).2.2.2.2.2.1, (fX5_run S T Hs G Xt).2.2.2.2.2.2, O) else (2, (fX5_run S T Hs G Xt).2.2.1, (fX5_run S T Hs G Xt).2.2.2.1, (fX5_run S T Hs G Xt).2.2.2.2.1, (fX5_run S T Hs G Xt).2.2.2.2.2.1, (fX5_run S T Hs G Xt).2.2.2.2.2.2, O)))
def gL_run (S : CV) (T : TV) (Hs : HV) (G : (Nat → TV)) (Xt : XV) (O : (Nat → Int64))  : Prop := (((fX5_run S T Hs G Xt).1 = none ∨ (fX5_run S T Hs G Xt).1 = some "java/lang/IllegalArgumentException" ∨ (fX5_run S T Hs G Xt).1 = some "java/lang/UnsupportedOperationException") ∧ (if (fX5_run S T Hs G Xt).1 = none then ((vp_in 0 1) ∧ True) else True))
abbrev rmL_run : Room := { frames := 7, cells := 1, slots := 6, locals := 164 }
set_option maxHeartbeats 4000000 in
set_option maxRecDepth 100000 in
theorem kL_run (l : Launch) (D : va_G) (cI cC cT cJ cQ : ClassId) (x ot ou ov oh ox oy ot1 ot2 rr ox1 ox2 o : Nat) (ra rb rc : Nat → Nat) (S : CV) (T : TV) (Hs : HV) (G : (Nat → TV)) (Xt : XV) (O : (Nat → Int64))  (hst : l.stackTraces = false) (hn : ∃ j : Nat, j < 9 ∧ Hs.1 = nI j) (hg : gL_run S T Hs G Xt O) : mL l D (TY5 cI cC cT cJ cQ) yL_run wsL_run rmL_run [.ref x, .ref o] (w5 x ot ou ov oh ox oy S ++ w3 cI ot ot1 ot2 T ++ w1 oh rr Hs ++ wR cI cT rr ra rb rc G ++ w4 cI cC ox ox1 ox2 Xt ++ [(o, .inl (cJ, 1, .inr (.inl O)))]) ((fL_run S T Hs G Xt O).1) (w5 x ot ou ov oh ox oy (fL_run S T Hs G Xt O).2.1 ++ w3 cI ot ot1 ot2 (fL_run S T Hs G Xt O).2.2.1 ++ w1 oh rr (fL_run S T Hs G Xt O).2.2.2.1 ++ wR cI cT rr ra rb rc (fL_run S T Hs G Xt O).2.2.2.2.1 ++ w4 cI cC ox ox1 ox2 (fL_run S T Hs G Xt O).2.2.2.2.2.1 ++ [(o, .inl (cJ, 1, .inr (.inl (fL_run S T Hs G Xt O).2.2.2.2.2.2)))]) 1 := by
  refine mL.ofW (hh := [(0, 8, 11, 13), (0, 8, 14, 15)]) (cc := cL_run) (maxL := 3) (ret := (some .int)) (by decide) rfl (Nat.le_of_ble_eq_true rfl) ?_
  intro p e s m args below meth c Q ls A hx hb hml hr hlk hts hown hP hK hD hS hl hXE hXN htb hQ
  have hK3 := hK.sub (tys' := TY cI cC cT) [0, 1, 2] rfl
  have hown : s.vm.findClass RL = some m.cls := hown
  have hP : va_P D vwCl (w5 x ot ou ov oh ox oy S ++ w3 cI ot ot1 ot2 T ++ w1 oh rr Hs ++ wR cI cT rr ra rb rc G ++ w4 cI cC ox ox1 ox2 Xt ++ [(o, .inl (cJ, 1, .inr (.inl O)))]) s.heap := hP
  have hD : va_D A (w5 x ot ou ov oh ox oy S ++ w3 cI ot ot1 ot2 T ++ w1 oh rr Hs ++ wR cI cT rr ra rb rc G ++ w4 cI cC ox ox1 ox2 Xt ++ [(o, .inl (cJ, 1, .inr (.inl O)))]) := hD
  have hl : lv_has ls 3 [(0, .ref x), (1, .ref o)] := hl
  unfold gL_run at hg
  generalize hHe : s.heap = H at hP ⊢
  have hS : va_S A s.heap H [] := hHe ▸ hS
  generalize hLe : ([] : List Loc) = locs at hS ⊢
  refine lv_aload_n hx hb dL_run_0 rfl (lv_at hl 1 rfl) ?_
  refine lv_iconst (v := 0) hx hb dL_run_1 (by decide) ?_
  refine lv_aload_n hx hb dL_run_2 rfl (lv_at hl 0 rfl) ?_
  obtain ⟨n1, en1⟩ : ∃ z9, z9 = (fX5_run S T Hs G Xt) := ⟨_, rfl⟩
  try rw [← en1] at hg
  have k9 := (kX5_run l D cI cC cT x ot ou ov oh ox oy ot1 ot2 rr ox1 ox2 ra rb rc S T Hs G Xt hst hn)
  rw [← en1] at k9
  obtain ⟨o1, hg⟩ := hg
  refine fXq (As := []) (rest := [.int 0, .ref o]) (st' := [.int n1.2.1, .int 0, .ref o]) ⟨hx, hb, hml, hown, hts⟩ k9 (cwV 0 hts gL_run_X5_run rfl rfl rfl (by decide +kernel) ⟨Nat.le_of_ble_eq_true rfl, Nat.le_of_ble_eq_true rfl⟩) hP hK3 hD hS hXE ([(o, .inl (cJ, 1, .inr (.inl O)))] : va_W) (pmI (fun a => by simp only [cntW_app, cntW_nil] <;> omega)) (w5 x ot ou ov oh ox oy n1.2.2.1 ++ w3 cI ot ot1 ot2 n1.2.2.2.1 ++ w1 oh rr n1.2.2.2.2.1 ++ wR cI cT rr ra rb rc n1.2.2.2.2.2.1 ++ w4 cI cC ox ox1 ox2 n1.2.2.2.2.2.2 ++ [(o, .inl (cJ, 1, .inr (.inl O)))]) (pmI (fun a => by simp only [cntW_app, cntW_nil] <;> omega)) rfl 0 (ci := 6) rfl rfl rfl rfl hl.1 rfl rfl (Nat.le_of_ble_eq_true rfl) ⟨Nat.le_of_ble_eq_true rfl, Nat.le_of_ble_eq_true rfl⟩ dL_run_3 (fun C9 ce9 q9 H locs hE9 hP hD hS hq9 hv9 hc9 => ?_) (fun H locs c_3 hP hD hS => ?_)
  · rcases o1 with h9 | h9 | h9
    · rw [hE9] at h9; cases h9
    · obtain rfl : C9 = "java/lang/IllegalArgumentException" := Option.some.inj (hE9.symm.trans h9)
      have c_3 : ¬ n1.1 = none := by rw [hE9]; exact fun z => nomatch z
      have c_3_0 : n1.1 = some "java/lang/IllegalArgumentException" := h9
      refine vx_catch hown [] ⟨0, 8, 11, 13⟩ [⟨0, 8, 14, 15⟩] htb (fun z hz => nomatch hz) rfl (by decide) (hts (Cond.classLink RL 13 "java/lang/IllegalArgumentException") (by decide +kernel)) (va_Nw.use rfl (hXE.1.1 _ (by decide +kernel))) hq9 hv9 hc9 ?_
      refine lv_astore_n (lv' := [(2, .ref q9), (0, .ref x), (1, .ref o)]) hx hb dL_run_11 rfl hl (by decide) rfl (fun ls hl => ?_)
      refine lv_iconst (v := 1) hx hb dL_run_12 (by decide) ?_
      have e9 : fL_run S T Hs G Xt O = (1, n1.2.2.1, n1.2.2.2.1, n1.2.2.2.2.1, n1.2.2.2.2.2.1, n1.2.2.2.2.2.2, O) := by rw [fL_run, ← en1, if_neg c_3, if_pos c_3_0]
      exact rLi hx hb hr hlk hQ hP hS (by rw [e9]) (congrArg (fun z9 : (Int32 × CV × TV × HV × (Nat → TV) × XV × (Nat → Int64)) => (w5 x ot ou ov oh ox oy z9.2.1 ++ w3 cI ot ot1 ot2 z9.2.2.1 ++ w1 oh rr z9.2.2.2.1 ++ wR cI cT rr ra rb rc z9.2.2.2.2.1 ++ w4 cI cC ox ox1 ox2 z9.2.2.2.2.2.1 ++ [(o, .inl (cJ, 1, .inr (.inl z9.2.2.2.2.2.2)))] : va_W)) e9).symm rfl ⟨Nat.le_of_ble_eq_true rfl, Nat.le_of_ble_eq_true rfl⟩ dL_run_13
    · obtain rfl : C9 = "java/lang/UnsupportedOperationException" := Option.some.inj (hE9.symm.trans h9)
      have c_3 : ¬ n1.1 = none := by rw [hE9]; exact fun z => nomatch z
      have c_3_0 : ¬ n1.1 = some "java/lang/IllegalArgumentException" := by rw [h9]; decide
      refine vx_catch hown [⟨0, 8, 11, 13⟩] ⟨0, 8, 14, 15⟩ [] htb (List.forall_mem_cons.mpr ⟨Or.inr ⟨by decide, "java/lang/IllegalArgumentException", hts (Cond.classLink RL 13 "java/lang/IllegalArgumentException") (by decide +kernel), hXN.1⟩, (fun z hz => nomatch hz)⟩) rfl (by decide) (hts (Cond.classLink RL 15 "java/lang/UnsupportedOperationException") (by decide +kernel)) (va_Nw.use rfl (hXE.1.1 _ (by decide +kernel))) hq9 hv9 hc9 ?_
      refine lv_astore_n (lv' := [(2, .ref q9), (0, .ref x), (1, .ref o)]) hx hb dL_run_14 rfl hl (by decide) rfl (fun ls hl => ?_)
      refine lv_iconst (v := 2) hx hb dL_run_15 (by decide) ?_
      have e9 : fL_run S T Hs G Xt O = (2, n1.2.2.1, n1.2.2.2.1, n1.2.2.2.2.1, n1.2.2.2.2.2.1, n1.2.2.2.2.2.2, O) := by rw [fL_run, ← en1, if_neg c_3, if_neg c_3_0]
      exact rLi hx hb hr hlk hQ hP hS (by rw [e9]) (congrArg (fun z9 : (Int32 × CV × TV × HV × (Nat → TV) × XV × (Nat → Int64)) => (w5 x ot ou ov oh ox oy z9.2.1 ++ w3 cI ot ot1 ot2 z9.2.2.1 ++ w1 oh rr z9.2.2.2.1 ++ wR cI cT rr ra rb rc z9.2.2.2.2.1 ++ w4 cI cC ox ox1 ox2 z9.2.2.2.2.2.1 ++ [(o, .inl (cJ, 1, .inr (.inl z9.2.2.2.2.2.2)))] : va_W)) e9).symm rfl ⟨Nat.le_of_ble_eq_true rfl, Nat.le_of_ble_eq_true rfl⟩ dL_run_16
  · rw [if_pos c_3] at hg
    refine lv_i2l (v := (n1.2.1.toInt64)) hx hb dL_run_6 rfl ?_
    obtain ⟨o2, hg⟩ := hg
    refine va_last hx hb hK hP hD hS 36 3 rfl rfl o2 dL_run_7 (fun H locs hP hD hS => ?_)
    have hP : va_P D vwCl (w5 x ot ou ov oh ox oy n1.2.2.1 ++ w3 cI ot ot1 ot2 n1.2.2.2.1 ++ w1 oh rr n1.2.2.2.2.1 ++ wR cI cT rr ra rb rc n1.2.2.2.2.2.1 ++ w4 cI cC ox ox1 ox2 n1.2.2.2.2.2.2 ++ [(o, .inl (cJ, 1, .inr (.inl (vp_updL O (0 : Int32).toNatClampNeg (n1.2.1.toInt64)))))]) H := hP
    have hD : va_D A (w5 x ot ou ov oh ox oy n1.2.2.1 ++ w3 cI ot ot1 ot2 n1.2.2.2.1 ++ w1 oh rr n1.2.2.2.2.1 ++ wR cI cT rr ra rb rc n1.2.2.2.2.2.1 ++ w4 cI cC ox ox1 ox2 n1.2.2.2.2.2.2 ++ [(o, .inl (cJ, 1, .inr (.inl (vp_updL O (0 : Int32).toNatClampNeg (n1.2.1.toInt64)))))]) := hD
    refine lv_goto (tgt := 17) hx hb dL_run_8 (by decide) ?_
    refine lv_iconst (v := 0) hx hb dL_run_17 (by decide) ?_
    have e9 : fL_run S T Hs G Xt O = (0, n1.2.2.1, n1.2.2.2.1, n1.2.2.2.2.1, n1.2.2.2.2.2.1, n1.2.2.2.2.2.2, (vp_updL O (0 : Int32).toNatClampNeg (n1.2.1.toInt64))) := by rw [fL_run, ← en1, if_pos c_3]
    exact rLi hx hb hr hlk hQ hP hS (by rw [e9]) (congrArg (fun z9 : (Int32 × CV × TV × HV × (Nat → TV) × XV × (Nat → Int64)) => (w5 x ot ou ov oh ox oy z9.2.1 ++ w3 cI ot ot1 ot2 z9.2.2.1 ++ w1 oh rr z9.2.2.2.1 ++ wR cI cT rr ra rb rc z9.2.2.2.2.1 ++ w4 cI cC ox ox1 ox2 z9.2.2.2.2.2.1 ++ [(o, .inl (cJ, 1, .inr (.inl z9.2.2.2.2.2.2)))] : va_W)) e9).symm rfl ⟨Nat.le_of_ble_eq_true rfl, Nat.le_of_ble_eq_true rfl⟩ dL_run_18
def fL_refusal (S : CV) (O : (Nat → Int64)) (x2 : Int32) : (Int32 × (Nat → Int64)) := (if (fX5_refusal S x2).1 = none then (0, (vp_updL O (0 : Int32).toNatClampNeg ((fX5_refusal S x2).2.toInt64))) else (1, O))
def gL_refusal (S : CV) (O : (Nat → Int64)) (x2 : Int32) : Prop := (((fX5_refusal S x2).1 = none ∨ (fX5_refusal S x2).1 = some "java/util/NoSuchElementException") ∧ (if (fX5_refusal S x2).1 = none then ((vp_in 0 1) ∧ True) else True))
abbrev rmL_refusal : Room := { frames := 7, cells := 1, slots := 6, locals := 103 }
set_option maxHeartbeats 4000000 in
set_option maxRecDepth 100000 in
theorem kL_refusal (l : Launch) (D : va_G) (cI cC cT cJ cQ : ClassId) (x ot ou ov oh ox oy o : Nat) (S : CV) (O : (Nat → Int64)) (x2 : Int32) (hst : l.stackTraces = false) (hg : gL_refusal S O x2) : mL l D (TY5 cI cC cT cJ cQ) yL_refusal wsL_refusal rmL_refusal [.ref x, .int x2, .ref o] (w5 x ot ou ov oh ox oy S ++ [(o, .inl (cJ, 1, .inr (.inl O)))]) ((fL_refusal S O x2).1) (w5 x ot ou ov oh ox oy S ++ [(o, .inl (cJ, 1, .inr (.inl (fL_refusal S O x2).2)))]) 1 := by
  refine mL.ofW (hh := [(0, 9, 12, 53)]) (cc := cL_refusal) (maxL := 4) (ret := (some .int)) (by decide) rfl (Nat.le_of_ble_eq_true rfl) ?_
  intro p e s m args below meth c Q ls A hx hb hml hr hlk hts hown hP hK hD hS hl hXE hXN htb hQ
  have hK3 := hK.sub (tys' := TY cI cC cT) [0, 1, 2] rfl
  have hown : s.vm.findClass RL = some m.cls := hown
  have hP : va_P D vwCl (w5 x ot ou ov oh ox oy S ++ [(o, .inl (cJ, 1, .inr (.inl O)))]) s.heap := hP
  have hD : va_D A (w5 x ot ou ov oh ox oy S ++ [(o, .inl (cJ, 1, .inr (.inl O)))]) := hD
  have hl : lv_has ls 4 [(0, .ref x), (1, .int x2), (2, .ref o)] := hl
  unfold gL_refusal at hg
  generalize hHe : s.heap = H at hP ⊢
  have hS : va_S A s.heap H [] := hHe ▸ hS
  generalize hLe : ([] : List Loc) = locs at hS ⊢
  refine lv_aload_n hx hb dL_refusal_0 rfl (lv_at hl 2 rfl) ?_
  refine lv_iconst (v := 0) hx hb dL_refusal_1 (by decide) ?_
  refine lv_aload_n hx hb dL_refusal_2 rfl (lv_at hl 0 rfl) ?_
  refine lv_iload_n hx hb dL_refusal_3 rfl (lv_at hl 1 rfl) ?_
  obtain ⟨n1, en1⟩ : ∃ z9, z9 = (fX5_refusal S x2) := ⟨_, rfl⟩
  try rw [← en1] at hg
  have k9 := (kX5_refusal l D cI cC cT x ot ou ov oh ox oy S x2 hst)
  rw [← en1] at k9
  obtain ⟨o1, hg⟩ := hg
  refine fXq (As := [.int x2]) (rest := [.int 0, .ref o]) (st' := [.int n1.2, .int 0, .ref o]) ⟨hx, hb, hml, hown, hts⟩ k9 (cwV 1 hts gL_refusal_X5_refusal rfl rfl rfl (by decide +kernel) ⟨Nat.le_of_ble_eq_true rfl, Nat.le_of_ble_eq_true rfl⟩) hP hK3 hD hS hXE ([(o, .inl (cJ, 1, .inr (.inl O)))] : va_W) (pmI (fun a => by simp only [cntW_app, cntW_nil] <;> omega)) (w5 x ot ou ov oh ox oy S ++ [(o, .inl (cJ, 1, .inr (.inl O)))]) (pmI (fun a => by simp only [cntW_app, cntW_nil] <;> omega)) rfl 0 (ci := 6) rfl rfl rfl rfl hl.1 rfl rfl (Nat.le_of_ble_eq_true rfl) ⟨Nat.le_of_ble_eq_true rfl, Nat.le_of_ble_eq_true rfl⟩ dL_refusal_4 (fun C9 ce9 q9 H locs hE9 hP hD hS hq9 hv9 hc9 => ?_) (fun H locs c_4 hP hD hS => ?_)
  · rcases o1 with h9 | h9
    · rw [hE9] at h9; cases h9
    · obtain rfl : C9 = "java/util/NoSuchElementException" := Option.some.inj (hE9.symm.trans h9)
      have c_4 : ¬ n1.1 = none := by rw [hE9]; exact fun z => nomatch z
      refine vx_catch hown [] ⟨0, 9, 12, 53⟩ [] htb (fun z hz => nomatch hz) rfl (by decide) (hts (Cond.classLink RL 53 "java/util/NoSuchElementException") (by decide +kernel)) (va_Nw.use rfl (hXE.1.1 _ (by decide +kernel))) hq9 hv9 hc9 ?_
      refine lv_astore_n (lv' := [(3, .ref q9), (0, .ref x), (1, .int x2), (2, .ref o)]) hx hb dL_refusal_12 rfl hl (by decide) rfl (fun ls hl => ?_)
      refine lv_iconst (v := 1) hx hb dL_refusal_13 (by decide) ?_
      have e9 : fL_refusal S O x2 = (1, O) := by rw [fL_refusal, ← en1, if_neg c_4]
      exact rLi hx hb hr hlk hQ hP hS (by rw [e9]) (congrArg (fun z9 : (Int32 × (Nat → Int64)) => (w5 x ot ou ov oh ox oy S ++ [(o, .inl (cJ, 1, .inr (.inl z9.2)))] : va_W)) e9).symm rfl ⟨Nat.le_of_ble_eq_true rfl, Nat.le_of_ble_eq_true rfl⟩ dL_refusal_14
  · rw [if_pos c_4] at hg
    refine lv_i2l (v := (n1.2.toInt64)) hx hb dL_refusal_7 rfl ?_
    obtain ⟨o2, hg⟩ := hg
    refine va_last hx hb hK hP hD hS 1 3 rfl rfl o2 dL_refusal_8 (fun H locs hP hD hS => ?_)
    have hP : va_P D vwCl (w5 x ot ou ov oh ox oy S ++ [(o, .inl (cJ, 1, .inr (.inl (vp_updL O (0 : Int32).toNatClampNeg (n1.2.toInt64)))))]) H := hP
    have hD : va_D A (w5 x ot ou ov oh ox oy S ++ [(o, .inl (cJ, 1, .inr (.inl (vp_updL O (0 : Int32).toNatClampNeg (n1.2.toInt64)))))]) := hD
    refine lv_goto (tgt := 15) hx hb dL_refusal_9 (by decide) ?_
    refine lv_iconst (v := 0) hx hb dL_refusal_15 (by decide) ?_
    have e9 : fL_refusal S O x2 = (0, (vp_updL O (0 : Int32).toNatClampNeg (n1.2.toInt64))) := by rw [fL_refusal, ← en1, if_pos c_4]
    exact rLi hx hb hr hlk hQ hP hS (by rw [e9]) (congrArg (fun z9 : (Int32 × (Nat → Int64)) => (w5 x ot ou ov oh ox oy S ++ [(o, .inl (cJ, 1, .inr (.inl z9.2)))] : va_W)) e9).symm rfl ⟨Nat.le_of_ble_eq_true rfl, Nat.le_of_ble_eq_true rfl⟩ dL_refusal_16
def fL_account (S : CV) (T : TV) (Hs : HV) (Xt : XV) (O : (Nat → Int64)) (x2 : Int32) : (Int32 × (Nat → Int64)) := (if (fX5_account S T Hs Xt x2).1 = none then (0, (vp_updL O (0 : Int32).toNatClampNeg ((fX5_account S T Hs Xt x2).2.toInt64))) else (1, O))
def gL_account (S : CV) (T : TV) (Hs : HV) (Xt : XV) (O : (Nat → Int64)) (x2 : Int32) : Prop := (((fX5_account S T Hs Xt x2).1 = none ∨ (fX5_account S T Hs Xt x2).1 = some "java/lang/IllegalArgumentException") ∧ (if (fX5_account S T Hs Xt x2).1 = none then ((vp_in 0 1) ∧ True) else True))
abbrev rmL_account : Room := { frames := 7, cells := 1, slots := 6, locals := 103 }
set_option maxHeartbeats 4000000 in
set_option maxRecDepth 100000 in
theorem kL_account (l : Launch) (D : va_G) (cI cC cT cJ cQ : ClassId) (x ot ou ov oh ox oy ot1 ot2 rr ox1 ox2 o : Nat) (S : CV) (T : TV) (Hs : HV) (Xt : XV) (O : (Nat → Int64)) (x2 : Int32) (hst : l.stackTraces = false) (hg : gL_account S T Hs Xt O x2) : mL l D (TY5 cI cC cT cJ cQ) yL_account wsL_account rmL_account [.ref x, .int x2, .ref o] (w5 x ot ou ov oh ox oy S ++ w3 cI ot ot1 ot2 T ++ w1 oh rr Hs ++ w4 cI cC ox ox1 ox2 Xt ++ [(o, .inl (cJ, 1, .inr (.inl O)))]) ((fL_account S T Hs Xt O x2).1) (w5 x ot ou ov oh ox oy S ++ w3 cI ot ot1 ot2 T ++ w1 oh rr Hs ++ w4 cI cC ox ox1 ox2 Xt ++ [(o, .inl (cJ, 1, .inr (.inl (fL_account S T Hs Xt O x2).2)))]) 1 := by
  refine mL.ofW (hh := [(0, 9, 12, 13)]) (cc := cL_account) (maxL := 4) (ret := (some .int)) (by decide) rfl (Nat.le_of_ble_eq_true rfl) ?_
  intro p e s m args below meth c Q ls A hx hb hml hr hlk hts hown hP hK hD hS hl hXE hXN htb hQ
  have hK3 := hK.sub (tys' := TY cI cC cT) [0, 1, 2] rfl
  have hown : s.vm.findClass RL = some m.cls := hown
  have hP : va_P D vwCl (w5 x ot ou ov oh ox oy S ++ w3 cI ot ot1 ot2 T ++ w1 oh rr Hs ++ w4 cI cC ox ox1 ox2 Xt ++ [(o, .inl (cJ, 1, .inr (.inl O)))]) s.heap := hP
  have hD : va_D A (w5 x ot ou ov oh ox oy S ++ w3 cI ot ot1 ot2 T ++ w1 oh rr Hs ++ w4 cI cC ox ox1 ox2 Xt ++ [(o, .inl (cJ, 1, .inr (.inl O)))]) := hD
  have hl : lv_has ls 4 [(0, .ref x), (1, .int x2), (2, .ref o)] := hl
  unfold gL_account at hg
  generalize hHe : s.heap = H at hP ⊢
  have hS : va_S A s.heap H [] := hHe ▸ hS
  generalize hLe : ([] : List Loc) = locs at hS ⊢
  refine lv_aload_n hx hb dL_account_0 rfl (lv_at hl 2 rfl) ?_
  refine lv_iconst (v := 0) hx hb dL_account_1 (by decide) ?_
  refine lv_aload_n hx hb dL_account_2 rfl (lv_at hl 0 rfl) ?_
  refine lv_iload_n hx hb dL_account_3 rfl (lv_at hl 1 rfl) ?_
  obtain ⟨n1, en1⟩ : ∃ z9, z9 = (fX5_account S T Hs Xt x2) := ⟨_, rfl⟩
  try rw [← en1] at hg
  have k9 := (kX5_account l D cI cC cT x ot ou ov oh ox oy ot1 ot2 rr ox1 ox2 S T Hs Xt x2 hst)
  rw [← en1] at k9
  obtain ⟨o1, hg⟩ := hg
  refine fXq (As := [.int x2]) (rest := [.int 0, .ref o]) (st' := [.int n1.2, .int 0, .ref o]) ⟨hx, hb, hml, hown, hts⟩ k9 (cwV 1 hts gL_account_X5_account rfl rfl rfl (by decide +kernel) ⟨Nat.le_of_ble_eq_true rfl, Nat.le_of_ble_eq_true rfl⟩) hP hK3 hD hS hXE ([(o, .inl (cJ, 1, .inr (.inl O)))] : va_W) (pmI (fun a => by simp only [cntW_app, cntW_nil] <;> omega)) (w5 x ot ou ov oh ox oy S ++ w3 cI ot ot1 ot2 T ++ w1 oh rr Hs ++ w4 cI cC ox ox1 ox2 Xt ++ [(o, .inl (cJ, 1, .inr (.inl O)))]) (pmI (fun a => by simp only [cntW_app, cntW_nil] <;> omega)) rfl 0 (ci := 6) rfl rfl rfl rfl hl.1 rfl rfl (Nat.le_of_ble_eq_true rfl) ⟨Nat.le_of_ble_eq_true rfl, Nat.le_of_ble_eq_true rfl⟩ dL_account_4 (fun C9 ce9 q9 H locs hE9 hP hD hS hq9 hv9 hc9 => ?_) (fun H locs c_4 hP hD hS => ?_)
  · rcases o1 with h9 | h9
    · rw [hE9] at h9; cases h9
    · obtain rfl : C9 = "java/lang/IllegalArgumentException" := Option.some.inj (hE9.symm.trans h9)
      have c_4 : ¬ n1.1 = none := by rw [hE9]; exact fun z => nomatch z
      refine vx_catch hown [] ⟨0, 9, 12, 13⟩ [] htb (fun z hz => nomatch hz) rfl (by decide) (hts (Cond.classLink RL 13 "java/lang/IllegalArgumentException") (by decide +kernel)) (va_Nw.use rfl (hXE.1.1 _ (by decide +kernel))) hq9 hv9 hc9 ?_
      refine lv_astore_n (lv' := [(3, .ref q9), (0, .ref x), (1, .int x2), (2, .ref o)]) hx hb dL_account_12 rfl hl (by decide) rfl (fun ls hl => ?_)
      refine lv_iconst (v := 1) hx hb dL_account_13 (by decide) ?_
      have e9 : fL_account S T Hs Xt O x2 = (1, O) := by rw [fL_account, ← en1, if_neg c_4]
      exact rLi hx hb hr hlk hQ hP hS (by rw [e9]) (congrArg (fun z9 : (Int32 × (Nat → Int64)) => (w5 x ot ou ov oh ox oy S ++ w3 cI ot ot1 ot2 T ++ w1 oh rr Hs ++ w4 cI cC ox ox1 ox2 Xt ++ [(o, .inl (cJ, 1, .inr (.inl z9.2)))] : va_W)) e9).symm rfl ⟨Nat.le_of_ble_eq_true rfl, Nat.le_of_ble_eq_true rfl⟩ dL_account_14
  · rw [if_pos c_4] at hg
    refine lv_i2l (v := (n1.2.toInt64)) hx hb dL_account_7 rfl ?_
    obtain ⟨o2, hg⟩ := hg
    refine va_last hx hb hK hP hD hS 8 3 rfl rfl o2 dL_account_8 (fun H locs hP hD hS => ?_)
    have hP : va_P D vwCl (w5 x ot ou ov oh ox oy S ++ w3 cI ot ot1 ot2 T ++ w1 oh rr Hs ++ w4 cI cC ox ox1 ox2 Xt ++ [(o, .inl (cJ, 1, .inr (.inl (vp_updL O (0 : Int32).toNatClampNeg (n1.2.toInt64)))))]) H := hP
    have hD : va_D A (w5 x ot ou ov oh ox oy S ++ w3 cI ot ot1 ot2 T ++ w1 oh rr Hs ++ w4 cI cC ox ox1 ox2 Xt ++ [(o, .inl (cJ, 1, .inr (.inl (vp_updL O (0 : Int32).toNatClampNeg (n1.2.toInt64)))))]) := hD
    refine lv_goto (tgt := 15) hx hb dL_account_9 (by decide) ?_
    refine lv_iconst (v := 0) hx hb dL_account_15 (by decide) ?_
    have e9 : fL_account S T Hs Xt O x2 = (0, (vp_updL O (0 : Int32).toNatClampNeg (n1.2.toInt64))) := by rw [fL_account, ← en1, if_pos c_4]
    exact rLi hx hb hr hlk hQ hP hS (by rw [e9]) (congrArg (fun z9 : (Int32 × (Nat → Int64)) => (w5 x ot ou ov oh ox oy S ++ w3 cI ot ot1 ot2 T ++ w1 oh rr Hs ++ w4 cI cC ox ox1 ox2 Xt ++ [(o, .inl (cJ, 1, .inr (.inl z9.2)))] : va_W)) e9).symm rfl ⟨Nat.le_of_ble_eq_true rfl, Nat.le_of_ble_eq_true rfl⟩ dL_account_16
def fL_meanHeight (S : CV) (T : TV) (O : (Nat → UInt64))  : (Int32 × (Nat → UInt64)) := (if (fX5_meanHeight S T).1 = none then (0, (vf_upd O (0 : Int32).toNatClampNeg (fX5_meanHeight S T).2)) else (1, O))
def gL_meanHeight (S : CV) (T : TV) (O : (Nat → UInt64))  : Prop := ((gX5_meanHeight S T) ∧ ((fX5_meanHeight S T).1 = none ∨ (fX5_meanHeight S T).1 = some "java/lang/ArithmeticException") ∧ (if (fX5_meanHeight S T).1 = none then ((vp_in 0 1) ∧ True) else True))
abbrev rmL_meanHeight : Room := { frames := 7, cells := 1, slots := 6, locals := 103 }
set_option maxHeartbeats 4000000 in
set_option maxRecDepth 100000 in
theorem kL_meanHeight (l : Launch) (D : va_G) (cI cC cT cJ cQ : ClassId) (x ot ou ov oh ox oy ot1 ot2 o : Nat) (S : CV) (T : TV) (O : (Nat → UInt64))  (hst : l.stackTraces = false) (hg : gL_meanHeight S T O) : mL l D (TY5 cI cC cT cJ cQ) yL_meanHeight wsL_meanHeight rmL_meanHeight [.ref x, .ref o] (w5 x ot ou ov oh ox oy S ++ w3 cI ot ot1 ot2 T ++ [(o, .inl (cQ, 1, .inr (.inr (.inr (.inl O)))))]) ((fL_meanHeight S T O).1) (w5 x ot ou ov oh ox oy S ++ w3 cI ot ot1 ot2 T ++ [(o, .inl (cQ, 1, .inr (.inr (.inr (.inl (fL_meanHeight S T O).2)))))]) 1 := by
  refine mL.ofW (hh := [(0, 7, 10, 107)]) (cc := cL_meanHeight) (maxL := 3) (ret := (some .int)) (by decide) rfl (Nat.le_of_ble_eq_true rfl) ?_
  intro p e s m args below meth c Q ls A hx hb hml hr hlk hts hown hP hK hD hS hl hXE hXN htb hQ
  have hK3 := hK.sub (tys' := TY cI cC cT) [0, 1, 2] rfl
  have hown : s.vm.findClass RL = some m.cls := hown
  have hP : va_P D vwCl (w5 x ot ou ov oh ox oy S ++ w3 cI ot ot1 ot2 T ++ [(o, .inl (cQ, 1, .inr (.inr (.inr (.inl O)))))]) s.heap := hP
  have hD : va_D A (w5 x ot ou ov oh ox oy S ++ w3 cI ot ot1 ot2 T ++ [(o, .inl (cQ, 1, .inr (.inr (.inr (.inl O)))))]) := hD
  have hl : lv_has ls 3 [(0, .ref x), (1, .ref o)] := hl
  unfold gL_meanHeight at hg
  generalize hHe : s.heap = H at hP ⊢
  have hS : va_S A s.heap H [] := hHe ▸ hS
  generalize hLe : ([] : List Loc) = locs at hS ⊢
  refine lv_aload_n hx hb dL_meanHeight_0 rfl (lv_at hl 1 rfl) ?_
  refine lv_iconst (v := 0) hx hb dL_meanHeight_1 (by decide) ?_
  refine lv_aload_n hx hb dL_meanHeight_2 rfl (lv_at hl 0 rfl) ?_
  obtain ⟨n1, en1⟩ : ∃ z9, z9 = (fX5_meanHeight S T) := ⟨_, rfl⟩
  try rw [← en1] at hg
  obtain ⟨o1, hg⟩ := hg
  have k9 := (kX5_meanHeight l D cI cC cT x ot ou ov oh ox oy ot1 ot2 S T hst o1)
  rw [← en1] at k9
  obtain ⟨o2, hg⟩ := hg
  refine fXq (As := []) (rest := [.int 0, .ref o]) (st' := [.double n1.2, .int 0, .ref o]) ⟨hx, hb, hml, hown, hts⟩ k9 (cwV 0 hts gL_meanHeight_X5_meanHeight rfl rfl rfl (by decide +kernel) ⟨Nat.le_of_ble_eq_true rfl, Nat.le_of_ble_eq_true rfl⟩) hP hK3 hD hS hXE ([(o, .inl (cQ, 1, .inr (.inr (.inr (.inl O)))))] : va_W) (pmI (fun a => by simp only [cntW_app, cntW_nil] <;> omega)) (w5 x ot ou ov oh ox oy S ++ w3 cI ot ot1 ot2 T ++ [(o, .inl (cQ, 1, .inr (.inr (.inr (.inl O)))))]) (pmI (fun a => by simp only [cntW_app, cntW_nil] <;> omega)) rfl 0 (ci := 6) rfl rfl rfl rfl hl.1 rfl rfl (Nat.le_of_ble_eq_true rfl) ⟨Nat.le_of_ble_eq_true rfl, Nat.le_of_ble_eq_true rfl⟩ dL_meanHeight_3 (fun C9 ce9 q9 H locs hE9 hP hD hS hq9 hv9 hc9 => ?_) (fun H locs c_3 hP hD hS => ?_)
  · rcases o2 with h9 | h9
    · rw [hE9] at h9; cases h9
    · obtain rfl : C9 = "java/lang/ArithmeticException" := Option.some.inj (hE9.symm.trans h9)
      have c_3 : ¬ n1.1 = none := by rw [hE9]; exact fun z => nomatch z
      refine vx_catch hown [] ⟨0, 7, 10, 107⟩ [] htb (fun z hz => nomatch hz) rfl (by decide) (hts (Cond.classLink RL 107 "java/lang/ArithmeticException") (by decide +kernel)) (va_Nw.use rfl (hXE.1.1 _ (by decide +kernel))) hq9 hv9 hc9 ?_
      refine lv_astore_n (lv' := [(2, .ref q9), (0, .ref x), (1, .ref o)]) hx hb dL_meanHeight_10 rfl hl (by decide) rfl (fun ls hl => ?_)
      refine lv_iconst (v := 1) hx hb dL_meanHeight_11 (by decide) ?_
      have e9 : fL_meanHeight S T O = (1, O) := by rw [fL_meanHeight, ← en1, if_neg c_3]
      exact rLi hx hb hr hlk hQ hP hS (by rw [e9]) (congrArg (fun z9 : (Int32 × (Nat → UInt64)) => (w5 x ot ou ov oh ox oy S ++ w3 cI ot ot1 ot2 T ++ [(o, .inl (cQ, 1, .inr (.inr (.inr (.inl z9.2)))))] : va_W)) e9).symm rfl ⟨Nat.le_of_ble_eq_true rfl, Nat.le_of_ble_eq_true rfl⟩ dL_meanHeight_12
  · rw [if_pos c_3] at hg
    obtain ⟨o3, hg⟩ := hg
    refine va_dast hx hb hK hP hD hS 4 4 rfl rfl o3 dL_meanHeight_6 (fun H locs hP hD hS => ?_)
    have hP : va_P D vwCl (w5 x ot ou ov oh ox oy S ++ w3 cI ot ot1 ot2 T ++ [(o, .inl (cQ, 1, .inr (.inr (.inr (.inl (vf_upd O (0 : Int32).toNatClampNeg n1.2))))))]) H := hP
    have hD : va_D A (w5 x ot ou ov oh ox oy S ++ w3 cI ot ot1 ot2 T ++ [(o, .inl (cQ, 1, .inr (.inr (.inr (.inl (vf_upd O (0 : Int32).toNatClampNeg n1.2))))))]) := hD
    refine lv_goto (tgt := 13) hx hb dL_meanHeight_7 (by decide) ?_
    refine lv_iconst (v := 0) hx hb dL_meanHeight_13 (by decide) ?_
    have e9 : fL_meanHeight S T O = (0, (vf_upd O (0 : Int32).toNatClampNeg n1.2)) := by rw [fL_meanHeight, ← en1, if_pos c_3]
    exact rLi hx hb hr hlk hQ hP hS (by rw [e9]) (congrArg (fun z9 : (Int32 × (Nat → UInt64)) => (w5 x ot ou ov oh ox oy S ++ w3 cI ot ot1 ot2 T ++ [(o, .inl (cQ, 1, .inr (.inr (.inr (.inl z9.2)))))] : va_W)) e9).symm rfl ⟨Nat.le_of_ble_eq_true rfl, Nat.le_of_ble_eq_true rfl⟩ dL_meanHeight_14
def fL_undo (S : CV) (T : TV) (Hs : HV) (G : (Nat → TV)) (O : (Nat → Int64))  : (Int32 × TV × HV × (Nat → Int64)) := (if (fX5_undo S T Hs G).1 = none then (0, (fX5_undo S T Hs G).2.2.1, (fX5_undo S T Hs G).2.2.2, (vp_updL O (0 : Int32).toNatClampNeg ((fX5_undo S T Hs G).2.1.toInt64))) else (1, (fX5_undo S T Hs G).2.2.1, (fX5_undo S T Hs G).2.2.2, O))
def gL_undo (S : CV) (T : TV) (Hs : HV) (G : (Nat → TV)) (O : (Nat → Int64))  : Prop := (((fX5_undo S T Hs G).1 = none ∨ (fX5_undo S T Hs G).1 = some "java/lang/IllegalStateException") ∧ (if (fX5_undo S T Hs G).1 = none then ((vp_in 0 1) ∧ True) else True))
abbrev rmL_undo : Room := { frames := 7, cells := 1, slots := 6, locals := 148 }
set_option maxHeartbeats 4000000 in
set_option maxRecDepth 100000 in
theorem kL_undo (l : Launch) (D : va_G) (cI cC cT cJ cQ : ClassId) (x ot ou ov oh ox oy ot1 ot2 rr o : Nat) (ra rb rc : Nat → Nat) (S : CV) (T : TV) (Hs : HV) (G : (Nat → TV)) (O : (Nat → Int64))  (hst : l.stackTraces = false) (hn : ∃ j : Nat, j < 9 ∧ Hs.1 = nI j) (hg : gL_undo S T Hs G O) : mL l D (TY5 cI cC cT cJ cQ) yL_undo wsL_undo rmL_undo [.ref x, .ref o] (w5 x ot ou ov oh ox oy S ++ w3 cI ot ot1 ot2 T ++ w1 oh rr Hs ++ wR cI cT rr ra rb rc G ++ [(o, .inl (cJ, 1, .inr (.inl O)))]) ((fL_undo S T Hs G O).1) (w5 x ot ou ov oh ox oy S ++ w3 cI ot ot1 ot2 (fL_undo S T Hs G O).2.1 ++ w1 oh rr (fL_undo S T Hs G O).2.2.1 ++ wR cI cT rr ra rb rc G ++ [(o, .inl (cJ, 1, .inr (.inl (fL_undo S T Hs G O).2.2.2)))]) 1 := by
  refine mL.ofW (hh := [(0, 8, 11, 91)]) (cc := cL_undo) (maxL := 3) (ret := (some .int)) (by decide) rfl (Nat.le_of_ble_eq_true rfl) ?_
  intro p e s m args below meth c Q ls A hx hb hml hr hlk hts hown hP hK hD hS hl hXE hXN htb hQ
  have hK3 := hK.sub (tys' := TY cI cC cT) [0, 1, 2] rfl
  have hown : s.vm.findClass RL = some m.cls := hown
  have hP : va_P D vwCl (w5 x ot ou ov oh ox oy S ++ w3 cI ot ot1 ot2 T ++ w1 oh rr Hs ++ wR cI cT rr ra rb rc G ++ [(o, .inl (cJ, 1, .inr (.inl O)))]) s.heap := hP
  have hD : va_D A (w5 x ot ou ov oh ox oy S ++ w3 cI ot ot1 ot2 T ++ w1 oh rr Hs ++ wR cI cT rr ra rb rc G ++ [(o, .inl (cJ, 1, .inr (.inl O)))]) := hD
  have hl : lv_has ls 3 [(0, .ref x), (1, .ref o)] := hl
  unfold gL_undo at hg
  generalize hHe : s.heap = H at hP ⊢
  have hS : va_S A s.heap H [] := hHe ▸ hS
  generalize hLe : ([] : List Loc) = locs at hS ⊢
  refine lv_aload_n hx hb dL_undo_0 rfl (lv_at hl 1 rfl) ?_
  refine lv_iconst (v := 0) hx hb dL_undo_1 (by decide) ?_
  refine lv_aload_n hx hb dL_undo_2 rfl (lv_at hl 0 rfl) ?_
  obtain ⟨n1, en1⟩ : ∃ z9, z9 = (fX5_undo S T Hs G) := ⟨_, rfl⟩
  try rw [← en1] at hg
  have k9 := (kX5_undo l D cI cC cT x ot ou ov oh ox oy ot1 ot2 rr ra rb rc S T Hs G hst hn)
  rw [← en1] at k9
  obtain ⟨o1, hg⟩ := hg
  refine fXq (As := []) (rest := [.int 0, .ref o]) (st' := [.int n1.2.1, .int 0, .ref o]) ⟨hx, hb, hml, hown, hts⟩ k9 (cwV 0 hts gL_undo_X5_undo rfl rfl rfl (by decide +kernel) ⟨Nat.le_of_ble_eq_true rfl, Nat.le_of_ble_eq_true rfl⟩) hP hK3 hD hS hXE ([(o, .inl (cJ, 1, .inr (.inl O)))] : va_W) (pmI (fun a => by simp only [cntW_app, cntW_nil] <;> omega)) (w5 x ot ou ov oh ox oy S ++ w3 cI ot ot1 ot2 n1.2.2.1 ++ w1 oh rr n1.2.2.2 ++ wR cI cT rr ra rb rc G ++ [(o, .inl (cJ, 1, .inr (.inl O)))]) (pmI (fun a => by simp only [cntW_app, cntW_nil] <;> omega)) rfl 0 (ci := 6) rfl rfl rfl rfl hl.1 rfl rfl (Nat.le_of_ble_eq_true rfl) ⟨Nat.le_of_ble_eq_true rfl, Nat.le_of_ble_eq_true rfl⟩ dL_undo_3 (fun C9 ce9 q9 H locs hE9 hP hD hS hq9 hv9 hc9 => ?_) (fun H locs c_3 hP hD hS => ?_)
  · rcases o1 with h9 | h9
    · rw [hE9] at h9; cases h9
    · obtain rfl : C9 = "java/lang/IllegalStateException" := Option.some.inj (hE9.symm.trans h9)
      have c_3 : ¬ n1.1 = none := by rw [hE9]; exact fun z => nomatch z
      refine vx_catch hown [] ⟨0, 8, 11, 91⟩ [] htb (fun z hz => nomatch hz) rfl (by decide) (hts (Cond.classLink RL 91 "java/lang/IllegalStateException") (by decide +kernel)) (va_Nw.use rfl (hXE.1.1 _ (by decide +kernel))) hq9 hv9 hc9 ?_
      refine lv_astore_n (lv' := [(2, .ref q9), (0, .ref x), (1, .ref o)]) hx hb dL_undo_11 rfl hl (by decide) rfl (fun ls hl => ?_)
      refine lv_iconst (v := 1) hx hb dL_undo_12 (by decide) ?_
      have e9 : fL_undo S T Hs G O = (1, n1.2.2.1, n1.2.2.2, O) := by rw [fL_undo, ← en1, if_neg c_3]
      exact rLi hx hb hr hlk hQ hP hS (by rw [e9]) (congrArg (fun z9 : (Int32 × TV × HV × (Nat → Int64)) => (w5 x ot ou ov oh ox oy S ++ w3 cI ot ot1 ot2 z9.2.1 ++ w1 oh rr z9.2.2.1 ++ wR cI cT rr ra rb rc G ++ [(o, .inl (cJ, 1, .inr (.inl z9.2.2.2)))] : va_W)) e9).symm rfl ⟨Nat.le_of_ble_eq_true rfl, Nat.le_of_ble_eq_true rfl⟩ dL_undo_13
  · rw [if_pos c_3] at hg
    refine lv_i2l (v := (n1.2.1.toInt64)) hx hb dL_undo_6 rfl ?_
    obtain ⟨o2, hg⟩ := hg
    refine va_last hx hb hK hP hD hS 33 3 rfl rfl o2 dL_undo_7 (fun H locs hP hD hS => ?_)
    have hP : va_P D vwCl (w5 x ot ou ov oh ox oy S ++ w3 cI ot ot1 ot2 n1.2.2.1 ++ w1 oh rr n1.2.2.2 ++ wR cI cT rr ra rb rc G ++ [(o, .inl (cJ, 1, .inr (.inl (vp_updL O (0 : Int32).toNatClampNeg (n1.2.1.toInt64)))))]) H := hP
    have hD : va_D A (w5 x ot ou ov oh ox oy S ++ w3 cI ot ot1 ot2 n1.2.2.1 ++ w1 oh rr n1.2.2.2 ++ wR cI cT rr ra rb rc G ++ [(o, .inl (cJ, 1, .inr (.inl (vp_updL O (0 : Int32).toNatClampNeg (n1.2.1.toInt64)))))]) := hD
    refine lv_goto (tgt := 14) hx hb dL_undo_8 (by decide) ?_
    refine lv_iconst (v := 0) hx hb dL_undo_14 (by decide) ?_
    have e9 : fL_undo S T Hs G O = (0, n1.2.2.1, n1.2.2.2, (vp_updL O (0 : Int32).toNatClampNeg (n1.2.1.toInt64))) := by rw [fL_undo, ← en1, if_pos c_3]
    exact rLi hx hb hr hlk hQ hP hS (by rw [e9]) (congrArg (fun z9 : (Int32 × TV × HV × (Nat → Int64)) => (w5 x ot ou ov oh ox oy S ++ w3 cI ot ot1 ot2 z9.2.1 ++ w1 oh rr z9.2.2.1 ++ wR cI cT rr ra rb rc G ++ [(o, .inl (cJ, 1, .inr (.inl z9.2.2.2)))] : va_W)) e9).symm rfl ⟨Nat.le_of_ble_eq_true rfl, Nat.le_of_ble_eq_true rfl⟩ dL_undo_15
def fL_restore (S : CV) (T : TV) (Sn : TV) (Hs : HV) (O : (Nat → Int64))  : (Int32 × TV × HV × (Nat → Int64)) := (if (fX5_restore S T Sn Hs).1 = none then (0, (fX5_restore S T Sn Hs).2.2.1, (fX5_restore S T Sn Hs).2.2.2, (vp_updL O (0 : Int32).toNatClampNeg ((fX5_restore S T Sn Hs).2.1.toInt64))) else (1, (fX5_restore S T Sn Hs).2.2.1, (fX5_restore S T Sn Hs).2.2.2, O))
def gL_restore (S : CV) (T : TV) (Sn : TV) (Hs : HV) (O : (Nat → Int64))  : Prop := (((fX5_restore S T Sn Hs).1 = none ∨ (fX5_restore S T Sn Hs).1 = some "java/lang/IllegalStateException") ∧ (if (fX5_restore S T Sn Hs).1 = none then ((vp_in 0 1) ∧ True) else True))
abbrev rmL_restore : Room := { frames := 7, cells := 1, slots := 6, locals := 105 }
set_option maxHeartbeats 4000000 in
set_option maxRecDepth 100000 in
theorem kL_restore (l : Launch) (D : va_G) (cI cC cT cJ cQ : ClassId) (x ot ou ov oh ox oy ot1 ot2 ov1 ov2 rr o : Nat) (S : CV) (T : TV) (Sn : TV) (Hs : HV) (O : (Nat → Int64))  (hst : l.stackTraces = false) (hg : gL_restore S T Sn Hs O) : mL l D (TY5 cI cC cT cJ cQ) yL_restore wsL_restore rmL_restore [.ref x, .ref o] (w5 x ot ou ov oh ox oy S ++ w3 cI ot ot1 ot2 T ++ w3 cI ov ov1 ov2 Sn ++ w1 oh rr Hs ++ [(o, .inl (cJ, 1, .inr (.inl O)))]) ((fL_restore S T Sn Hs O).1) (w5 x ot ou ov oh ox oy S ++ w3 cI ot ot1 ot2 (fL_restore S T Sn Hs O).2.1 ++ w3 cI ov ov1 ov2 Sn ++ w1 oh rr (fL_restore S T Sn Hs O).2.2.1 ++ [(o, .inl (cJ, 1, .inr (.inl (fL_restore S T Sn Hs O).2.2.2)))]) 1 := by
  refine mL.ofW (hh := [(0, 8, 11, 91)]) (cc := cL_restore) (maxL := 3) (ret := (some .int)) (by decide) rfl (Nat.le_of_ble_eq_true rfl) ?_
  intro p e s m args below meth c Q ls A hx hb hml hr hlk hts hown hP hK hD hS hl hXE hXN htb hQ
  have hK3 := hK.sub (tys' := TY cI cC cT) [0, 1, 2] rfl
  have hown : s.vm.findClass RL = some m.cls := hown
  have hP : va_P D vwCl (w5 x ot ou ov oh ox oy S ++ w3 cI ot ot1 ot2 T ++ w3 cI ov ov1 ov2 Sn ++ w1 oh rr Hs ++ [(o, .inl (cJ, 1, .inr (.inl O)))]) s.heap := hP
  have hD : va_D A (w5 x ot ou ov oh ox oy S ++ w3 cI ot ot1 ot2 T ++ w3 cI ov ov1 ov2 Sn ++ w1 oh rr Hs ++ [(o, .inl (cJ, 1, .inr (.inl O)))]) := hD
  have hl : lv_has ls 3 [(0, .ref x), (1, .ref o)] := hl
  unfold gL_restore at hg
  generalize hHe : s.heap = H at hP ⊢
  have hS : va_S A s.heap H [] := hHe ▸ hS
  generalize hLe : ([] : List Loc) = locs at hS ⊢
  refine lv_aload_n hx hb dL_restore_0 rfl (lv_at hl 1 rfl) ?_
  refine lv_iconst (v := 0) hx hb dL_restore_1 (by decide) ?_
  refine lv_aload_n hx hb dL_restore_2 rfl (lv_at hl 0 rfl) ?_
  obtain ⟨n1, en1⟩ : ∃ z9, z9 = (fX5_restore S T Sn Hs) := ⟨_, rfl⟩
  try rw [← en1] at hg
  have k9 := (kX5_restore l D cI cC cT x ot ou ov oh ox oy ot1 ot2 ov1 ov2 rr S T Sn Hs hst)
  rw [← en1] at k9
  obtain ⟨o1, hg⟩ := hg
  refine fXq (As := []) (rest := [.int 0, .ref o]) (st' := [.int n1.2.1, .int 0, .ref o]) ⟨hx, hb, hml, hown, hts⟩ k9 (cwV 0 hts gL_restore_X5_restore rfl rfl rfl (by decide +kernel) ⟨Nat.le_of_ble_eq_true rfl, Nat.le_of_ble_eq_true rfl⟩) hP hK3 hD hS hXE ([(o, .inl (cJ, 1, .inr (.inl O)))] : va_W) (pmI (fun a => by simp only [cntW_app, cntW_nil] <;> omega)) (w5 x ot ou ov oh ox oy S ++ w3 cI ot ot1 ot2 n1.2.2.1 ++ w3 cI ov ov1 ov2 Sn ++ w1 oh rr n1.2.2.2 ++ [(o, .inl (cJ, 1, .inr (.inl O)))]) (pmI (fun a => by simp only [cntW_app, cntW_nil] <;> omega)) rfl 0 (ci := 6) rfl rfl rfl rfl hl.1 rfl rfl (Nat.le_of_ble_eq_true rfl) ⟨Nat.le_of_ble_eq_true rfl, Nat.le_of_ble_eq_true rfl⟩ dL_restore_3 (fun C9 ce9 q9 H locs hE9 hP hD hS hq9 hv9 hc9 => ?_) (fun H locs c_3 hP hD hS => ?_)
  · rcases o1 with h9 | h9
    · rw [hE9] at h9; cases h9
    · obtain rfl : C9 = "java/lang/IllegalStateException" := Option.some.inj (hE9.symm.trans h9)
      have c_3 : ¬ n1.1 = none := by rw [hE9]; exact fun z => nomatch z
      refine vx_catch hown [] ⟨0, 8, 11, 91⟩ [] htb (fun z hz => nomatch hz) rfl (by decide) (hts (Cond.classLink RL 91 "java/lang/IllegalStateException") (by decide +kernel)) (va_Nw.use rfl (hXE.1.1 _ (by decide +kernel))) hq9 hv9 hc9 ?_
      refine lv_astore_n (lv' := [(2, .ref q9), (0, .ref x), (1, .ref o)]) hx hb dL_restore_11 rfl hl (by decide) rfl (fun ls hl => ?_)
      refine lv_iconst (v := 1) hx hb dL_restore_12 (by decide) ?_
      have e9 : fL_restore S T Sn Hs O = (1, n1.2.2.1, n1.2.2.2, O) := by rw [fL_restore, ← en1, if_neg c_3]
      exact rLi hx hb hr hlk hQ hP hS (by rw [e9]) (congrArg (fun z9 : (Int32 × TV × HV × (Nat → Int64)) => (w5 x ot ou ov oh ox oy S ++ w3 cI ot ot1 ot2 z9.2.1 ++ w3 cI ov ov1 ov2 Sn ++ w1 oh rr z9.2.2.1 ++ [(o, .inl (cJ, 1, .inr (.inl z9.2.2.2)))] : va_W)) e9).symm rfl ⟨Nat.le_of_ble_eq_true rfl, Nat.le_of_ble_eq_true rfl⟩ dL_restore_13
  · rw [if_pos c_3] at hg
    refine lv_i2l (v := (n1.2.1.toInt64)) hx hb dL_restore_6 rfl ?_
    obtain ⟨o2, hg⟩ := hg
    refine va_last hx hb hK hP hD hS 8 3 rfl rfl o2 dL_restore_7 (fun H locs hP hD hS => ?_)
    have hP : va_P D vwCl (w5 x ot ou ov oh ox oy S ++ w3 cI ot ot1 ot2 n1.2.2.1 ++ w3 cI ov ov1 ov2 Sn ++ w1 oh rr n1.2.2.2 ++ [(o, .inl (cJ, 1, .inr (.inl (vp_updL O (0 : Int32).toNatClampNeg (n1.2.1.toInt64)))))]) H := hP
    have hD : va_D A (w5 x ot ou ov oh ox oy S ++ w3 cI ot ot1 ot2 n1.2.2.1 ++ w3 cI ov ov1 ov2 Sn ++ w1 oh rr n1.2.2.2 ++ [(o, .inl (cJ, 1, .inr (.inl (vp_updL O (0 : Int32).toNatClampNeg (n1.2.1.toInt64)))))]) := hD
    refine lv_goto (tgt := 14) hx hb dL_restore_8 (by decide) ?_
    refine lv_iconst (v := 0) hx hb dL_restore_14 (by decide) ?_
    have e9 : fL_restore S T Sn Hs O = (0, n1.2.2.1, n1.2.2.2, (vp_updL O (0 : Int32).toNatClampNeg (n1.2.1.toInt64))) := by rw [fL_restore, ← en1, if_pos c_3]
    exact rLi hx hb hr hlk hQ hP hS (by rw [e9]) (congrArg (fun z9 : (Int32 × TV × HV × (Nat → Int64)) => (w5 x ot ou ov oh ox oy S ++ w3 cI ot ot1 ot2 z9.2.1 ++ w3 cI ov ov1 ov2 Sn ++ w1 oh rr z9.2.2.1 ++ [(o, .inl (cJ, 1, .inr (.inl z9.2.2.2)))] : va_W)) e9).symm rfl ⟨Nat.le_of_ble_eq_true rfl, Nat.le_of_ble_eq_true rfl⟩ dL_restore_15
