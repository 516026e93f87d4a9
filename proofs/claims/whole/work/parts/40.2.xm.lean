def fM_12 (S : CV) (T : TV) (Tr : TV) (Sn : TV) (Hs : HV) (G : (Nat → TV)) (Xt : XV) (Ln : LV) (Mo : SV) (O : (Nat → Int64)) (Oq : (Nat → UInt64)) (xs : Nat → Int32) (L : Nat) (x5 : Int32) : (TV × SV × (Nat → Int64)) := (if (xs ((x5 + 1)).toNatClampNeg) = 0 then (if (fL_bestSwap S T Tr O 0).1 = 0 then ((fL_bestSwap S T Tr O 0).2.1, (fX6_bestSwap Mo 0).2, (fL_bestSwap S T Tr O 0).2.2) else ((fL_bestSwap S T Tr O 0).2.1, (fX6_bestSwap Mo 0).2, (fL_bestSwap S T Tr O 0).2.2)) else (if (fL_bestSwap S T Tr O 1).1 = 0 then ((fL_bestSwap S T Tr O 1).2.1, (fX6_bestSwap Mo 1).2, (fL_bestSwap S T Tr O 1).2.2) else ((fL_bestSwap S T Tr O 1).2.1, (fX6_bestSwap Mo 1).2, (fL_bestSwap S T Tr O 1).2.2)))
def gM_12 (S : CV) (T : TV) (Tr : TV) (Sn : TV) (Hs : HV) (G : (Nat → TV)) (Xt : XV) (Ln : LV) (Mo : SV) (O : (Nat → Int64)) (Oq : (Nat → UInt64)) (xs : Nat → Int32) (L : Nat) (x5 : Int32) : Prop := ((vp_in (x5 + 1) L) ∧ (if (xs ((x5 + 1)).toNatClampNeg) = 0 then ((gL_bestSwap S T Tr O 0) ∧ (vp_in (x5 + 1) L) ∧ (gX6_bestSwap Mo 0) ∧ ((fX6_thrown (fX6_bestSwap Mo 0).2) = (fL_bestSwap S T Tr O 0).1) ∧ (if (fL_bestSwap S T Tr O 0).1 = 0 then ((vp_in 0 1) ∧ ((lg_cmp ((fL_bestSwap S T Tr O 0).2.2 (0 : Int32).toNatClampNeg) ((fX6_bestSwap Mo 0).1.toInt64)) = 0) ∧ True) else True)) else ((gL_bestSwap S T Tr O 1) ∧ (vp_in (x5 + 1) L) ∧ (gX6_bestSwap Mo 1) ∧ ((fX6_thrown (fX6_bestSwap Mo 1).2) = (fL_bestSwap S T Tr O 1).1) ∧ (if (fL_bestSwap S T Tr O 1).1 = 0 then ((vp_in 0 1) ∧ ((lg_cmp ((fL_bestSwap S T Tr O 1).2.2 (0 : Int32).toNatClampNeg) ((fX6_bestSwap Mo 1).1.toInt64)) = 0) ∧ True) else True))))
set_option maxHeartbeats 8000000 in
set_option maxRecDepth 100000 in
theorem cM_12 {p : Program} {e : Env} {s : State} {m : MethodId} {below : List Frame} {meth : Method} {c : Code} {Q : State → Prop} (l : Launch) (D : va_G) (cI cC cT cJ cQ : ClassId) (b x ot ou ov oh ox oy ot1 ot2 ou1 ou2 ov1 ov2 rr ox1 ox2 oy1 mh m1 m2 m3 m4 m5 m6 m7 m8 o oq : Nat) (ra rb rc : Nat → Nat) (S : CV) (T : TV) (Tr : TV) (Sn : TV) (Hs : HV) (G : (Nat → TV)) (Xt : XV) (Ln : LV) (Mo : SV) (O : (Nat → Int64)) (Oq : (Nat → UInt64)) (xs : Nat → Int32) (L : Nat) (x5 : Int32) (hst : l.stackTraces = false) (hn : ∃ j : Nat, j < 9 ∧ Hs.1 = nI j) (hc : ∀ i, narrow .char (.int (Ln.1 i)) = .int (Ln.1 i)) (hx : p.tables.exec = Jvm.exec) (hb : c.code = cL_law) (hml : c.maxLocals = 9) (hown : s.vm.findClass RL = some m.cls) (hts : ∀ w ∈ wsL_law, w.before #[Value.ref b] s = true) (hK : va_K D vwCl (TY5 cI cC cT cJ cQ) s) (hX : va_X b L xs s s.heap) (hbl : b < s.heap.size) (hbA : ¬ (fun q : Nat => s.heap.size ≤ q) b) (hXE : xE (fun q : Nat => s.heap.size ≤ q) s) (hXN : xN s) (H : Heap) (locs : List Loc) (ls : Array Slot) (cells slots : Nat) (hcr : cells + 2 ≤ room_1.cells ∧ slots + 12 ≤ room_1.slots) (hP : va_P D vwCl (w5 x ot ou ov oh ox oy S ++ w3 cI ot ot1 ot2 T ++ w3 cI ou ou1 ou2 Tr ++ w3 cI ov ov1 ov2 Sn ++ w1 oh rr Hs ++ wR cI cT rr ra rb rc G ++ w4 cI cC ox ox1 ox2 Xt ++ w2 cC oy oy1 Ln ++ w6 cI cC mh m1 m2 m3 m4 m5 m6 m7 m8 Mo ++ [(o, .inl (cJ, 1, .inr (.inl O)))] ++ [(oq, .inl (cQ, 1, .inr (.inr (.inr (.inl Oq)))))]) H) (hD : va_D (fun q : Nat => s.heap.size ≤ q) (w5 x ot ou ov oh ox oy S ++ w3 cI ot ot1 ot2 T ++ w3 cI ou ou1 ou2 Tr ++ w3 cI ov ov1 ov2 Sn ++ w1 oh rr Hs ++ wR cI cT rr ra rb rc G ++ w4 cI cC ox ox1 ox2 Xt ++ w2 cC oy oy1 Ln ++ w6 cI cC mh m1 m2 m3 m4 m5 m6 m7 m8 Mo ++ [(o, .inl (cJ, 1, .inr (.inl O)))] ++ [(oq, .inl (cQ, 1, .inr (.inr (.inr (.inl Oq)))))])) (hS : va_S (fun q : Nat => s.heap.size ≤ q) s.heap H locs) (hl : lv_has ls 9 [(0, .ref b), (1, .ref x), (2, .ref mh), (3, .ref o), (4, .ref oq), (5, .int x5)]) (hg : gM_12 S T Tr Sn Hs G Xt Ln Mo O Oq xs L x5) (kb : ∀ z9 : (TV × SV × (Nat → Int64)), z9 = fM_12 S T Tr Sn Hs G Xt Ln Mo O Oq xs L x5 → ∀ (H : Heap) (locs : List Loc) (ls : Array Slot), va_P D vwCl (w5 x ot ou ov oh ox oy S ++ w3 cI ot ot1 ot2 T ++ w3 cI ou ou1 ou2 z9.1 ++ w3 cI ov ov1 ov2 Sn ++ w1 oh rr Hs ++ wR cI cT rr ra rb rc G ++ w4 cI cC ox ox1 ox2 Xt ++ w2 cC oy oy1 Ln ++ w6 cI cC mh m1 m2 m3 m4 m5 m6 m7 m8 z9.2.1 ++ [(o, .inl (cJ, 1, .inr (.inl z9.2.2)))] ++ [(oq, .inl (cQ, 1, .inr (.inr (.inr (.inl Oq)))))]) H → va_D (fun q : Nat => s.heap.size ≤ q) (w5 x ot ou ov oh ox oy S ++ w3 cI ot ot1 ot2 T ++ w3 cI ou ou1 ou2 z9.1 ++ w3 cI ov ov1 ov2 Sn ++ w1 oh rr Hs ++ wR cI cT rr ra rb rc G ++ w4 cI cC ox ox1 ox2 Xt ++ w2 cC oy oy1 Ln ++ w6 cI cC mh m1 m2 m3 m4 m5 m6 m7 m8 z9.2.1 ++ [(o, .inl (cJ, 1, .inr (.inl z9.2.2)))] ++ [(oq, .inl (cQ, 1, .inr (.inr (.inr (.inl Oq)))))]) → va_S (fun q : Nat => s.heap.size ≤ q) s.heap H locs → lv_has ls 9 [(0, .ref b), (1, .ref x), (2, .ref mh), (3, .ref o), (4, .ref oq), (5, .int (x5 + 5))] → W p l e room_1 s m #[Value.ref b] below meth c H locs (cells + 2) (slots + 12) Q (F0 m 28 ls [])) :
    W p l e room_1 s m #[Value.ref b] below meth c H locs cells slots Q (F0 m 961 ls []) := by
  have hP : va_P D vwCl (w5 x ot ou ov oh ox oy S ++ w3 cI ot ot1 ot2 T ++ w3 cI ou ou1 ou2 Tr ++ w3 cI ov ov1 ov2 Sn ++ w1 oh rr Hs ++ wR cI cT rr ra rb rc G ++ w4 cI cC ox ox1 ox2 Xt ++ w2 cC oy oy1 Ln ++ w6 cI cC mh m1 m2 m3 m4 m5 m6 m7 m8 Mo ++ [(o, .inl (cJ, 1, .inr (.inl O)))] ++ [(oq, .inl (cQ, 1, .inr (.inr (.inr (.inl Oq)))))]) H := hP
  have hD : va_D (fun q : Nat => s.heap.size ≤ q) (w5 x ot ou ov oh ox oy S ++ w3 cI ot ot1 ot2 T ++ w3 cI ou ou1 ou2 Tr ++ w3 cI ov ov1 ov2 Sn ++ w1 oh rr Hs ++ wR cI cT rr ra rb rc G ++ w4 cI cC ox ox1 ox2 Xt ++ w2 cC oy oy1 Ln ++ w6 cI cC mh m1 m2 m3 m4 m5 m6 m7 m8 Mo ++ [(o, .inl (cJ, 1, .inr (.inl O)))] ++ [(oq, .inl (cQ, 1, .inr (.inr (.inr (.inl Oq)))))]) := hD
  have hK3 := hK.sub (tys' := TY cI cC cT) [0, 1, 2] rfl
  unfold gM_12 at hg
  refine lv_aload_n hx hb dL_law_961 rfl (lv_at hl 1 rfl) ?_
  refine lv_aload_n hx hb dL_law_962 rfl (lv_at hl 0 rfl) ?_
  refine lv_iload hx hb dL_law_963 (lv_at hl 5 rfl) ?_
  refine lv_iconst (v := 1) hx hb dL_law_965 (by decide) ?_
  refine lv_iadd hx hb dL_law_966 ?_
  obtain ⟨o1, hg⟩ := hg
  refine va_sld hx hb hX hbl hbA hS o1 dL_law_967 ?_
  refine lv_if_eq (tgt := 975) hx hb dL_law_968 (by decide) (fun c_968_1 => ?_) (fun c_968_1 => ?_)
  · rw [if_pos c_968_1] at hg
    refine lv_iconst (v := 0) hx hb dL_law_975 (by decide) ?_
    refine lv_aload_n hx hb dL_law_976 rfl (lv_at hl 3 rfl) ?_
    obtain ⟨n1, en1⟩ : ∃ z9, z9 = (fL_bestSwap S T Tr O 0) := ⟨_, rfl⟩
    try rw [← en1] at hg
    obtain ⟨o2, hg⟩ := hg
    have k9 := (kL_bestSwap l D cI cC cT cJ cQ x ot ou ov oh ox oy ot1 ot2 ou1 ou2 o S T Tr O 0 hst o2)
    rw [← en1] at k9
    refine fLq (As := [.ref x, .int 0, .ref o]) (rest := []) ⟨hx, hb, hml, hown, hts⟩ k9 (vx_cwSW (hh := [(0, 9, 12, 53)]) 3 hts gL_law_L_bestSwap rfl rfl rfl (by decide +kernel) ⟨Nat.le_of_ble_eq_true rfl, Nat.le_of_ble_eq_true rfl⟩) hP hK hD hS hXE hXN (w3 cI ov ov1 ov2 Sn ++ w1 oh rr Hs ++ wR cI cT rr ra rb rc G ++ w4 cI cC ox ox1 ox2 Xt ++ w2 cC oy oy1 Ln ++ w6 cI cC mh m1 m2 m3 m4 m5 m6 m7 m8 Mo ++ [(oq, .inl (cQ, 1, .inr (.inr (.inr (.inl Oq)))))] : va_W) (pmI (fun a => by simp only [cntW_app, cntW_nil] <;> omega)) (w5 x ot ou ov oh ox oy S ++ w3 cI ot ot1 ot2 T ++ w3 cI ou ou1 ou2 n1.2.1 ++ w3 cI ov ov1 ov2 Sn ++ w1 oh rr Hs ++ wR cI cT rr ra rb rc G ++ w4 cI cC ox ox1 ox2 Xt ++ w2 cC oy oy1 Ln ++ w6 cI cC mh m1 m2 m3 m4 m5 m6 m7 m8 Mo ++ [(o, .inl (cJ, 1, .inr (.inl n1.2.2)))] ++ [(oq, .inl (cQ, 1, .inr (.inr (.inr (.inl Oq)))))]) (pmI (fun a => by simp only [cntW_app, cntW_nil] <;> omega)) rfl rfl hl.1 rfl (Nat.le_of_ble_eq_true rfl) ⟨Nat.le_trans (Nat.add_le_add_left (by decide) _) hcr.1, Nat.le_trans (Nat.add_le_add_left (by decide) _) hcr.2⟩ dL_law_977 (fun H locs hP hD hS => ?_)
    refine lv_istore (lv' := [(6, .int n1.1), (0, .ref b), (1, .ref x), (2, .ref mh), (3, .ref o), (4, .ref oq), (5, .int x5)]) hx hb dL_law_980 hl (by decide) rfl (fun ls hl => ?_)
    refine lv_aload_n hx hb dL_law_982 rfl (lv_at hl 3 rfl) ?_
    refine lv_aload_n hx hb dL_law_983 rfl (lv_at hl 1 rfl) ?_
    refine lv_iload hx hb dL_law_984 (lv_at hl 6 rfl) ?_
    refine lv_iconst (v := 1) hx hb dL_law_986 (by decide) ?_
    refine lv_iadd hx hb dL_law_987 ?_
    obtain ⟨o3, hg⟩ := hg
    refine va_sld hx hb hX hbl hbA hS o3 dL_law_988 ?_
    refine lv_if_eq (tgt := 996) hx hb dL_law_989 (by decide) (fun c_989 => ?_) (fun c_989 => absurd c_968_1 c_989)
    refine lv_iconst (v := 0) hx hb dL_law_996 (by decide) ?_
    obtain ⟨n2, en2⟩ : ∃ z9, z9 = (fX6_bestSwap Mo 0) := ⟨_, rfl⟩
    try rw [← en2] at hg
    obtain ⟨o4, hg⟩ := hg
    have k9 := (kX6_bestSwap l D cI cC cT mh m1 m2 m3 m4 m5 m6 m7 m8 Mo 0 o4)
    rw [← en2] at k9
    refine fUq (As := [.int 0]) (rest := []) (st' := [.int n2.1]) ⟨hx, hb, hml, hown, hts⟩ k9 (cwV 1 hts gL_law_X6_bestSwap rfl rfl rfl (by decide +kernel) ⟨Nat.le_of_ble_eq_true rfl, Nat.le_of_ble_eq_true rfl⟩) hP hK3 hD hS (w5 x ot ou ov oh ox oy S ++ w3 cI ot ot1 ot2 T ++ w3 cI ou ou1 ou2 n1.2.1 ++ w3 cI ov ov1 ov2 Sn ++ w1 oh rr Hs ++ wR cI cT rr ra rb rc G ++ w4 cI cC ox ox1 ox2 Xt ++ w2 cC oy oy1 Ln ++ [(o, .inl (cJ, 1, .inr (.inl n1.2.2)))] ++ [(oq, .inl (cQ, 1, .inr (.inr (.inr (.inl Oq)))))] : va_W) (pmI (fun a => by simp only [cntW_app, cntW_nil] <;> omega)) (w5 x ot ou ov oh ox oy S ++ w3 cI ot ot1 ot2 T ++ w3 cI ou ou1 ou2 n1.2.1 ++ w3 cI ov ov1 ov2 Sn ++ w1 oh rr Hs ++ wR cI cT rr ra rb rc G ++ w4 cI cC ox ox1 ox2 Xt ++ w2 cC oy oy1 Ln ++ w6 cI cC mh m1 m2 m3 m4 m5 m6 m7 m8 n2.2 ++ [(o, .inl (cJ, 1, .inr (.inl n1.2.2)))] ++ [(oq, .inl (cQ, 1, .inr (.inr (.inr (.inl Oq)))))]) (pmI (fun a => by simp only [cntW_app, cntW_nil] <;> omega)) rfl 44 (ci := 7) rfl rfl rfl rfl hl.1 rfl rfl (Nat.le_of_ble_eq_true rfl) ⟨Nat.le_trans (Nat.add_le_add_left (by decide) _) hcr.1, Nat.le_trans (Nat.add_le_add_left (by decide) _) hcr.2⟩ dL_law_997 (fun H locs hP hD hS => ?_)
    refine lv_istore (lv' := [(7, .int n2.1), (6, .int n1.1), (0, .ref b), (1, .ref x), (2, .ref mh), (3, .ref o), (4, .ref oq), (5, .int x5)]) hx hb dL_law_1000 hl (by decide) rfl (fun ls hl => ?_)
    refine lv_aload_n hx hb dL_law_1002 rfl (lv_at hl 4 rfl) ?_
    refine fRq (As := []) (rest := []) (st' := [.int (fX6_thrown n2.2)]) ⟨hx, hb, hml, hown, hts⟩ (kX6_thrown l D cI cC cT mh m1 m2 m3 m4 m5 m6 m7 m8 n2.2) (cwV 0 hts gL_law_X6_thrown rfl rfl rfl (by decide +kernel) ⟨Nat.le_of_ble_eq_true rfl, Nat.le_of_ble_eq_true rfl⟩) hP hK3 (w5 x ot ou ov oh ox oy S ++ w3 cI ot ot1 ot2 T ++ w3 cI ou ou1 ou2 n1.2.1 ++ w3 cI ov ov1 ov2 Sn ++ w1 oh rr Hs ++ wR cI cT rr ra rb rc G ++ w4 cI cC ox ox1 ox2 Xt ++ w2 cC oy oy1 Ln ++ [(o, .inl (cJ, 1, .inr (.inl n1.2.2)))] ++ [(oq, .inl (cQ, 1, .inr (.inr (.inr (.inl Oq)))))] : va_W) (pmI (fun a => by simp only [cntW_app, cntW_nil] <;> omega)) 44 (ci := 7) rfl rfl rfl rfl hl.1 rfl rfl (Nat.le_of_ble_eq_true rfl) ⟨Nat.le_trans (Nat.add_le_add_left (by decide) _) hcr.1, Nat.le_trans (Nat.add_le_add_left (by decide) _) hcr.2⟩ dL_law_1003 ?_
    refine lv_iload hx hb dL_law_1006 (lv_at hl 1 rfl) ?_
    obtain ⟨o5, hg⟩ := hg
    refine lv_icmp_eq (tgt := 1013) hx hb dL_law_1008 (by decide) (fun c_1008 => ?_) (fun c_1008 => absurd o5 c_1008)
    refine lv_iload hx hb dL_law_1013 (lv_at hl 1 rfl) ?_
    refine lv_if_ne (tgt := 1030) hx hb dL_law_1015 (by decide) (fun c_1015_2 => ?_) (fun c_1015_2 => ?_)
    · rw [if_neg c_1015_2] at hg
      refine lv_goto (tgt := 2110) hx hb dL_law_1030 (by decide) ?_
      refine lv_iinc (v := (x5 + 5)) (lv' := [(5, .int (x5 + 5)), (7, .int n2.1), (6, .int n1.1), (0, .ref b), (1, .ref x), (2, .ref mh), (3, .ref o), (4, .ref oq)]) hx hb dL_law_2110 hl (k := 7) rfl rfl (by decide) rfl (fun ls hl => ?_)
      refine lv_goto (tgt := 28) hx hb dL_law_2113 (by decide) ?_
      have e9 : fM_12 S T Tr Sn Hs G Xt Ln Mo O Oq xs L x5 = (n1.2.1, n2.2, n1.2.2) := by rw [fM_12, if_pos c_968_1, ← en1, ← en2, if_neg c_1015_2]
      refine W.widen (k := cells + 2) (n := slots + 12) (by omega) (by omega) ?_
      exact kb (n1.2.1, n2.2, n1.2.2) e9.symm H locs ls hP hD hS (lv_sub hl [3, 4, 5, 6, 7, 0] rfl)
    · rw [if_pos c_1015_2] at hg
      refine lv_aload_n hx hb dL_law_1018 rfl (lv_at hl 5 rfl) ?_
      refine lv_iconst (v := 0) hx hb dL_law_1019 (by decide) ?_
      obtain ⟨o6, hg⟩ := hg
      refine va_lald hx hb hK hP 53 3 rfl rfl o6 dL_law_1020 ?_
      refine lv_iload hx hb dL_law_1021 (lv_at hl 0 rfl) ?_
      refine lv_i2l (v := (n2.1.toInt64)) hx hb dL_law_1023 rfl ?_
      refine W.lcmp hx hb dL_law_1024 ?_
      obtain ⟨o7, hg⟩ := hg
      refine lv_if_eq (tgt := 1030) hx hb dL_law_1025 (by decide) (fun c_1025 => ?_) (fun c_1025 => absurd o7 c_1025)
      refine lv_goto (tgt := 2110) hx hb dL_law_1030 (by decide) ?_
      refine lv_iinc (v := (x5 + 5)) (lv' := [(5, .int (x5 + 5)), (7, .int n2.1), (6, .int n1.1), (0, .ref b), (1, .ref x), (2, .ref mh), (3, .ref o), (4, .ref oq)]) hx hb dL_law_2110 hl (k := 7) rfl rfl (by decide) rfl (fun ls hl => ?_)
      refine lv_goto (tgt := 28) hx hb dL_law_2113 (by decide) ?_
      have e9 : fM_12 S T Tr Sn Hs G Xt Ln Mo O Oq xs L x5 = (n1.2.1, n2.2, n1.2.2) := by rw [fM_12, if_pos c_968_1, ← en1, ← en2, if_pos c_1015_2]
      refine W.widen (k := cells + 2) (n := slots + 12) (by omega) (by omega) ?_
      exact kb (n1.2.1, n2.2, n1.2.2) e9.symm H locs ls hP hD hS (lv_sub hl [3, 4, 5, 6, 7, 0] rfl)
  · rw [if_neg c_968_1] at hg
    refine lv_iconst (v := 1) hx hb dL_law_971 (by decide) ?_
    refine lv_goto (tgt := 976) hx hb dL_law_972 (by decide) ?_
    refine lv_aload_n hx hb dL_law_976 rfl (lv_at hl 3 rfl) ?_
    obtain ⟨n3, en3⟩ : ∃ z9, z9 = (fL_bestSwap S T Tr O 1) := ⟨_, rfl⟩
    try rw [← en3] at hg
    obtain ⟨o8, hg⟩ := hg
    have k9 := (kL_bestSwap l D cI cC cT cJ cQ x ot ou ov oh ox oy ot1 ot2 ou1 ou2 o S T Tr O 1 hst o8)
    rw [← en3] at k9
    refine fLq (As := [.ref x, .int 1, .ref o]) (rest := []) ⟨hx, hb, hml, hown, hts⟩ k9 (vx_cwSW (hh := [(0, 9, 12, 53)]) 3 hts gL_law_L_bestSwap rfl rfl rfl (by decide +kernel) ⟨Nat.le_of_ble_eq_true rfl, Nat.le_of_ble_eq_true rfl⟩) hP hK hD hS hXE hXN (w3 cI ov ov1 ov2 Sn ++ w1 oh rr Hs ++ wR cI cT rr ra rb rc G ++ w4 cI cC ox ox1 ox2 Xt ++ w2 cC oy oy1 Ln ++ w6 cI cC mh m1 m2 m3 m4 m5 m6 m7 m8 Mo ++ [(oq, .inl (cQ, 1, .inr (.inr (.inr (.inl Oq)))))] : va_W) (pmI (fun a => by simp only [cntW_app, cntW_nil] <;> omega)) (w5 x ot ou ov oh ox oy S ++ w3 cI ot ot1 ot2 T ++ w3 cI ou ou1 ou2 n3.2.1 ++ w3 cI ov ov1 ov2 Sn ++ w1 oh rr Hs ++ wR cI cT rr ra rb rc G ++ w4 cI cC ox ox1 ox2 Xt ++ w2 cC oy oy1 Ln ++ w6 cI cC mh m1 m2 m3 m4 m5 m6 m7 m8 Mo ++ [(o, .inl (cJ, 1, .inr (.inl n3.2.2)))] ++ [(oq, .inl (cQ, 1, .inr (.inr (.inr (.inl Oq)))))]) (pmI (fun a => by simp only [cntW_app, cntW_nil] <;> omega)) rfl rfl hl.1 rfl (Nat.le_of_ble_eq_true rfl) ⟨Nat.le_trans (Nat.add_le_add_left (by decide) _) hcr.1, Nat.le_trans (Nat.add_le_add_left (by decide) _) hcr.2⟩ dL_law_977 (fun H locs hP hD hS => ?_)
    refine lv_istore (lv' := [(6, .int n3.1), (0, .ref b), (1, .ref x), (2, .ref mh), (3, .ref o), (4, .ref oq), (5, .int x5)]) hx hb dL_law_980 hl (by decide) rfl (fun ls hl => ?_)
    refine lv_aload_n hx hb dL_law_982 rfl (lv_at hl 3 rfl) ?_
    refine lv_aload_n hx hb dL_law_983 rfl (lv_at hl 1 rfl) ?_
    refine lv_iload hx hb dL_law_984 (lv_at hl 6 rfl) ?_
    refine lv_iconst (v := 1) hx hb dL_law_986 (by decide) ?_
    refine lv_iadd hx hb dL_law_987 ?_
    obtain ⟨o9, hg⟩ := hg
    refine va_sld hx hb hX hbl hbA hS o9 dL_law_988 ?_
    refine lv_if_eq (tgt := 996) hx hb dL_law_989 (by decide) (fun c_989 => absurd c_989 c_968_1) (fun c_989 => ?_)
    refine lv_iconst (v := 1) hx hb dL_law_992 (by decide) ?_
    refine lv_goto (tgt := 997) hx hb dL_law_993 (by decide) ?_
    obtain ⟨n4, en4⟩ : ∃ z9, z9 = (fX6_bestSwap Mo 1) := ⟨_, rfl⟩
    try rw [← en4] at hg
    obtain ⟨o10, hg⟩ := hg
    have k9 := (kX6_bestSwap l D cI cC cT mh m1 m2 m3 m4 m5 m6 m7 m8 Mo 1 o10)
    rw [← en4] at k9
    refine fUq (As := [.int 1]) (rest := []) (st' := [.int n4.1]) ⟨hx, hb, hml, hown, hts⟩ k9 (cwV 1 hts gL_law_X6_bestSwap rfl rfl rfl (by decide +kernel) ⟨Nat.le_of_ble_eq_true rfl, Nat.le_of_ble_eq_true rfl⟩) hP hK3 hD hS (w5 x ot ou ov oh ox oy S ++ w3 cI ot ot1 ot2 T ++ w3 cI ou ou1 ou2 n3.2.1 ++ w3 cI ov ov1 ov2 Sn ++ w1 oh rr Hs ++ wR cI cT rr ra rb rc G ++ w4 cI cC ox ox1 ox2 Xt ++ w2 cC oy oy1 Ln ++ [(o, .inl (cJ, 1, .inr (.inl n3.2.2)))] ++ [(oq, .inl (cQ, 1, .inr (.inr (.inr (.inl Oq)))))] : va_W) (pmI (fun a => by simp only [cntW_app, cntW_nil] <;> omega)) (w5 x ot ou ov oh ox oy S ++ w3 cI ot ot1 ot2 T ++ w3 cI ou ou1 ou2 n3.2.1 ++ w3 cI ov ov1 ov2 Sn ++ w1 oh rr Hs ++ wR cI cT rr ra rb rc G ++ w4 cI cC ox ox1 ox2 Xt ++ w2 cC oy oy1 Ln ++ w6 cI cC mh m1 m2 m3 m4 m5 m6 m7 m8 n4.2 ++ [(o, .inl (cJ, 1, .inr (.inl n3.2.2)))] ++ [(oq, .inl (cQ, 1, .inr (.inr (.inr (.inl Oq)))))]) (pmI (fun a => by simp only [cntW_app, cntW_nil] <;> omega)) rfl 44 (ci := 7) rfl rfl rfl rfl hl.1 rfl rfl (Nat.le_of_ble_eq_true rfl) ⟨Nat.le_trans (Nat.add_le_add_left (by decide) _) hcr.1, Nat.le_trans (Nat.add_le_add_left (by decide) _) hcr.2⟩ dL_law_997 (fun H locs hP hD hS => ?_)
    refine lv_istore (lv' := [(7, .int n4.1), (6, .int n3.1), (0, .ref b), (1, .ref x), (2, .ref mh), (3, .ref o), (4, .ref oq), (5, .int x5)]) hx hb dL_law_1000 hl (by decide) rfl (fun ls hl => ?_)
    refine lv_aload_n hx hb dL_law_1002 rfl (lv_at hl 4 rfl) ?_
    refine fRq (As := []) (rest := []) (st' := [.int (fX6_thrown n4.2)]) ⟨hx, hb, hml, hown, hts⟩ (kX6_thrown l D cI cC cT mh m1 m2 m3 m4 m5 m6 m7 m8 n4.2) (cwV 0 hts gL_law_X6_thrown rfl rfl rfl (by decide +kernel) ⟨Nat.le_of_ble_eq_true rfl, Nat.le_of_ble_eq_true rfl⟩) hP hK3 (w5 x ot ou ov oh ox oy S ++ w3 cI ot ot1 ot2 T ++ w3 cI ou ou1 ou2 n3.2.1 ++ w3 cI ov ov1 ov2 Sn ++ w1 oh rr Hs ++ wR cI cT rr ra rb rc G ++ w4 cI cC ox ox1 ox2 Xt ++ w2 cC oy oy1 Ln ++ [(o, .inl (cJ, 1, .inr (.inl n3.2.2)))] ++ [(oq, .inl (cQ, 1, .inr (.inr (.inr (.inl Oq)))))] : va_W) (pmI (fun a => by simp only [cntW_app, cntW_nil] <;> omega)) 44 (ci := 7) rfl rfl rfl rfl hl.1 rfl rfl (Nat.le_of_ble_eq_true rfl) ⟨Nat.le_trans (Nat.add_le_add_left (by decide) _) hcr.1, Nat.le_trans (Nat.add_le_add_left (by decide) _) hcr.2⟩ dL_law_1003 ?_
    refine lv_iload hx hb dL_law_1006 (lv_at hl 1 rfl) ?_
    obtain ⟨o11, hg⟩ := hg
    refine lv_icmp_eq (tgt := 1013) hx hb dL_law_1008 (by decide) (fun c_1008 => ?_) (fun c_1008 => absurd o11 c_1008)
    refine lv_iload hx hb dL_law_1013 (lv_at hl 1 rfl) ?_
    refine lv_if_ne (tgt := 1030) hx hb dL_law_1015 (by decide) (fun c_1015_3 => ?_) (fun c_1015_3 => ?_)
    · rw [if_neg c_1015_3] at hg
      refine lv_goto (tgt := 2110) hx hb dL_law_1030 (by decide) ?_
      refine lv_iinc (v := (x5 + 5)) (lv' := [(5, .int (x5 + 5)), (7, .int n4.1), (6, .int n3.1), (0, .ref b), (1, .ref x), (2, .ref mh), (3, .ref o), (4, .ref oq)]) hx hb dL_law_2110 hl (k := 7) rfl rfl (by decide) rfl (fun ls hl => ?_)
      refine lv_goto (tgt := 28) hx hb dL_law_2113 (by decide) ?_
      have e9 : fM_12 S T Tr Sn Hs G Xt Ln Mo O Oq xs L x5 = (n3.2.1, n4.2, n3.2.2) := by rw [fM_12, if_neg c_968_1, ← en3, ← en4, if_neg c_1015_3]
      refine W.widen (k := cells + 2) (n := slots + 12) (by omega) (by omega) ?_
      exact kb (n3.2.1, n4.2, n3.2.2) e9.symm H locs ls hP hD hS (lv_sub hl [3, 4, 5, 6, 7, 0] rfl)
    · rw [if_pos c_1015_3] at hg
      refine lv_aload_n hx hb dL_law_1018 rfl (lv_at hl 5 rfl) ?_
      refine lv_iconst (v := 0) hx hb dL_law_1019 (by decide) ?_
      obtain ⟨o12, hg⟩ := hg
      refine va_lald hx hb hK hP 53 3 rfl rfl o12 dL_law_1020 ?_
      refine lv_iload hx hb dL_law_1021 (lv_at hl 0 rfl) ?_
      refine lv_i2l (v := (n4.1.toInt64)) hx hb dL_law_1023 rfl ?_
      refine W.lcmp hx hb dL_law_1024 ?_
      obtain ⟨o13, hg⟩ := hg
      refine lv_if_eq (tgt := 1030) hx hb dL_law_1025 (by decide) (fun c_1025 => ?_) (fun c_1025 => absurd o13 c_1025)
      refine lv_goto (tgt := 2110) hx hb dL_law_1030 (by decide) ?_
      refine lv_iinc (v := (x5 + 5)) (lv' := [(5, .int (x5 + 5)), (7, .int n4.1), (6, .int n3.1), (0, .ref b), (1, .ref x), (2, .ref mh), (3, .ref o), (4, .ref oq)]) hx hb dL_law_2110 hl (k := 7) rfl rfl (by decide) rfl (fun ls hl => ?_)
      refine lv_goto (tgt := 28) hx hb dL_law_2113 (by decide) ?_
      have e9 : fM_12 S T Tr Sn Hs G Xt Ln Mo O Oq xs L x5 = (n3.2.1, n4.2, n3.2.2) := by rw [fM_12, if_neg c_968_1, ← en3, ← en4, if_pos c_1015_3]
      refine W.widen (k := cells + 2) (n := slots + 12) (by omega) (by omega) ?_
      exact kb (n3.2.1, n4.2, n3.2.2) e9.symm H locs ls hP hD hS (lv_sub hl [3, 4, 5, 6, 7, 0] rfl)
def fM_13 (S : CV) (T : TV) (Tr : TV) (Sn : TV) (Hs : HV) (G : (Nat → TV)) (Xt : XV) (Ln : LV) (Mo : SV) (O : (Nat → Int64)) (Oq : (Nat → UInt64)) (xs : Nat → Int32) (L : Nat) (x5 : Int32) : (CV × TV × HV × (Nat → TV) × SV × (Nat → Int64)) := (if (fL_coin S T Hs G O (xs ((x5 + 1)).toNatClampNeg)).1 = 0 then ((fL_coin S T Hs G O (xs ((x5 + 1)).toNatClampNeg)).2.1, (fL_coin S T Hs G O (xs ((x5 + 1)).toNatClampNeg)).2.2.1, (fL_coin S T Hs G O (xs ((x5 + 1)).toNatClampNeg)).2.2.2.1, (fL_coin S T Hs G O (xs ((x5 + 1)).toNatClampNeg)).2.2.2.2.1, (fX6_coin Mo (xs ((x5 + 1)).toNatClampNeg)).2, (fL_coin S T Hs G O (xs ((x5 + 1)).toNatClampNeg)).2.2.2.2.2) else ((fL_coin S T Hs G O (xs ((x5 + 1)).toNatClampNeg)).2.1, (fL_coin S T Hs G O (xs ((x5 + 1)).toNatClampNeg)).2.2.1, (fL_coin S T Hs G O (xs ((x5 + 1)).toNatClampNeg)).2.2.2.1, (fL_coin S T Hs G O (xs ((x5 + 1)).toNatClampNeg)).2.2.2.2.1, (fX6_coin Mo (xs ((x5 + 1)).toNatClampNeg)).2, (fL_coin S T Hs G O (xs ((x5 + 1)).toNatClampNeg)).2.2.2.2.2))
def gM_13 (S : CV) (T : TV) (Tr : TV) (Sn : TV) (Hs : HV) (G : (Nat → TV)) (Xt : XV) (Ln : LV) (Mo : SV) (O : (Nat → Int64)) (Oq : (Nat → UInt64)) (xs : Nat → Int32) (L : Nat) (x5 : Int32) : Prop := ((vp_in (x5 + 1) L) ∧ (gL_coin S T Hs G O (xs ((x5 + 1)).toNatClampNeg)) ∧ (vp_in (x5 + 1) L) ∧ (gX6_coin Mo (xs ((x5 + 1)).toNatClampNeg)) ∧ ((fX6_thrown (fX6_coin Mo (xs ((x5 + 1)).toNatClampNeg)).2) = (fL_coin S T Hs G O (xs ((x5 + 1)).toNatClampNeg)).1) ∧ (if (fL_coin S T Hs G O (xs ((x5 + 1)).toNatClampNeg)).1 = 0 then ((vp_in 0 1) ∧ ((lg_cmp ((fL_coin S T Hs G O (xs ((x5 + 1)).toNatClampNeg)).2.2.2.2.2 (0 : Int32).toNatClampNeg) ((fX6_coin Mo (xs ((x5 + 1)).toNatClampNeg)).1.toInt64)) = 0) ∧ True) else True))
set_option maxHeartbeats 8000000 in
set_option maxRecDepth 100000 in
theorem cM_13 {p : Program} {e : Env} {s : State} {m : MethodId} {below : List Frame} {meth : Method} {c : Code} {Q : State → Prop} (l : Launch) (D : va_G) (cI cC cT cJ cQ : ClassId) (b x ot ou ov oh ox oy ot1 ot2 ou1 ou2 ov1 ov2 rr ox1 ox2 oy1 mh m1 m2 m3 m4 m5 m6 m7 m8 o oq : Nat) (ra rb rc : Nat → Nat) (S : CV) (T : TV) (Tr : TV) (Sn : TV) (Hs : HV) (G : (Nat → TV)) (Xt : XV) (Ln : LV) (Mo : SV) (O : (Nat → Int64)) (Oq : (Nat → UInt64)) (xs : Nat → Int32) (L : Nat) (x5 : Int32) (hst : l.stackTraces = false) (hn : ∃ j : Nat, j < 9 ∧ Hs.1 = nI j) (hc : ∀ i, narrow .char (.int (Ln.1 i)) = .int (Ln.1 i)) (hx : p.tables.exec = Jvm.exec) (hb : c.code = cL_law) (hml : c.maxLocals = 9) (hown : s.vm.findClass RL = some m.cls) (hts : ∀ w ∈ wsL_law, w.before #[Value.ref b] s = true) (hK : va_K D vwCl (TY5 cI cC cT cJ cQ) s) (hX : va_X b L xs s s.heap) (hbl : b < s.heap.size) (hbA : ¬ (fun q : Nat => s.heap.size ≤ q) b) (hXE : xE (fun q : Nat => s.heap.size ≤ q) s) (hXN : xN s) (H : Heap) (locs : List Loc) (ls : Array Slot) (cells slots : Nat) (hcr : cells + 2 ≤ room_1.cells ∧ slots + 12 ≤ room_1.slots) (hP : va_P D vwCl (w5 x ot ou ov oh ox oy S ++ w3 cI ot ot1 ot2 T ++ w3 cI ou ou1 ou2 Tr ++ w3 cI ov ov1 ov2 Sn ++ w1 oh rr Hs ++ wR cI cT rr ra rb rc G ++ w4 cI cC ox ox1 ox2 Xt ++ w2 cC oy oy1 Ln ++ w6 cI cC mh m1 m2 m3 m4 m5 m6 m7 m8 Mo ++ [(o, .inl (cJ, 1, .inr (.inl O)))] ++ [(oq, .inl (cQ, 1, .inr (.inr (.inr (.inl Oq)))))]) H) (hD : va_D (fun q : Nat => s.heap.size ≤ q) (w5 x ot ou ov oh ox oy S ++ w3 cI ot ot1 ot2 T ++ w3 cI ou ou1 ou2 Tr ++ w3 cI ov ov1 ov2 Sn ++ w1 oh rr Hs ++ wR cI cT rr ra rb rc G ++ w4 cI cC ox ox1 ox2 Xt ++ w2 cC oy oy1 Ln ++ w6 cI cC mh m1 m2 m3 m4 m5 m6 m7 m8 Mo ++ [(o, .inl (cJ, 1, .inr (.inl O)))] ++ [(oq, .inl (cQ, 1, .inr (.inr (.inr (.inl Oq)))))])) (hS : va_S (fun q : Nat => s.heap.size ≤ q) s.heap H locs) (hl : lv_has ls 9 [(0, .ref b), (1, .ref x), (2, .ref mh), (3, .ref o), (4, .ref oq), (5, .int x5)]) (hg : gM_13 S T Tr Sn Hs G Xt Ln Mo O Oq xs L x5) (kb : ∀ z9 : (CV × TV × HV × (Nat → TV) × SV × (Nat → Int64)), z9 = fM_13 S T Tr Sn Hs G Xt Ln Mo O Oq xs L x5 → ∀ (H : Heap) (locs : List Loc) (ls : Array Slot), va_P D vwCl (w5 x ot ou ov oh ox oy z9.1 ++ w3 cI ot ot1 ot2 z9.2.1 ++ w3 cI ou ou1 ou2 Tr ++ w3 cI ov ov1 ov2 Sn ++ w1 oh rr z9.2.2.1 ++ wR cI cT rr ra rb rc z9.2.2.2.1 ++ w4 cI cC ox ox1 ox2 Xt ++ w2 cC oy oy1 Ln ++ w6 cI cC mh m1 m2 m3 m4 m5 m6 m7 m8 z9.2.2.2.2.1 ++ [(o, .inl (cJ, 1, .inr (.inl z9.2.2.2.2.2)))] ++ [(oq, .inl (cQ, 1, .inr (.inr (.inr (.inl Oq)))))]) H → va_D (fun q : Nat => s.heap.size ≤ q) (w5 x ot ou ov oh ox oy z9.1 ++ w3 cI ot ot1 ot2 z9.2.1 ++ w3 cI ou ou1 ou2 Tr ++ w3 cI ov ov1 ov2 Sn ++ w1 oh rr z9.2.2.1 ++ wR cI cT rr ra rb rc z9.2.2.2.1 ++ w4 cI cC ox ox1 ox2 Xt ++ w2 cC oy oy1 Ln ++ w6 cI cC mh m1 m2 m3 m4 m5 m6 m7 m8 z9.2.2.2.2.1 ++ [(o, .inl (cJ, 1, .inr (.inl z9.2.2.2.2.2)))] ++ [(oq, .inl (cQ, 1, .inr (.inr (.inr (.inl Oq)))))]) → va_S (fun q : Nat => s.heap.size ≤ q) s.heap H locs → lv_has ls 9 [(0, .ref b), (1, .ref x), (2, .ref mh), (3, .ref o), (4, .ref oq), (5, .int (x5 + 5))] → W p l e room_1 s m #[Value.ref b] below meth c H locs (cells + 2) (slots + 12) Q (F0 m 28 ls [])) :
    W p l e room_1 s m #[Value.ref b] below meth c H locs cells slots Q (F0 m 1033 ls []) := by
  have hP : va_P D vwCl (w5 x ot ou ov oh ox oy S ++ w3 cI ot ot1 ot2 T ++ w3 cI ou ou1 ou2 Tr ++ w3 cI ov ov1 ov2 Sn ++ w1 oh rr Hs ++ wR cI cT rr ra rb rc G ++ w4 cI cC ox ox1 ox2 Xt ++ w2 cC oy oy1 Ln ++ w6 cI cC mh m1 m2 m3 m4 m5 m6 m7 m8 Mo ++ [(o, .inl (cJ, 1, .inr (.inl O)))] ++ [(oq, .inl (cQ, 1, .inr (.inr (.inr (.inl Oq)))))]) H := hP
  have hD : va_D (fun q : Nat => s.heap.size ≤ q) (w5 x ot ou ov oh ox oy S ++ w3 cI ot ot1 ot2 T ++ w3 cI ou ou1 ou2 Tr ++ w3 cI ov ov1 ov2 Sn ++ w1 oh rr Hs ++ wR cI cT rr ra rb rc G ++ w4 cI cC ox ox1 ox2 Xt ++ w2 cC oy oy1 Ln ++ w6 cI cC mh m1 m2 m3 m4 m5 m6 m7 m8 Mo ++ [(o, .inl (cJ, 1, .inr (.inl O)))] ++ [(oq, .inl (cQ, 1, .inr (.inr (.inr (.inl Oq)))))]) := hD
  have hK3 := hK.sub (tys' := TY cI cC cT) [0, 1, 2] rfl
  unfold gM_13 at hg
  refine lv_aload_n hx hb dL_law_1033 rfl (lv_at hl 1 rfl) ?_
  refine lv_aload_n hx hb dL_law_1034 rfl (lv_at hl 0 rfl) ?_
  refine lv_iload hx hb dL_law_1035 (lv_at hl 5 rfl) ?_
  refine lv_iconst (v := 1) hx hb dL_law_1037 (by decide) ?_
  refine lv_iadd hx hb dL_law_1038 ?_
  obtain ⟨o1, hg⟩ := hg
  refine va_sld hx hb hX hbl hbA hS o1 dL_law_1039 ?_
  refine lv_aload_n hx hb dL_law_1040 rfl (lv_at hl 3 rfl) ?_
  obtain ⟨n1, en1⟩ : ∃ z9, z9 = (fL_coin S T Hs G O (xs ((x5 + 1)).toNatClampNeg)) := ⟨_, rfl⟩
  try rw [← en1] at hg
  obtain ⟨o2, hg⟩ := hg
  have k9 := (kL_coin l D cI cC cT cJ cQ x ot ou ov oh ox oy ot1 ot2 rr o ra rb rc S T Hs G O (xs ((x5 + 1)).toNatClampNeg) hst hn o2)
  rw [← en1] at k9
  refine fLq (As := [.ref x, .int (xs ((x5 + 1)).toNatClampNeg), .ref o]) (rest := []) ⟨hx, hb, hml, hown, hts⟩ k9 (vx_cwSW (hh := [(0, 9, 12, 28), (0, 9, 15, 15)]) 3 hts gL_law_L_coin rfl rfl rfl (by decide +kernel) ⟨Nat.le_of_ble_eq_true rfl, Nat.le_of_ble_eq_true rfl⟩) hP hK hD hS hXE hXN (w3 cI ou ou1 ou2 Tr ++ w3 cI ov ov1 ov2 Sn ++ w4 cI cC ox ox1 ox2 Xt ++ w2 cC oy oy1 Ln ++ w6 cI cC mh m1 m2 m3 m4 m5 m6 m7 m8 Mo ++ [(oq, .inl (cQ, 1, .inr (.inr (.inr (.inl Oq)))))] : va_W) (pmI (fun a => by simp only [cntW_app, cntW_nil] <;> omega)) (w5 x ot ou ov oh ox oy n1.2.1 ++ w3 cI ot ot1 ot2 n1.2.2.1 ++ w3 cI ou ou1 ou2 Tr ++ w3 cI ov ov1 ov2 Sn ++ w1 oh rr n1.2.2.2.1 ++ wR cI cT rr ra rb rc n1.2.2.2.2.1 ++ w4 cI cC ox ox1 ox2 Xt ++ w2 cC oy oy1 Ln ++ w6 cI cC mh m1 m2 m3 m4 m5 m6 m7 m8 Mo ++ [(o, .inl (cJ, 1, .inr (.inl n1.2.2.2.2.2)))] ++ [(oq, .inl (cQ, 1, .inr (.inr (.inr (.inl Oq)))))]) (pmI (fun a => by simp only [cntW_app, cntW_nil] <;> omega)) rfl rfl hl.1 rfl (Nat.le_of_ble_eq_true rfl) ⟨Nat.le_trans (Nat.add_le_add_left (by decide) _) hcr.1, Nat.le_trans (Nat.add_le_add_left (by decide) _) hcr.2⟩ dL_law_1041 (fun H locs hP hD hS => ?_)
  refine lv_istore (lv' := [(6, .int n1.1), (0, .ref b), (1, .ref x), (2, .ref mh), (3, .ref o), (4, .ref oq), (5, .int x5)]) hx hb dL_law_1044 hl (by decide) rfl (fun ls hl => ?_)
  refine lv_aload_n hx hb dL_law_1046 rfl (lv_at hl 3 rfl) ?_
  refine lv_aload_n hx hb dL_law_1047 rfl (lv_at hl 1 rfl) ?_
  refine lv_iload hx hb dL_law_1048 (lv_at hl 6 rfl) ?_
  refine lv_iconst (v := 1) hx hb dL_law_1050 (by decide) ?_
  refine lv_iadd hx hb dL_law_1051 ?_
  obtain ⟨o3, hg⟩ := hg
  refine va_sld hx hb hX hbl hbA hS o3 dL_law_1052 ?_
  obtain ⟨n2, en2⟩ : ∃ z9, z9 = (fX6_coin Mo (xs ((x5 + 1)).toNatClampNeg)) := ⟨_, rfl⟩
  try rw [← en2] at hg
  obtain ⟨o4, hg⟩ := hg
  have k9 := (kX6_coin l D cI cC cT mh m1 m2 m3 m4 m5 m6 m7 m8 Mo (xs ((x5 + 1)).toNatClampNeg) o4)
  rw [← en2] at k9
  refine fUq (As := [.int (xs ((x5 + 1)).toNatClampNeg)]) (rest := []) (st' := [.int n2.1]) ⟨hx, hb, hml, hown, hts⟩ k9 (cwV 1 hts gL_law_X6_coin rfl rfl rfl (by decide +kernel) ⟨Nat.le_of_ble_eq_true rfl, Nat.le_of_ble_eq_true rfl⟩) hP hK3 hD hS (w5 x ot ou ov oh ox oy n1.2.1 ++ w3 cI ot ot1 ot2 n1.2.2.1 ++ w3 cI ou ou1 ou2 Tr ++ w3 cI ov ov1 ov2 Sn ++ w1 oh rr n1.2.2.2.1 ++ wR cI cT rr ra rb rc n1.2.2.2.2.1 ++ w4 cI cC ox ox1 ox2 Xt ++ w2 cC oy oy1 Ln ++ [(o, .inl (cJ, 1, .inr (.inl n1.2.2.2.2.2)))] ++ [(oq, .inl (cQ, 1, .inr (.inr (.inr (.inl Oq)))))] : va_W) (pmI (fun a => by simp only [cntW_app, cntW_nil] <;> omega)) (w5 x ot ou ov oh ox oy n1.2.1 ++ w3 cI ot ot1 ot2 n1.2.2.1 ++ w3 cI ou ou1 ou2 Tr ++ w3 cI ov ov1 ov2 Sn ++ w1 oh rr n1.2.2.2.1 ++ wR cI cT rr ra rb rc n1.2.2.2.2.1 ++ w4 cI cC ox ox1 ox2 Xt ++ w2 cC oy oy1 Ln ++ w6 cI cC mh m1 m2 m3 m4 m5 m6 m7 m8 n2.2 ++ [(o, .inl (cJ, 1, .inr (.inl n1.2.2.2.2.2)))] ++ [(oq, .inl (cQ, 1, .inr (.inr (.inr (.inl Oq)))))]) (pmI (fun a => by simp only [cntW_app, cntW_nil] <;> omega)) rfl 44 (ci := 7) rfl rfl rfl rfl hl.1 rfl rfl (Nat.le_of_ble_eq_true rfl) ⟨Nat.le_trans (Nat.add_le_add_left (by decide) _) hcr.1, Nat.le_trans (Nat.add_le_add_left (by decide) _) hcr.2⟩ dL_law_1053 (fun H locs hP hD hS => ?_)
  refine lv_istore (lv' := [(7, .int n2.1), (6, .int n1.1), (0, .ref b), (1, .ref x), (2, .ref mh), (3, .ref o), (4, .ref oq), (5, .int x5)]) hx hb dL_law_1056 hl (by decide) rfl (fun ls hl => ?_)
  refine lv_aload_n hx hb dL_law_1058 rfl (lv_at hl 4 rfl) ?_
  refine fRq (As := []) (rest := []) (st' := [.int (fX6_thrown n2.2)]) ⟨hx, hb, hml, hown, hts⟩ (kX6_thrown l D cI cC cT mh m1 m2 m3 m4 m5 m6 m7 m8 n2.2) (cwV 0 hts gL_law_X6_thrown rfl rfl rfl (by decide +kernel) ⟨Nat.le_of_ble_eq_true rfl, Nat.le_of_ble_eq_true rfl⟩) hP hK3 (w5 x ot ou ov oh ox oy n1.2.1 ++ w3 cI ot ot1 ot2 n1.2.2.1 ++ w3 cI ou ou1 ou2 Tr ++ w3 cI ov ov1 ov2 Sn ++ w1 oh rr n1.2.2.2.1 ++ wR cI cT rr ra rb rc n1.2.2.2.2.1 ++ w4 cI cC ox ox1 ox2 Xt ++ w2 cC oy oy1 Ln ++ [(o, .inl (cJ, 1, .inr (.inl n1.2.2.2.2.2)))] ++ [(oq, .inl (cQ, 1, .inr (.inr (.inr (.inl Oq)))))] : va_W) (pmI (fun a => by simp only [cntW_app, cntW_nil] <;> omega)) 44 (ci := 7) rfl rfl rfl rfl hl.1 rfl rfl (Nat.le_of_ble_eq_true rfl) ⟨Nat.le_trans (Nat.add_le_add_left (by decide) _) hcr.1, Nat.le_trans (Nat.add_le_add_left (by decide) _) hcr.2⟩ dL_law_1059 ?_
  refine lv_iload hx hb dL_law_1062 (lv_at hl 1 rfl) ?_
  obtain ⟨o5, hg⟩ := hg
  refine lv_icmp_eq (tgt := 1069) hx hb dL_law_1064 (by decide) (fun c_1064 => ?_) (fun c_1064 => absurd o5 c_1064)
  refine lv_iload hx hb dL_law_1069 (lv_at hl 1 rfl) ?_
  refine lv_if_ne (tgt := 1086) hx hb dL_law_1071 (by decide) (fun c_1071_1 => ?_) (fun c_1071_1 => ?_)
  · rw [if_neg c_1071_1] at hg
    refine lv_goto (tgt := 2110) hx hb dL_law_1086 (by decide) ?_
    refine lv_iinc (v := (x5 + 5)) (lv' := [(5, .int (x5 + 5)), (7, .int n2.1), (6, .int n1.1), (0, .ref b), (1, .ref x), (2, .ref mh), (3, .ref o), (4, .ref oq)]) hx hb dL_law_2110 hl (k := 7) rfl rfl (by decide) rfl (fun ls hl => ?_)
    refine lv_goto (tgt := 28) hx hb dL_law_2113 (by decide) ?_
    have e9 : fM_13 S T Tr Sn Hs G Xt Ln Mo O Oq xs L x5 = (n1.2.1, n1.2.2.1, n1.2.2.2.1, n1.2.2.2.2.1, n2.2, n1.2.2.2.2.2) := by rw [fM_13, ← en1, ← en2, if_neg c_1071_1]
    refine W.widen (k := cells + 2) (n := slots + 12) (by omega) (by omega) ?_
    exact kb (n1.2.1, n1.2.2.1, n1.2.2.2.1, n1.2.2.2.2.1, n2.2, n1.2.2.2.2.2) e9.symm H locs ls hP hD hS (lv_sub hl [3, 4, 5, 6, 7, 0] rfl)
  · rw [if_pos c_1071_1] at hg
    refine lv_aload_n hx hb dL_law_1074 rfl (lv_at hl 5 rfl) ?_
    refine lv_iconst (v := 0) hx hb dL_law_1075 (by decide) ?_
    obtain ⟨o6, hg⟩ := hg
    refine va_lald hx hb hK hP 53 3 rfl rfl o6 dL_law_1076 ?_
    refine lv_iload hx hb dL_law_1077 (lv_at hl 0 rfl) ?_
    refine lv_i2l (v := (n2.1.toInt64)) hx hb dL_law_1079 rfl ?_
    refine W.lcmp hx hb dL_law_1080 ?_
    obtain ⟨o7, hg⟩ := hg
    refine lv_if_eq (tgt := 1086) hx hb dL_law_1081 (by decide) (fun c_1081 => ?_) (fun c_1081 => absurd o7 c_1081)
    refine lv_goto (tgt := 2110) hx hb dL_law_1086 (by decide) ?_
    refine lv_iinc (v := (x5 + 5)) (lv' := [(5, .int (x5 + 5)), (7, .int n2.1), (6, .int n1.1), (0, .ref b), (1, .ref x), (2, .ref mh), (3, .ref o), (4, .ref oq)]) hx hb dL_law_2110 hl (k := 7) rfl rfl (by decide) rfl (fun ls hl => ?_)
    refine lv_goto (tgt := 28) hx hb dL_law_2113 (by decide) ?_
    have e9 : fM_13 S T Tr Sn Hs G Xt Ln Mo O Oq xs L x5 = (n1.2.1, n1.2.2.1, n1.2.2.2.1, n1.2.2.2.2.1, n2.2, n1.2.2.2.2.2) := by rw [fM_13, ← en1, ← en2, if_pos c_1071_1]
    refine W.widen (k := cells + 2) (n := slots + 12) (by omega) (by omega) ?_
    exact kb (n1.2.1, n1.2.2.1, n1.2.2.2.1, n1.2.2.2.2.1, n2.2, n1.2.2.2.2.2) e9.symm H locs ls hP hD hS (lv_sub hl [3, 4, 5, 6, 7, 0] rfl)
def fM_14 (S : CV) (T : TV) (Tr : TV) (Sn : TV) (Hs : HV) (G : (Nat → TV)) (Xt : XV) (Ln : LV) (Mo : SV) (O : (Nat → Int64)) (Oq : (Nat → UInt64)) (xs : Nat → Int32) (L : Nat) (x5 : Int32) : (CV × TV × HV × (Nat → TV) × SV × (Nat → Int64)) := (if (fL_takeCoin S T Hs G O (xs ((x5 + 1)).toNatClampNeg)).1 = 0 then ((fL_takeCoin S T Hs G O (xs ((x5 + 1)).toNatClampNeg)).2.1, (fL_takeCoin S T Hs G O (xs ((x5 + 1)).toNatClampNeg)).2.2.1, (fL_takeCoin S T Hs G O (xs ((x5 + 1)).toNatClampNeg)).2.2.2.1, (fL_takeCoin S T Hs G O (xs ((x5 + 1)).toNatClampNeg)).2.2.2.2.1, (fX6_takeCoin Mo (xs ((x5 + 1)).toNatClampNeg)).2, (fL_takeCoin S T Hs G O (xs ((x5 + 1)).toNatClampNeg)).2.2.2.2.2) else ((fL_takeCoin S T Hs G O (xs ((x5 + 1)).toNatClampNeg)).2.1, (fL_takeCoin S T Hs G O (xs ((x5 + 1)).toNatClampNeg)).2.2.1, (fL_takeCoin S T Hs G O (xs ((x5 + 1)).toNatClampNeg)).2.2.2.1, (fL_takeCoin S T Hs G O (xs ((x5 + 1)).toNatClampNeg)).2.2.2.2.1, (fX6_takeCoin Mo (xs ((x5 + 1)).toNatClampNeg)).2, (fL_takeCoin S T Hs G O (xs ((x5 + 1)).toNatClampNeg)).2.2.2.2.2))
def gM_14 (S : CV) (T : TV) (Tr : TV) (Sn : TV) (Hs : HV) (G : (Nat → TV)) (Xt : XV) (Ln : LV) (Mo : SV) (O : (Nat → Int64)) (Oq : (Nat → UInt64)) (xs : Nat → Int32) (L : Nat) (x5 : Int32) : Prop := ((vp_in (x5 + 1) L) ∧ (gL_takeCoin S T Hs G O (xs ((x5 + 1)).toNatClampNeg)) ∧ (vp_in (x5 + 1) L) ∧ (gX6_takeCoin Mo (xs ((x5 + 1)).toNatClampNeg)) ∧ ((fX6_thrown (fX6_takeCoin Mo (xs ((x5 + 1)).toNatClampNeg)).2) = (fL_takeCoin S T Hs G O (xs ((x5 + 1)).toNatClampNeg)).1) ∧ (if (fL_takeCoin S T Hs G O (xs ((x5 + 1)).toNatClampNeg)).1 = 0 then ((vp_in 0 1) ∧ ((lg_cmp ((fL_takeCoin S T Hs G O (xs ((x5 + 1)).toNatClampNeg)).2.2.2.2.2 (0 : Int32).toNatClampNeg) ((fX6_takeCoin Mo (xs ((x5 + 1)).toNatClampNeg)).1.toInt64)) = 0) ∧ True) else True))
set_option maxHeartbeats 8000000 in
set_option maxRecDepth 100000 in
theorem cM_14 {p : Program} {e : Env} {s : State} {m : MethodId} {below : List Frame} {meth : Method} {c : Code} {Q : State → Prop} (l : Launch) (D : va_G) (cI cC cT cJ cQ : ClassId) (b x ot ou ov oh ox oy ot1 ot2 ou1 ou2 ov1 ov2 rr ox1 ox2 oy1 mh m1 m2 m3 m4 m5 m6 m7 m8 o oq : Nat) (ra rb rc : Nat → Nat) (S : CV) (T : TV) (Tr : TV) (Sn : TV) (Hs : HV) (G : (Nat → TV)) (Xt : XV) (Ln : LV) (Mo : SV) (O : (Nat → Int64)) (Oq : (Nat → UInt64)) (xs : Nat → Int32) (L : Nat) (x5 : Int32) (hst : l.stackTraces = false) (hn : ∃ j : Nat, j < 9 ∧ Hs.1 = nI j) (hc : ∀ i, narrow .char (.int (Ln.1 i)) = .int (Ln.1 i)) (hx : p.tables.exec = Jvm.exec) (hb : c.code = cL_law) (hml : c.maxLocals = 9) (hown : s.vm.findClass RL = some m.cls) (hts : ∀ w ∈ wsL_law, w.before #[Value.ref b] s = true) (hK : va_K D vwCl (TY5 cI cC cT cJ cQ) s) (hX : va_X b L xs s s.heap) (hbl : b < s.heap.size) (hbA : ¬ (fun q : Nat => s.heap.size ≤ q) b) (hXE : xE (fun q : Nat => s.heap.size ≤ q) s) (hXN : xN s) (H : Heap) (locs : List Loc) (ls : Array Slot) (cells slots : Nat) (hcr : cells + 2 ≤ room_1.cells ∧ slots + 12 ≤ room_1.slots) (hP : va_P D vwCl (w5 x ot ou ov oh ox oy S ++ w3 cI ot ot1 ot2 T ++ w3 cI ou ou1 ou2 Tr ++ w3 cI ov ov1 ov2 Sn ++ w1 oh rr Hs ++ wR cI cT rr ra rb rc G ++ w4 cI cC ox ox1 ox2 Xt ++ w2 cC oy oy1 Ln ++ w6 cI cC mh m1 m2 m3 m4 m5 m6 m7 m8 Mo ++ [(o, .inl (cJ, 1, .inr (.inl O)))] ++ [(oq, .inl (cQ, 1, .inr (.inr (.inr (.inl Oq)))))]) H) (hD : va_D (fun q : Nat => s.heap.size ≤ q) (w5 x ot ou ov oh ox oy S ++ w3 cI ot ot1 ot2 T ++ w3 cI ou ou1 ou2 Tr ++ w3 cI ov ov1 ov2 Sn ++ w1 oh rr Hs ++ wR cI cT rr ra rb rc G ++ w4 cI cC ox ox1 ox2 Xt ++ w2 cC oy oy1 Ln ++ w6 cI cC mh m1 m2 m3 m4 m5 m6 m7 m8 Mo ++ [(o, .inl (cJ, 1, .inr (.inl O)))] ++ [(oq, .inl (cQ, 1, .inr (.inr (.inr (.inl Oq)))))])) (hS : va_S (fun q : Nat => s.heap.size ≤ q) s.heap H locs) (hl : lv_has ls 9 [(0, .ref b), (1, .ref x), (2, .ref mh), (3, .ref o), (4, .ref oq), (5, .int x5)]) (hg : gM_14 S T Tr Sn Hs G Xt Ln Mo O Oq xs L x5) (kb : ∀ z9 : (CV × TV × HV × (Nat → TV) × SV × (Nat → Int64)), z9 = fM_14 S T Tr Sn Hs G Xt Ln Mo O Oq xs L x5 → ∀ (H : Heap) (locs : List Loc) (ls : Array Slot), va_P D vwCl (w5 x ot ou ov oh ox oy z9.1 ++ w3 cI ot ot1 ot2 z9.2.1 ++ w3 cI ou ou1 ou2 Tr ++ w3 cI ov ov1 ov2 Sn ++ w1 oh rr z9.2.2.1 ++ wR cI cT rr ra rb rc z9.2.2.2.1 ++ w4 cI cC ox ox1 ox2 Xt ++ w2 cC oy oy1 Ln ++ w6 cI cC mh m1 m2 m3 m4 m5 m6 m7 m8 z9.2.2.2.2.1 ++ [(o, .inl (cJ, 1, .inr (.inl z9.2.2.2.2.2)))] ++ [(oq, .inl (cQ, 1, .inr (.inr (.inr (.inl Oq)))))]) H → va_D (fun q : Nat => s.heap.size ≤ q) (w5 x ot ou ov oh ox oy z9.1 ++ w3 cI ot ot1 ot2 z9.2.1 ++ w3 cI ou ou1 ou2 Tr ++ w3 cI ov ov1 ov2 Sn ++ w1 oh rr z9.2.2.1 ++ wR cI cT rr ra rb rc z9.2.2.2.1 ++ w4 cI cC ox ox1 ox2 Xt ++ w2 cC oy oy1 Ln ++ w6 cI cC mh m1 m2 m3 m4 m5 m6 m7 m8 z9.2.2.2.2.1 ++ [(o, .inl (cJ, 1, .inr (.inl z9.2.2.2.2.2)))] ++ [(oq, .inl (cQ, 1, .inr (.inr (.inr (.inl Oq)))))]) → va_S (fun q : Nat => s.heap.size ≤ q) s.heap H locs → lv_has ls 9 [(0, .ref b), (1, .ref x), (2, .ref mh), (3, .ref o), (4, .ref oq), (5, .int (x5 + 5))] → W p l e room_1 s m #[Value.ref b] below meth c H locs (cells + 2) (slots + 12) Q (F0 m 28 ls [])) :
    W p l e room_1 s m #[Value.ref b] below meth c H locs cells slots Q (F0 m 1089 ls []) := by
  have hP : va_P D vwCl (w5 x ot ou ov oh ox oy S ++ w3 cI ot ot1 ot2 T ++ w3 cI ou ou1 ou2 Tr ++ w3 cI ov ov1 ov2 Sn ++ w1 oh rr Hs ++ wR cI cT rr ra rb rc G ++ w4 cI cC ox ox1 ox2 Xt ++ w2 cC oy oy1 Ln ++ w6 cI cC mh m1 m2 m3 m4 m5 m6 m7 m8 Mo ++ [(o, .inl (cJ, 1, .inr (.inl O)))] ++ [(oq, .inl (cQ, 1, .inr (.inr (.inr (.inl Oq)))))]) H := hP
  have hD : va_D (fun q : Nat => s.heap.size ≤ q) (w5 x ot ou ov oh ox oy S ++ w3 cI ot ot1 ot2 T ++ w3 cI ou ou1 ou2 Tr ++ w3 cI ov ov1 ov2 Sn ++ w1 oh rr Hs ++ wR cI cT rr ra rb rc G ++ w4 cI cC ox ox1 ox2 Xt ++ w2 cC oy oy1 Ln ++ w6 cI cC mh m1 m2 m3 m4 m5 m6 m7 m8 Mo ++ [(o, .inl (cJ, 1, .inr (.inl O)))] ++ [(oq, .inl (cQ, 1, .inr (.inr (.inr (.inl Oq)))))]) := hD
  have hK3 := hK.sub (tys' := TY cI cC cT) [0, 1, 2] rfl
  unfold gM_14 at hg
  refine lv_aload_n hx hb dL_law_1089 rfl (lv_at hl 1 rfl) ?_
  refine lv_aload_n hx hb dL_law_1090 rfl (lv_at hl 0 rfl) ?_
  refine lv_iload hx hb dL_law_1091 (lv_at hl 5 rfl) ?_
  refine lv_iconst (v := 1) hx hb dL_law_1093 (by decide) ?_
  refine lv_iadd hx hb dL_law_1094 ?_
  obtain ⟨o1, hg⟩ := hg
  refine va_sld hx hb hX hbl hbA hS o1 dL_law_1095 ?_
  refine lv_aload_n hx hb dL_law_1096 rfl (lv_at hl 3 rfl) ?_
  obtain ⟨n1, en1⟩ : ∃ z9, z9 = (fL_takeCoin S T Hs G O (xs ((x5 + 1)).toNatClampNeg)) := ⟨_, rfl⟩
  try rw [← en1] at hg
  obtain ⟨o2, hg⟩ := hg
  have k9 := (kL_takeCoin l D cI cC cT cJ cQ x ot ou ov oh ox oy ot1 ot2 rr o ra rb rc S T Hs G O (xs ((x5 + 1)).toNatClampNeg) hst hn o2)
  rw [← en1] at k9
  refine fLq (As := [.ref x, .int (xs ((x5 + 1)).toNatClampNeg), .ref o]) (rest := []) ⟨hx, hb, hml, hown, hts⟩ k9 (vx_cwSW (hh := [(0, 9, 12, 28), (0, 9, 15, 15)]) 3 hts gL_law_L_takeCoin rfl rfl rfl (by decide +kernel) ⟨Nat.le_of_ble_eq_true rfl, Nat.le_of_ble_eq_true rfl⟩) hP hK hD hS hXE hXN (w3 cI ou ou1 ou2 Tr ++ w3 cI ov ov1 ov2 Sn ++ w4 cI cC ox ox1 ox2 Xt ++ w2 cC oy oy1 Ln ++ w6 cI cC mh m1 m2 m3 m4 m5 m6 m7 m8 Mo ++ [(oq, .inl (cQ, 1, .inr (.inr (.inr (.inl Oq)))))] : va_W) (pmI (fun a => by simp only [cntW_app, cntW_nil] <;> omega)) (w5 x ot ou ov oh ox oy n1.2.1 ++ w3 cI ot ot1 ot2 n1.2.2.1 ++ w3 cI ou ou1 ou2 Tr ++ w3 cI ov ov1 ov2 Sn ++ w1 oh rr n1.2.2.2.1 ++ wR cI cT rr ra rb rc n1.2.2.2.2.1 ++ w4 cI cC ox ox1 ox2 Xt ++ w2 cC oy oy1 Ln ++ w6 cI cC mh m1 m2 m3 m4 m5 m6 m7 m8 Mo ++ [(o, .inl (cJ, 1, .inr (.inl n1.2.2.2.2.2)))] ++ [(oq, .inl (cQ, 1, .inr (.inr (.inr (.inl Oq)))))]) (pmI (fun a => by simp only [cntW_app, cntW_nil] <;> omega)) rfl rfl hl.1 rfl (Nat.le_of_ble_eq_true rfl) ⟨Nat.le_trans (Nat.add_le_add_left (by decide) _) hcr.1, Nat.le_trans (Nat.add_le_add_left (by decide) _) hcr.2⟩ dL_law_1097 (fun H locs hP hD hS => ?_)
  refine lv_istore (lv' := [(6, .int n1.1), (0, .ref b), (1, .ref x), (2, .ref mh), (3, .ref o), (4, .ref oq), (5, .int x5)]) hx hb dL_law_1100 hl (by decide) rfl (fun ls hl => ?_)
  refine lv_aload_n hx hb dL_law_1102 rfl (lv_at hl 3 rfl) ?_
  refine lv_aload_n hx hb dL_law_1103 rfl (lv_at hl 1 rfl) ?_
  refine lv_iload hx hb dL_law_1104 (lv_at hl 6 rfl) ?_
  refine lv_iconst (v := 1) hx hb dL_law_1106 (by decide) ?_
  refine lv_iadd hx hb dL_law_1107 ?_
  obtain ⟨o3, hg⟩ := hg
  refine va_sld hx hb hX hbl hbA hS o3 dL_law_1108 ?_
  obtain ⟨n2, en2⟩ : ∃ z9, z9 = (fX6_takeCoin Mo (xs ((x5 + 1)).toNatClampNeg)) := ⟨_, rfl⟩
  try rw [← en2] at hg
  obtain ⟨o4, hg⟩ := hg
  have k9 := (kX6_takeCoin l D cI cC cT mh m1 m2 m3 m4 m5 m6 m7 m8 Mo (xs ((x5 + 1)).toNatClampNeg) o4)
  rw [← en2] at k9
  refine fUq (As := [.int (xs ((x5 + 1)).toNatClampNeg)]) (rest := []) (st' := [.int n2.1]) ⟨hx, hb, hml, hown, hts⟩ k9 (cwV 1 hts gL_law_X6_takeCoin rfl rfl rfl (by decide +kernel) ⟨Nat.le_of_ble_eq_true rfl, Nat.le_of_ble_eq_true rfl⟩) hP hK3 hD hS (w5 x ot ou ov oh ox oy n1.2.1 ++ w3 cI ot ot1 ot2 n1.2.2.1 ++ w3 cI ou ou1 ou2 Tr ++ w3 cI ov ov1 ov2 Sn ++ w1 oh rr n1.2.2.2.1 ++ wR cI cT rr ra rb rc n1.2.2.2.2.1 ++ w4 cI cC ox ox1 ox2 Xt ++ w2 cC oy oy1 Ln ++ [(o, .inl (cJ, 1, .inr (.inl n1.2.2.2.2.2)))] ++ [(oq, .inl (cQ, 1, .inr (.inr (.inr (.inl Oq)))))] : va_W) (pmI (fun a => by simp only [cntW_app, cntW_nil] <;> omega)) (w5 x ot ou ov oh ox oy n1.2.1 ++ w3 cI ot ot1 ot2 n1.2.2.1 ++ w3 cI ou ou1 ou2 Tr ++ w3 cI ov ov1 ov2 Sn ++ w1 oh rr n1.2.2.2.1 ++ wR cI cT rr ra rb rc n1.2.2.2.2.1 ++ w4 cI cC ox ox1 ox2 Xt ++ w2 cC oy oy1 Ln ++ w6 cI cC mh m1 m2 m3 m4 m5 m6 m7 m8 n2.2 ++ [(o, .inl (cJ, 1, .inr (.inl n1.2.2.2.2.2)))] ++ [(oq, .inl (cQ, 1, .inr (.inr (.inr (.inl Oq)))))]) (pmI (fun a => by simp only [cntW_app, cntW_nil] <;> omega)) rfl 44 (ci := 7) rfl rfl rfl rfl hl.1 rfl rfl (Nat.le_of_ble_eq_true rfl) ⟨Nat.le_trans (Nat.add_le_add_left (by decide) _) hcr.1, Nat.le_trans (Nat.add_le_add_left (by decide) _) hcr.2⟩ dL_law_1109 (fun H locs hP hD hS => ?_)
  refine lv_istore (lv' := [(7, .int n2.1), (6, .int n1.1), (0, .ref b), (1, .ref x), (2, .ref mh), (3, .ref o), (4, .ref oq), (5, .int x5)]) hx hb dL_law_1112 hl (by decide) rfl (fun ls hl => ?_)
  refine lv_aload_n hx hb dL_law_1114 rfl (lv_at hl 4 rfl) ?_
  refine fRq (As := []) (rest := []) (st' := [.int (fX6_thrown n2.2)]) ⟨hx, hb, hml, hown, hts⟩ (kX6_thrown l D cI cC cT mh m1 m2 m3 m4 m5 m6 m7 m8 n2.2) (cwV 0 hts gL_law_X6_thrown rfl rfl rfl (by decide +kernel) ⟨Nat.le_of_ble_eq_true rfl, Nat.le_of_ble_eq_true rfl⟩) hP hK3 (w5 x ot ou ov oh ox oy n1.2.1 ++ w3 cI ot ot1 ot2 n1.2.2.1 ++ w3 cI ou ou1 ou2 Tr ++ w3 cI ov ov1 ov2 Sn ++ w1 oh rr n1.2.2.2.1 ++ wR cI cT rr ra rb rc n1.2.2.2.2.1 ++ w4 cI cC ox ox1 ox2 Xt ++ w2 cC oy oy1 Ln ++ [(o, .inl (cJ, 1, .inr (.inl n1.2.2.2.2.2)))] ++ [(oq, .inl (cQ, 1, .inr (.inr (.inr (.inl Oq)))))] : va_W) (pmI (fun a => by simp only [cntW_app, cntW_nil] <;> omega)) 44 (ci := 7) rfl rfl rfl rfl hl.1 rfl rfl (Nat.le_of_ble_eq_true rfl) ⟨Nat.le_trans (Nat.add_le_add_left (by decide) _) hcr.1, Nat.le_trans (Nat.add_le_add_left (by decide) _) hcr.2⟩ dL_law_1115 ?_
  refine lv_iload hx hb dL_law_1118 (lv_at hl 1 rfl) ?_
  obtain ⟨o5, hg⟩ := hg
  refine lv_icmp_eq (tgt := 1125) hx hb dL_law_1120 (by decide) (fun c_1120 => ?_) (fun c_1120 => absurd o5 c_1120)
  refine lv_iload hx hb dL_law_1125 (lv_at hl 1 rfl) ?_
  refine lv_if_ne (tgt := 1142) hx hb dL_law_1127 (by decide) (fun c_1127_1 => ?_) (fun c_1127_1 => ?_)
  · rw [if_neg c_1127_1] at hg
    refine lv_goto (tgt := 2110) hx hb dL_law_1142 (by decide) ?_
    refine lv_iinc (v := (x5 + 5)) (lv' := [(5, .int (x5 + 5)), (7, .int n2.1), (6, .int n1.1), (0, .ref b), (1, .ref x), (2, .ref mh), (3, .ref o), (4, .ref oq)]) hx hb dL_law_2110 hl (k := 7) rfl rfl (by decide) rfl (fun ls hl => ?_)
    refine lv_goto (tgt := 28) hx hb dL_law_2113 (by decide) ?_
    have e9 : fM_14 S T Tr Sn Hs G Xt Ln Mo O Oq xs L x5 = (n1.2.1, n1.2.2.1, n1.2.2.2.1, n1.2.2.2.2.1, n2.2, n1.2.2.2.2.2) := by rw [fM_14, ← en1, ← en2, if_neg c_1127_1]
    refine W.widen (k := cells + 2) (n := slots + 12) (by omega) (by omega) ?_
    exact kb (n1.2.1, n1.2.2.1, n1.2.2.2.1, n1.2.2.2.2.1, n2.2, n1.2.2.2.2.2) e9.symm H locs ls hP hD hS (lv_sub hl [3, 4, 5, 6, 7, 0] rfl)
  · rw [if_pos c_1127_1] at hg
    refine lv_aload_n hx hb dL_law_1130 rfl (lv_at hl 5 rfl) ?_
    refine lv_iconst (v := 0) hx hb dL_law_1131 (by decide) ?_
    obtain ⟨o6, hg⟩ := hg
    refine va_lald hx hb hK hP 53 3 rfl rfl o6 dL_law_1132 ?_
    refine lv_iload hx hb dL_law_1133 (lv_at hl 0 rfl) ?_
    refine lv_i2l (v := (n2.1.toInt64)) hx hb dL_law_1135 rfl ?_
    refine W.lcmp hx hb dL_law_1136 ?_
    obtain ⟨o7, hg⟩ := hg
    refine lv_if_eq (tgt := 1142) hx hb dL_law_1137 (by decide) (fun c_1137 => ?_) (fun c_1137 => absurd o7 c_1137)
    refine lv_goto (tgt := 2110) hx hb dL_law_1142 (by decide) ?_
    refine lv_iinc (v := (x5 + 5)) (lv' := [(5, .int (x5 + 5)), (7, .int n2.1), (6, .int n1.1), (0, .ref b), (1, .ref x), (2, .ref mh), (3, .ref o), (4, .ref oq)]) hx hb dL_law_2110 hl (k := 7) rfl rfl (by decide) rfl (fun ls hl => ?_)
    refine lv_goto (tgt := 28) hx hb dL_law_2113 (by decide) ?_
    have e9 : fM_14 S T Tr Sn Hs G Xt Ln Mo O Oq xs L x5 = (n1.2.1, n1.2.2.1, n1.2.2.2.1, n1.2.2.2.2.1, n2.2, n1.2.2.2.2.2) := by rw [fM_14, ← en1, ← en2, if_pos c_1127_1]
    refine W.widen (k := cells + 2) (n := slots + 12) (by omega) (by omega) ?_
    exact kb (n1.2.1, n1.2.2.1, n1.2.2.2.1, n1.2.2.2.2.1, n2.2, n1.2.2.2.2.2) e9.symm H locs ls hP hD hS (lv_sub hl [3, 4, 5, 6, 7, 0] rfl)
def fM_15 (S : CV) (T : TV) (Tr : TV) (Sn : TV) (Hs : HV) (G : (Nat → TV)) (Xt : XV) (Ln : LV) (Mo : SV) (O : (Nat → Int64)) (Oq : (Nat → UInt64)) (xs : Nat → Int32) (L : Nat) (x5 : Int32) : (SV × (Nat → UInt64)) := (if (fL_tilt S T Oq (xs ((x5 + 1)).toNatClampNeg)).1 = 0 then (if (Op.cmpValue (FP.dcmp ((fL_tilt S T Oq (xs ((x5 + 1)).toNatClampNeg)).2 (0 : Int32).toNatClampNeg) (FP.f2d (fX6_tilt Mo (xs ((x5 + 1)).toNatClampNeg)).1)) .l) = 0 then ((fX6_tilt Mo (xs ((x5 + 1)).toNatClampNeg)).2, (fL_tilt S T Oq (xs ((x5 + 1)).toNatClampNeg)).2) else ((fX6_tilt Mo (xs ((x5 + 1)).toNatClampNeg)).2, (fL_tilt S T Oq (xs ((x5 + 1)).toNatClampNeg)).2)) else ((fX6_tilt Mo (xs ((x5 + 1)).toNatClampNeg)).2, (fL_tilt S T Oq (xs ((x5 + 1)).toNatClampNeg)).2))
def gM_15 (S : CV) (T : TV) (Tr : TV) (Sn : TV) (Hs : HV) (G : (Nat → TV)) (Xt : XV) (Ln : LV) (Mo : SV) (O : (Nat → Int64)) (Oq : (Nat → UInt64)) (xs : Nat → Int32) (L : Nat) (x5 : Int32) : Prop := ((vp_in (x5 + 1) L) ∧ (gL_tilt S T Oq (xs ((x5 + 1)).toNatClampNeg)) ∧ (vp_in (x5 + 1) L) ∧ (gX6_tilt Mo (xs ((x5 + 1)).toNatClampNeg)) ∧ ((fX6_thrown (fX6_tilt Mo (xs ((x5 + 1)).toNatClampNeg)).2) = (fL_tilt S T Oq (xs ((x5 + 1)).toNatClampNeg)).1) ∧ (if (fL_tilt S T Oq (xs ((x5 + 1)).toNatClampNeg)).1 = 0 then ((vp_in 0 1) ∧ (vf_n64 (FP.f2d (fX6_tilt Mo (xs ((x5 + 1)).toNatClampNeg)).1)) ∧ (if (Op.cmpValue (FP.dcmp ((fL_tilt S T Oq (xs ((x5 + 1)).toNatClampNeg)).2 (0 : Int32).toNatClampNeg) (FP.f2d (fX6_tilt Mo (xs ((x5 + 1)).toNatClampNeg)).1)) .l) = 0 then True else ((vp_in 0 1) ∧ (vp_in 0 1) ∧ (¬ ((Op.cmpValue (FP.dcmp ((fL_tilt S T Oq (xs ((x5 + 1)).toNatClampNeg)).2 (0 : Int32).toNatClampNeg) ((fL_tilt S T Oq (xs ((x5 + 1)).toNatClampNeg)).2 (0 : Int32).toNatClampNeg)) .l) = 0)) ∧ (¬ ((Op.cmpValue (FP.fcmp (fX6_tilt Mo (xs ((x5 + 1)).toNatClampNeg)).1 (fX6_tilt Mo (xs ((x5 + 1)).toNatClampNeg)).1) .l) = 0)) ∧ True))) else True))
set_option maxHeartbeats 8000000 in
set_option maxRecDepth 100000 in
theorem cM_15 {p : Program} {e : Env} {s : State} {m : MethodId} {below : List Frame} {meth : Method} {c : Code} {Q : State → Prop} (l : Launch) (D : va_G) (cI cC cT cJ cQ : ClassId) (b x ot ou ov oh ox oy ot1 ot2 ou1 ou2 ov1 ov2 rr ox1 ox2 oy1 mh m1 m2 m3 m4 m5 m6 m7 m8 o oq : Nat) (ra rb rc : Nat → Nat) (S : CV) (T : TV) (Tr : TV) (Sn : TV) (Hs : HV) (G : (Nat → TV)) (Xt : XV) (Ln : LV) (Mo : SV) (O : (Nat → Int64)) (Oq : (Nat → UInt64)) (xs : Nat → Int32) (L : Nat) (x5 : Int32) (hst : l.stackTraces = false) (hn : ∃ j : Nat, j < 9 ∧ Hs.1 = nI j) (hc : ∀ i, narrow .char (.int (Ln.1 i)) = .int (Ln.1 i)) (hx : p.tables.exec = Jvm.exec) (hb : c.code = cL_law) (hml : c.maxLocals = 9) (hown : s.vm.findClass RL = some m.cls) (hts : ∀ w ∈ wsL_law, w.before #[Value.ref b] s = true) (hK : va_K D vwCl (TY5 cI cC cT cJ cQ) s) (hX : va_X b L xs s s.heap) (hbl : b < s.heap.size) (hbA : ¬ (fun q : Nat => s.heap.size ≤ q) b) (hXE : xE (fun q : Nat => s.heap.size ≤ q) s) (hXN : xN s) (H : Heap) (locs : List Loc) (ls : Array Slot) (cells slots : Nat) (hcr : cells + 2 ≤ room_1.cells ∧ slots + 12 ≤ room_1.slots) (hP : va_P D vwCl (w5 x ot ou ov oh ox oy S ++ w3 cI ot ot1 ot2 T ++ w3 cI ou ou1 ou2 Tr ++ w3 cI ov ov1 ov2 Sn ++ w1 oh rr Hs ++ wR cI cT rr ra rb rc G ++ w4 cI cC ox ox1 ox2 Xt ++ w2 cC oy oy1 Ln ++ w6 cI cC mh m1 m2 m3 m4 m5 m6 m7 m8 Mo ++ [(o, .inl (cJ, 1, .inr (.inl O)))] ++ [(oq, .inl (cQ, 1, .inr (.inr (.inr (.inl Oq)))))]) H) (hD : va_D (fun q : Nat => s.heap.size ≤ q) (w5 x ot ou ov oh ox oy S ++ w3 cI ot ot1 ot2 T ++ w3 cI ou ou1 ou2 Tr ++ w3 cI ov ov1 ov2 Sn ++ w1 oh rr Hs ++ wR cI cT rr ra rb rc G ++ w4 cI cC ox ox1 ox2 Xt ++ w2 cC oy oy1 Ln ++ w6 cI cC mh m1 m2 m3 m4 m5 m6 m7 m8 Mo ++ [(o, .inl (cJ, 1, .inr (.inl O)))] ++ [(oq, .inl (cQ, 1, .inr (.inr (.inr (.inl Oq)))))])) (hS : va_S (fun q : Nat => s.heap.size ≤ q) s.heap H locs) (hl : lv_has ls 9 [(0, .ref b), (1, .ref x), (2, .ref mh), (3, .ref o), (4, .ref oq), (5, .int x5)]) (hg : gM_15 S T Tr Sn Hs G Xt Ln Mo O Oq xs L x5) (kb : ∀ z9 : (SV × (Nat → UInt64)), z9 = fM_15 S T Tr Sn Hs G Xt Ln Mo O Oq xs L x5 → ∀ (H : Heap) (locs : List Loc) (ls : Array Slot), va_P D vwCl (w5 x ot ou ov oh ox oy S ++ w3 cI ot ot1 ot2 T ++ w3 cI ou ou1 ou2 Tr ++ w3 cI ov ov1 ov2 Sn ++ w1 oh rr Hs ++ wR cI cT rr ra rb rc G ++ w4 cI cC ox ox1 ox2 Xt ++ w2 cC oy oy1 Ln ++ w6 cI cC mh m1 m2 m3 m4 m5 m6 m7 m8 z9.1 ++ [(o, .inl (cJ, 1, .inr (.inl O)))] ++ [(oq, .inl (cQ, 1, .inr (.inr (.inr (.inl z9.2)))))]) H → va_D (fun q : Nat => s.heap.size ≤ q) (w5 x ot ou ov oh ox oy S ++ w3 cI ot ot1 ot2 T ++ w3 cI ou ou1 ou2 Tr ++ w3 cI ov ov1 ov2 Sn ++ w1 oh rr Hs ++ wR cI cT rr ra rb rc G ++ w4 cI cC ox ox1 ox2 Xt ++ w2 cC oy oy1 Ln ++ w6 cI cC mh m1 m2 m3 m4 m5 m6 m7 m8 z9.1 ++ [(o, .inl (cJ, 1, .inr (.inl O)))] ++ [(oq, .inl (cQ, 1, .inr (.inr (.inr (.inl z9.2)))))]) → va_S (fun q : Nat => s.heap.size ≤ q) s.heap H locs → lv_has ls 9 [(0, .ref b), (1, .ref x), (2, .ref mh), (3, .ref o), (4, .ref oq), (5, .int (x5 + 5))] → W p l e room_1 s m #[Value.ref b] below meth c H locs (cells + 2) (slots + 12) Q (F0 m 28 ls [])) :
    W p l e room_1 s m #[Value.ref b] below meth c H locs cells slots Q (F0 m 1145 ls []) := by
  have hP : va_P D vwCl (w5 x ot ou ov oh ox oy S ++ w3 cI ot ot1 ot2 T ++ w3 cI ou ou1 ou2 Tr ++ w3 cI ov ov1 ov2 Sn ++ w1 oh rr Hs ++ wR cI cT rr ra rb rc G ++ w4 cI cC ox ox1 ox2 Xt ++ w2 cC oy oy1 Ln ++ w6 cI cC mh m1 m2 m3 m4 m5 m6 m7 m8 Mo ++ [(o, .inl (cJ, 1, .inr (.inl O)))] ++ [(oq, .inl (cQ, 1, .inr (.inr (.inr (.inl Oq)))))]) H := hP
  have hD : va_D (fun q : Nat => s.heap.size ≤ q) (w5 x ot ou ov oh ox oy S ++ w3 cI ot ot1 ot2 T ++ w3 cI ou ou1 ou2 Tr ++ w3 cI ov ov1 ov2 Sn ++ w1 oh rr Hs ++ wR cI cT rr ra rb rc G ++ w4 cI cC ox ox1 ox2 Xt ++ w2 cC oy oy1 Ln ++ w6 cI cC mh m1 m2 m3 m4 m5 m6 m7 m8 Mo ++ [(o, .inl (cJ, 1, .inr (.inl O)))] ++ [(oq, .inl (cQ, 1, .inr (.inr (.inr (.inl Oq)))))]) := hD
  have hK3 := hK.sub (tys' := TY cI cC cT) [0, 1, 2] rfl
  unfold gM_15 at hg
  refine lv_aload_n hx hb dL_law_1145 rfl (lv_at hl 1 rfl) ?_
  refine lv_aload_n hx hb dL_law_1146 rfl (lv_at hl 0 rfl) ?_
  refine lv_iload hx hb dL_law_1147 (lv_at hl 5 rfl) ?_
  refine lv_iconst (v := 1) hx hb dL_law_1149 (by decide) ?_
  refine lv_iadd hx hb dL_law_1150 ?_
  obtain ⟨o1, hg⟩ := hg
  refine va_sld hx hb hX hbl hbA hS o1 dL_law_1151 ?_
  refine lv_aload hx hb dL_law_1152 (lv_at hl 4 rfl) ?_
  obtain ⟨n1, en1⟩ : ∃ z9, z9 = (fL_tilt S T Oq (xs ((x5 + 1)).toNatClampNeg)) := ⟨_, rfl⟩
  try rw [← en1] at hg
  obtain ⟨o2, hg⟩ := hg
  have k9 := (kL_tilt l D cI cC cT cJ cQ x ot ou ov oh ox oy ot1 ot2 oq S T Oq (xs ((x5 + 1)).toNatClampNeg) hst o2)
  rw [← en1] at k9
  refine fLq (As := [.ref x, .int (xs ((x5 + 1)).toNatClampNeg), .ref oq]) (rest := []) ⟨hx, hb, hml, hown, hts⟩ k9 (vx_cwSW (hh := [(0, 9, 12, 28)]) 3 hts gL_law_L_tilt rfl rfl rfl (by decide +kernel) ⟨Nat.le_of_ble_eq_true rfl, Nat.le_of_ble_eq_true rfl⟩) hP hK hD hS hXE hXN (w3 cI ou ou1 ou2 Tr ++ w3 cI ov ov1 ov2 Sn ++ w1 oh rr Hs ++ wR cI cT rr ra rb rc G ++ w4 cI cC ox ox1 ox2 Xt ++ w2 cC oy oy1 Ln ++ w6 cI cC mh m1 m2 m3 m4 m5 m6 m7 m8 Mo ++ [(o, .inl (cJ, 1, .inr (.inl O)))] : va_W) (pmI (fun a => by simp only [cntW_app, cntW_nil] <;> omega)) (w5 x ot ou ov oh ox oy S ++ w3 cI ot ot1 ot2 T ++ w3 cI ou ou1 ou2 Tr ++ w3 cI ov ov1 ov2 Sn ++ w1 oh rr Hs ++ wR cI cT rr ra rb rc G ++ w4 cI cC ox ox1 ox2 Xt ++ w2 cC oy oy1 Ln ++ w6 cI cC mh m1 m2 m3 m4 m5 m6 m7 m8 Mo ++ [(o, .inl (cJ, 1, .inr (.inl O)))] ++ [(oq, .inl (cQ, 1, .inr (.inr (.inr (.inl n1.2)))))]) (pmI (fun a => by simp only [cntW_app, cntW_nil] <;> omega)) rfl rfl hl.1 rfl (Nat.le_of_ble_eq_true rfl) ⟨Nat.le_trans (Nat.add_le_add_left (by decide) _) hcr.1, Nat.le_trans (Nat.add_le_add_left (by decide) _) hcr.2⟩ dL_law_1154 (fun H locs hP hD hS => ?_)
  refine lv_istore (lv' := [(6, .int n1.1), (0, .ref b), (1, .ref x), (2, .ref mh), (3, .ref o), (4, .ref oq), (5, .int x5)]) hx hb dL_law_1157 hl (by decide) rfl (fun ls hl => ?_)
  refine lv_aload_n hx hb dL_law_1159 rfl (lv_at hl 3 rfl) ?_
  refine lv_aload_n hx hb dL_law_1160 rfl (lv_at hl 1 rfl) ?_
  refine lv_iload hx hb dL_law_1161 (lv_at hl 6 rfl) ?_
  refine lv_iconst (v := 1) hx hb dL_law_1163 (by decide) ?_
  refine lv_iadd hx hb dL_law_1164 ?_
  obtain ⟨o3, hg⟩ := hg
  refine va_sld hx hb hX hbl hbA hS o3 dL_law_1165 ?_
  obtain ⟨n2, en2⟩ : ∃ z9, z9 = (fX6_tilt Mo (xs ((x5 + 1)).toNatClampNeg)) := ⟨_, rfl⟩
  try rw [← en2] at hg
  obtain ⟨o4, hg⟩ := hg
  have k9 := (kX6_tilt l D cI cC cT mh m1 m2 m3 m4 m5 m6 m7 m8 Mo (xs ((x5 + 1)).toNatClampNeg) o4)
  rw [← en2] at k9
  refine fUq (As := [.int (xs ((x5 + 1)).toNatClampNeg)]) (rest := []) (st' := [.float n2.1]) ⟨hx, hb, hml, hown, hts⟩ k9 (cwV 1 hts gL_law_X6_tilt rfl rfl rfl (by decide +kernel) ⟨Nat.le_of_ble_eq_true rfl, Nat.le_of_ble_eq_true rfl⟩) hP hK3 hD hS (w5 x ot ou ov oh ox oy S ++ w3 cI ot ot1 ot2 T ++ w3 cI ou ou1 ou2 Tr ++ w3 cI ov ov1 ov2 Sn ++ w1 oh rr Hs ++ wR cI cT rr ra rb rc G ++ w4 cI cC ox ox1 ox2 Xt ++ w2 cC oy oy1 Ln ++ [(o, .inl (cJ, 1, .inr (.inl O)))] ++ [(oq, .inl (cQ, 1, .inr (.inr (.inr (.inl n1.2)))))] : va_W) (pmI (fun a => by simp only [cntW_app, cntW_nil] <;> omega)) (w5 x ot ou ov oh ox oy S ++ w3 cI ot ot1 ot2 T ++ w3 cI ou ou1 ou2 Tr ++ w3 cI ov ov1 ov2 Sn ++ w1 oh rr Hs ++ wR cI cT rr ra rb rc G ++ w4 cI cC ox ox1 ox2 Xt ++ w2 cC oy oy1 Ln ++ w6 cI cC mh m1 m2 m3 m4 m5 m6 m7 m8 n2.2 ++ [(o, .inl (cJ, 1, .inr (.inl O)))] ++ [(oq, .inl (cQ, 1, .inr (.inr (.inr (.inl n1.2)))))]) (pmI (fun a => by simp only [cntW_app, cntW_nil] <;> omega)) rfl 44 (ci := 7) rfl rfl rfl rfl hl.1 rfl rfl (Nat.le_of_ble_eq_true rfl) ⟨Nat.le_trans (Nat.add_le_add_left (by decide) _) hcr.1, Nat.le_trans (Nat.add_le_add_left (by decide) _) hcr.2⟩ dL_law_1166 (fun H locs hP hD hS => ?_)
  refine lv_fstore (lv' := [(7, .float n2.1), (6, .int n1.1), (0, .ref b), (1, .ref x), (2, .ref mh), (3, .ref o), (4, .ref oq), (5, .int x5)]) hx hb dL_law_1169 hl (by decide) rfl (fun ls hl => ?_)
  refine lv_aload_n hx hb dL_law_1171 rfl (lv_at hl 4 rfl) ?_
  refine fRq (As := []) (rest := []) (st' := [.int (fX6_thrown n2.2)]) ⟨hx, hb, hml, hown, hts⟩ (kX6_thrown l D cI cC cT mh m1 m2 m3 m4 m5 m6 m7 m8 n2.2) (cwV 0 hts gL_law_X6_thrown rfl rfl rfl (by decide +kernel) ⟨Nat.le_of_ble_eq_true rfl, Nat.le_of_ble_eq_true rfl⟩) hP hK3 (w5 x ot ou ov oh ox oy S ++ w3 cI ot ot1 ot2 T ++ w3 cI ou ou1 ou2 Tr ++ w3 cI ov ov1 ov2 Sn ++ w1 oh rr Hs ++ wR cI cT rr ra rb rc G ++ w4 cI cC ox ox1 ox2 Xt ++ w2 cC oy oy1 Ln ++ [(o, .inl (cJ, 1, .inr (.inl O)))] ++ [(oq, .inl (cQ, 1, .inr (.inr (.inr (.inl n1.2)))))] : va_W) (pmI (fun a => by simp only [cntW_app, cntW_nil] <;> omega)) 44 (ci := 7) rfl rfl rfl rfl hl.1 rfl rfl (Nat.le_of_ble_eq_true rfl) ⟨Nat.le_trans (Nat.add_le_add_left (by decide) _) hcr.1, Nat.le_trans (Nat.add_le_add_left (by decide) _) hcr.2⟩ dL_law_1172 ?_
  refine lv_iload hx hb dL_law_1175 (lv_at hl 1 rfl) ?_
  obtain ⟨o5, hg⟩ := hg
  refine lv_icmp_eq (tgt := 1182) hx hb dL_law_1177 (by decide) (fun c_1177 => ?_) (fun c_1177 => absurd o5 c_1177)
  refine lv_iload hx hb dL_law_1182 (lv_at hl 1 rfl) ?_
  refine lv_if_ne (tgt := 1220) hx hb dL_law_1184 (by decide) (fun c_1184_1 => ?_) (fun c_1184_1 => ?_)
  · rw [if_neg c_1184_1] at hg
    refine lv_goto (tgt := 2110) hx hb dL_law_1220 (by decide) ?_
    refine lv_iinc (v := (x5 + 5)) (lv' := [(5, .int (x5 + 5)), (7, .float n2.1), (6, .int n1.1), (0, .ref b), (1, .ref x), (2, .ref mh), (3, .ref o), (4, .ref oq)]) hx hb dL_law_2110 hl (k := 7) rfl rfl (by decide) rfl (fun ls hl => ?_)
    refine lv_goto (tgt := 28) hx hb dL_law_2113 (by decide) ?_
    have e9 : fM_15 S T Tr Sn Hs G Xt Ln Mo O Oq xs L x5 = (n2.2, n1.2) := by rw [fM_15, ← en1, ← en2, if_neg c_1184_1]
    refine W.widen (k := cells + 2) (n := slots + 12) (by omega) (by omega) ?_
    exact kb (n2.2, n1.2) e9.symm H locs ls hP hD hS (lv_sub hl [3, 4, 5, 6, 7, 0] rfl)
  · rw [if_pos c_1184_1] at hg
    refine lv_aload hx hb dL_law_1187 (lv_at hl 6 rfl) ?_
    refine lv_iconst (v := 0) hx hb dL_law_1189 (by decide) ?_
    obtain ⟨o6, hg⟩ := hg
    refine va_dald hx hb hK hP 54 4 rfl rfl o6 dL_law_1190 ?_
    refine lv_fload hx hb dL_law_1191 (lv_at hl 0 rfl) ?_
    obtain ⟨o7, hg⟩ := hg
    refine lv_f2d hx hb dL_law_1193 o7 ?_
    refine lv_dcmp hx hb dL_law_1194 ?_
    refine lv_if_eq (tgt := 1220) hx hb dL_law_1195 (by decide) (fun c_1195_2 => ?_) (fun c_1195_2 => ?_)
    · rw [if_pos c_1195_2] at hg
      refine lv_goto (tgt := 2110) hx hb dL_law_1220 (by decide) ?_
      refine lv_iinc (v := (x5 + 5)) (lv' := [(5, .int (x5 + 5)), (7, .float n2.1), (6, .int n1.1), (0, .ref b), (1, .ref x), (2, .ref mh), (3, .ref o), (4, .ref oq)]) hx hb dL_law_2110 hl (k := 7) rfl rfl (by decide) rfl (fun ls hl => ?_)
      refine lv_goto (tgt := 28) hx hb dL_law_2113 (by decide) ?_
      have e9 : fM_15 S T Tr Sn Hs G Xt Ln Mo O Oq xs L x5 = (n2.2, n1.2) := by rw [fM_15, ← en1, ← en2, if_pos c_1184_1, if_pos c_1195_2]
      refine W.widen (k := cells + 2) (n := slots + 12) (by omega) (by omega) ?_
      exact kb (n2.2, n1.2) e9.symm H locs ls hP hD hS (lv_sub hl [3, 4, 5, 6, 7, 0] rfl)
    · rw [if_neg c_1195_2] at hg
      refine lv_aload hx hb dL_law_1198 (lv_at hl 6 rfl) ?_
      refine lv_iconst (v := 0) hx hb dL_law_1200 (by decide) ?_
      obtain ⟨o8, hg⟩ := hg
      refine va_dald hx hb hK hP 54 4 rfl rfl o8 dL_law_1201 ?_
      refine lv_aload hx hb dL_law_1202 (lv_at hl 6 rfl) ?_
      refine lv_iconst (v := 0) hx hb dL_law_1204 (by decide) ?_
      obtain ⟨o9, hg⟩ := hg
      refine va_dald hx hb hK hP 54 4 rfl rfl o9 dL_law_1205 ?_
      refine lv_dcmp hx hb dL_law_1206 ?_
      obtain ⟨o10, hg⟩ := hg
      refine lv_if_eq (tgt := 1218) hx hb dL_law_1207 (by decide) (fun c_1207 => absurd c_1207 o10) (fun c_1207 => ?_)
      refine lv_fload hx hb dL_law_1210 (lv_at hl 0 rfl) ?_
      refine lv_fload hx hb dL_law_1212 (lv_at hl 0 rfl) ?_
      refine lv_fcmp hx hb dL_law_1214 ?_
      obtain ⟨o11, hg⟩ := hg
      refine lv_if_ne (tgt := 1220) hx hb dL_law_1215 (by decide) (fun c_1215 => ?_) (fun c_1215 => absurd c_1215 o11)
      refine lv_goto (tgt := 2110) hx hb dL_law_1220 (by decide) ?_
      refine lv_iinc (v := (x5 + 5)) (lv' := [(5, .int (x5 + 5)), (7, .float n2.1), (6, .int n1.1), (0, .ref b), (1, .ref x), (2, .ref mh), (3, .ref o), (4, .ref oq)]) hx hb dL_law_2110 hl (k := 7) rfl rfl (by decide) rfl (fun ls hl => ?_)
      refine lv_goto (tgt := 28) hx hb dL_law_2113 (by decide) ?_
      have e9 : fM_15 S T Tr Sn Hs G Xt Ln Mo O Oq xs L x5 = (n2.2, n1.2) := by rw [fM_15, ← en1, ← en2, if_pos c_1184_1, if_neg c_1195_2]
      refine W.widen (k := cells + 2) (n := slots + 12) (by omega) (by omega) ?_
      exact kb (n2.2, n1.2) e9.symm H locs ls hP hD hS (lv_sub hl [3, 4, 5, 6, 7, 0] rfl)
def fM_16 (S : CV) (T : TV) (Tr : TV) (Sn : TV) (Hs : HV) (G : (Nat → TV)) (Xt : XV) (Ln : LV) (Mo : SV) (O : (Nat → Int64)) (Oq : (Nat → UInt64)) (xs : Nat → Int32) (L : Nat) (x5 : Int32) : (SV × (Nat → Int64)) := (if (fL_tiltBits S T O (xs ((x5 + 1)).toNatClampNeg)).1 = 0 then ((fX6_tiltBits Mo (xs ((x5 + 1)).toNatClampNeg)).2, (fL_tiltBits S T O (xs ((x5 + 1)).toNatClampNeg)).2) else ((fX6_tiltBits Mo (xs ((x5 + 1)).toNatClampNeg)).2, (fL_tiltBits S T O (xs ((x5 + 1)).toNatClampNeg)).2))
def gM_16 (S : CV) (T : TV) (Tr : TV) (Sn : TV) (Hs : HV) (G : (Nat → TV)) (Xt : XV) (Ln : LV) (Mo : SV) (O : (Nat → Int64)) (Oq : (Nat → UInt64)) (xs : Nat → Int32) (L : Nat) (x5 : Int32) : Prop := ((vp_in (x5 + 1) L) ∧ (gL_tiltBits S T O (xs ((x5 + 1)).toNatClampNeg)) ∧ (vp_in (x5 + 1) L) ∧ (gX6_tiltBits Mo (xs ((x5 + 1)).toNatClampNeg)) ∧ ((fX6_thrown (fX6_tiltBits Mo (xs ((x5 + 1)).toNatClampNeg)).2) = (fL_tiltBits S T O (xs ((x5 + 1)).toNatClampNeg)).1) ∧ (if (fL_tiltBits S T O (xs ((x5 + 1)).toNatClampNeg)).1 = 0 then ((vp_in 0 1) ∧ ((lg_cmp ((fL_tiltBits S T O (xs ((x5 + 1)).toNatClampNeg)).2 (0 : Int32).toNatClampNeg) ((fX6_tiltBits Mo (xs ((x5 + 1)).toNatClampNeg)).1.toInt64)) = 0) ∧ True) else True))
set_option maxHeartbeats 8000000 in
set_option maxRecDepth 100000 in
theorem cM_16 {p : Program} {e : Env} {s : State} {m : MethodId} {below : List Frame} {meth : Method} {c : Code} {Q : State → Prop} (l : Launch) (D : va_G) (cI cC cT cJ cQ : ClassId) (b x ot ou ov oh ox oy ot1 ot2 ou1 ou2 ov1 ov2 rr ox1 ox2 oy1 mh m1 m2 m3 m4 m5 m6 m7 m8 o oq : Nat) (ra rb rc : Nat → Nat) (S : CV) (T : TV) (Tr : TV) (Sn : TV) (Hs : HV) (G : (Nat → TV)) (Xt : XV) (Ln : LV) (Mo : SV) (O : (Nat → Int64)) (Oq : (Nat → UInt64)) (xs : Nat → Int32) (L : Nat) (x5 : Int32) (hst : l.stackTraces = false) (hn : ∃ j : Nat, j < 9 ∧ Hs.1 = nI j) (hc : ∀ i, narrow .char (.int (Ln.1 i)) = .int (Ln.1 i)) (hx : p.tables.exec = Jvm.exec) (hb : c.code = cL_law) (hml : c.maxLocals = 9) (hown : s.vm.findClass RL = some m.cls) (hts : ∀ w ∈ wsL_law, w.before #[Value.ref b] s = true) (hK : va_K D vwCl (TY5 cI cC cT cJ cQ) s) (hX : va_X b L xs s s.heap) (hbl : b < s.heap.size) (hbA : ¬ (fun q : Nat => s.heap.size ≤ q) b) (hXE : xE (fun q : Nat => s.heap.size ≤ q) s) (hXN : xN s) (H : Heap) (locs : List Loc) (ls : Array Slot) (cells slots : Nat) (hcr : cells + 2 ≤ room_1.cells ∧ slots + 12 ≤ room_1.slots) (hP : va_P D vwCl (w5 x ot ou ov oh ox oy S ++ w3 cI ot ot1 ot2 T ++ w3 cI ou ou1 ou2 Tr ++ w3 cI ov ov1 ov2 Sn ++ w1 oh rr Hs ++ wR cI cT rr ra rb rc G ++ w4 cI cC ox ox1 ox2 Xt ++ w2 cC oy oy1 Ln ++ w6 cI cC mh m1 m2 m3 m4 m5 m6 m7 m8 Mo ++ [(o, .inl (cJ, 1, .inr (.inl O)))] ++ [(oq, .inl (cQ, 1, .inr (.inr (.inr (.inl Oq)))))]) H) (hD : va_D (fun q : Nat => s.heap.size ≤ q) (w5 x ot ou ov oh ox oy S ++ w3 cI ot ot1 ot2 T ++ w3 cI ou ou1 ou2 Tr ++ w3 cI ov ov1 ov2 Sn ++ w1 oh rr Hs ++ wR cI cT rr ra rb rc G ++ w4 cI cC ox ox1 ox2 Xt ++ w2 cC oy oy1 Ln ++ w6 cI cC mh m1 m2 m3 m4 m5 m6 m7 m8 Mo ++ [(o, .inl (cJ, 1, .inr (.inl O)))] ++ [(oq, .inl (cQ, 1, .inr (.inr (.inr (.inl Oq)))))])) (hS : va_S (fun q : Nat => s.heap.size ≤ q) s.heap H locs) (hl : lv_has ls 9 [(0, .ref b), (1, .ref x), (2, .ref mh), (3, .ref o), (4, .ref oq), (5, .int x5)]) (hg : gM_16 S T Tr Sn Hs G Xt Ln Mo O Oq xs L x5) (kb : ∀ z9 : (SV × (Nat → Int64)), z9 = fM_16 S T Tr Sn Hs G Xt Ln Mo O Oq xs L x5 → ∀ (H : Heap) (locs : List Loc) (ls : Array Slot), va_P D vwCl (w5 x ot ou ov oh ox oy S ++ w3 cI ot ot1 ot2 T ++ w3 cI ou ou1 ou2 Tr ++ w3 cI ov ov1 ov2 Sn ++ w1 oh rr Hs ++ wR cI cT rr ra rb rc G ++ w4 cI cC ox ox1 ox2 Xt ++ w2 cC oy oy1 Ln ++ w6 cI cC mh m1 m2 m3 m4 m5 m6 m7 m8 z9.1 ++ [(o, .inl (cJ, 1, .inr (.inl z9.2)))] ++ [(oq, .inl (cQ, 1, .inr (.inr (.inr (.inl Oq)))))]) H → va_D (fun q : Nat => s.heap.size ≤ q) (w5 x ot ou ov oh ox oy S ++ w3 cI ot ot1 ot2 T ++ w3 cI ou ou1 ou2 Tr ++ w3 cI ov ov1 ov2 Sn ++ w1 oh rr Hs ++ wR cI cT rr ra rb rc G ++ w4 cI cC ox ox1 ox2 Xt ++ w2 cC oy oy1 Ln ++ w6 cI cC mh m1 m2 m3 m4 m5 m6 m7 m8 z9.1 ++ [(o, .inl (cJ, 1, .inr (.inl z9.2)))] ++ [(oq, .inl (cQ, 1, .inr (.inr (.inr (.inl Oq)))))]) → va_S (fun q : Nat => s.heap.size ≤ q) s.heap H locs → lv_has ls 9 [(0, .ref b), (1, .ref x), (2, .ref mh), (3, .ref o), (4, .ref oq), (5, .int (x5 + 5))] → W p l e room_1 s m #[Value.ref b] below meth c H locs (cells + 2) (slots + 12) Q (F0 m 28 ls [])) :
    W p l e room_1 s m #[Value.ref b] below meth c H locs cells slots Q (F0 m 1223 ls []) := by
  have hP : va_P D vwCl (w5 x ot ou ov oh ox oy S ++ w3 cI ot ot1 ot2 T ++ w3 cI ou ou1 ou2 Tr ++ w3 cI ov ov1 ov2 Sn ++ w1 oh rr Hs ++ wR cI cT rr ra rb rc G ++ w4 cI cC ox ox1 ox2 Xt ++ w2 cC oy oy1 Ln ++ w6 cI cC mh m1 m2 m3 m4 m5 m6 m7 m8 Mo ++ [(o, .inl (cJ, 1, .inr (.inl O)))] ++ [(oq, .inl (cQ, 1, .inr (.inr (.inr (.inl Oq)))))]) H := hP
  have hD : va_D (fun q : Nat => s.heap.size ≤ q) (w5 x ot ou ov oh ox oy S ++ w3 cI ot ot1 ot2 T ++ w3 cI ou ou1 ou2 Tr ++ w3 cI ov ov1 ov2 Sn ++ w1 oh rr Hs ++ wR cI cT rr ra rb rc G ++ w4 cI cC ox ox1 ox2 Xt ++ w2 cC oy oy1 Ln ++ w6 cI cC mh m1 m2 m3 m4 m5 m6 m7 m8 Mo ++ [(o, .inl (cJ, 1, .inr (.inl O)))] ++ [(oq, .inl (cQ, 1, .inr (.inr (.inr (.inl Oq)))))]) := hD
  have hK3 := hK.sub (tys' := TY cI cC cT) [0, 1, 2] rfl
  unfold gM_16 at hg
  refine lv_aload_n hx hb dL_law_1223 rfl (lv_at hl 1 rfl) ?_
  refine lv_aload_n hx hb dL_law_1224 rfl (lv_at hl 0 rfl) ?_
  refine lv_iload hx hb dL_law_1225 (lv_at hl 5 rfl) ?_
  refine lv_iconst (v := 1) hx hb dL_law_1227 (by decide) ?_
  refine lv_iadd hx hb dL_law_1228 ?_
  obtain ⟨o1, hg⟩ := hg
  refine va_sld hx hb hX hbl hbA hS o1 dL_law_1229 ?_
  refine lv_aload_n hx hb dL_law_1230 rfl (lv_at hl 3 rfl) ?_
  obtain ⟨n1, en1⟩ : ∃ z9, z9 = (fL_tiltBits S T O (xs ((x5 + 1)).toNatClampNeg)) := ⟨_, rfl⟩
  try rw [← en1] at hg
  obtain ⟨o2, hg⟩ := hg
  have k9 := (kL_tiltBits l D cI cC cT cJ cQ x ot ou ov oh ox oy ot1 ot2 o S T O (xs ((x5 + 1)).toNatClampNeg) hst o2)
  rw [← en1] at k9
  refine fLq (As := [.ref x, .int (xs ((x5 + 1)).toNatClampNeg), .ref o]) (rest := []) ⟨hx, hb, hml, hown, hts⟩ k9 (vx_cwSW (hh := [(0, 9, 12, 28)]) 3 hts gL_law_L_tiltBits rfl rfl rfl (by decide +kernel) ⟨Nat.le_of_ble_eq_true rfl, Nat.le_of_ble_eq_true rfl⟩) hP hK hD hS hXE hXN (w3 cI ou ou1 ou2 Tr ++ w3 cI ov ov1 ov2 Sn ++ w1 oh rr Hs ++ wR cI cT rr ra rb rc G ++ w4 cI cC ox ox1 ox2 Xt ++ w2 cC oy oy1 Ln ++ w6 cI cC mh m1 m2 m3 m4 m5 m6 m7 m8 Mo ++ [(oq, .inl (cQ, 1, .inr (.inr (.inr (.inl Oq)))))] : va_W) (pmI (fun a => by simp only [cntW_app, cntW_nil] <;> omega)) (w5 x ot ou ov oh ox oy S ++ w3 cI ot ot1 ot2 T ++ w3 cI ou ou1 ou2 Tr ++ w3 cI ov ov1 ov2 Sn ++ w1 oh rr Hs ++ wR cI cT rr ra rb rc G ++ w4 cI cC ox ox1 ox2 Xt ++ w2 cC oy oy1 Ln ++ w6 cI cC mh m1 m2 m3 m4 m5 m6 m7 m8 Mo ++ [(o, .inl (cJ, 1, .inr (.inl n1.2)))] ++ [(oq, .inl (cQ, 1, .inr (.inr (.inr (.inl Oq)))))]) (pmI (fun a => by simp only [cntW_app, cntW_nil] <;> omega)) rfl rfl hl.1 rfl (Nat.le_of_ble_eq_true rfl) ⟨Nat.le_trans (Nat.add_le_add_left (by decide) _) hcr.1, Nat.le_trans (Nat.add_le_add_left (by decide) _) hcr.2⟩ dL_law_1231 (fun H locs hP hD hS => ?_)
  refine lv_istore (lv' := [(6, .int n1.1), (0, .ref b), (1, .ref x), (2, .ref mh), (3, .ref o), (4, .ref oq), (5, .int x5)]) hx hb dL_law_1234 hl (by decide) rfl (fun ls hl => ?_)
  refine lv_aload_n hx hb dL_law_1236 rfl (lv_at hl 3 rfl) ?_
  refine lv_aload_n hx hb dL_law_1237 rfl (lv_at hl 1 rfl) ?_
  refine lv_iload hx hb dL_law_1238 (lv_at hl 6 rfl) ?_
  refine lv_iconst (v := 1) hx hb dL_law_1240 (by decide) ?_
  refine lv_iadd hx hb dL_law_1241 ?_
  obtain ⟨o3, hg⟩ := hg
  refine va_sld hx hb hX hbl hbA hS o3 dL_law_1242 ?_
  obtain ⟨n2, en2⟩ : ∃ z9, z9 = (fX6_tiltBits Mo (xs ((x5 + 1)).toNatClampNeg)) := ⟨_, rfl⟩
  try rw [← en2] at hg
  obtain ⟨o4, hg⟩ := hg
  have k9 := (kX6_tiltBits l D cI cC cT mh m1 m2 m3 m4 m5 m6 m7 m8 Mo (xs ((x5 + 1)).toNatClampNeg) o4)
  rw [← en2] at k9
  refine fUq (As := [.int (xs ((x5 + 1)).toNatClampNeg)]) (rest := []) (st' := [.int n2.1]) ⟨hx, hb, hml, hown, hts⟩ k9 (cwV 1 hts gL_law_X6_tiltBits rfl rfl rfl (by decide +kernel) ⟨Nat.le_of_ble_eq_true rfl, Nat.le_of_ble_eq_true rfl⟩) hP hK3 hD hS (w5 x ot ou ov oh ox oy S ++ w3 cI ot ot1 ot2 T ++ w3 cI ou ou1 ou2 Tr ++ w3 cI ov ov1 ov2 Sn ++ w1 oh rr Hs ++ wR cI cT rr ra rb rc G ++ w4 cI cC ox ox1 ox2 Xt ++ w2 cC oy oy1 Ln ++ [(o, .inl (cJ, 1, .inr (.inl n1.2)))] ++ [(oq, .inl (cQ, 1, .inr (.inr (.inr (.inl Oq)))))] : va_W) (pmI (fun a => by simp only [cntW_app, cntW_nil] <;> omega)) (w5 x ot ou ov oh ox oy S ++ w3 cI ot ot1 ot2 T ++ w3 cI ou ou1 ou2 Tr ++ w3 cI ov ov1 ov2 Sn ++ w1 oh rr Hs ++ wR cI cT rr ra rb rc G ++ w4 cI cC ox ox1 ox2 Xt ++ w2 cC oy oy1 Ln ++ w6 cI cC mh m1 m2 m3 m4 m5 m6 m7 m8 n2.2 ++ [(o, .inl (cJ, 1, .inr (.inl n1.2)))] ++ [(oq, .inl (cQ, 1, .inr (.inr (.inr (.inl Oq)))))]) (pmI (fun a => by simp only [cntW_app, cntW_nil] <;> omega)) rfl 44 (ci := 7) rfl rfl rfl rfl hl.1 rfl rfl (Nat.le_of_ble_eq_true rfl) ⟨Nat.le_trans (Nat.add_le_add_left (by decide) _) hcr.1, Nat.le_trans (Nat.add_le_add_left (by decide) _) hcr.2⟩ dL_law_1243 (fun H locs hP hD hS => ?_)
  refine lv_istore (lv' := [(7, .int n2.1), (6, .int n1.1), (0, .ref b), (1, .ref x), (2, .ref mh), (3, .ref o), (4, .ref oq), (5, .int x5)]) hx hb dL_law_1246 hl (by decide) rfl (fun ls hl => ?_)
  refine lv_aload_n hx hb dL_law_1248 rfl (lv_at hl 4 rfl) ?_
  refine fRq (As := []) (rest := []) (st' := [.int (fX6_thrown n2.2)]) ⟨hx, hb, hml, hown, hts⟩ (kX6_thrown l D cI cC cT mh m1 m2 m3 m4 m5 m6 m7 m8 n2.2) (cwV 0 hts gL_law_X6_thrown rfl rfl rfl (by decide +kernel) ⟨Nat.le_of_ble_eq_true rfl, Nat.le_of_ble_eq_true rfl⟩) hP hK3 (w5 x ot ou ov oh ox oy S ++ w3 cI ot ot1 ot2 T ++ w3 cI ou ou1 ou2 Tr ++ w3 cI ov ov1 ov2 Sn ++ w1 oh rr Hs ++ wR cI cT rr ra rb rc G ++ w4 cI cC ox ox1 ox2 Xt ++ w2 cC oy oy1 Ln ++ [(o, .inl (cJ, 1, .inr (.inl n1.2)))] ++ [(oq, .inl (cQ, 1, .inr (.inr (.inr (.inl Oq)))))] : va_W) (pmI (fun a => by simp only [cntW_app, cntW_nil] <;> omega)) 44 (ci := 7) rfl rfl rfl rfl hl.1 rfl rfl (Nat.le_of_ble_eq_true rfl) ⟨Nat.le_trans (Nat.add_le_add_left (by decide) _) hcr.1, Nat.le_trans (Nat.add_le_add_left (by decide) _) hcr.2⟩ dL_law_1249 ?_
  refine lv_iload hx hb dL_law_1252 (lv_at hl 1 rfl) ?_
  obtain ⟨o5, hg⟩ := hg
  refine lv_icmp_eq (tgt := 1259) hx hb dL_law_1254 (by decide) (fun c_1254 => ?_) (fun c_1254 => absurd o5 c_1254)
  refine lv_iload hx hb dL_law_1259 (lv_at hl 1 rfl) ?_
  refine lv_if_ne (tgt := 1276) hx hb dL_law_1261 (by decide) (fun c_1261_1 => ?_) (fun c_1261_1 => ?_)
  · rw [if_neg c_1261_1] at hg
    refine lv_goto (tgt := 2110) hx hb dL_law_1276 (by decide) ?_
    refine lv_iinc (v := (x5 + 5)) (lv' := [(5, .int (x5 + 5)), (7, .int n2.1), (6, .int n1.1), (0, .ref b), (1, .ref x), (2, .ref mh), (3, .ref o), (4, .ref oq)]) hx hb dL_law_2110 hl (k := 7) rfl rfl (by decide) rfl (fun ls hl => ?_)
    refine lv_goto (tgt := 28) hx hb dL_law_2113 (by decide) ?_
    have e9 : fM_16 S T Tr Sn Hs G Xt Ln Mo O Oq xs L x5 = (n2.2, n1.2) := by rw [fM_16, ← en1, ← en2, if_neg c_1261_1]
    refine W.widen (k := cells + 2) (n := slots + 12) (by omega) (by omega) ?_
    exact kb (n2.2, n1.2) e9.symm H locs ls hP hD hS (lv_sub hl [3, 4, 5, 6, 7, 0] rfl)
  · rw [if_pos c_1261_1] at hg
    refine lv_aload_n hx hb dL_law_1264 rfl (lv_at hl 5 rfl) ?_
    refine lv_iconst (v := 0) hx hb dL_law_1265 (by decide) ?_
    obtain ⟨o6, hg⟩ := hg
    refine va_lald hx hb hK hP 53 3 rfl rfl o6 dL_law_1266 ?_
    refine lv_iload hx hb dL_law_1267 (lv_at hl 0 rfl) ?_
    refine lv_i2l (v := (n2.1.toInt64)) hx hb dL_law_1269 rfl ?_
    refine W.lcmp hx hb dL_law_1270 ?_
    obtain ⟨o7, hg⟩ := hg
    refine lv_if_eq (tgt := 1276) hx hb dL_law_1271 (by decide) (fun c_1271 => ?_) (fun c_1271 => absurd o7 c_1271)
    refine lv_goto (tgt := 2110) hx hb dL_law_1276 (by decide) ?_
    refine lv_iinc (v := (x5 + 5)) (lv' := [(5, .int (x5 + 5)), (7, .int n2.1), (6, .int n1.1), (0, .ref b), (1, .ref x), (2, .ref mh), (3, .ref o), (4, .ref oq)]) hx hb dL_law_2110 hl (k := 7) rfl rfl (by decide) rfl (fun ls hl => ?_)
    refine lv_goto (tgt := 28) hx hb dL_law_2113 (by decide) ?_
    have e9 : fM_16 S T Tr Sn Hs G Xt Ln Mo O Oq xs L x5 = (n2.2, n1.2) := by rw [fM_16, ← en1, ← en2, if_pos c_1261_1]
    refine W.widen (k := cells + 2) (n := slots + 12) (by omega) (by omega) ?_
    exact kb (n2.2, n1.2) e9.symm H locs ls hP hD hS (lv_sub hl [3, 4, 5, 6, 7, 0] rfl)
def fM_17 (S : CV) (T : TV) (Tr : TV) (Sn : TV) (Hs : HV) (G : (Nat → TV)) (Xt : XV) (Ln : LV) (Mo : SV) (O : (Nat → Int64)) (Oq : (Nat → UInt64)) (xs : Nat → Int32) (L : Nat) (x5 : Int32) : (SV × (Nat → Int64)) := (if (fL_plusTilt S T O (xs ((x5 + 1)).toNatClampNeg) (xs ((x5 + 2)).toNatClampNeg)).1 = 0 then ((fX6_plusTilt Mo (xs ((x5 + 1)).toNatClampNeg) (xs ((x5 + 2)).toNatClampNeg)).2, (fL_plusTilt S T O (xs ((x5 + 1)).toNatClampNeg) (xs ((x5 + 2)).toNatClampNeg)).2) else ((fX6_plusTilt Mo (xs ((x5 + 1)).toNatClampNeg) (xs ((x5 + 2)).toNatClampNeg)).2, (fL_plusTilt S T O (xs ((x5 + 1)).toNatClampNeg) (xs ((x5 + 2)).toNatClampNeg)).2))
def gM_17 (S : CV) (T : TV) (Tr : TV) (Sn : TV) (Hs : HV) (G : (Nat → TV)) (Xt : XV) (Ln : LV) (Mo : SV) (O : (Nat → Int64)) (Oq : (Nat → UInt64)) (xs : Nat → Int32) (L : Nat) (x5 : Int32) : Prop := ((vp_in (x5 + 1) L) ∧ (vp_in (x5 + 2) L) ∧ (gL_plusTilt S T O (xs ((x5 + 1)).toNatClampNeg) (xs ((x5 + 2)).toNatClampNeg)) ∧ (vp_in (x5 + 1) L) ∧ (vp_in (x5 + 2) L) ∧ (gX6_plusTilt Mo (xs ((x5 + 1)).toNatClampNeg) (xs ((x5 + 2)).toNatClampNeg)) ∧ ((fX6_thrown (fX6_plusTilt Mo (xs ((x5 + 1)).toNatClampNeg) (xs ((x5 + 2)).toNatClampNeg)).2) = (fL_plusTilt S T O (xs ((x5 + 1)).toNatClampNeg) (xs ((x5 + 2)).toNatClampNeg)).1) ∧ (if (fL_plusTilt S T O (xs ((x5 + 1)).toNatClampNeg) (xs ((x5 + 2)).toNatClampNeg)).1 = 0 then ((vp_in 0 1) ∧ ((lg_cmp ((fL_plusTilt S T O (xs ((x5 + 1)).toNatClampNeg) (xs ((x5 + 2)).toNatClampNeg)).2 (0 : Int32).toNatClampNeg) ((fX6_plusTilt Mo (xs ((x5 + 1)).toNatClampNeg) (xs ((x5 + 2)).toNatClampNeg)).1.toInt64)) = 0) ∧ True) else True))
set_option maxHeartbeats 8000000 in
set_option maxRecDepth 100000 in
theorem cM_17 {p : Program} {e : Env} {s : State} {m : MethodId} {below : List Frame} {meth : Method} {c : Code} {Q : State → Prop} (l : Launch) (D : va_G) (cI cC cT cJ cQ : ClassId) (b x ot ou ov oh ox oy ot1 ot2 ou1 ou2 ov1 ov2 rr ox1 ox2 oy1 mh m1 m2 m3 m4 m5 m6 m7 m8 o oq : Nat) (ra rb rc : Nat → Nat) (S : CV) (T : TV) (Tr : TV) (Sn : TV) (Hs : HV) (G : (Nat → TV)) (Xt : XV) (Ln : LV) (Mo : SV) (O : (Nat → Int64)) (Oq : (Nat → UInt64)) (xs : Nat → Int32) (L : Nat) (x5 : Int32) (hst : l.stackTraces = false) (hn : ∃ j : Nat, j < 9 ∧ Hs.1 = nI j) (hc : ∀ i, narrow .char (.int (Ln.1 i)) = .int (Ln.1 i)) (hx : p.tables.exec = Jvm.exec) (hb : c.code = cL_law) (hml : c.maxLocals = 9) (hown : s.vm.findClass RL = some m.cls) (hts : ∀ w ∈ wsL_law, w.before #[Value.ref b] s = true) (hK : va_K D vwCl (TY5 cI cC cT cJ cQ) s) (hX : va_X b L xs s s.heap) (hbl : b < s.heap.size) (hbA : ¬ (fun q : Nat => s.heap.size ≤ q) b) (hXE : xE (fun q : Nat => s.heap.size ≤ q) s) (hXN : xN s) (H : Heap) (locs : List Loc) (ls : Array Slot) (cells slots : Nat) (hcr : cells + 2 ≤ room_1.cells ∧ slots + 12 ≤ room_1.slots) (hP : va_P D vwCl (w5 x ot ou ov oh ox oy S ++ w3 cI ot ot1 ot2 T ++ w3 cI ou ou1 ou2 Tr ++ w3 cI ov ov1 ov2 Sn ++ w1 oh rr Hs ++ wR cI cT rr ra rb rc G ++ w4 cI cC ox ox1 ox2 Xt ++ w2 cC oy oy1 Ln ++ w6 cI cC mh m1 m2 m3 m4 m5 m6 m7 m8 Mo ++ [(o, .inl (cJ, 1, .inr (.inl O)))] ++ [(oq, .inl (cQ, 1, .inr (.inr (.inr (.inl Oq)))))]) H) (hD : va_D (fun q : Nat => s.heap.size ≤ q) (w5 x ot ou ov oh ox oy S ++ w3 cI ot ot1 ot2 T ++ w3 cI ou ou1 ou2 Tr ++ w3 cI ov ov1 ov2 Sn ++ w1 oh rr Hs ++ wR cI cT rr ra rb rc G ++ w4 cI cC ox ox1 ox2 Xt ++ w2 cC oy oy1 Ln ++ w6 cI cC mh m1 m2 m3 m4 m5 m6 m7 m8 Mo ++ [(o, .inl (cJ, 1, .inr (.inl O)))] ++ [(oq, .inl (cQ, 1, .inr (.inr (.inr (.inl Oq)))))])) (hS : va_S (fun q : Nat => s.heap.size ≤ q) s.heap H locs) (hl : lv_has ls 9 [(0, .ref b), (1, .ref x), (2, .ref mh), (3, .ref o), (4, .ref oq), (5, .int x5)]) (hg : gM_17 S T Tr Sn Hs G Xt Ln Mo O Oq xs L x5) (kb : ∀ z9 : (SV × (Nat → Int64)), z9 = fM_17 S T Tr Sn Hs G Xt Ln Mo O Oq xs L x5 → ∀ (H : Heap) (locs : List Loc) (ls : Array Slot), va_P D vwCl (w5 x ot ou ov oh ox oy S ++ w3 cI ot ot1 ot2 T ++ w3 cI ou ou1 ou2 Tr ++ w3 cI ov ov1 ov2 Sn ++ w1 oh rr Hs ++ wR cI cT rr ra rb rc G ++ w4 cI cC ox ox1 ox2 Xt ++ w2 cC oy oy1 Ln ++ w6 cI cC mh m1 m2 m3 m4 m5 m6 m7 m8 z9.1 ++ [(o, .inl (cJ, 1, .inr (.inl z9.2)))] ++ [(oq, .inl (cQ, 1, .inr (.inr (.inr (.inl Oq)))))]) H → va_D (fun q : Nat => s.heap.size ≤ q) (w5 x ot ou ov oh ox oy S ++ w3 cI ot ot1 ot2 T ++ w3 cI ou ou1 ou2 Tr ++ w3 cI ov ov1 ov2 Sn ++ w1 oh rr Hs ++ wR cI cT rr ra rb rc G ++ w4 cI cC ox ox1 ox2 Xt ++ w2 cC oy oy1 Ln ++ w6 cI cC mh m1 m2 m3 m4 m5 m6 m7 m8 z9.1 ++ [(o, .inl (cJ, 1, .inr (.inl z9.2)))] ++ [(oq, .inl (cQ, 1, .inr (.inr (.inr (.inl Oq)))))]) → va_S (fun q : Nat => s.heap.size ≤ q) s.heap H locs → lv_has ls 9 [(0, .ref b), (1, .ref x), (2, .ref mh), (3, .ref o), (4, .ref oq), (5, .int (x5 + 5))] → W p l e room_1 s m #[Value.ref b] below meth c H locs (cells + 2) (slots + 12) Q (F0 m 28 ls [])) :
    W p l e room_1 s m #[Value.ref b] below meth c H locs cells slots Q (F0 m 1279 ls []) := by
  have hP : va_P D vwCl (w5 x ot ou ov oh ox oy S ++ w3 cI ot ot1 ot2 T ++ w3 cI ou ou1 ou2 Tr ++ w3 cI ov ov1 ov2 Sn ++ w1 oh rr Hs ++ wR cI cT rr ra rb rc G ++ w4 cI cC ox ox1 ox2 Xt ++ w2 cC oy oy1 Ln ++ w6 cI cC mh m1 m2 m3 m4 m5 m6 m7 m8 Mo ++ [(o, .inl (cJ, 1, .inr (.inl O)))] ++ [(oq, .inl (cQ, 1, .inr (.inr (.inr (.inl Oq)))))]) H := hP
  have hD : va_D (fun q : Nat => s.heap.size ≤ q) (w5 x ot ou ov oh ox oy S ++ w3 cI ot ot1 ot2 T ++ w3 cI ou ou1 ou2 Tr ++ w3 cI ov ov1 ov2 Sn ++ w1 oh rr Hs ++ wR cI cT rr ra rb rc G ++ w4 cI cC ox ox1 ox2 Xt ++ w2 cC oy oy1 Ln ++ w6 cI cC mh m1 m2 m3 m4 m5 m6 m7 m8 Mo ++ [(o, .inl (cJ, 1, .inr (.inl O)))] ++ [(oq, .inl (cQ, 1, .inr (.inr (.inr (.inl Oq)))))]) := hD
  have hK3 := hK.sub (tys' := TY cI cC cT) [0, 1, 2] rfl
  unfold gM_17 at hg
  refine lv_aload_n hx hb dL_law_1279 rfl (lv_at hl 1 rfl) ?_
  refine lv_aload_n hx hb dL_law_1280 rfl (lv_at hl 0 rfl) ?_
  refine lv_iload hx hb dL_law_1281 (lv_at hl 5 rfl) ?_
  refine lv_iconst (v := 1) hx hb dL_law_1283 (by decide) ?_
  refine lv_iadd hx hb dL_law_1284 ?_
  obtain ⟨o1, hg⟩ := hg
  refine va_sld hx hb hX hbl hbA hS o1 dL_law_1285 ?_
  refine lv_aload_n hx hb dL_law_1286 rfl (lv_at hl 0 rfl) ?_
  refine lv_iload hx hb dL_law_1287 (lv_at hl 5 rfl) ?_
  refine lv_iconst (v := 2) hx hb dL_law_1289 (by decide) ?_
  refine lv_iadd hx hb dL_law_1290 ?_
  obtain ⟨o2, hg⟩ := hg
  refine va_sld hx hb hX hbl hbA hS o2 dL_law_1291 ?_
  refine lv_aload_n hx hb dL_law_1292 rfl (lv_at hl 3 rfl) ?_
  obtain ⟨n1, en1⟩ : ∃ z9, z9 = (fL_plusTilt S T O (xs ((x5 + 1)).toNatClampNeg) (xs ((x5 + 2)).toNatClampNeg)) := ⟨_, rfl⟩
  try rw [← en1] at hg
  obtain ⟨o3, hg⟩ := hg
  have k9 := (kL_plusTilt l D cI cC cT cJ cQ x ot ou ov oh ox oy ot1 ot2 o S T O (xs ((x5 + 1)).toNatClampNeg) (xs ((x5 + 2)).toNatClampNeg) hst o3)
  rw [← en1] at k9
  refine fLq (As := [.ref x, .int (xs ((x5 + 1)).toNatClampNeg), .int (xs ((x5 + 2)).toNatClampNeg), .ref o]) (rest := []) ⟨hx, hb, hml, hown, hts⟩ k9 (vx_cwSW (hh := [(0, 10, 13, 28), (0, 10, 17, 13)]) 4 hts gL_law_L_plusTilt rfl rfl rfl (by decide +kernel) ⟨Nat.le_of_ble_eq_true rfl, Nat.le_of_ble_eq_true rfl⟩) hP hK hD hS hXE hXN (w3 cI ou ou1 ou2 Tr ++ w3 cI ov ov1 ov2 Sn ++ w1 oh rr Hs ++ wR cI cT rr ra rb rc G ++ w4 cI cC ox ox1 ox2 Xt ++ w2 cC oy oy1 Ln ++ w6 cI cC mh m1 m2 m3 m4 m5 m6 m7 m8 Mo ++ [(oq, .inl (cQ, 1, .inr (.inr (.inr (.inl Oq)))))] : va_W) (pmI (fun a => by simp only [cntW_app, cntW_nil] <;> omega)) (w5 x ot ou ov oh ox oy S ++ w3 cI ot ot1 ot2 T ++ w3 cI ou ou1 ou2 Tr ++ w3 cI ov ov1 ov2 Sn ++ w1 oh rr Hs ++ wR cI cT rr ra rb rc G ++ w4 cI cC ox ox1 ox2 Xt ++ w2 cC oy oy1 Ln ++ w6 cI cC mh m1 m2 m3 m4 m5 m6 m7 m8 Mo ++ [(o, .inl (cJ, 1, .inr (.inl n1.2)))] ++ [(oq, .inl (cQ, 1, .inr (.inr (.inr (.inl Oq)))))]) (pmI (fun a => by simp only [cntW_app, cntW_nil] <;> omega)) rfl rfl hl.1 rfl (Nat.le_of_ble_eq_true rfl) ⟨Nat.le_trans (Nat.add_le_add_left (by decide) _) hcr.1, Nat.le_trans (Nat.add_le_add_left (by decide) _) hcr.2⟩ dL_law_1293 (fun H locs hP hD hS => ?_)
  refine lv_istore (lv' := [(6, .int n1.1), (0, .ref b), (1, .ref x), (2, .ref mh), (3, .ref o), (4, .ref oq), (5, .int x5)]) hx hb dL_law_1296 hl (by decide) rfl (fun ls hl => ?_)
  refine lv_aload_n hx hb dL_law_1298 rfl (lv_at hl 3 rfl) ?_
  refine lv_aload_n hx hb dL_law_1299 rfl (lv_at hl 1 rfl) ?_
  refine lv_iload hx hb dL_law_1300 (lv_at hl 6 rfl) ?_
  refine lv_iconst (v := 1) hx hb dL_law_1302 (by decide) ?_
  refine lv_iadd hx hb dL_law_1303 ?_
  obtain ⟨o4, hg⟩ := hg
  refine va_sld hx hb hX hbl hbA hS o4 dL_law_1304 ?_
  refine lv_aload_n hx hb dL_law_1305 rfl (lv_at hl 1 rfl) ?_
  refine lv_iload hx hb dL_law_1306 (lv_at hl 6 rfl) ?_
  refine lv_iconst (v := 2) hx hb dL_law_1308 (by decide) ?_
  refine lv_iadd hx hb dL_law_1309 ?_
  obtain ⟨o5, hg⟩ := hg
  refine va_sld hx hb hX hbl hbA hS o5 dL_law_1310 ?_
  obtain ⟨n2, en2⟩ : ∃ z9, z9 = (fX6_plusTilt Mo (xs ((x5 + 1)).toNatClampNeg) (xs ((x5 + 2)).toNatClampNeg)) := ⟨_, rfl⟩
  try rw [← en2] at hg
  obtain ⟨o6, hg⟩ := hg
  have k9 := (kX6_plusTilt l D cI cC cT mh m1 m2 m3 m4 m5 m6 m7 m8 Mo (xs ((x5 + 1)).toNatClampNeg) (xs ((x5 + 2)).toNatClampNeg) o6)
  rw [← en2] at k9
  refine fUq (As := [.int (xs ((x5 + 1)).toNatClampNeg), .int (xs ((x5 + 2)).toNatClampNeg)]) (rest := []) (st' := [.int n2.1]) ⟨hx, hb, hml, hown, hts⟩ k9 (cwV 2 hts gL_law_X6_plusTilt rfl rfl rfl (by decide +kernel) ⟨Nat.le_of_ble_eq_true rfl, Nat.le_of_ble_eq_true rfl⟩) hP hK3 hD hS (w5 x ot ou ov oh ox oy S ++ w3 cI ot ot1 ot2 T ++ w3 cI ou ou1 ou2 Tr ++ w3 cI ov ov1 ov2 Sn ++ w1 oh rr Hs ++ wR cI cT rr ra rb rc G ++ w4 cI cC ox ox1 ox2 Xt ++ w2 cC oy oy1 Ln ++ [(o, .inl (cJ, 1, .inr (.inl n1.2)))] ++ [(oq, .inl (cQ, 1, .inr (.inr (.inr (.inl Oq)))))] : va_W) (pmI (fun a => by simp only [cntW_app, cntW_nil] <;> omega)) (w5 x ot ou ov oh ox oy S ++ w3 cI ot ot1 ot2 T ++ w3 cI ou ou1 ou2 Tr ++ w3 cI ov ov1 ov2 Sn ++ w1 oh rr Hs ++ wR cI cT rr ra rb rc G ++ w4 cI cC ox ox1 ox2 Xt ++ w2 cC oy oy1 Ln ++ w6 cI cC mh m1 m2 m3 m4 m5 m6 m7 m8 n2.2 ++ [(o, .inl (cJ, 1, .inr (.inl n1.2)))] ++ [(oq, .inl (cQ, 1, .inr (.inr (.inr (.inl Oq)))))]) (pmI (fun a => by simp only [cntW_app, cntW_nil] <;> omega)) rfl 44 (ci := 7) rfl rfl rfl rfl hl.1 rfl rfl (Nat.le_of_ble_eq_true rfl) ⟨Nat.le_trans (Nat.add_le_add_left (by decide) _) hcr.1, Nat.le_trans (Nat.add_le_add_left (by decide) _) hcr.2⟩ dL_law_1311 (fun H locs hP hD hS => ?_)
  refine lv_istore (lv' := [(7, .int n2.1), (6, .int n1.1), (0, .ref b), (1, .ref x), (2, .ref mh), (3, .ref o), (4, .ref oq), (5, .int x5)]) hx hb dL_law_1314 hl (by decide) rfl (fun ls hl => ?_)
  refine lv_aload_n hx hb dL_law_1316 rfl (lv_at hl 4 rfl) ?_
  refine fRq (As := []) (rest := []) (st' := [.int (fX6_thrown n2.2)]) ⟨hx, hb, hml, hown, hts⟩ (kX6_thrown l D cI cC cT mh m1 m2 m3 m4 m5 m6 m7 m8 n2.2) (cwV 0 hts gL_law_X6_thrown rfl rfl rfl (by decide +kernel) ⟨Nat.le_of_ble_eq_true rfl, Nat.le_of_ble_eq_true rfl⟩) hP hK3 (w5 x ot ou ov oh ox oy S ++ w3 cI ot ot1 ot2 T ++ w3 cI ou ou1 ou2 Tr ++ w3 cI ov ov1 ov2 Sn ++ w1 oh rr Hs ++ wR cI cT rr ra rb rc G ++ w4 cI cC ox ox1 ox2 Xt ++ w2 cC oy oy1 Ln ++ [(o, .inl (cJ, 1, .inr (.inl n1.2)))] ++ [(oq, .inl (cQ, 1, .inr (.inr (.inr (.inl Oq)))))] : va_W) (pmI (fun a => by simp only [cntW_app, cntW_nil] <;> omega)) 44 (ci := 7) rfl rfl rfl rfl hl.1 rfl rfl (Nat.le_of_ble_eq_true rfl) ⟨Nat.le_trans (Nat.add_le_add_left (by decide) _) hcr.1, Nat.le_trans (Nat.add_le_add_left (by decide) _) hcr.2⟩ dL_law_1317 ?_
  refine lv_iload hx hb dL_law_1320 (lv_at hl 1 rfl) ?_
  obtain ⟨o7, hg⟩ := hg
  refine lv_icmp_eq (tgt := 1327) hx hb dL_law_1322 (by decide) (fun c_1322 => ?_) (fun c_1322 => absurd o7 c_1322)
  refine lv_iload hx hb dL_law_1327 (lv_at hl 1 rfl) ?_
  refine lv_if_ne (tgt := 1344) hx hb dL_law_1329 (by decide) (fun c_1329_1 => ?_) (fun c_1329_1 => ?_)
  · rw [if_neg c_1329_1] at hg
    refine lv_goto (tgt := 2110) hx hb dL_law_1344 (by decide) ?_
    refine lv_iinc (v := (x5 + 5)) (lv' := [(5, .int (x5 + 5)), (7, .int n2.1), (6, .int n1.1), (0, .ref b), (1, .ref x), (2, .ref mh), (3, .ref o), (4, .ref oq)]) hx hb dL_law_2110 hl (k := 7) rfl rfl (by decide) rfl (fun ls hl => ?_)
    refine lv_goto (tgt := 28) hx hb dL_law_2113 (by decide) ?_
    have e9 : fM_17 S T Tr Sn Hs G Xt Ln Mo O Oq xs L x5 = (n2.2, n1.2) := by rw [fM_17, ← en1, ← en2, if_neg c_1329_1]
    refine W.widen (k := cells + 2) (n := slots + 12) (by omega) (by omega) ?_
    exact kb (n2.2, n1.2) e9.symm H locs ls hP hD hS (lv_sub hl [3, 4, 5, 6, 7, 0] rfl)
  · rw [if_pos c_1329_1] at hg
    refine lv_aload_n hx hb dL_law_1332 rfl (lv_at hl 5 rfl) ?_
    refine lv_iconst (v := 0) hx hb dL_law_1333 (by decide) ?_
    obtain ⟨o8, hg⟩ := hg
    refine va_lald hx hb hK hP 53 3 rfl rfl o8 dL_law_1334 ?_
    refine lv_iload hx hb dL_law_1335 (lv_at hl 0 rfl) ?_
    refine lv_i2l (v := (n2.1.toInt64)) hx hb dL_law_1337 rfl ?_
    refine W.lcmp hx hb dL_law_1338 ?_
    obtain ⟨o9, hg⟩ := hg
    refine lv_if_eq (tgt := 1344) hx hb dL_law_1339 (by decide) (fun c_1339 => ?_) (fun c_1339 => absurd o9 c_1339)
    refine lv_goto (tgt := 2110) hx hb dL_law_1344 (by decide) ?_
    refine lv_iinc (v := (x5 + 5)) (lv' := [(5, .int (x5 + 5)), (7, .int n2.1), (6, .int n1.1), (0, .ref b), (1, .ref x), (2, .ref mh), (3, .ref o), (4, .ref oq)]) hx hb dL_law_2110 hl (k := 7) rfl rfl (by decide) rfl (fun ls hl => ?_)
    refine lv_goto (tgt := 28) hx hb dL_law_2113 (by decide) ?_
    have e9 : fM_17 S T Tr Sn Hs G Xt Ln Mo O Oq xs L x5 = (n2.2, n1.2) := by rw [fM_17, ← en1, ← en2, if_pos c_1329_1]
    refine W.widen (k := cells + 2) (n := slots + 12) (by omega) (by omega) ?_
    exact kb (n2.2, n1.2) e9.symm H locs ls hP hD hS (lv_sub hl [3, 4, 5, 6, 7, 0] rfl)
