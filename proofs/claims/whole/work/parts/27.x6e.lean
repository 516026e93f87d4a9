def fX6_writes (S : SV) (x1 : Int32) : SV := (sS17 (S.2.2.2.2.2.2.2.2.2.2.2.2.2.2.2.2.2.1 + 1) (sS5 (upd S.2.2.2.2.2.1 (S.2.2.2.2.2.2.2.2.2.2.2.2.2.2.2.2.2.1).toNatClampNeg (vp_nar .char (x1.toUInt32 % 65536).toInt32)) S))
def gX6_writes (S : SV) (x1 : Int32) : Prop := ((vp_in S.2.2.2.2.2.2.2.2.2.2.2.2.2.2.2.2.2.1 900) ∧ True)
abbrev rmX6_writes : Room := { frames := 0, cells := 0, slots := 0, locals := 0 }
set_option maxHeartbeats 4000000 in
set_option maxRecDepth 100000 in
theorem kX6_writes (l : Launch) (D : va_G) (cI cC cT : ClassId) (h a1 a2 a3 a4 a5 a6 a7 a8 : Nat) (S : SV) (x1 : Int32) (hg : gX6_writes S x1) : mU l D (TY cI cC cT) yX6_writes wsX6_writes rmX6_writes [.ref h, .int x1] (w6 cI cC h a1 a2 a3 a4 a5 a6 a7 a8 S) none (w6 cI cC h a1 a2 a3 a4 a5 a6 a7 a8 (fX6_writes S x1)) := by
  refine mU.ofW (cc := cX6_writes) (maxL := 2) (ret := none) (by decide) rfl (Nat.le_of_ble_eq_true rfl) ?_
  intro p e s m args below meth c Q ls A hx hb hml hr hlk hts hown hP hK hD hS hl hQ
  have hown : s.vm.findClass RX6 = some m.cls := hown
  have hP : va_P D vwCl (w6 cI cC h a1 a2 a3 a4 a5 a6 a7 a8 S) s.heap := hP
  have hD : va_D A (w6 cI cC h a1 a2 a3 a4 a5 a6 a7 a8 S) := hD
  have hl : lv_has ls 2 [(0, .ref h), (1, .int x1)] := hl
  have q0 := hts (Cond.fieldLink RX6 29 "TavernStoolsModel" "signs" "[C") (by decide +kernel)
  have q1 : ∀ w ∈ u_ws RX6 TX6 20, w ∈ wsX6_writes := by decide +kernel
  have q2 := hts (Cond.fieldLink RX6 170 "TavernStoolsModel" "signMany" "I") (by decide +kernel)
  unfold gX6_writes at hg
  generalize hHe : s.heap = H at hP ⊢
  have hS : va_S A s.heap H [] := hHe ▸ hS
  generalize hLe : ([] : List Loc) = locs at hS ⊢
  refine lv_aload_n hx hb dX6_writes_0 rfl (lv_at hl 0 rfl) ?_
  refine va_get (D := D) (ci := 7) (v := .ref a6) (C := RX6) (T := TX6) (N := 20) hx hb hts q1 hown hK hP 0 rfl rfl 14 (by decide) q0 (fun _ h9 => h9) rfl dX6_writes_1 ?_
  refine lv_aload_n hx hb dX6_writes_4 rfl (lv_at hl 0 rfl) ?_
  refine va_get (D := D) (ci := 7) (v := .int S.2.2.2.2.2.2.2.2.2.2.2.2.2.2.2.2.2.1) (C := RX6) (T := TX6) (N := 20) hx hb hts q1 hown hK hP 0 rfl rfl 15 (by decide) q2 (fun _ h9 => h9) rfl dX6_writes_5 ?_
  refine lv_iload_n hx hb dX6_writes_8 rfl (lv_at hl 1 rfl) ?_
  refine lv_i2c (v := (x1.toUInt32 % 65536).toInt32) hx hb dX6_writes_9 rfl ?_
  obtain ⟨o1, hg⟩ := hg
  refine va_cast hx hb hK hP hD hS 6 1 rfl rfl o1 dX6_writes_10 (fun H locs hP hD hS => ?_)
  have hP : va_P D vwCl (w6 cI cC h a1 a2 a3 a4 a5 a6 a7 a8 (sS5 (upd S.2.2.2.2.2.1 (S.2.2.2.2.2.2.2.2.2.2.2.2.2.2.2.2.2.1).toNatClampNeg (vp_nar .char (x1.toUInt32 % 65536).toInt32)) S)) H := w6p_5 hP
  have hD : va_D A (w6 cI cC h a1 a2 a3 a4 a5 a6 a7 a8 (sS5 (upd S.2.2.2.2.2.1 (S.2.2.2.2.2.2.2.2.2.2.2.2.2.2.2.2.2.1).toNatClampNeg (vp_nar .char (x1.toUInt32 % 65536).toInt32)) S)) := w6d_5 hD
  refine lv_aload_n hx hb dX6_writes_11 rfl (lv_at hl 0 rfl) ?_
  refine lv_dup hx hb dX6_writes_12 rfl ?_
  refine va_get (D := D) (ci := 7) (v := .int S.2.2.2.2.2.2.2.2.2.2.2.2.2.2.2.2.2.1) (C := RX6) (T := TX6) (N := 20) hx hb hts q1 hown hK hP 0 rfl rfl 15 (by decide) q2 (fun _ h9 => h9) rfl dX6_writes_13 ?_
  refine lv_iconst (v := 1) hx hb dX6_writes_16 (by decide) ?_
  refine lv_iadd hx hb dX6_writes_17 ?_
  refine va_put (D := D) (ci := 7) (v := .int (S.2.2.2.2.2.2.2.2.2.2.2.2.2.2.2.2.2.1 + 1)) (ty := .int) (C := RX6) (T := TX6) (N := 20) hx hb hts q1 tyX6 tyX6_ok nmX6 hown hK hP hD hS 0 rfl rfl 15 (by decide) q2 (fun _ h9 => h9) rfl (by decide +kernel) rfl rfl (Nat.le_of_ble_eq_true rfl) dX6_writes_18 (fun H locs hP hD hS => ?_)
  have hP : va_P D vwCl (w6 cI cC h a1 a2 a3 a4 a5 a6 a7 a8 (sS17 (S.2.2.2.2.2.2.2.2.2.2.2.2.2.2.2.2.2.1 + 1) (sS5 (upd S.2.2.2.2.2.1 (S.2.2.2.2.2.2.2.2.2.2.2.2.2.2.2.2.2.1).toNatClampNeg (vp_nar .char (x1.toUInt32 % 65536).toInt32)) S))) H := w6p_17 hP
  have hD : va_D A (w6 cI cC h a1 a2 a3 a4 a5 a6 a7 a8 (sS17 (S.2.2.2.2.2.2.2.2.2.2.2.2.2.2.2.2.2.1 + 1) (sS5 (upd S.2.2.2.2.2.1 (S.2.2.2.2.2.2.2.2.2.2.2.2.2.2.2.2.2.1).toNatClampNeg (vp_nar .char (x1.toUInt32 % 65536).toInt32)) S))) := w6d_17 hD
  have e9 : fX6_writes S x1 = (sS17 (S.2.2.2.2.2.2.2.2.2.2.2.2.2.2.2.2.2.1 + 1) (sS5 (upd S.2.2.2.2.2.1 (S.2.2.2.2.2.2.2.2.2.2.2.2.2.2.2.2.2.1).toNatClampNeg (vp_nar .char (x1.toUInt32 % 65536).toInt32)) S)) := by rw [fX6_writes]
  exact rUv hx hb hr hlk hQ hP hS (congrArg (fun z9 : SV => (w6 cI cC h a1 a2 a3 a4 a5 a6 a7 a8 z9 : va_W)) e9).symm dX6_writes_21
def fX6_writesNumber (S : SV) (x1 : Int32) : SV := (if x1 ≤ 9 then (fX6_writes S (48 + (x1 - x1 / 10 * 10))) else (fX6_writes (fX6_writes S (48 + (x1 / 10))) (48 + (x1 - x1 / 10 * 10))))
def gX6_writesNumber (S : SV) (x1 : Int32) : Prop := (if x1 ≤ 9 then ((gX6_writes S (48 + (x1 - x1 / 10 * 10))) ∧ True) else ((gX6_writes S (48 + (x1 / 10))) ∧ (gX6_writes (fX6_writes S (48 + (x1 / 10))) (48 + (x1 - x1 / 10 * 10))) ∧ True))
abbrev rmX6_writesNumber : Room := { frames := 1, cells := 0, slots := 0, locals := 21 }
set_option maxHeartbeats 4000000 in
set_option maxRecDepth 100000 in
theorem kX6_writesNumber (l : Launch) (D : va_G) (cI cC cT : ClassId) (h a1 a2 a3 a4 a5 a6 a7 a8 : Nat) (S : SV) (x1 : Int32) (hg : gX6_writesNumber S x1) : mU l D (TY cI cC cT) yX6_writesNumber wsX6_writesNumber rmX6_writesNumber [.ref h, .int x1] (w6 cI cC h a1 a2 a3 a4 a5 a6 a7 a8 S) none (w6 cI cC h a1 a2 a3 a4 a5 a6 a7 a8 (fX6_writesNumber S x1)) := by
  refine mU.ofW (cc := cX6_writesNumber) (maxL := 2) (ret := none) (by decide) rfl (Nat.le_of_ble_eq_true rfl) ?_
  intro p e s m args below meth c Q ls A hx hb hml hr hlk hts hown hP hK hD hS hl hQ
  have hown : s.vm.findClass RX6 = some m.cls := hown
  have hP : va_P D vwCl (w6 cI cC h a1 a2 a3 a4 a5 a6 a7 a8 S) s.heap := hP
  have hD : va_D A (w6 cI cC h a1 a2 a3 a4 a5 a6 a7 a8 S) := hD
  have hl : lv_has ls 2 [(0, .ref h), (1, .int x1)] := hl
  unfold gX6_writesNumber at hg
  generalize hHe : s.heap = H at hP ⊢
  have hS : va_S A s.heap H [] := hHe ▸ hS
  generalize hLe : ([] : List Loc) = locs at hS ⊢
  refine lv_iload_n hx hb dX6_writesNumber_0 rfl (lv_at hl 1 rfl) ?_
  refine lv_bipush (v := 9) hx hb dX6_writesNumber_1 (by decide) ?_
  refine lv_icmp_le (tgt := 17) hx hb dX6_writesNumber_3 (by decide) (fun c_3_1 => ?_) (fun c_3_1 => ?_)
  · rw [if_pos c_3_1] at hg
    refine lv_aload_n hx hb dX6_writesNumber_17 rfl (lv_at hl 0 rfl) ?_
    refine lv_bipush (v := 48) hx hb dX6_writesNumber_18 (by decide) ?_
    refine lv_iload_n hx hb dX6_writesNumber_20 rfl (lv_at hl 1 rfl) ?_
    refine lv_bipush (v := 10) hx hb dX6_writesNumber_21 (by decide) ?_
    refine lv_irem hx hb dX6_writesNumber_23 (by decide) ?_
    refine lv_iadd hx hb dX6_writesNumber_24 ?_
    obtain ⟨n1, en1⟩ : ∃ z9, z9 = (fX6_writes S (48 + (x1 - x1 / 10 * 10))) := ⟨_, rfl⟩
    try rw [← en1] at hg
    obtain ⟨o1, hg⟩ := hg
    have k9 := (kX6_writes l D cI cC cT h a1 a2 a3 a4 a5 a6 a7 a8 S (48 + (x1 - x1 / 10 * 10)) o1)
    rw [← en1] at k9
    refine fUV (As := [.int (48 + (x1 - x1 / 10 * 10))]) (rest := []) (st' := []) ⟨hx, hb, hml, hown, hts⟩ k9 (cwV 1 hts gX6_writesNumber_X6_writes rfl rfl rfl (by decide +kernel) ⟨Nat.le_of_ble_eq_true rfl, Nat.le_of_ble_eq_true rfl⟩) hP hK hD hS [0, 1, 2, 3, 4, 5, 6, 7, 8] rfl rfl (by decide) rfl (w6 cI cC h a1 a2 a3 a4 a5 a6 a7 a8 n1) rfl rfl 0 (ci := 7) rfl rfl rfl rfl hl.1 rfl rfl (Nat.le_of_ble_eq_true rfl) ⟨Nat.zero_le _, Nat.zero_le _⟩ dX6_writesNumber_25 (fun H locs hP hD hS => ?_)
    have e9 : fX6_writesNumber S x1 = n1 := by rw [fX6_writesNumber, if_pos c_3_1, ← en1]
    exact rUv hx hb hr hlk hQ hP hS (congrArg (fun z9 : SV => (w6 cI cC h a1 a2 a3 a4 a5 a6 a7 a8 z9 : va_W)) e9).symm dX6_writesNumber_28
  · rw [if_neg c_3_1] at hg
    refine lv_aload_n hx hb dX6_writesNumber_6 rfl (lv_at hl 0 rfl) ?_
    refine lv_bipush (v := 48) hx hb dX6_writesNumber_7 (by decide) ?_
    refine lv_iload_n hx hb dX6_writesNumber_9 rfl (lv_at hl 1 rfl) ?_
    refine lv_bipush (v := 10) hx hb dX6_writesNumber_10 (by decide) ?_
    refine lv_idiv hx hb dX6_writesNumber_12 (by decide) ?_
    refine lv_iadd hx hb dX6_writesNumber_13 ?_
    obtain ⟨n2, en2⟩ : ∃ z9, z9 = (fX6_writes S (48 + (x1 / 10))) := ⟨_, rfl⟩
    try rw [← en2] at hg
    obtain ⟨o2, hg⟩ := hg
    have k9 := (kX6_writes l D cI cC cT h a1 a2 a3 a4 a5 a6 a7 a8 S (48 + (x1 / 10)) o2)
    rw [← en2] at k9
    refine fUV (As := [.int (48 + (x1 / 10))]) (rest := []) (st' := []) ⟨hx, hb, hml, hown, hts⟩ k9 (cwV 1 hts gX6_writesNumber_X6_writes rfl rfl rfl (by decide +kernel) ⟨Nat.le_of_ble_eq_true rfl, Nat.le_of_ble_eq_true rfl⟩) hP hK hD hS [0, 1, 2, 3, 4, 5, 6, 7, 8] rfl rfl (by decide) rfl (w6 cI cC h a1 a2 a3 a4 a5 a6 a7 a8 n2) rfl rfl 0 (ci := 7) rfl rfl rfl rfl hl.1 rfl rfl (Nat.le_of_ble_eq_true rfl) ⟨Nat.zero_le _, Nat.zero_le _⟩ dX6_writesNumber_14 (fun H locs hP hD hS => ?_)
    refine lv_aload_n hx hb dX6_writesNumber_17 rfl (lv_at hl 0 rfl) ?_
    refine lv_bipush (v := 48) hx hb dX6_writesNumber_18 (by decide) ?_
    refine lv_iload_n hx hb dX6_writesNumber_20 rfl (lv_at hl 1 rfl) ?_
    refine lv_bipush (v := 10) hx hb dX6_writesNumber_21 (by decide) ?_
    refine lv_irem hx hb dX6_writesNumber_23 (by decide) ?_
    refine lv_iadd hx hb dX6_writesNumber_24 ?_
    obtain ⟨n3, en3⟩ : ∃ z9, z9 = (fX6_writes n2 (48 + (x1 - x1 / 10 * 10))) := ⟨_, rfl⟩
    try rw [← en3] at hg
    obtain ⟨o3, hg⟩ := hg
    have k9 := (kX6_writes l D cI cC cT h a1 a2 a3 a4 a5 a6 a7 a8 n2 (48 + (x1 - x1 / 10 * 10)) o3)
    rw [← en3] at k9
    refine fUV (As := [.int (48 + (x1 - x1 / 10 * 10))]) (rest := []) (st' := []) ⟨hx, hb, hml, hown, hts⟩ k9 (cwV 1 hts gX6_writesNumber_X6_writes rfl rfl rfl (by decide +kernel) ⟨Nat.le_of_ble_eq_true rfl, Nat.le_of_ble_eq_true rfl⟩) hP hK hD hS [0, 1, 2, 3, 4, 5, 6, 7, 8] rfl rfl (by decide) rfl (w6 cI cC h a1 a2 a3 a4 a5 a6 a7 a8 n3) rfl rfl 0 (ci := 7) rfl rfl rfl rfl hl.1 rfl rfl (Nat.le_of_ble_eq_true rfl) ⟨Nat.zero_le _, Nat.zero_le _⟩ dX6_writesNumber_25 (fun H locs hP hD hS => ?_)
    have e9 : fX6_writesNumber S x1 = n3 := by rw [fX6_writesNumber, if_neg c_3_1, ← en2, ← en3]
    exact rUv hx hb hr hlk hQ hP hS (congrArg (fun z9 : SV => (w6 cI cC h a1 a2 a3 a4 a5 a6 a7 a8 z9 : va_W)) e9).symm dX6_writesNumber_28
def lX6_line_12  (v : (SV × Int32)) : (SV × Int32) ⊕ ((SV × Int32)) := (if (v.1.1 (0 : Int32).toNatClampNeg) ≤ v.2 then (.inr (v.1, v.2)) else (if (fX6_of v.1 v.2 3) = 1 then (if 0 ≤ (fX6_of (fX6_writes v.1 124) v.2 5) then (if (fX6_isCat (fX6_writes v.1 124) (fX6_of (fX6_writes v.1 124) v.2 5)) = 0 then (.inl ((fX6_writes (fX6_writes v.1 124) (97 + (fX6_of (fX6_writes v.1 124) v.2 5))), (v.2 + 1))) else (.inl ((fX6_writes (fX6_writes v.1 124) (65 + (fX6_of (fX6_writes v.1 124) v.2 5))), (v.2 + 1)))) else (.inl ((fX6_writes (fX6_writes v.1 124) 46), (v.2 + 1)))) else (if 0 ≤ (fX6_of v.1 v.2 5) then (if (fX6_isCat v.1 (fX6_of v.1 v.2 5)) = 0 then (.inl ((fX6_writes v.1 (97 + (fX6_of v.1 v.2 5))), (v.2 + 1))) else (.inl ((fX6_writes v.1 (65 + (fX6_of v.1 v.2 5))), (v.2 + 1)))) else (.inl ((fX6_writes v.1 46), (v.2 + 1))))))
def glX6_line_12  (v : (SV × Int32)) : Prop := ((vp_in 0 114) ∧ (if (v.1.1 (0 : Int32).toNatClampNeg) ≤ v.2 then True else ((gX6_of v.1 v.2 3) ∧ (if (fX6_of v.1 v.2 3) = 1 then ((gX6_writes v.1 124) ∧ (gX6_of (fX6_writes v.1 124) v.2 5) ∧ (if 0 ≤ (fX6_of (fX6_writes v.1 124) v.2 5) then ((gX6_isCat (fX6_writes v.1 124) (fX6_of (fX6_writes v.1 124) v.2 5)) ∧ (if (fX6_isCat (fX6_writes v.1 124) (fX6_of (fX6_writes v.1 124) v.2 5)) = 0 then ((gX6_writes (fX6_writes v.1 124) (97 + (fX6_of (fX6_writes v.1 124) v.2 5))) ∧ True) else ((gX6_writes (fX6_writes v.1 124) (65 + (fX6_of (fX6_writes v.1 124) v.2 5))) ∧ True))) else ((gX6_writes (fX6_writes v.1 124) 46) ∧ True))) else ((gX6_of v.1 v.2 5) ∧ (if 0 ≤ (fX6_of v.1 v.2 5) then ((gX6_isCat v.1 (fX6_of v.1 v.2 5)) ∧ (if (fX6_isCat v.1 (fX6_of v.1 v.2 5)) = 0 then ((gX6_writes v.1 (97 + (fX6_of v.1 v.2 5))) ∧ True) else ((gX6_writes v.1 (65 + (fX6_of v.1 v.2 5))) ∧ True))) else ((gX6_writes v.1 46) ∧ True)))))))
def fX6_line (S : SV)  : (Int32 × SV) := ((itv ((sS17 0 (sS12 0 S)), 0) lX6_line_12 ((fun v : (SV × Int32) => ((v.1.1 (0 : Int32).toNatClampNeg).toInt - v.2.toInt).toNat) ((sS17 0 (sS12 0 S)), 0) + 1) ((sS17 0 (sS12 0 S)), 0)).1.2.2.2.2.2.2.2.2.2.2.2.2.2.2.2.2.2.1, (itv ((sS17 0 (sS12 0 S)), 0) lX6_line_12 ((fun v : (SV × Int32) => ((v.1.1 (0 : Int32).toNatClampNeg).toInt - v.2.toInt).toNat) ((sS17 0 (sS12 0 S)), 0) + 1) ((sS17 0 (sS12 0 S)), 0)).1)
def gX6_line (S : SV)  : Prop := ((∃ r9 : (SV × Int32), lrun lX6_line_12 glX6_line_12 ((fun v : (SV × Int32) => ((v.1.1 (0 : Int32).toNatClampNeg).toInt - v.2.toInt).toNat) ((sS17 0 (sS12 0 S)), 0) + 1) ((sS17 0 (sS12 0 S)), 0) r9) ∧ True)
abbrev rmX6_line : Room := { frames := 2, cells := 0, slots := 0, locals := 43 }
set_option maxHeartbeats 4000000 in
set_option maxRecDepth 100000 in
theorem kX6_line (l : Launch) (D : va_G) (cI cC cT : ClassId) (h a1 a2 a3 a4 a5 a6 a7 a8 : Nat) (S : SV)  (hg : gX6_line S) : mU l D (TY cI cC cT) yX6_line wsX6_line rmX6_line [.ref h] (w6 cI cC h a1 a2 a3 a4 a5 a6 a7 a8 S) (some (.int (fX6_line S).1)) (w6 cI cC h a1 a2 a3 a4 a5 a6 a7 a8 (fX6_line S).2) := by
  refine mU.ofW (cc := cX6_line) (maxL := 3) (ret := (some .int)) (by decide) rfl (Nat.le_of_ble_eq_true rfl) ?_
  intro p e s m args below meth c Q ls A hx hb hml hr hlk hts hown hP hK hD hS hl hQ
  have hown : s.vm.findClass RX6 = some m.cls := hown
  have hP : va_P D vwCl (w6 cI cC h a1 a2 a3 a4 a5 a6 a7 a8 S) s.heap := hP
  have hD : va_D A (w6 cI cC h a1 a2 a3 a4 a5 a6 a7 a8 S) := hD
  have hl : lv_has ls 3 [(0, .ref h)] := hl
  have q0 := hts (Cond.fieldLink RX6 39 "TavernStoolsModel" "code" "I") (by decide +kernel)
  have q1 : ∀ w ∈ u_ws RX6 TX6 20, w ∈ wsX6_line := by decide +kernel
  have q2 := hts (Cond.fieldLink RX6 170 "TavernStoolsModel" "signMany" "I") (by decide +kernel)
  have q3 := hts (Cond.fieldLink RX6 7 "TavernStoolsModel" "g" "[I") (by decide +kernel)
  unfold gX6_line at hg
  generalize hHe : s.heap = H at hP ⊢
  have hS : va_S A s.heap H [] := hHe ▸ hS
  generalize hLe : ([] : List Loc) = locs at hS ⊢
  refine lv_aload_n hx hb dX6_line_0 rfl (lv_at hl 0 rfl) ?_
  refine lv_iconst (v := 0) hx hb dX6_line_1 (by decide) ?_
  refine va_put (D := D) (ci := 7) (v := .int 0) (ty := .int) (C := RX6) (T := TX6) (N := 20) hx hb hts q1 tyX6 tyX6_ok nmX6 hown hK hP hD hS 0 rfl rfl 8 (by decide) q0 (fun _ h9 => h9) rfl (by decide +kernel) rfl rfl (Nat.le_of_ble_eq_true rfl) dX6_line_2 (fun H locs hP hD hS => ?_)
  have hP : va_P D vwCl (w6 cI cC h a1 a2 a3 a4 a5 a6 a7 a8 (sS12 0 S)) H := w6p_12 hP
  have hD : va_D A (w6 cI cC h a1 a2 a3 a4 a5 a6 a7 a8 (sS12 0 S)) := w6d_12 hD
  refine lv_aload_n hx hb dX6_line_5 rfl (lv_at hl 0 rfl) ?_
  refine lv_iconst (v := 0) hx hb dX6_line_6 (by decide) ?_
  refine va_put (D := D) (ci := 7) (v := .int 0) (ty := .int) (C := RX6) (T := TX6) (N := 20) hx hb hts q1 tyX6 tyX6_ok nmX6 hown hK hP hD hS 0 rfl rfl 15 (by decide) q2 (fun _ h9 => h9) rfl (by decide +kernel) rfl rfl (Nat.le_of_ble_eq_true rfl) dX6_line_7 (fun H locs hP hD hS => ?_)
  have hP : va_P D vwCl (w6 cI cC h a1 a2 a3 a4 a5 a6 a7 a8 (sS17 0 (sS12 0 S))) H := w6p_17 hP
  have hD : va_D A (w6 cI cC h a1 a2 a3 a4 a5 a6 a7 a8 (sS17 0 (sS12 0 S))) := w6d_17 hD
  refine lv_iconst (v := 0) hx hb dX6_line_10 (by decide) ?_
  refine lv_istore_n (lv' := [(1, .int 0), (0, .ref h)]) hx hb dX6_line_11 rfl hl (by decide) rfl (fun ls hl => ?_)
  obtain ⟨n8, en8⟩ : ∃ z9, z9 = (itv ((sS17 0 (sS12 0 S)), 0) lX6_line_12 ((fun v : (SV × Int32) => ((v.1.1 (0 : Int32).toNatClampNeg).toInt - v.2.toInt).toNat) ((sS17 0 (sS12 0 S)), 0) + 1) ((sS17 0 (sS12 0 S)), 0)) := ⟨_, rfl⟩
  try rw [← en8] at hg
  obtain ⟨o14, hg⟩ := hg
  have L9 := lrun_val (d := ((sS17 0 (sS12 0 S)), 0)) o14
  rw [← en8] at L9
  refine loopWs lX6_line_12 glX6_line_12 (fun v : (SV × Int32) => ∀ (H : Heap) (locs : List Loc) ls, va_P D vwCl (w6 cI cC h a1 a2 a3 a4 a5 a6 a7 a8 v.1) H → va_D A (w6 cI cC h a1 a2 a3 a4 a5 a6 a7 a8 v.1) → va_S A s.heap H locs → lv_has ls 3 [(0, .ref h), (1, .int v.2)] → W p l e rmX6_line s m args below meth c H locs 0 0 Q (F0 m 12 ls [])) (fun r9 : (SV × Int32) => ∀ (H : Heap) (locs : List Loc) ls, va_P D vwCl (w6 cI cC h a1 a2 a3 a4 a5 a6 a7 a8 r9.1) H → va_D A (w6 cI cC h a1 a2 a3 a4 a5 a6 a7 a8 r9.1) → va_S A s.heap H locs → lv_has ls 3 [(0, .ref h), (1, .int r9.2)] → W p l e rmX6_line s m args below meth c H locs 0 0 Q (F0 m 83 ls [])) ?_ _ ((sS17 0 (sS12 0 S)), 0) n8 L9 ?_ _ _ ls hP hD hS (lv_sub hl [1, 0] rfl)
  · intro v hg kb kx H locs ls hP hD hS hl
    unfold glX6_line_12 at hg
    refine lv_iload_n hx hb dX6_line_12 rfl (lv_at hl 1 rfl) ?_
    refine lv_aload_n hx hb dX6_line_13 rfl (lv_at hl 0 rfl) ?_
    refine va_get (D := D) (ci := 7) (v := .ref a1) (C := RX6) (T := TX6) (N := 20) hx hb hts q1 hown hK hP 0 rfl rfl 0 (by decide) q3 (fun _ h9 => h9) rfl dX6_line_14 ?_
    refine lv_iconst (v := 0) hx hb dX6_line_17 (by decide) ?_
    obtain ⟨o1, hg⟩ := hg
    refine va_iald hx hb hK hP 1 0 rfl rfl o1 dX6_line_18 ?_
    refine lv_icmp_ge (tgt := 83) hx hb dX6_line_19 (by decide) (fun c_19_1 => ?_) (fun c_19_1 => ?_)
    · rw [if_pos c_19_1] at hg
      exact kx (v.1, v.2) (by rw [lX6_line_12, if_pos c_19_1]) H locs ls hP hD hS (lv_sub hl [0, 1] rfl)
    · rw [if_neg c_19_1] at hg
      refine lv_aload_n hx hb dX6_line_22 rfl (lv_at hl 0 rfl) ?_
      refine lv_iload_n hx hb dX6_line_23 rfl (lv_at hl 1 rfl) ?_
      refine lv_iconst (v := 3) hx hb dX6_line_24 (by decide) ?_
      obtain ⟨o2, hg⟩ := hg
      refine fRV (As := [.int v.2, .int 3]) (rest := []) (st' := [.int (fX6_of v.1 v.2 3)]) ⟨hx, hb, hml, hown, hts⟩ (kX6_of l D cI cC cT h a1 a2 a3 a4 a5 a6 a7 a8 v.1 v.2 3 o2) (cwV 2 hts gX6_line_X6_of rfl rfl rfl (by decide +kernel) ⟨Nat.le_of_ble_eq_true rfl, Nat.le_of_ble_eq_true rfl⟩) hP hK [0, 1, 2, 3, 4, 5, 6, 7, 8] rfl 0 (ci := 7) rfl rfl rfl rfl hl.1 rfl rfl (Nat.le_of_ble_eq_true rfl) ⟨Nat.zero_le _, Nat.zero_le _⟩ dX6_line_25 ?_
      refine lv_iconst (v := 1) hx hb dX6_line_28 (by decide) ?_
      refine lv_icmp_ne (tgt := 38) hx hb dX6_line_29 (by decide) (fun c_29_2 => ?_) (fun c_29_2 => ?_)
      · rw [if_neg c_29_2] at hg
        refine lv_aload_n hx hb dX6_line_38 rfl (lv_at hl 0 rfl) ?_
        refine lv_iload_n hx hb dX6_line_39 rfl (lv_at hl 1 rfl) ?_
        refine lv_iconst (v := 5) hx hb dX6_line_40 (by decide) ?_
        obtain ⟨o3, hg⟩ := hg
        refine fRV (As := [.int v.2, .int 5]) (rest := []) (st' := [.int (fX6_of v.1 v.2 5)]) ⟨hx, hb, hml, hown, hts⟩ (kX6_of l D cI cC cT h a1 a2 a3 a4 a5 a6 a7 a8 v.1 v.2 5 o3) (cwV 2 hts gX6_line_X6_of rfl rfl rfl (by decide +kernel) ⟨Nat.le_of_ble_eq_true rfl, Nat.le_of_ble_eq_true rfl⟩) hP hK [0, 1, 2, 3, 4, 5, 6, 7, 8] rfl 0 (ci := 7) rfl rfl rfl rfl hl.1 rfl rfl (Nat.le_of_ble_eq_true rfl) ⟨Nat.zero_le _, Nat.zero_le _⟩ dX6_line_41 ?_
        refine lv_istore_n (lv' := [(2, .int (fX6_of v.1 v.2 5)), (0, .ref h), (1, .int v.2)]) hx hb dX6_line_44 rfl hl (by decide) rfl (fun ls hl => ?_)
        refine lv_aload_n hx hb dX6_line_45 rfl (lv_at hl 1 rfl) ?_
        refine lv_iload_n hx hb dX6_line_46 rfl (lv_at hl 0 rfl) ?_
        refine lv_if_ge (tgt := 55) hx hb dX6_line_47 (by decide) (fun c_47_3 => ?_) (fun c_47_3 => ?_)
        · rw [if_pos c_47_3] at hg
          refine lv_aload_n hx hb dX6_line_55 rfl (lv_at hl 1 rfl) ?_
          refine lv_iload_n hx hb dX6_line_56 rfl (lv_at hl 0 rfl) ?_
          obtain ⟨o4, hg⟩ := hg
          refine fRV (As := [.int (fX6_of v.1 v.2 5)]) (rest := [.ref h]) (st' := [.int (fX6_isCat v.1 (fX6_of v.1 v.2 5)), .ref h]) ⟨hx, hb, hml, hown, hts⟩ (kX6_isCat l D cI cC cT h a1 a2 a3 a4 a5 a6 a7 a8 v.1 (fX6_of v.1 v.2 5) o4) (cwV 1 hts gX6_line_X6_isCat rfl rfl rfl (by decide +kernel) ⟨Nat.le_of_ble_eq_true rfl, Nat.le_of_ble_eq_true rfl⟩) hP hK [0, 1, 2, 3, 4, 5, 6, 7, 8] rfl 0 (ci := 7) rfl rfl rfl rfl hl.1 rfl rfl (Nat.le_of_ble_eq_true rfl) ⟨Nat.zero_le _, Nat.zero_le _⟩ dX6_line_57 ?_
          refine lv_if_eq (tgt := 70) hx hb dX6_line_60 (by decide) (fun c_60_4 => ?_) (fun c_60_4 => ?_)
          · rw [if_pos c_60_4] at hg
            refine lv_bipush (v := 97) hx hb dX6_line_70 (by decide) ?_
            refine lv_iload_n hx hb dX6_line_72 rfl (lv_at hl 0 rfl) ?_
            refine lv_iadd hx hb dX6_line_73 ?_
            obtain ⟨n1, en1⟩ : ∃ z9, z9 = (fX6_writes v.1 (97 + (fX6_of v.1 v.2 5))) := ⟨_, rfl⟩
            try rw [← en1] at hg
            obtain ⟨o5, hg⟩ := hg
            have k9 := (kX6_writes l D cI cC cT h a1 a2 a3 a4 a5 a6 a7 a8 v.1 (97 + (fX6_of v.1 v.2 5)) o5)
            rw [← en1] at k9
            refine fUV (As := [.int (97 + (fX6_of v.1 v.2 5))]) (rest := []) (st' := []) ⟨hx, hb, hml, hown, hts⟩ k9 (cwV 1 hts gX6_line_X6_writes rfl rfl rfl (by decide +kernel) ⟨Nat.le_of_ble_eq_true rfl, Nat.le_of_ble_eq_true rfl⟩) hP hK hD hS [0, 1, 2, 3, 4, 5, 6, 7, 8] rfl rfl (by decide) rfl (w6 cI cC h a1 a2 a3 a4 a5 a6 a7 a8 n1) rfl rfl 0 (ci := 7) rfl rfl rfl rfl hl.1 rfl rfl (Nat.le_of_ble_eq_true rfl) ⟨Nat.zero_le _, Nat.zero_le _⟩ dX6_line_74 (fun H locs hP hD hS => ?_)
            refine lv_iinc (v := (v.2 + 1)) (lv' := [(1, .int (v.2 + 1)), (2, .int (fX6_of v.1 v.2 5)), (0, .ref h)]) hx hb dX6_line_77 hl (k := 2) rfl rfl (by decide) rfl (fun ls hl => ?_)
            refine lv_goto (tgt := 12) hx hb dX6_line_80 (by decide) ?_
            exact kb (n1, (v.2 + 1)) (by rw [lX6_line_12, if_neg c_19_1, if_neg c_29_2, if_pos c_47_3, if_pos c_60_4, ← en1]) H locs ls hP hD hS (lv_sub hl [2, 0] rfl)
          · rw [if_neg c_60_4] at hg
            refine lv_bipush (v := 65) hx hb dX6_line_63 (by decide) ?_
            refine lv_iload_n hx hb dX6_line_65 rfl (lv_at hl 0 rfl) ?_
            refine lv_iadd hx hb dX6_line_66 ?_
            refine lv_goto (tgt := 74) hx hb dX6_line_67 (by decide) ?_
            obtain ⟨n2, en2⟩ : ∃ z9, z9 = (fX6_writes v.1 (65 + (fX6_of v.1 v.2 5))) := ⟨_, rfl⟩
            try rw [← en2] at hg
            obtain ⟨o6, hg⟩ := hg
            have k9 := (kX6_writes l D cI cC cT h a1 a2 a3 a4 a5 a6 a7 a8 v.1 (65 + (fX6_of v.1 v.2 5)) o6)
            rw [← en2] at k9
            refine fUV (As := [.int (65 + (fX6_of v.1 v.2 5))]) (rest := []) (st' := []) ⟨hx, hb, hml, hown, hts⟩ k9 (cwV 1 hts gX6_line_X6_writes rfl rfl rfl (by decide +kernel) ⟨Nat.le_of_ble_eq_true rfl, Nat.le_of_ble_eq_true rfl⟩) hP hK hD hS [0, 1, 2, 3, 4, 5, 6, 7, 8] rfl rfl (by decide) rfl (w6 cI cC h a1 a2 a3 a4 a5 a6 a7 a8 n2) rfl rfl 0 (ci := 7) rfl rfl rfl rfl hl.1 rfl rfl (Nat.le_of_ble_eq_true rfl) ⟨Nat.zero_le _, Nat.zero_le _⟩ dX6_line_74 (fun H locs hP hD hS => ?_)
            refine lv_iinc (v := (v.2 + 1)) (lv' := [(1, .int (v.2 + 1)), (2, .int (fX6_of v.1 v.2 5)), (0, .ref h)]) hx hb dX6_line_77 hl (k := 2) rfl rfl (by decide) rfl (fun ls hl => ?_)
            refine lv_goto (tgt := 12) hx hb dX6_line_80 (by decide) ?_
            exact kb (n2, (v.2 + 1)) (by rw [lX6_line_12, if_neg c_19_1, if_neg c_29_2, if_pos c_47_3, if_neg c_60_4, ← en2]) H locs ls hP hD hS (lv_sub hl [2, 0] rfl)
        · rw [if_neg c_47_3] at hg
          refine lv_bipush (v := 46) hx hb dX6_line_50 (by decide) ?_
          refine lv_goto (tgt := 74) hx hb dX6_line_52 (by decide) ?_
          obtain ⟨n3, en3⟩ : ∃ z9, z9 = (fX6_writes v.1 46) := ⟨_, rfl⟩
          try rw [← en3] at hg
          obtain ⟨o7, hg⟩ := hg
          have k9 := (kX6_writes l D cI cC cT h a1 a2 a3 a4 a5 a6 a7 a8 v.1 46 o7)
          rw [← en3] at k9
          refine fUV (As := [.int 46]) (rest := []) (st' := []) ⟨hx, hb, hml, hown, hts⟩ k9 (cwV 1 hts gX6_line_X6_writes rfl rfl rfl (by decide +kernel) ⟨Nat.le_of_ble_eq_true rfl, Nat.le_of_ble_eq_true rfl⟩) hP hK hD hS [0, 1, 2, 3, 4, 5, 6, 7, 8] rfl rfl (by decide) rfl (w6 cI cC h a1 a2 a3 a4 a5 a6 a7 a8 n3) rfl rfl 0 (ci := 7) rfl rfl rfl rfl hl.1 rfl rfl (Nat.le_of_ble_eq_true rfl) ⟨Nat.zero_le _, Nat.zero_le _⟩ dX6_line_74 (fun H locs hP hD hS => ?_)
          refine lv_iinc (v := (v.2 + 1)) (lv' := [(1, .int (v.2 + 1)), (2, .int (fX6_of v.1 v.2 5)), (0, .ref h)]) hx hb dX6_line_77 hl (k := 2) rfl rfl (by decide) rfl (fun ls hl => ?_)
          refine lv_goto (tgt := 12) hx hb dX6_line_80 (by decide) ?_
          exact kb (n3, (v.2 + 1)) (by rw [lX6_line_12, if_neg c_19_1, if_neg c_29_2, if_neg c_47_3, ← en3]) H locs ls hP hD hS (lv_sub hl [2, 0] rfl)
      · rw [if_pos c_29_2] at hg
        refine lv_aload_n hx hb dX6_line_32 rfl (lv_at hl 0 rfl) ?_
        refine lv_bipush (v := 124) hx hb dX6_line_33 (by decide) ?_
        obtain ⟨n4, en4⟩ : ∃ z9, z9 = (fX6_writes v.1 124) := ⟨_, rfl⟩
        try rw [← en4] at hg
        obtain ⟨o8, hg⟩ := hg
        have k9 := (kX6_writes l D cI cC cT h a1 a2 a3 a4 a5 a6 a7 a8 v.1 124 o8)
        rw [← en4] at k9
        refine fUV (As := [.int 124]) (rest := []) (st' := []) ⟨hx, hb, hml, hown, hts⟩ k9 (cwV 1 hts gX6_line_X6_writes rfl rfl rfl (by decide +kernel) ⟨Nat.le_of_ble_eq_true rfl, Nat.le_of_ble_eq_true rfl⟩) hP hK hD hS [0, 1, 2, 3, 4, 5, 6, 7, 8] rfl rfl (by decide) rfl (w6 cI cC h a1 a2 a3 a4 a5 a6 a7 a8 n4) rfl rfl 0 (ci := 7) rfl rfl rfl rfl hl.1 rfl rfl (Nat.le_of_ble_eq_true rfl) ⟨Nat.zero_le _, Nat.zero_le _⟩ dX6_line_35 (fun H locs hP hD hS => ?_)
        refine lv_aload_n hx hb dX6_line_38 rfl (lv_at hl 0 rfl) ?_
        refine lv_iload_n hx hb dX6_line_39 rfl (lv_at hl 1 rfl) ?_
        refine lv_iconst (v := 5) hx hb dX6_line_40 (by decide) ?_
        obtain ⟨o9, hg⟩ := hg
        refine fRV (As := [.int v.2, .int 5]) (rest := []) (st' := [.int (fX6_of n4 v.2 5)]) ⟨hx, hb, hml, hown, hts⟩ (kX6_of l D cI cC cT h a1 a2 a3 a4 a5 a6 a7 a8 n4 v.2 5 o9) (cwV 2 hts gX6_line_X6_of rfl rfl rfl (by decide +kernel) ⟨Nat.le_of_ble_eq_true rfl, Nat.le_of_ble_eq_true rfl⟩) hP hK [0, 1, 2, 3, 4, 5, 6, 7, 8] rfl 0 (ci := 7) rfl rfl rfl rfl hl.1 rfl rfl (Nat.le_of_ble_eq_true rfl) ⟨Nat.zero_le _, Nat.zero_le _⟩ dX6_line_41 ?_
        refine lv_istore_n (lv' := [(2, .int (fX6_of n4 v.2 5)), (0, .ref h), (1, .int v.2)]) hx hb dX6_line_44 rfl hl (by decide) rfl (fun ls hl => ?_)
        refine lv_aload_n hx hb dX6_line_45 rfl (lv_at hl 1 rfl) ?_
        refine lv_iload_n hx hb dX6_line_46 rfl (lv_at hl 0 rfl) ?_
        refine lv_if_ge (tgt := 55) hx hb dX6_line_47 (by decide) (fun c_47_5 => ?_) (fun c_47_5 => ?_)
        · rw [if_pos c_47_5] at hg
          refine lv_aload_n hx hb dX6_line_55 rfl (lv_at hl 1 rfl) ?_
          refine lv_iload_n hx hb dX6_line_56 rfl (lv_at hl 0 rfl) ?_
          obtain ⟨o10, hg⟩ := hg
          refine fRV (As := [.int (fX6_of n4 v.2 5)]) (rest := [.ref h]) (st' := [.int (fX6_isCat n4 (fX6_of n4 v.2 5)), .ref h]) ⟨hx, hb, hml, hown, hts⟩ (kX6_isCat l D cI cC cT h a1 a2 a3 a4 a5 a6 a7 a8 n4 (fX6_of n4 v.2 5) o10) (cwV 1 hts gX6_line_X6_isCat rfl rfl rfl (by decide +kernel) ⟨Nat.le_of_ble_eq_true rfl, Nat.le_of_ble_eq_true rfl⟩) hP hK [0, 1, 2, 3, 4, 5, 6, 7, 8] rfl 0 (ci := 7) rfl rfl rfl rfl hl.1 rfl rfl (Nat.le_of_ble_eq_true rfl) ⟨Nat.zero_le _, Nat.zero_le _⟩ dX6_line_57 ?_
          refine lv_if_eq (tgt := 70) hx hb dX6_line_60 (by decide) (fun c_60_6 => ?_) (fun c_60_6 => ?_)
          · rw [if_pos c_60_6] at hg
            refine lv_bipush (v := 97) hx hb dX6_line_70 (by decide) ?_
            refine lv_iload_n hx hb dX6_line_72 rfl (lv_at hl 0 rfl) ?_
            refine lv_iadd hx hb dX6_line_73 ?_
            obtain ⟨n5, en5⟩ : ∃ z9, z9 = (fX6_writes n4 (97 + (fX6_of n4 v.2 5))) := ⟨_, rfl⟩
            try rw [← en5] at hg
            obtain ⟨o11, hg⟩ := hg
            have k9 := (kX6_writes l D cI cC cT h a1 a2 a3 a4 a5 a6 a7 a8 n4 (97 + (fX6_of n4 v.2 5)) o11)
            rw [← en5] at k9
            refine fUV (As := [.int (97 + (fX6_of n4 v.2 5))]) (rest := []) (st' := []) ⟨hx, hb, hml, hown, hts⟩ k9 (cwV 1 hts gX6_line_X6_writes rfl rfl rfl (by decide +kernel) ⟨Nat.le_of_ble_eq_true rfl, Nat.le_of_ble_eq_true rfl⟩) hP hK hD hS [0, 1, 2, 3, 4, 5, 6, 7, 8] rfl rfl (by decide) rfl (w6 cI cC h a1 a2 a3 a4 a5 a6 a7 a8 n5) rfl rfl 0 (ci := 7) rfl rfl rfl rfl hl.1 rfl rfl (Nat.le_of_ble_eq_true rfl) ⟨Nat.zero_le _, Nat.zero_le _⟩ dX6_line_74 (fun H locs hP hD hS => ?_)
            refine lv_iinc (v := (v.2 + 1)) (lv' := [(1, .int (v.2 + 1)), (2, .int (fX6_of n4 v.2 5)), (0, .ref h)]) hx hb dX6_line_77 hl (k := 2) rfl rfl (by decide) rfl (fun ls hl => ?_)
            refine lv_goto (tgt := 12) hx hb dX6_line_80 (by decide) ?_
            exact kb (n5, (v.2 + 1)) (by rw [lX6_line_12, if_neg c_19_1, if_pos c_29_2, ← en4, if_pos c_47_5, if_pos c_60_6, ← en5]) H locs ls hP hD hS (lv_sub hl [2, 0] rfl)
          · rw [if_neg c_60_6] at hg
            refine lv_bipush (v := 65) hx hb dX6_line_63 (by decide) ?_
            refine lv_iload_n hx hb dX6_line_65 rfl (lv_at hl 0 rfl) ?_
            refine lv_iadd hx hb dX6_line_66 ?_
            refine lv_goto (tgt := 74) hx hb dX6_line_67 (by decide) ?_
            obtain ⟨n6, en6⟩ : ∃ z9, z9 = (fX6_writes n4 (65 + (fX6_of n4 v.2 5))) := ⟨_, rfl⟩
            try rw [← en6] at hg
            obtain ⟨o12, hg⟩ := hg
            have k9 := (kX6_writes l D cI cC cT h a1 a2 a3 a4 a5 a6 a7 a8 n4 (65 + (fX6_of n4 v.2 5)) o12)
            rw [← en6] at k9
            refine fUV (As := [.int (65 + (fX6_of n4 v.2 5))]) (rest := []) (st' := []) ⟨hx, hb, hml, hown, hts⟩ k9 (cwV 1 hts gX6_line_X6_writes rfl rfl rfl (by decide +kernel) ⟨Nat.le_of_ble_eq_true rfl, Nat.le_of_ble_eq_true rfl⟩) hP hK hD hS [0, 1, 2, 3, 4, 5, 6, 7, 8] rfl rfl (by decide) rfl (w6 cI cC h a1 a2 a3 a4 a5 a6 a7 a8 n6) rfl rfl 0 (ci := 7) rfl rfl rfl rfl hl.1 rfl rfl (Nat.le_of_ble_eq_true rfl) ⟨Nat.zero_le _, Nat.zero_le _⟩ dX6_line_74 (fun H locs hP hD hS => ?_)
            refine lv_iinc (v := (v.2 + 1)) (lv' := [(1, .int (v.2 + 1)), (2, .int (fX6_of n4 v.2 5)), (0, .ref h)]) hx hb dX6_line_77 hl (k := 2) rfl rfl (by decide) rfl (fun ls hl => ?_)
            refine lv_goto (tgt := 12) hx hb dX6_line_80 (by decide) ?_
            exact kb (n6, (v.2 + 1)) (by rw [lX6_line_12, if_neg c_19_1, if_pos c_29_2, ← en4, if_pos c_47_5, if_neg c_60_6, ← en6]) H locs ls hP hD hS (lv_sub hl [2, 0] rfl)
        · rw [if_neg c_47_5] at hg
          refine lv_bipush (v := 46) hx hb dX6_line_50 (by decide) ?_
          refine lv_goto (tgt := 74) hx hb dX6_line_52 (by decide) ?_
          obtain ⟨n7, en7⟩ : ∃ z9, z9 = (fX6_writes n4 46) := ⟨_, rfl⟩
          try rw [← en7] at hg
          obtain ⟨o13, hg⟩ := hg
          have k9 := (kX6_writes l D cI cC cT h a1 a2 a3 a4 a5 a6 a7 a8 n4 46 o13)
          rw [← en7] at k9
          refine fUV (As := [.int 46]) (rest := []) (st' := []) ⟨hx, hb, hml, hown, hts⟩ k9 (cwV 1 hts gX6_line_X6_writes rfl rfl rfl (by decide +kernel) ⟨Nat.le_of_ble_eq_true rfl, Nat.le_of_ble_eq_true rfl⟩) hP hK hD hS [0, 1, 2, 3, 4, 5, 6, 7, 8] rfl rfl (by decide) rfl (w6 cI cC h a1 a2 a3 a4 a5 a6 a7 a8 n7) rfl rfl 0 (ci := 7) rfl rfl rfl rfl hl.1 rfl rfl (Nat.le_of_ble_eq_true rfl) ⟨Nat.zero_le _, Nat.zero_le _⟩ dX6_line_74 (fun H locs hP hD hS => ?_)
          refine lv_iinc (v := (v.2 + 1)) (lv' := [(1, .int (v.2 + 1)), (2, .int (fX6_of n4 v.2 5)), (0, .ref h)]) hx hb dX6_line_77 hl (k := 2) rfl rfl (by decide) rfl (fun ls hl => ?_)
          refine lv_goto (tgt := 12) hx hb dX6_line_80 (by decide) ?_
          exact kb (n7, (v.2 + 1)) (by rw [lX6_line_12, if_neg c_19_1, if_pos c_29_2, ← en4, if_neg c_47_5, ← en7]) H locs ls hP hD hS (lv_sub hl [2, 0] rfl)
  · intro H locs ls hP hD hS hl
    refine lv_aload_n hx hb dX6_line_83 rfl (lv_at hl 0 rfl) ?_
    refine va_get (D := D) (ci := 7) (v := .int n8.1.2.2.2.2.2.2.2.2.2.2.2.2.2.2.2.2.2.1) (C := RX6) (T := TX6) (N := 20) hx hb hts q1 hown hK hP 0 rfl rfl 15 (by decide) q2 (fun _ h9 => h9) rfl dX6_line_84 ?_
    have e9 : fX6_line S = (n8.1.2.2.2.2.2.2.2.2.2.2.2.2.2.2.2.2.2.1, n8.1) := by rw [fX6_line, ← en8]
    exact rUi hx hb hr hlk hQ hP hS (by rw [e9]) (congrArg (fun z9 : (Int32 × SV) => (w6 cI cC h a1 a2 a3 a4 a5 a6 a7 a8 z9.2 : va_W)) e9).symm rfl dX6_line_87
def lX6_stoolLine_66 (x1 : Int32) (v : (SV × Int32)) : (SV × Int32) ⊕ ((SV × Int32)) := (if (fX6_of v.1 x1 1) ≤ v.2 then (.inr (v.1, v.2)) else (.inl ((fX6_writes v.1 39), (v.2 + 1))))
def glX6_stoolLine_66 (x1 : Int32) (v : (SV × Int32)) : Prop := ((gX6_of v.1 x1 1) ∧ (if (fX6_of v.1 x1 1) ≤ v.2 then True else ((gX6_writes v.1 39) ∧ True)))
def lX6_stoolLine_90 (x1 : Int32) (v : (SV × Int32)) : (SV × Int32) ⊕ ((SV × Int32)) := (if (fX6_of v.1 x1 4) ≤ v.2 then (.inr (v.1, v.2)) else (.inl ((fX6_writes v.1 111), (v.2 + 1))))
def glX6_stoolLine_90 (x1 : Int32) (v : (SV × Int32)) : Prop := ((gX6_of v.1 x1 4) ∧ (if (fX6_of v.1 x1 4) ≤ v.2 then True else ((gX6_writes v.1 111) ∧ True)))
def fX6_stoolLine (S : SV) (x1 : Int32) : (Int32 × SV) := (if (fX6_isStool S x1) = 0 then (0, (fX6_fails S 1).2) else ((itv ((itv ((fX6_writesNumber (fX6_writes (fX6_writesNumber (fX6_writes (fX6_writesNumber (sS17 0 (fX6_fails S 0).2) x1) 94) (fX6_of (fX6_writes (fX6_writesNumber (sS17 0 (fX6_fails S 0).2) x1) 94) x1 0)) 126) (fX6_of (fX6_writes (fX6_writesNumber (fX6_writes (fX6_writesNumber (sS17 0 (fX6_fails S 0).2) x1) 94) (fX6_of (fX6_writes (fX6_writesNumber (sS17 0 (fX6_fails S 0).2) x1) 94) x1 0)) 126) x1 2)), 0) (lX6_stoolLine_66 x1) ((fun v : (SV × Int32) => ((fX6_of v.1 x1 1).toInt - v.2.toInt).toNat) ((fX6_writesNumber (fX6_writes (fX6_writesNumber (fX6_writes (fX6_writesNumber (sS17 0 (fX6_fails S 0).2) x1) 94) (fX6_of (fX6_writes (fX6_writesNumber (sS17 0 (fX6_fails S 0).2) x1) 94) x1 0)) 126) (fX6_of (fX6_writes (fX6_writesNumber (fX6_writes (fX6_writesNumber (sS17 0 (fX6_fails S 0).2) x1) 94) (fX6_of (fX6_writes (fX6_writesNumber (sS17 0 (fX6_fails S 0).2) x1) 94) x1 0)) 126) x1 2)), 0) + 1) ((fX6_writesNumber (fX6_writes (fX6_writesNumber (fX6_writes (fX6_writesNumber (sS17 0 (fX6_fails S 0).2) x1) 94) (fX6_of (fX6_writes (fX6_writesNumber (sS17 0 (fX6_fails S 0).2) x1) 94) x1 0)) 126) (fX6_of (fX6_writes (fX6_writesNumber (fX6_writes (fX6_writesNumber (sS17 0 (fX6_fails S 0).2) x1) 94) (fX6_of (fX6_writes (fX6_writesNumber (sS17 0 (fX6_fails S 0).2) x1) 94) x1 0)) 126) x1 2)), 0)).1, 0) (lX6_stoolLine_90 x1) ((fun v : (SV × Int32) => ((fX6_of v.1 x1 4).toInt - v.2.toInt).toNat) ((itv ((fX6_writesNumber (fX6_writes (fX6_writesNumber (fX6_writes (fX6_writesNumber (sS17 0 (fX6_fails S 0).2) x1) 94) (fX6_of (fX6_writes (fX6_writesNumber (sS17 0 (fX6_fails S 0).2) x1) 94) x1 0)) 126) (fX6_of (fX6_writes (fX6_writesNumber (fX6_writes (fX6_writesNumber (sS17 0 (fX6_fails S 0).2) x1) 94) (fX6_of (fX6_writes (fX6_writesNumber (sS17 0 (fX6_fails S 0).2) x1) 94) x1 0)) 126) x1 2)), 0) (lX6_stoolLine_66 x1) ((fun v : (SV × Int32) => ((fX6_of v.1 x1 1).toInt - v.2.toInt).toNat) ((fX6_writesNumber (fX6_writes (fX6_writesNumber (fX6_writes (fX6_writesNumber (sS17 0 (fX6_fails S 0).2) x1) 94) (fX6_of (fX6_writes (fX6_writesNumber (sS17 0 (fX6_fails S 0).2) x1) 94) x1 0)) 126) (fX6_of (fX6_writes (fX6_writesNumber (fX6_writes (fX6_writesNumber (sS17 0 (fX6_fails S 0).2) x1) 94) (fX6_of (fX6_writes (fX6_writesNumber (sS17 0 (fX6_fails S 0).2) x1) 94) x1 0)) 126) x1 2)), 0) + 1) ((fX6_writesNumber (fX6_writes (fX6_writesNumber (fX6_writes (fX6_writesNumber (sS17 0 (fX6_fails S 0).2) x1) 94) (fX6_of (fX6_writes (fX6_writesNumber (sS17 0 (fX6_fails S 0).2) x1) 94) x1 0)) 126) (fX6_of (fX6_writes (fX6_writesNumber (fX6_writes (fX6_writesNumber (sS17 0 (fX6_fails S 0).2) x1) 94) (fX6_of (fX6_writes (fX6_writesNumber (sS17 0 (fX6_fails S 0).2) x1) 94) x1 0)) 126) x1 2)), 0)).1, 0) + 1) ((itv ((fX6_writesNumber (fX6_writes (fX6_writesNumber (fX6_writes (fX6_writesNumber (sS17 0 (fX6_fails S 0).2) x1) 94) (fX6_of (fX6_writes (fX6_writesNumber (sS17 0 (fX6_fails S 0).2) x1) 94) x1 0)) 126) (fX6_of (fX6_writes (fX6_writesNumber (fX6_writes (fX6_writesNumber (sS17 0 (fX6_fails S 0).2) x1) 94) (fX6_of (fX6_writes (fX6_writesNumber (sS17 0 (fX6_fails S 0).2) x1) 94) x1 0)) 126) x1 2)), 0) (lX6_stoolLine_66 x1) ((fun v : (SV × Int32) => ((fX6_of v.1 x1 1).toInt - v.2.toInt).toNat) ((fX6_writesNumber (fX6_writes (fX6_writesNumber (fX6_writes (fX6_writesNumber (sS17 0 (fX6_fails S 0).2) x1) 94) (fX6_of (fX6_writes (fX6_writesNumber (sS17 0 (fX6_fails S 0).2) x1) 94) x1 0)) 126) (fX6_of (fX6_writes (fX6_writesNumber (fX6_writes (fX6_writesNumber (sS17 0 (fX6_fails S 0).2) x1) 94) (fX6_of (fX6_writes (fX6_writesNumber (sS17 0 (fX6_fails S 0).2) x1) 94) x1 0)) 126) x1 2)), 0) + 1) ((fX6_writesNumber (fX6_writes (fX6_writesNumber (fX6_writes (fX6_writesNumber (sS17 0 (fX6_fails S 0).2) x1) 94) (fX6_of (fX6_writes (fX6_writesNumber (sS17 0 (fX6_fails S 0).2) x1) 94) x1 0)) 126) (fX6_of (fX6_writes (fX6_writesNumber (fX6_writes (fX6_writesNumber (sS17 0 (fX6_fails S 0).2) x1) 94) (fX6_of (fX6_writes (fX6_writesNumber (sS17 0 (fX6_fails S 0).2) x1) 94) x1 0)) 126) x1 2)), 0)).1, 0)).1.2.2.2.2.2.2.2.2.2.2.2.2.2.2.2.2.2.1, (itv ((itv ((fX6_writesNumber (fX6_writes (fX6_writesNumber (fX6_writes (fX6_writesNumber (sS17 0 (fX6_fails S 0).2) x1) 94) (fX6_of (fX6_writes (fX6_writesNumber (sS17 0 (fX6_fails S 0).2) x1) 94) x1 0)) 126) (fX6_of (fX6_writes (fX6_writesNumber (fX6_writes (fX6_writesNumber (sS17 0 (fX6_fails S 0).2) x1) 94) (fX6_of (fX6_writes (fX6_writesNumber (sS17 0 (fX6_fails S 0).2) x1) 94) x1 0)) 126) x1 2)), 0) (lX6_stoolLine_66 x1) ((fun v : (SV × Int32) => ((fX6_of v.1 x1 1).toInt - v.2.toInt).toNat) ((fX6_writesNumber (fX6_writes (fX6_writesNumber (fX6_writes (fX6_writesNumber (sS17 0 (fX6_fails S 0).2) x1) 94) (fX6_of (fX6_writes (fX6_writesNumber (sS17 0 (fX6_fails S 0).2) x1) 94) x1 0)) 126) (fX6_of (fX6_writes (fX6_writesNumber (fX6_writes (fX6_writesNumber (sS17 0 (fX6_fails S 0).2) x1) 94) (fX6_of (fX6_writes (fX6_writesNumber (sS17 0 (fX6_fails S 0).2) x1) 94) x1 0)) 126) x1 2)), 0) + 1) ((fX6_writesNumber (fX6_writes (fX6_writesNumber (fX6_writes (fX6_writesNumber (sS17 0 (fX6_fails S 0).2) x1) 94) (fX6_of (fX6_writes (fX6_writesNumber (sS17 0 (fX6_fails S 0).2) x1) 94) x1 0)) 126) (fX6_of (fX6_writes (fX6_writesNumber (fX6_writes (fX6_writesNumber (sS17 0 (fX6_fails S 0).2) x1) 94) (fX6_of (fX6_writes (fX6_writesNumber (sS17 0 (fX6_fails S 0).2) x1) 94) x1 0)) 126) x1 2)), 0)).1, 0) (lX6_stoolLine_90 x1) ((fun v : (SV × Int32) => ((fX6_of v.1 x1 4).toInt - v.2.toInt).toNat) ((itv ((fX6_writesNumber (fX6_writes (fX6_writesNumber (fX6_writes (fX6_writesNumber (sS17 0 (fX6_fails S 0).2) x1) 94) (fX6_of (fX6_writes (fX6_writesNumber (sS17 0 (fX6_fails S 0).2) x1) 94) x1 0)) 126) (fX6_of (fX6_writes (fX6_writesNumber (fX6_writes (fX6_writesNumber (sS17 0 (fX6_fails S 0).2) x1) 94) (fX6_of (fX6_writes (fX6_writesNumber (sS17 0 (fX6_fails S 0).2) x1) 94) x1 0)) 126) x1 2)), 0) (lX6_stoolLine_66 x1) ((fun v : (SV × Int32) => ((fX6_of v.1 x1 1).toInt - v.2.toInt).toNat) ((fX6_writesNumber (fX6_writes (fX6_writesNumber (fX6_writes (fX6_writesNumber (sS17 0 (fX6_fails S 0).2) x1) 94) (fX6_of (fX6_writes (fX6_writesNumber (sS17 0 (fX6_fails S 0).2) x1) 94) x1 0)) 126) (fX6_of (fX6_writes (fX6_writesNumber (fX6_writes (fX6_writesNumber (sS17 0 (fX6_fails S 0).2) x1) 94) (fX6_of (fX6_writes (fX6_writesNumber (sS17 0 (fX6_fails S 0).2) x1) 94) x1 0)) 126) x1 2)), 0) + 1) ((fX6_writesNumber (fX6_writes (fX6_writesNumber (fX6_writes (fX6_writesNumber (sS17 0 (fX6_fails S 0).2) x1) 94) (fX6_of (fX6_writes (fX6_writesNumber (sS17 0 (fX6_fails S 0).2) x1) 94) x1 0)) 126) (fX6_of (fX6_writes (fX6_writesNumber (fX6_writes (fX6_writesNumber (sS17 0 (fX6_fails S 0).2) x1) 94) (fX6_of (fX6_writes (fX6_writesNumber (sS17 0 (fX6_fails S 0).2) x1) 94) x1 0)) 126) x1 2)), 0)).1, 0) + 1) ((itv ((fX6_writesNumber (fX6_writes (fX6_writesNumber (fX6_writes (fX6_writesNumber (sS17 0 (fX6_fails S 0).2) x1) 94) (fX6_of (fX6_writes (fX6_writesNumber (sS17 0 (fX6_fails S 0).2) x1) 94) x1 0)) 126) (fX6_of (fX6_writes (fX6_writesNumber (fX6_writes (fX6_writesNumber (sS17 0 (fX6_fails S 0).2) x1) 94) (fX6_of (fX6_writes (fX6_writesNumber (sS17 0 (fX6_fails S 0).2) x1) 94) x1 0)) 126) x1 2)), 0) (lX6_stoolLine_66 x1) ((fun v : (SV × Int32) => ((fX6_of v.1 x1 1).toInt - v.2.toInt).toNat) ((fX6_writesNumber (fX6_writes (fX6_writesNumber (fX6_writes (fX6_writesNumber (sS17 0 (fX6_fails S 0).2) x1) 94) (fX6_of (fX6_writes (fX6_writesNumber (sS17 0 (fX6_fails S 0).2) x1) 94) x1 0)) 126) (fX6_of (fX6_writes (fX6_writesNumber (fX6_writes (fX6_writesNumber (sS17 0 (fX6_fails S 0).2) x1) 94) (fX6_of (fX6_writes (fX6_writesNumber (sS17 0 (fX6_fails S 0).2) x1) 94) x1 0)) 126) x1 2)), 0) + 1) ((fX6_writesNumber (fX6_writes (fX6_writesNumber (fX6_writes (fX6_writesNumber (sS17 0 (fX6_fails S 0).2) x1) 94) (fX6_of (fX6_writes (fX6_writesNumber (sS17 0 (fX6_fails S 0).2) x1) 94) x1 0)) 126) (fX6_of (fX6_writes (fX6_writesNumber (fX6_writes (fX6_writesNumber (sS17 0 (fX6_fails S 0).2) x1) 94) (fX6_of (fX6_writes (fX6_writesNumber (sS17 0 (fX6_fails S 0).2) x1) 94) x1 0)) 126) x1 2)), 0)).1, 0)).1))
def gX6_stoolLine (S : SV) (x1 : Int32) : Prop := ((gX6_isStool S x1) ∧ (if (fX6_isStool S x1) = 0 then True else ((gX6_writesNumber (sS17 0 (fX6_fails S 0).2) x1) ∧ (gX6_writes (fX6_writesNumber (sS17 0 (fX6_fails S 0).2) x1) 94) ∧ (gX6_of (fX6_writes (fX6_writesNumber (sS17 0 (fX6_fails S 0).2) x1) 94) x1 0) ∧ (gX6_writesNumber (fX6_writes (fX6_writesNumber (sS17 0 (fX6_fails S 0).2) x1) 94) (fX6_of (fX6_writes (fX6_writesNumber (sS17 0 (fX6_fails S 0).2) x1) 94) x1 0)) ∧ (gX6_writes (fX6_writesNumber (fX6_writes (fX6_writesNumber (sS17 0 (fX6_fails S 0).2) x1) 94) (fX6_of (fX6_writes (fX6_writesNumber (sS17 0 (fX6_fails S 0).2) x1) 94) x1 0)) 126) ∧ (gX6_of (fX6_writes (fX6_writesNumber (fX6_writes (fX6_writesNumber (sS17 0 (fX6_fails S 0).2) x1) 94) (fX6_of (fX6_writes (fX6_writesNumber (sS17 0 (fX6_fails S 0).2) x1) 94) x1 0)) 126) x1 2) ∧ (gX6_writesNumber (fX6_writes (fX6_writesNumber (fX6_writes (fX6_writesNumber (sS17 0 (fX6_fails S 0).2) x1) 94) (fX6_of (fX6_writes (fX6_writesNumber (sS17 0 (fX6_fails S 0).2) x1) 94) x1 0)) 126) (fX6_of (fX6_writes (fX6_writesNumber (fX6_writes (fX6_writesNumber (sS17 0 (fX6_fails S 0).2) x1) 94) (fX6_of (fX6_writes (fX6_writesNumber (sS17 0 (fX6_fails S 0).2) x1) 94) x1 0)) 126) x1 2)) ∧ (∃ r9 : (SV × Int32), lrun (lX6_stoolLine_66 x1) (glX6_stoolLine_66 x1) ((fun v : (SV × Int32) => ((fX6_of v.1 x1 1).toInt - v.2.toInt).toNat) ((fX6_writesNumber (fX6_writes (fX6_writesNumber (fX6_writes (fX6_writesNumber (sS17 0 (fX6_fails S 0).2) x1) 94) (fX6_of (fX6_writes (fX6_writesNumber (sS17 0 (fX6_fails S 0).2) x1) 94) x1 0)) 126) (fX6_of (fX6_writes (fX6_writesNumber (fX6_writes (fX6_writesNumber (sS17 0 (fX6_fails S 0).2) x1) 94) (fX6_of (fX6_writes (fX6_writesNumber (sS17 0 (fX6_fails S 0).2) x1) 94) x1 0)) 126) x1 2)), 0) + 1) ((fX6_writesNumber (fX6_writes (fX6_writesNumber (fX6_writes (fX6_writesNumber (sS17 0 (fX6_fails S 0).2) x1) 94) (fX6_of (fX6_writes (fX6_writesNumber (sS17 0 (fX6_fails S 0).2) x1) 94) x1 0)) 126) (fX6_of (fX6_writes (fX6_writesNumber (fX6_writes (fX6_writesNumber (sS17 0 (fX6_fails S 0).2) x1) 94) (fX6_of (fX6_writes (fX6_writesNumber (sS17 0 (fX6_fails S 0).2) x1) 94) x1 0)) 126) x1 2)), 0) r9) ∧ ((∃ r9 : (SV × Int32), lrun (lX6_stoolLine_90 x1) (glX6_stoolLine_90 x1) ((fun v : (SV × Int32) => ((fX6_of v.1 x1 4).toInt - v.2.toInt).toNat) ((itv ((fX6_writesNumber (fX6_writes (fX6_writesNumber (fX6_writes (fX6_writesNumber (sS17 0 (fX6_fails S 0).2) x1) 94) (fX6_of (fX6_writes (fX6_writesNumber (sS17 0 (fX6_fails S 0).2) x1) 94) x1 0)) 126) (fX6_of (fX6_writes (fX6_writesNumber (fX6_writes (fX6_writesNumber (sS17 0 (fX6_fails S 0).2) x1) 94) (fX6_of (fX6_writes (fX6_writesNumber (sS17 0 (fX6_fails S 0).2) x1) 94) x1 0)) 126) x1 2)), 0) (lX6_stoolLine_66 x1) ((fun v : (SV × Int32) => ((fX6_of v.1 x1 1).toInt - v.2.toInt).toNat) ((fX6_writesNumber (fX6_writes (fX6_writesNumber (fX6_writes (fX6_writesNumber (sS17 0 (fX6_fails S 0).2) x1) 94) (fX6_of (fX6_writes (fX6_writesNumber (sS17 0 (fX6_fails S 0).2) x1) 94) x1 0)) 126) (fX6_of (fX6_writes (fX6_writesNumber (fX6_writes (fX6_writesNumber (sS17 0 (fX6_fails S 0).2) x1) 94) (fX6_of (fX6_writes (fX6_writesNumber (sS17 0 (fX6_fails S 0).2) x1) 94) x1 0)) 126) x1 2)), 0) + 1) ((fX6_writesNumber (fX6_writes (fX6_writesNumber (fX6_writes (fX6_writesNumber (sS17 0 (fX6_fails S 0).2) x1) 94) (fX6_of (fX6_writes (fX6_writesNumber (sS17 0 (fX6_fails S 0).2) x1) 94) x1 0)) 126) (fX6_of (fX6_writes (fX6_writesNumber (fX6_writes (fX6_writesNumber (sS17 0 (fX6_fails S 0).2) x1) 94) (fX6_of (fX6_writes (fX6_writesNumber (sS17 0 (fX6_fails S 0).2) x1) 94) x1 0)) 126) x1 2)), 0)).1, 0) + 1) ((itv ((fX6_writesNumber (fX6_writes (fX6_writesNumber (fX6_writes (fX6_writesNumber (sS17 0 (fX6_fails S 0).2) x1) 94) (fX6_of (fX6_writes (fX6_writesNumber (sS17 0 (fX6_fails S 0).2) x1) 94) x1 0)) 126) (fX6_of (fX6_writes (fX6_writesNumber (fX6_writes (fX6_writesNumber (sS17 0 (fX6_fails S 0).2) x1) 94) (fX6_of (fX6_writes (fX6_writesNumber (sS17 0 (fX6_fails S 0).2) x1) 94) x1 0)) 126) x1 2)), 0) (lX6_stoolLine_66 x1) ((fun v : (SV × Int32) => ((fX6_of v.1 x1 1).toInt - v.2.toInt).toNat) ((fX6_writesNumber (fX6_writes (fX6_writesNumber (fX6_writes (fX6_writesNumber (sS17 0 (fX6_fails S 0).2) x1) 94) (fX6_of (fX6_writes (fX6_writesNumber (sS17 0 (fX6_fails S 0).2) x1) 94) x1 0)) 126) (fX6_of (fX6_writes (fX6_writesNumber (fX6_writes (fX6_writesNumber (sS17 0 (fX6_fails S 0).2) x1) 94) (fX6_of (fX6_writes (fX6_writesNumber (sS17 0 (fX6_fails S 0).2) x1) 94) x1 0)) 126) x1 2)), 0) + 1) ((fX6_writesNumber (fX6_writes (fX6_writesNumber (fX6_writes (fX6_writesNumber (sS17 0 (fX6_fails S 0).2) x1) 94) (fX6_of (fX6_writes (fX6_writesNumber (sS17 0 (fX6_fails S 0).2) x1) 94) x1 0)) 126) (fX6_of (fX6_writes (fX6_writesNumber (fX6_writes (fX6_writesNumber (sS17 0 (fX6_fails S 0).2) x1) 94) (fX6_of (fX6_writes (fX6_writesNumber (sS17 0 (fX6_fails S 0).2) x1) 94) x1 0)) 126) x1 2)), 0)).1, 0) r9) ∧ True))))
abbrev rmX6_stoolLine : Room := { frames := 2, cells := 0, slots := 0, locals := 43 }
set_option maxHeartbeats 4000000 in
set_option maxRecDepth 100000 in
theorem kX6_stoolLine (l : Launch) (D : va_G) (cI cC cT : ClassId) (h a1 a2 a3 a4 a5 a6 a7 a8 : Nat) (S : SV) (x1 : Int32) (hg : gX6_stoolLine S x1) : mU l D (TY cI cC cT) yX6_stoolLine wsX6_stoolLine rmX6_stoolLine [.ref h, .int x1] (w6 cI cC h a1 a2 a3 a4 a5 a6 a7 a8 S) (some (.int (fX6_stoolLine S x1).1)) (w6 cI cC h a1 a2 a3 a4 a5 a6 a7 a8 (fX6_stoolLine S x1).2) := by
  refine mU.ofW (cc := cX6_stoolLine) (maxL := 3) (ret := (some .int)) (by decide) rfl (Nat.le_of_ble_eq_true rfl) ?_
  intro p e s m args below meth c Q ls A hx hb hml hr hlk hts hown hP hK hD hS hl hQ
  have hown : s.vm.findClass RX6 = some m.cls := hown
  have hP : va_P D vwCl (w6 cI cC h a1 a2 a3 a4 a5 a6 a7 a8 S) s.heap := hP
  have hD : va_D A (w6 cI cC h a1 a2 a3 a4 a5 a6 a7 a8 S) := hD
  have hl : lv_has ls 3 [(0, .ref h), (1, .int x1)] := hl
  have q0 := hts (Cond.fieldLink RX6 170 "TavernStoolsModel" "signMany" "I") (by decide +kernel)
  have q1 : ∀ w ∈ u_ws RX6 TX6 20, w ∈ wsX6_stoolLine := by decide +kernel
  unfold gX6_stoolLine at hg
  generalize hHe : s.heap = H at hP ⊢
  have hS : va_S A s.heap H [] := hHe ▸ hS
  generalize hLe : ([] : List Loc) = locs at hS ⊢
  refine lv_aload_n hx hb dX6_stoolLine_0 rfl (lv_at hl 0 rfl) ?_
  refine lv_aload_n hx hb dX6_stoolLine_1 rfl (lv_at hl 0 rfl) ?_
  refine lv_iload_n hx hb dX6_stoolLine_2 rfl (lv_at hl 1 rfl) ?_
  obtain ⟨o1, hg⟩ := hg
  refine fRV (As := [.int x1]) (rest := [.ref h]) (st' := [.int (fX6_isStool S x1), .ref h]) ⟨hx, hb, hml, hown, hts⟩ (kX6_isStool l D cI cC cT h a1 a2 a3 a4 a5 a6 a7 a8 S x1 o1) (cwV 1 hts gX6_stoolLine_X6_isStool rfl rfl rfl (by decide +kernel) ⟨Nat.le_of_ble_eq_true rfl, Nat.le_of_ble_eq_true rfl⟩) hP hK [0, 1, 2, 3, 4, 5, 6, 7, 8] rfl 0 (ci := 7) rfl rfl rfl rfl hl.1 rfl rfl (Nat.le_of_ble_eq_true rfl) ⟨Nat.zero_le _, Nat.zero_le _⟩ dX6_stoolLine_3 ?_
  refine lv_if_eq (tgt := 13) hx hb dX6_stoolLine_6 (by decide) (fun c_6_1 => ?_) (fun c_6_1 => ?_)
  · rw [if_pos c_6_1] at hg
    refine lv_iconst (v := 1) hx hb dX6_stoolLine_13 (by decide) ?_
    obtain ⟨n1, en1⟩ : ∃ z9, z9 = (fX6_fails S 1) := ⟨_, rfl⟩
    try rw [← en1] at hg
    have k9 := (kX6_fails l D cI cC cT h a1 a2 a3 a4 a5 a6 a7 a8 S 1)
    rw [← en1] at k9
    refine fUV (As := [.int 1]) (rest := []) (st' := [.int n1.1]) ⟨hx, hb, hml, hown, hts⟩ k9 (cwV 1 hts gX6_stoolLine_X6_fails rfl rfl rfl (by decide +kernel) ⟨Nat.le_of_ble_eq_true rfl, Nat.le_of_ble_eq_true rfl⟩) hP hK hD hS [0, 1, 2, 3, 4, 5, 6, 7, 8] rfl rfl (by decide) rfl (w6 cI cC h a1 a2 a3 a4 a5 a6 a7 a8 n1.2) rfl rfl 0 (ci := 7) rfl rfl rfl rfl hl.1 rfl rfl (Nat.le_of_ble_eq_true rfl) ⟨Nat.zero_le _, Nat.zero_le _⟩ dX6_stoolLine_14 (fun H locs hP hD hS => ?_)
    refine lv_if_eq (tgt := 22) hx hb dX6_stoolLine_17 (by decide) (fun c_17 => absurd c_17 (by rw [en1, fails_1]; decide)) (fun c_17 => ?_)
    refine lv_iconst (v := 0) hx hb dX6_stoolLine_20 (by decide) ?_
    have e9 : fX6_stoolLine S x1 = (0, n1.2) := by rw [fX6_stoolLine, if_pos c_6_1, ← en1]
    exact rUi hx hb hr hlk hQ hP hS (by rw [e9]) (congrArg (fun z9 : (Int32 × SV) => (w6 cI cC h a1 a2 a3 a4 a5 a6 a7 a8 z9.2 : va_W)) e9).symm rfl dX6_stoolLine_21
  · rw [if_neg c_6_1] at hg
    refine lv_iconst (v := 0) hx hb dX6_stoolLine_9 (by decide) ?_
    refine lv_goto (tgt := 14) hx hb dX6_stoolLine_10 (by decide) ?_
    obtain ⟨n2, en2⟩ : ∃ z9, z9 = (fX6_fails S 0) := ⟨_, rfl⟩
    try rw [← en2] at hg
    have k9 := (kX6_fails l D cI cC cT h a1 a2 a3 a4 a5 a6 a7 a8 S 0)
    rw [← en2] at k9
    refine fUV (As := [.int 0]) (rest := []) (st' := [.int n2.1]) ⟨hx, hb, hml, hown, hts⟩ k9 (cwV 1 hts gX6_stoolLine_X6_fails rfl rfl rfl (by decide +kernel) ⟨Nat.le_of_ble_eq_true rfl, Nat.le_of_ble_eq_true rfl⟩) hP hK hD hS [0, 1, 2, 3, 4, 5, 6, 7, 8] rfl rfl (by decide) rfl (w6 cI cC h a1 a2 a3 a4 a5 a6 a7 a8 n2.2) rfl rfl 0 (ci := 7) rfl rfl rfl rfl hl.1 rfl rfl (Nat.le_of_ble_eq_true rfl) ⟨Nat.zero_le _, Nat.zero_le _⟩ dX6_stoolLine_14 (fun H locs hP hD hS => ?_)
    refine lv_if_eq (tgt := 22) hx hb dX6_stoolLine_17 (by decide) (fun c_17 => ?_) (fun c_17 => absurd (by rw [en2]; exact fails_0 _) c_17)
    refine lv_aload_n hx hb dX6_stoolLine_22 rfl (lv_at hl 0 rfl) ?_
    refine lv_iconst (v := 0) hx hb dX6_stoolLine_23 (by decide) ?_
    refine va_put (D := D) (ci := 7) (v := .int 0) (ty := .int) (C := RX6) (T := TX6) (N := 20) hx hb hts q1 tyX6 tyX6_ok nmX6 hown hK hP hD hS 0 rfl rfl 15 (by decide) q0 (fun _ h9 => h9) rfl (by decide +kernel) rfl rfl (Nat.le_of_ble_eq_true rfl) dX6_stoolLine_24 (fun H locs hP hD hS => ?_)
    have hP : va_P D vwCl (w6 cI cC h a1 a2 a3 a4 a5 a6 a7 a8 (sS17 0 n2.2)) H := w6p_17 hP
    have hD : va_D A (w6 cI cC h a1 a2 a3 a4 a5 a6 a7 a8 (sS17 0 n2.2)) := w6d_17 hD
    refine lv_aload_n hx hb dX6_stoolLine_27 rfl (lv_at hl 0 rfl) ?_
    refine lv_iload_n hx hb dX6_stoolLine_28 rfl (lv_at hl 1 rfl) ?_
    obtain ⟨n3, en3⟩ : ∃ z9, z9 = (fX6_writesNumber (sS17 0 n2.2) x1) := ⟨_, rfl⟩
    try rw [← en3] at hg
    obtain ⟨o2, hg⟩ := hg
    have k9 := (kX6_writesNumber l D cI cC cT h a1 a2 a3 a4 a5 a6 a7 a8 (sS17 0 n2.2) x1 o2)
    rw [← en3] at k9
    refine fUV (As := [.int x1]) (rest := []) (st' := []) ⟨hx, hb, hml, hown, hts⟩ k9 (cwV 1 hts gX6_stoolLine_X6_writesNumber rfl rfl rfl (by decide +kernel) ⟨Nat.le_of_ble_eq_true rfl, Nat.le_of_ble_eq_true rfl⟩) hP hK hD hS [0, 1, 2, 3, 4, 5, 6, 7, 8] rfl rfl (by decide) rfl (w6 cI cC h a1 a2 a3 a4 a5 a6 a7 a8 n3) rfl rfl 0 (ci := 7) rfl rfl rfl rfl hl.1 rfl rfl (Nat.le_of_ble_eq_true rfl) ⟨Nat.zero_le _, Nat.zero_le _⟩ dX6_stoolLine_29 (fun H locs hP hD hS => ?_)
    refine lv_aload_n hx hb dX6_stoolLine_32 rfl (lv_at hl 0 rfl) ?_
    refine lv_bipush (v := 94) hx hb dX6_stoolLine_33 (by decide) ?_
    obtain ⟨n4, en4⟩ : ∃ z9, z9 = (fX6_writes n3 94) := ⟨_, rfl⟩
    try rw [← en4] at hg
    obtain ⟨o3, hg⟩ := hg
    have k9 := (kX6_writes l D cI cC cT h a1 a2 a3 a4 a5 a6 a7 a8 n3 94 o3)
    rw [← en4] at k9
    refine fUV (As := [.int 94]) (rest := []) (st' := []) ⟨hx, hb, hml, hown, hts⟩ k9 (cwV 1 hts gX6_stoolLine_X6_writes rfl rfl rfl (by decide +kernel) ⟨Nat.le_of_ble_eq_true rfl, Nat.le_of_ble_eq_true rfl⟩) hP hK hD hS [0, 1, 2, 3, 4, 5, 6, 7, 8] rfl rfl (by decide) rfl (w6 cI cC h a1 a2 a3 a4 a5 a6 a7 a8 n4) rfl rfl 0 (ci := 7) rfl rfl rfl rfl hl.1 rfl rfl (Nat.le_of_ble_eq_true rfl) ⟨Nat.zero_le _, Nat.zero_le _⟩ dX6_stoolLine_35 (fun H locs hP hD hS => ?_)
    refine lv_aload_n hx hb dX6_stoolLine_38 rfl (lv_at hl 0 rfl) ?_
    refine lv_aload_n hx hb dX6_stoolLine_39 rfl (lv_at hl 0 rfl) ?_
    refine lv_iload_n hx hb dX6_stoolLine_40 rfl (lv_at hl 1 rfl) ?_
    refine lv_iconst (v := 0) hx hb dX6_stoolLine_41 (by decide) ?_
    obtain ⟨o4, hg⟩ := hg
    refine fRV (As := [.int x1, .int 0]) (rest := [.ref h]) (st' := [.int (fX6_of n4 x1 0), .ref h]) ⟨hx, hb, hml, hown, hts⟩ (kX6_of l D cI cC cT h a1 a2 a3 a4 a5 a6 a7 a8 n4 x1 0 o4) (cwV 2 hts gX6_stoolLine_X6_of rfl rfl rfl (by decide +kernel) ⟨Nat.le_of_ble_eq_true rfl, Nat.le_of_ble_eq_true rfl⟩) hP hK [0, 1, 2, 3, 4, 5, 6, 7, 8] rfl 0 (ci := 7) rfl rfl rfl rfl hl.1 rfl rfl (Nat.le_of_ble_eq_true rfl) ⟨Nat.zero_le _, Nat.zero_le _⟩ dX6_stoolLine_42 ?_
    obtain ⟨n5, en5⟩ : ∃ z9, z9 = (fX6_writesNumber n4 (fX6_of n4 x1 0)) := ⟨_, rfl⟩
    try rw [← en5] at hg
    obtain ⟨o5, hg⟩ := hg
    have k9 := (kX6_writesNumber l D cI cC cT h a1 a2 a3 a4 a5 a6 a7 a8 n4 (fX6_of n4 x1 0) o5)
    rw [← en5] at k9
    refine fUV (As := [.int (fX6_of n4 x1 0)]) (rest := []) (st' := []) ⟨hx, hb, hml, hown, hts⟩ k9 (cwV 1 hts gX6_stoolLine_X6_writesNumber rfl rfl rfl (by decide +kernel) ⟨Nat.le_of_ble_eq_true rfl, Nat.le_of_ble_eq_true rfl⟩) hP hK hD hS [0, 1, 2, 3, 4, 5, 6, 7, 8] rfl rfl (by decide) rfl (w6 cI cC h a1 a2 a3 a4 a5 a6 a7 a8 n5) rfl rfl 0 (ci := 7) rfl rfl rfl rfl hl.1 rfl rfl (Nat.le_of_ble_eq_true rfl) ⟨Nat.zero_le _, Nat.zero_le _⟩ dX6_stoolLine_45 (fun H locs hP hD hS => ?_)
    refine lv_aload_n hx hb dX6_stoolLine_48 rfl (lv_at hl 0 rfl) ?_
    refine lv_bipush (v := 126) hx hb dX6_stoolLine_49 (by decide) ?_
    obtain ⟨n6, en6⟩ : ∃ z9, z9 = (fX6_writes n5 126) := ⟨_, rfl⟩
    try rw [← en6] at hg
    obtain ⟨o6, hg⟩ := hg
    have k9 := (kX6_writes l D cI cC cT h a1 a2 a3 a4 a5 a6 a7 a8 n5 126 o6)
    rw [← en6] at k9
    refine fUV (As := [.int 126]) (rest := []) (st' := []) ⟨hx, hb, hml, hown, hts⟩ k9 (cwV 1 hts gX6_stoolLine_X6_writes rfl rfl rfl (by decide +kernel) ⟨Nat.le_of_ble_eq_true rfl, Nat.le_of_ble_eq_true rfl⟩) hP hK hD hS [0, 1, 2, 3, 4, 5, 6, 7, 8] rfl rfl (by decide) rfl (w6 cI cC h a1 a2 a3 a4 a5 a6 a7 a8 n6) rfl rfl 0 (ci := 7) rfl rfl rfl rfl hl.1 rfl rfl (Nat.le_of_ble_eq_true rfl) ⟨Nat.zero_le _, Nat.zero_le _⟩ dX6_stoolLine_51 (fun H locs hP hD hS => ?_)
    refine lv_aload_n hx hb dX6_stoolLine_54 rfl (lv_at hl 0 rfl) ?_
    refine lv_aload_n hx hb dX6_stoolLine_55 rfl (lv_at hl 0 rfl) ?_
    refine lv_iload_n hx hb dX6_stoolLine_56 rfl (lv_at hl 1 rfl) ?_
    refine lv_iconst (v := 2) hx hb dX6_stoolLine_57 (by decide) ?_
    obtain ⟨o7, hg⟩ := hg
    refine fRV (As := [.int x1, .int 2]) (rest := [.ref h]) (st' := [.int (fX6_of n6 x1 2), .ref h]) ⟨hx, hb, hml, hown, hts⟩ (kX6_of l D cI cC cT h a1 a2 a3 a4 a5 a6 a7 a8 n6 x1 2 o7) (cwV 2 hts gX6_stoolLine_X6_of rfl rfl rfl (by decide +kernel) ⟨Nat.le_of_ble_eq_true rfl, Nat.le_of_ble_eq_true rfl⟩) hP hK [0, 1, 2, 3, 4, 5, 6, 7, 8] rfl 0 (ci := 7) rfl rfl rfl rfl hl.1 rfl rfl (Nat.le_of_ble_eq_true rfl) ⟨Nat.zero_le _, Nat.zero_le _⟩ dX6_stoolLine_58 ?_
    obtain ⟨n7, en7⟩ : ∃ z9, z9 = (fX6_writesNumber n6 (fX6_of n6 x1 2)) := ⟨_, rfl⟩
    try rw [← en7] at hg
    obtain ⟨o8, hg⟩ := hg
    have k9 := (kX6_writesNumber l D cI cC cT h a1 a2 a3 a4 a5 a6 a7 a8 n6 (fX6_of n6 x1 2) o8)
    rw [← en7] at k9
    refine fUV (As := [.int (fX6_of n6 x1 2)]) (rest := []) (st' := []) ⟨hx, hb, hml, hown, hts⟩ k9 (cwV 1 hts gX6_stoolLine_X6_writesNumber rfl rfl rfl (by decide +kernel) ⟨Nat.le_of_ble_eq_true rfl, Nat.le_of_ble_eq_true rfl⟩) hP hK hD hS [0, 1, 2, 3, 4, 5, 6, 7, 8] rfl rfl (by decide) rfl (w6 cI cC h a1 a2 a3 a4 a5 a6 a7 a8 n7) rfl rfl 0 (ci := 7) rfl rfl rfl rfl hl.1 rfl rfl (Nat.le_of_ble_eq_true rfl) ⟨Nat.zero_le _, Nat.zero_le _⟩ dX6_stoolLine_61 (fun H locs hP hD hS => ?_)
    refine lv_iconst (v := 0) hx hb dX6_stoolLine_64 (by decide) ?_
    refine lv_istore_n (lv' := [(2, .int 0), (0, .ref h), (1, .int x1)]) hx hb dX6_stoolLine_65 rfl hl (by decide) rfl (fun ls hl => ?_)
    obtain ⟨n9, en9⟩ : ∃ z9, z9 = (itv (n7, 0) (lX6_stoolLine_66 x1) ((fun v : (SV × Int32) => ((fX6_of v.1 x1 1).toInt - v.2.toInt).toNat) (n7, 0) + 1) (n7, 0)) := ⟨_, rfl⟩
    try rw [← en9] at hg
    obtain ⟨o11, hg⟩ := hg
    have L9 := lrun_val (d := (n7, 0)) o11
    rw [← en9] at L9
    refine loopWs (lX6_stoolLine_66 x1) (glX6_stoolLine_66 x1) (fun v : (SV × Int32) => ∀ (H : Heap) (locs : List Loc) ls, va_P D vwCl (w6 cI cC h a1 a2 a3 a4 a5 a6 a7 a8 v.1) H → va_D A (w6 cI cC h a1 a2 a3 a4 a5 a6 a7 a8 v.1) → va_S A s.heap H locs → lv_has ls 3 [(0, .ref h), (1, .int x1), (2, .int v.2)] → W p l e rmX6_stoolLine s m args below meth c H locs 0 0 Q (F0 m 66 ls [])) (fun r9 : (SV × Int32) => ∀ (H : Heap) (locs : List Loc) ls, va_P D vwCl (w6 cI cC h a1 a2 a3 a4 a5 a6 a7 a8 r9.1) H → va_D A (w6 cI cC h a1 a2 a3 a4 a5 a6 a7 a8 r9.1) → va_S A s.heap H locs → lv_has ls 3 [(0, .ref h), (1, .int x1), (2, .int r9.2)] → W p l e rmX6_stoolLine s m args below meth c H locs 0 0 Q (F0 m 88 ls [])) ?_ _ (n7, 0) n9 L9 ?_ _ _ ls hP hD hS (lv_sub hl [1, 2, 0] rfl)
    · intro v hg kb kx H locs ls hP hD hS hl
      unfold glX6_stoolLine_66 at hg
      refine lv_iload_n hx hb dX6_stoolLine_66 rfl (lv_at hl 2 rfl) ?_
      refine lv_aload_n hx hb dX6_stoolLine_67 rfl (lv_at hl 0 rfl) ?_
      refine lv_iload_n hx hb dX6_stoolLine_68 rfl (lv_at hl 1 rfl) ?_
      refine lv_iconst (v := 1) hx hb dX6_stoolLine_69 (by decide) ?_
      obtain ⟨o9, hg⟩ := hg
      refine fRV (As := [.int x1, .int 1]) (rest := [.int v.2]) (st' := [.int (fX6_of v.1 x1 1), .int v.2]) ⟨hx, hb, hml, hown, hts⟩ (kX6_of l D cI cC cT h a1 a2 a3 a4 a5 a6 a7 a8 v.1 x1 1 o9) (cwV 2 hts gX6_stoolLine_X6_of rfl rfl rfl (by decide +kernel) ⟨Nat.le_of_ble_eq_true rfl, Nat.le_of_ble_eq_true rfl⟩) hP hK [0, 1, 2, 3, 4, 5, 6, 7, 8] rfl 0 (ci := 7) rfl rfl rfl rfl hl.1 rfl rfl (Nat.le_of_ble_eq_true rfl) ⟨Nat.zero_le _, Nat.zero_le _⟩ dX6_stoolLine_70 ?_
      refine lv_icmp_ge (tgt := 88) hx hb dX6_stoolLine_73 (by decide) (fun c_73_2 => ?_) (fun c_73_2 => ?_)
      · rw [if_pos c_73_2] at hg
        exact kx (v.1, v.2) (by rw [lX6_stoolLine_66, if_pos c_73_2]) H locs ls hP hD hS (lv_sub hl [0, 1, 2] rfl)
      · rw [if_neg c_73_2] at hg
        refine lv_aload_n hx hb dX6_stoolLine_76 rfl (lv_at hl 0 rfl) ?_
        refine lv_bipush (v := 39) hx hb dX6_stoolLine_77 (by decide) ?_
        obtain ⟨n8, en8⟩ : ∃ z9, z9 = (fX6_writes v.1 39) := ⟨_, rfl⟩
        try rw [← en8] at hg
        obtain ⟨o10, hg⟩ := hg
        have k9 := (kX6_writes l D cI cC cT h a1 a2 a3 a4 a5 a6 a7 a8 v.1 39 o10)
        rw [← en8] at k9
        refine fUV (As := [.int 39]) (rest := []) (st' := []) ⟨hx, hb, hml, hown, hts⟩ k9 (cwV 1 hts gX6_stoolLine_X6_writes rfl rfl rfl (by decide +kernel) ⟨Nat.le_of_ble_eq_true rfl, Nat.le_of_ble_eq_true rfl⟩) hP hK hD hS [0, 1, 2, 3, 4, 5, 6, 7, 8] rfl rfl (by decide) rfl (w6 cI cC h a1 a2 a3 a4 a5 a6 a7 a8 n8) rfl rfl 0 (ci := 7) rfl rfl rfl rfl hl.1 rfl rfl (Nat.le_of_ble_eq_true rfl) ⟨Nat.zero_le _, Nat.zero_le _⟩ dX6_stoolLine_79 (fun H locs hP hD hS => ?_)
        refine lv_iinc (v := (v.2 + 1)) (lv' := [(2, .int (v.2 + 1)), (0, .ref h), (1, .int x1)]) hx hb dX6_stoolLine_82 hl (k := 2) rfl rfl (by decide) rfl (fun ls hl => ?_)
        refine lv_goto (tgt := 66) hx hb dX6_stoolLine_85 (by decide) ?_
        exact kb (n8, (v.2 + 1)) (by rw [lX6_stoolLine_66, if_neg c_73_2, ← en8]) H locs ls hP hD hS (lv_sub hl [1, 2, 0] rfl)
    · intro H locs ls hP hD hS hl
      refine lv_iconst (v := 0) hx hb dX6_stoolLine_88 (by decide) ?_
      refine lv_istore_n (lv' := [(2, .int 0), (0, .ref h), (1, .int x1)]) hx hb dX6_stoolLine_89 rfl hl (by decide) rfl (fun ls hl => ?_)
      obtain ⟨n11, en11⟩ : ∃ z9, z9 = (itv (n9.1, 0) (lX6_stoolLine_90 x1) ((fun v : (SV × Int32) => ((fX6_of v.1 x1 4).toInt - v.2.toInt).toNat) (n9.1, 0) + 1) (n9.1, 0)) := ⟨_, rfl⟩
      try rw [← en11] at hg
      obtain ⟨o14, hg⟩ := hg
      have L9 := lrun_val (d := (n9.1, 0)) o14
      rw [← en11] at L9
      refine loopWs (lX6_stoolLine_90 x1) (glX6_stoolLine_90 x1) (fun v : (SV × Int32) => ∀ (H : Heap) (locs : List Loc) ls, va_P D vwCl (w6 cI cC h a1 a2 a3 a4 a5 a6 a7 a8 v.1) H → va_D A (w6 cI cC h a1 a2 a3 a4 a5 a6 a7 a8 v.1) → va_S A s.heap H locs → lv_has ls 3 [(0, .ref h), (1, .int x1), (2, .int v.2)] → W p l e rmX6_stoolLine s m args below meth c H locs 0 0 Q (F0 m 90 ls [])) (fun r9 : (SV × Int32) => ∀ (H : Heap) (locs : List Loc) ls, va_P D vwCl (w6 cI cC h a1 a2 a3 a4 a5 a6 a7 a8 r9.1) H → va_D A (w6 cI cC h a1 a2 a3 a4 a5 a6 a7 a8 r9.1) → va_S A s.heap H locs → lv_has ls 3 [(0, .ref h), (1, .int x1), (2, .int r9.2)] → W p l e rmX6_stoolLine s m args below meth c H locs 0 0 Q (F0 m 112 ls [])) ?_ _ (n9.1, 0) n11 L9 ?_ _ _ ls hP hD hS (lv_sub hl [1, 2, 0] rfl)
      · intro v hg kb kx H locs ls hP hD hS hl
        unfold glX6_stoolLine_90 at hg
        refine lv_iload_n hx hb dX6_stoolLine_90 rfl (lv_at hl 2 rfl) ?_
        refine lv_aload_n hx hb dX6_stoolLine_91 rfl (lv_at hl 0 rfl) ?_
        refine lv_iload_n hx hb dX6_stoolLine_92 rfl (lv_at hl 1 rfl) ?_
        refine lv_iconst (v := 4) hx hb dX6_stoolLine_93 (by decide) ?_
        obtain ⟨o12, hg⟩ := hg
        refine fRV (As := [.int x1, .int 4]) (rest := [.int v.2]) (st' := [.int (fX6_of v.1 x1 4), .int v.2]) ⟨hx, hb, hml, hown, hts⟩ (kX6_of l D cI cC cT h a1 a2 a3 a4 a5 a6 a7 a8 v.1 x1 4 o12) (cwV 2 hts gX6_stoolLine_X6_of rfl rfl rfl (by decide +kernel) ⟨Nat.le_of_ble_eq_true rfl, Nat.le_of_ble_eq_true rfl⟩) hP hK [0, 1, 2, 3, 4, 5, 6, 7, 8] rfl 0 (ci := 7) rfl rfl rfl rfl hl.1 rfl rfl (Nat.le_of_ble_eq_true rfl) ⟨Nat.zero_le _, Nat.zero_le _⟩ dX6_stoolLine_94 ?_
        refine lv_icmp_ge (tgt := 112) hx hb dX6_stoolLine_97 (by decide) (fun c_97_3 => ?_) (fun c_97_3 => ?_)
        · rw [if_pos c_97_3] at hg
          exact kx (v.1, v.2) (by rw [lX6_stoolLine_90, if_pos c_97_3]) H locs ls hP hD hS (lv_sub hl [0, 1, 2] rfl)
        · rw [if_neg c_97_3] at hg
          refine lv_aload_n hx hb dX6_stoolLine_100 rfl (lv_at hl 0 rfl) ?_
          refine lv_bipush (v := 111) hx hb dX6_stoolLine_101 (by decide) ?_
          obtain ⟨n10, en10⟩ : ∃ z9, z9 = (fX6_writes v.1 111) := ⟨_, rfl⟩
          try rw [← en10] at hg
          obtain ⟨o13, hg⟩ := hg
          have k9 := (kX6_writes l D cI cC cT h a1 a2 a3 a4 a5 a6 a7 a8 v.1 111 o13)
          rw [← en10] at k9
          refine fUV (As := [.int 111]) (rest := []) (st' := []) ⟨hx, hb, hml, hown, hts⟩ k9 (cwV 1 hts gX6_stoolLine_X6_writes rfl rfl rfl (by decide +kernel) ⟨Nat.le_of_ble_eq_true rfl, Nat.le_of_ble_eq_true rfl⟩) hP hK hD hS [0, 1, 2, 3, 4, 5, 6, 7, 8] rfl rfl (by decide) rfl (w6 cI cC h a1 a2 a3 a4 a5 a6 a7 a8 n10) rfl rfl 0 (ci := 7) rfl rfl rfl rfl hl.1 rfl rfl (Nat.le_of_ble_eq_true rfl) ⟨Nat.zero_le _, Nat.zero_le _⟩ dX6_stoolLine_103 (fun H locs hP hD hS => ?_)
          refine lv_iinc (v := (v.2 + 1)) (lv' := [(2, .int (v.2 + 1)), (0, .ref h), (1, .int x1)]) hx hb dX6_stoolLine_106 hl (k := 2) rfl rfl (by decide) rfl (fun ls hl => ?_)
          refine lv_goto (tgt := 90) hx hb dX6_stoolLine_109 (by decide) ?_
          exact kb (n10, (v.2 + 1)) (by rw [lX6_stoolLine_90, if_neg c_97_3, ← en10]) H locs ls hP hD hS (lv_sub hl [1, 2, 0] rfl)
      · intro H locs ls hP hD hS hl
        refine lv_aload_n hx hb dX6_stoolLine_112 rfl (lv_at hl 0 rfl) ?_
        refine va_get (D := D) (ci := 7) (v := .int n11.1.2.2.2.2.2.2.2.2.2.2.2.2.2.2.2.2.2.1) (C := RX6) (T := TX6) (N := 20) hx hb hts q1 hown hK hP 0 rfl rfl 15 (by decide) q0 (fun _ h9 => h9) rfl dX6_stoolLine_113 ?_
        have e9 : fX6_stoolLine S x1 = (n11.1.2.2.2.2.2.2.2.2.2.2.2.2.2.2.2.2.2.1, n11.1) := by rw [fX6_stoolLine, if_neg c_6_1, ← en2, ← en3, ← en4, ← en5, ← en6, ← en7, ← en9, ← en11]
        exact rUi hx hb hr hlk hQ hP hS (by rw [e9]) (congrArg (fun z9 : (Int32 × SV) => (w6 cI cC h a1 a2 a3 a4 a5 a6 a7 a8 z9.2 : va_W)) e9).symm rfl dX6_stoolLine_116
def fX6_character (S : SV) (x1 : Int32) : (Int32 × SV) := (if (fX6_in x1 0 (S.2.2.2.2.2.2.2.2.2.2.2.2.2.2.2.2.2.1 - 1)) = 0 then (32, (fX6_fails S 1).2) else (((fX6_fails S 0).2.2.2.2.2.2.1 (x1).toNatClampNeg), (fX6_fails S 0).2))
def gX6_character (S : SV) (x1 : Int32) : Prop := (if (fX6_in x1 0 (S.2.2.2.2.2.2.2.2.2.2.2.2.2.2.2.2.2.1 - 1)) = 0 then True else ((vp_in x1 900) ∧ (narrow .char (.int ((fX6_fails S 0).2.2.2.2.2.2.1 (x1).toNatClampNeg)) = .int ((fX6_fails S 0).2.2.2.2.2.2.1 (x1).toNatClampNeg)) ∧ True))
abbrev rmX6_character : Room := { frames := 1, cells := 0, slots := 0, locals := 22 }
set_option maxHeartbeats 4000000 in
set_option maxRecDepth 100000 in
theorem kX6_character (l : Launch) (D : va_G) (cI cC cT : ClassId) (h a1 a2 a3 a4 a5 a6 a7 a8 : Nat) (S : SV) (x1 : Int32) (hg : gX6_character S x1) : mU l D (TY cI cC cT) yX6_character wsX6_character rmX6_character [.ref h, .int x1] (w6 cI cC h a1 a2 a3 a4 a5 a6 a7 a8 S) (some (.int (fX6_character S x1).1)) (w6 cI cC h a1 a2 a3 a4 a5 a6 a7 a8 (fX6_character S x1).2) := by
  refine mU.ofW (cc := cX6_character) (maxL := 2) (ret := (some .char)) (by decide) rfl (Nat.le_of_ble_eq_true rfl) ?_
  intro p e s m args below meth c Q ls A hx hb hml hr hlk hts hown hP hK hD hS hl hQ
  have hown : s.vm.findClass RX6 = some m.cls := hown
  have hP : va_P D vwCl (w6 cI cC h a1 a2 a3 a4 a5 a6 a7 a8 S) s.heap := hP
  have hD : va_D A (w6 cI cC h a1 a2 a3 a4 a5 a6 a7 a8 S) := hD
  have hl : lv_has ls 2 [(0, .ref h), (1, .int x1)] := hl
  have q0 := hts (Cond.fieldLink RX6 170 "TavernStoolsModel" "signMany" "I") (by decide +kernel)
  have q1 : ∀ w ∈ u_ws RX6 TX6 20, w ∈ wsX6_character := by decide +kernel
  have q2 := hts (Cond.fieldLink RX6 29 "TavernStoolsModel" "signs" "[C") (by decide +kernel)
  unfold gX6_character at hg
  generalize hHe : s.heap = H at hP ⊢
  have hS : va_S A s.heap H [] := hHe ▸ hS
  generalize hLe : ([] : List Loc) = locs at hS ⊢
  refine lv_aload_n hx hb dX6_character_0 rfl (lv_at hl 0 rfl) ?_
  refine lv_iload_n hx hb dX6_character_1 rfl (lv_at hl 1 rfl) ?_
  refine lv_iconst (v := 0) hx hb dX6_character_2 (by decide) ?_
  refine lv_aload_n hx hb dX6_character_3 rfl (lv_at hl 0 rfl) ?_
  refine va_get (D := D) (ci := 7) (v := .int S.2.2.2.2.2.2.2.2.2.2.2.2.2.2.2.2.2.1) (C := RX6) (T := TX6) (N := 20) hx hb hts q1 hown hK hP 0 rfl rfl 15 (by decide) q0 (fun _ h9 => h9) rfl dX6_character_4 ?_
  refine lv_iconst (v := 1) hx hb dX6_character_7 (by decide) ?_
  refine lv_isub hx hb dX6_character_8 ?_
  refine fRS (As := [.int x1, .int 0, .int (S.2.2.2.2.2.2.2.2.2.2.2.2.2.2.2.2.2.1 - 1)]) (rest := [.ref h]) (st' := [.int (fX6_in x1 0 (S.2.2.2.2.2.2.2.2.2.2.2.2.2.2.2.2.2.1 - 1)), .ref h]) ⟨hx, hb, hml, hown, hts⟩ (kX6_in l D cI cC cT x1 0 (S.2.2.2.2.2.2.2.2.2.2.2.2.2.2.2.2.2.1 - 1)) (va_cwS 3 hts gX6_character_X6_in rfl rfl rfl (by decide +kernel) ⟨Nat.le_of_ble_eq_true rfl, Nat.le_of_ble_eq_true rfl⟩) hP hK [] rfl rfl hl.1 rfl rfl (Nat.le_of_ble_eq_true rfl) ⟨Nat.zero_le _, Nat.zero_le _⟩ dX6_character_9 ?_
  refine lv_if_eq (tgt := 19) hx hb dX6_character_12 (by decide) (fun c_12_1 => ?_) (fun c_12_1 => ?_)
  · rw [if_pos c_12_1] at hg
    refine lv_iconst (v := 1) hx hb dX6_character_19 (by decide) ?_
    obtain ⟨n1, en1⟩ : ∃ z9, z9 = (fX6_fails S 1) := ⟨_, rfl⟩
    try rw [← en1] at hg
    have k9 := (kX6_fails l D cI cC cT h a1 a2 a3 a4 a5 a6 a7 a8 S 1)
    rw [← en1] at k9
    refine fUV (As := [.int 1]) (rest := []) (st' := [.int n1.1]) ⟨hx, hb, hml, hown, hts⟩ k9 (cwV 1 hts gX6_character_X6_fails rfl rfl rfl (by decide +kernel) ⟨Nat.le_of_ble_eq_true rfl, Nat.le_of_ble_eq_true rfl⟩) hP hK hD hS [0, 1, 2, 3, 4, 5, 6, 7, 8] rfl rfl (by decide) rfl (w6 cI cC h a1 a2 a3 a4 a5 a6 a7 a8 n1.2) rfl rfl 0 (ci := 7) rfl rfl rfl rfl hl.1 rfl rfl (Nat.le_of_ble_eq_true rfl) ⟨Nat.zero_le _, Nat.zero_le _⟩ dX6_character_20 (fun H locs hP hD hS => ?_)
    refine lv_if_eq (tgt := 31) hx hb dX6_character_23 (by decide) (fun c_23 => absurd c_23 (by rw [en1, fails_1]; decide)) (fun c_23 => ?_)
    refine lv_bipush (v := 32) hx hb dX6_character_26 (by decide) ?_
    refine lv_goto (tgt := 37) hx hb dX6_character_28 (by decide) ?_
    have e9 : fX6_character S x1 = (32, n1.2) := by rw [fX6_character, if_pos c_12_1, ← en1]
    exact rUi hx hb hr hlk hQ hP hS (by rw [e9]) (congrArg (fun z9 : (Int32 × SV) => (w6 cI cC h a1 a2 a3 a4 a5 a6 a7 a8 z9.2 : va_W)) e9).symm rfl dX6_character_37
  · rw [if_neg c_12_1] at hg
    refine lv_iconst (v := 0) hx hb dX6_character_15 (by decide) ?_
    refine lv_goto (tgt := 20) hx hb dX6_character_16 (by decide) ?_
    obtain ⟨n2, en2⟩ : ∃ z9, z9 = (fX6_fails S 0) := ⟨_, rfl⟩
    try rw [← en2] at hg
    have k9 := (kX6_fails l D cI cC cT h a1 a2 a3 a4 a5 a6 a7 a8 S 0)
    rw [← en2] at k9
    refine fUV (As := [.int 0]) (rest := []) (st' := [.int n2.1]) ⟨hx, hb, hml, hown, hts⟩ k9 (cwV 1 hts gX6_character_X6_fails rfl rfl rfl (by decide +kernel) ⟨Nat.le_of_ble_eq_true rfl, Nat.le_of_ble_eq_true rfl⟩) hP hK hD hS [0, 1, 2, 3, 4, 5, 6, 7, 8] rfl rfl (by decide) rfl (w6 cI cC h a1 a2 a3 a4 a5 a6 a7 a8 n2.2) rfl rfl 0 (ci := 7) rfl rfl rfl rfl hl.1 rfl rfl (Nat.le_of_ble_eq_true rfl) ⟨Nat.zero_le _, Nat.zero_le _⟩ dX6_character_20 (fun H locs hP hD hS => ?_)
    refine lv_if_eq (tgt := 31) hx hb dX6_character_23 (by decide) (fun c_23 => ?_) (fun c_23 => absurd (by rw [en2]; exact fails_0 _) c_23)
    refine lv_aload_n hx hb dX6_character_31 rfl (lv_at hl 0 rfl) ?_
    refine va_get (D := D) (ci := 7) (v := .ref a6) (C := RX6) (T := TX6) (N := 20) hx hb hts q1 hown hK hP 0 rfl rfl 14 (by decide) q2 (fun _ h9 => h9) rfl dX6_character_32 ?_
    refine lv_iload_n hx hb dX6_character_35 rfl (lv_at hl 1 rfl) ?_
    obtain ⟨o1, hg⟩ := hg
    refine va_cald hx hb hK hP 6 1 rfl rfl o1 dX6_character_36 ?_
    obtain ⟨o2, hg⟩ := hg
    have e9 : fX6_character S x1 = ((n2.2.2.2.2.2.2.1 (x1).toNatClampNeg), n2.2) := by rw [fX6_character, if_neg c_12_1, ← en2]
    exact rUi hx hb hr hlk hQ hP hS (by rw [e9]) (congrArg (fun z9 : (Int32 × SV) => (w6 cI cC h a1 a2 a3 a4 a5 a6 a7 a8 z9.2 : va_W)) e9).symm o2 dX6_character_37
def fX6_append (S : SV) (x1 : Int32) : (Int32 × SV) := (if S.2.2.2.2.2.2.2.2.2.2.2.2.2.2.2.1 = 60 then (0, (fX6_fails S 1).2) else (((fX6_fails S 0).2.2.2.2.2.2.2.2.2.2.2.2.2.2.2.2.1 + 1), (sS15 ((fX6_fails S 0).2.2.2.2.2.2.2.2.2.2.2.2.2.2.2.2.1 + 1) (sS4 (upd (fX6_fails S 0).2.2.2.2.2.1 ((fX6_fails S 0).2.2.2.2.2.2.2.2.2.2.2.2.2.2.2.2.1).toNatClampNeg x1) (fX6_fails S 0).2))))
def gX6_append (S : SV) (x1 : Int32) : Prop := (if S.2.2.2.2.2.2.2.2.2.2.2.2.2.2.2.1 = 60 then True else ((vp_in (fX6_fails S 0).2.2.2.2.2.2.2.2.2.2.2.2.2.2.2.2.1 60) ∧ True))
abbrev rmX6_append : Room := { frames := 1, cells := 0, slots := 0, locals := 21 }
set_option maxHeartbeats 4000000 in
set_option maxRecDepth 100000 in
theorem kX6_append (l : Launch) (D : va_G) (cI cC cT : ClassId) (h a1 a2 a3 a4 a5 a6 a7 a8 : Nat) (S : SV) (x1 : Int32) (hg : gX6_append S x1) : mU l D (TY cI cC cT) yX6_append wsX6_append rmX6_append [.ref h, .int x1] (w6 cI cC h a1 a2 a3 a4 a5 a6 a7 a8 S) (some (.int (fX6_append S x1).1)) (w6 cI cC h a1 a2 a3 a4 a5 a6 a7 a8 (fX6_append S x1).2) := by
  refine mU.ofW (cc := cX6_append) (maxL := 2) (ret := (some .int)) (by decide) rfl (Nat.le_of_ble_eq_true rfl) ?_
  intro p e s m args below meth c Q ls A hx hb hml hr hlk hts hown hP hK hD hS hl hQ
  have hown : s.vm.findClass RX6 = some m.cls := hown
  have hP : va_P D vwCl (w6 cI cC h a1 a2 a3 a4 a5 a6 a7 a8 S) s.heap := hP
  have hD : va_D A (w6 cI cC h a1 a2 a3 a4 a5 a6 a7 a8 S) := hD
  have hl : lv_has ls 2 [(0, .ref h), (1, .int x1)] := hl
  have q0 := hts (Cond.fieldLink RX6 180 "TavernStoolsModel" "length" "I") (by decide +kernel)
  have q1 : ∀ w ∈ u_ws RX6 TX6 20, w ∈ wsX6_append := by decide +kernel
  have q2 := hts (Cond.fieldLink RX6 22 "TavernStoolsModel" "input" "[I") (by decide +kernel)
  unfold gX6_append at hg
  generalize hHe : s.heap = H at hP ⊢
  have hS : va_S A s.heap H [] := hHe ▸ hS
  generalize hLe : ([] : List Loc) = locs at hS ⊢
  refine lv_aload_n hx hb dX6_append_0 rfl (lv_at hl 0 rfl) ?_
  refine lv_aload_n hx hb dX6_append_1 rfl (lv_at hl 0 rfl) ?_
  refine va_get (D := D) (ci := 7) (v := .int S.2.2.2.2.2.2.2.2.2.2.2.2.2.2.2.1) (C := RX6) (T := TX6) (N := 20) hx hb hts q1 hown hK hP 0 rfl rfl 12 (by decide) q0 (fun _ h9 => h9) rfl dX6_append_2 ?_
  refine lv_bipush (v := 60) hx hb dX6_append_5 (by decide) ?_
  refine lv_icmp_ne (tgt := 14) hx hb dX6_append_7 (by decide) (fun c_7_1 => ?_) (fun c_7_1 => ?_)
  · rw [if_neg c_7_1] at hg
    refine lv_iconst (v := 0) hx hb dX6_append_14 (by decide) ?_
    obtain ⟨n1, en1⟩ : ∃ z9, z9 = (fX6_fails S 0) := ⟨_, rfl⟩
    try rw [← en1] at hg
    have k9 := (kX6_fails l D cI cC cT h a1 a2 a3 a4 a5 a6 a7 a8 S 0)
    rw [← en1] at k9
    refine fUV (As := [.int 0]) (rest := []) (st' := [.int n1.1]) ⟨hx, hb, hml, hown, hts⟩ k9 (cwV 1 hts gX6_append_X6_fails rfl rfl rfl (by decide +kernel) ⟨Nat.le_of_ble_eq_true rfl, Nat.le_of_ble_eq_true rfl⟩) hP hK hD hS [0, 1, 2, 3, 4, 5, 6, 7, 8] rfl rfl (by decide) rfl (w6 cI cC h a1 a2 a3 a4 a5 a6 a7 a8 n1.2) rfl rfl 0 (ci := 7) rfl rfl rfl rfl hl.1 rfl rfl (Nat.le_of_ble_eq_true rfl) ⟨Nat.zero_le _, Nat.zero_le _⟩ dX6_append_15 (fun H locs hP hD hS => ?_)
    refine lv_if_eq (tgt := 23) hx hb dX6_append_18 (by decide) (fun c_18 => ?_) (fun c_18 => absurd (by rw [en1]; exact fails_0 _) c_18)
    refine lv_aload_n hx hb dX6_append_23 rfl (lv_at hl 0 rfl) ?_
    refine va_get (D := D) (ci := 7) (v := .ref a5) (C := RX6) (T := TX6) (N := 20) hx hb hts q1 hown hK hP 0 rfl rfl 11 (by decide) q2 (fun _ h9 => h9) rfl dX6_append_24 ?_
    refine lv_aload_n hx hb dX6_append_27 rfl (lv_at hl 0 rfl) ?_
    refine va_get (D := D) (ci := 7) (v := .int n1.2.2.2.2.2.2.2.2.2.2.2.2.2.2.2.2.1) (C := RX6) (T := TX6) (N := 20) hx hb hts q1 hown hK hP 0 rfl rfl 12 (by decide) q0 (fun _ h9 => h9) rfl dX6_append_28 ?_
    refine lv_iload_n hx hb dX6_append_31 rfl (lv_at hl 1 rfl) ?_
    obtain ⟨o1, hg⟩ := hg
    refine va_iast hx hb hK hP hD hS 5 0 rfl rfl o1 dX6_append_32 (fun H locs hP hD hS => ?_)
    have hP : va_P D vwCl (w6 cI cC h a1 a2 a3 a4 a5 a6 a7 a8 (sS4 (upd n1.2.2.2.2.2.1 (n1.2.2.2.2.2.2.2.2.2.2.2.2.2.2.2.2.1).toNatClampNeg x1) n1.2)) H := w6p_4 hP
    have hD : va_D A (w6 cI cC h a1 a2 a3 a4 a5 a6 a7 a8 (sS4 (upd n1.2.2.2.2.2.1 (n1.2.2.2.2.2.2.2.2.2.2.2.2.2.2.2.2.1).toNatClampNeg x1) n1.2)) := w6d_4 hD
    refine lv_aload_n hx hb dX6_append_33 rfl (lv_at hl 0 rfl) ?_
    refine lv_dup hx hb dX6_append_34 rfl ?_
    refine va_get (D := D) (ci := 7) (v := .int n1.2.2.2.2.2.2.2.2.2.2.2.2.2.2.2.2.1) (C := RX6) (T := TX6) (N := 20) hx hb hts q1 hown hK hP 0 rfl rfl 12 (by decide) q0 (fun _ h9 => h9) rfl dX6_append_35 ?_
    refine lv_iconst (v := 1) hx hb dX6_append_38 (by decide) ?_
    refine lv_iadd hx hb dX6_append_39 ?_
    refine va_put (D := D) (ci := 7) (v := .int (n1.2.2.2.2.2.2.2.2.2.2.2.2.2.2.2.2.1 + 1)) (ty := .int) (C := RX6) (T := TX6) (N := 20) hx hb hts q1 tyX6 tyX6_ok nmX6 hown hK hP hD hS 0 rfl rfl 12 (by decide) q0 (fun _ h9 => h9) rfl (by decide +kernel) rfl rfl (Nat.le_of_ble_eq_true rfl) dX6_append_40 (fun H locs hP hD hS => ?_)
    have hP : va_P D vwCl (w6 cI cC h a1 a2 a3 a4 a5 a6 a7 a8 (sS15 (n1.2.2.2.2.2.2.2.2.2.2.2.2.2.2.2.2.1 + 1) (sS4 (upd n1.2.2.2.2.2.1 (n1.2.2.2.2.2.2.2.2.2.2.2.2.2.2.2.2.1).toNatClampNeg x1) n1.2))) H := w6p_15 hP
    have hD : va_D A (w6 cI cC h a1 a2 a3 a4 a5 a6 a7 a8 (sS15 (n1.2.2.2.2.2.2.2.2.2.2.2.2.2.2.2.2.1 + 1) (sS4 (upd n1.2.2.2.2.2.1 (n1.2.2.2.2.2.2.2.2.2.2.2.2.2.2.2.2.1).toNatClampNeg x1) n1.2))) := w6d_15 hD
    refine lv_aload_n hx hb dX6_append_43 rfl (lv_at hl 0 rfl) ?_
    refine va_get (D := D) (ci := 7) (v := .int (n1.2.2.2.2.2.2.2.2.2.2.2.2.2.2.2.2.1 + 1)) (C := RX6) (T := TX6) (N := 20) hx hb hts q1 hown hK hP 0 rfl rfl 12 (by decide) q0 (fun _ h9 => h9) rfl dX6_append_44 ?_
    have e9 : fX6_append S x1 = ((n1.2.2.2.2.2.2.2.2.2.2.2.2.2.2.2.2.1 + 1), (sS15 (n1.2.2.2.2.2.2.2.2.2.2.2.2.2.2.2.2.1 + 1) (sS4 (upd n1.2.2.2.2.2.1 (n1.2.2.2.2.2.2.2.2.2.2.2.2.2.2.2.2.1).toNatClampNeg x1) n1.2))) := by rw [fX6_append, if_neg c_7_1, ← en1]
    exact rUi hx hb hr hlk hQ hP hS (by rw [e9]) (congrArg (fun z9 : (Int32 × SV) => (w6 cI cC h a1 a2 a3 a4 a5 a6 a7 a8 z9.2 : va_W)) e9).symm rfl dX6_append_47
  · rw [if_pos c_7_1] at hg
    refine lv_iconst (v := 1) hx hb dX6_append_10 (by decide) ?_
    refine lv_goto (tgt := 15) hx hb dX6_append_11 (by decide) ?_
    obtain ⟨n2, en2⟩ : ∃ z9, z9 = (fX6_fails S 1) := ⟨_, rfl⟩
    try rw [← en2] at hg
    have k9 := (kX6_fails l D cI cC cT h a1 a2 a3 a4 a5 a6 a7 a8 S 1)
    rw [← en2] at k9
    refine fUV (As := [.int 1]) (rest := []) (st' := [.int n2.1]) ⟨hx, hb, hml, hown, hts⟩ k9 (cwV 1 hts gX6_append_X6_fails rfl rfl rfl (by decide +kernel) ⟨Nat.le_of_ble_eq_true rfl, Nat.le_of_ble_eq_true rfl⟩) hP hK hD hS [0, 1, 2, 3, 4, 5, 6, 7, 8] rfl rfl (by decide) rfl (w6 cI cC h a1 a2 a3 a4 a5 a6 a7 a8 n2.2) rfl rfl 0 (ci := 7) rfl rfl rfl rfl hl.1 rfl rfl (Nat.le_of_ble_eq_true rfl) ⟨Nat.zero_le _, Nat.zero_le _⟩ dX6_append_15 (fun H locs hP hD hS => ?_)
    refine lv_if_eq (tgt := 23) hx hb dX6_append_18 (by decide) (fun c_18 => absurd c_18 (by rw [en2, fails_1]; decide)) (fun c_18 => ?_)
    refine lv_iconst (v := 0) hx hb dX6_append_21 (by decide) ?_
    have e9 : fX6_append S x1 = (0, n2.2) := by rw [fX6_append, if_pos c_7_1, ← en2]
    exact rUi hx hb hr hlk hQ hP hS (by rw [e9]) (congrArg (fun z9 : (Int32 × SV) => (w6 cI cC h a1 a2 a3 a4 a5 a6 a7 a8 z9.2 : va_W)) e9).symm rfl dX6_append_22
def fX6_here (S : SV)  : Int32 := (if S.2.2.2.2.2.2.2.2.2.2.2.2.2.2.2.1 ≤ S.2.2.2.2.2.2.2.2.2.2.2.2.2.2.2.2.2.2.1 then (-1) else (S.2.2.2.2.1 (S.2.2.2.2.2.2.2.2.2.2.2.2.2.2.2.2.2.2.1).toNatClampNeg))
def gX6_here (S : SV)  : Prop := (if S.2.2.2.2.2.2.2.2.2.2.2.2.2.2.2.1 ≤ S.2.2.2.2.2.2.2.2.2.2.2.2.2.2.2.2.2.2.1 then True else ((vp_in S.2.2.2.2.2.2.2.2.2.2.2.2.2.2.2.2.2.2.1 60) ∧ True))
abbrev rmX6_here : Room := { frames := 0, cells := 0, slots := 0, locals := 0 }
set_option maxHeartbeats 4000000 in
set_option maxRecDepth 100000 in
theorem kX6_here (l : Launch) (D : va_G) (cI cC cT : ClassId) (h a1 a2 a3 a4 a5 a6 a7 a8 : Nat) (S : SV)  (hg : gX6_here S) : mR l D (TY cI cC cT) yX6_here wsX6_here rmX6_here [.ref h] (w6 cI cC h a1 a2 a3 a4 a5 a6 a7 a8 S) (some (.int (fX6_here S))) := by
  refine mR.ofW (cc := cX6_here) (maxL := 1) (ret := (some .int)) (by decide) rfl (Nat.le_of_ble_eq_true rfl) ?_
  intro p e s m args below meth c Q ls hx hb hml hr hlk hts hown hP hK hl hQ
  have hown : s.vm.findClass RX6 = some m.cls := hown
  have hP : va_P D vwCl (w6 cI cC h a1 a2 a3 a4 a5 a6 a7 a8 S) s.heap := hP
  have hl : lv_has ls 1 [(0, .ref h)] := hl
  have q0 := hts (Cond.fieldLink RX6 183 "TavernStoolsModel" "at" "I") (by decide +kernel)
  have q1 : ∀ w ∈ u_ws RX6 TX6 20, w ∈ wsX6_here := by decide +kernel
  have q2 := hts (Cond.fieldLink RX6 180 "TavernStoolsModel" "length" "I") (by decide +kernel)
  have q3 := hts (Cond.fieldLink RX6 22 "TavernStoolsModel" "input" "[I") (by decide +kernel)
  unfold gX6_here at hg
  refine lv_aload_n hx hb dX6_here_0 rfl (lv_at hl 0 rfl) ?_
  refine va_get (D := D) (ci := 7) (v := .int S.2.2.2.2.2.2.2.2.2.2.2.2.2.2.2.2.2.2.1) (C := RX6) (T := TX6) (N := 20) hx hb hts q1 hown hK hP 0 rfl rfl 17 (by decide) q0 (fun _ h9 => h9) rfl dX6_here_1 ?_
  refine lv_aload_n hx hb dX6_here_4 rfl (lv_at hl 0 rfl) ?_
  refine va_get (D := D) (ci := 7) (v := .int S.2.2.2.2.2.2.2.2.2.2.2.2.2.2.2.1) (C := RX6) (T := TX6) (N := 20) hx hb hts q1 hown hK hP 0 rfl rfl 12 (by decide) q2 (fun _ h9 => h9) rfl dX6_here_5 ?_
  refine lv_icmp_ge (tgt := 23) hx hb dX6_here_8 (by decide) (fun c_8_1 => ?_) (fun c_8_1 => ?_)
  · rw [if_pos c_8_1] at hg
    refine lv_iconst (v := (-1)) hx hb dX6_here_23 (by decide) ?_
    exact rRi hx hb hr hlk hQ (by rw [fX6_here, if_pos c_8_1]) rfl dX6_here_24
  · rw [if_neg c_8_1] at hg
    refine lv_aload_n hx hb dX6_here_11 rfl (lv_at hl 0 rfl) ?_
    refine va_get (D := D) (ci := 7) (v := .ref a5) (C := RX6) (T := TX6) (N := 20) hx hb hts q1 hown hK hP 0 rfl rfl 11 (by decide) q3 (fun _ h9 => h9) rfl dX6_here_12 ?_
    refine lv_aload_n hx hb dX6_here_15 rfl (lv_at hl 0 rfl) ?_
    refine va_get (D := D) (ci := 7) (v := .int S.2.2.2.2.2.2.2.2.2.2.2.2.2.2.2.2.2.2.1) (C := RX6) (T := TX6) (N := 20) hx hb hts q1 hown hK hP 0 rfl rfl 17 (by decide) q0 (fun _ h9 => h9) rfl dX6_here_16 ?_
    obtain ⟨o1, hg⟩ := hg
    refine va_iald hx hb hK hP 5 0 rfl rfl o1 dX6_here_19 ?_
    refine lv_goto (tgt := 24) hx hb dX6_here_20 (by decide) ?_
    exact rRi hx hb hr hlk hQ (by rw [fX6_here, if_neg c_8_1]) rfl dX6_here_24
def fX6_skips (S : SV) (x1 : Int32) : (Int32 × SV) := (if (fX6_here S) = x1 then (1, (sS18 (S.2.2.2.2.2.2.2.2.2.2.2.2.2.2.2.2.2.2.1 + 1) S)) else (0, S))
def gX6_skips (S : SV) (x1 : Int32) : Prop := ((gX6_here S) ∧ True)
abbrev rmX6_skips : Room := { frames := 1, cells := 0, slots := 0, locals := 20 }
set_option maxHeartbeats 4000000 in
set_option maxRecDepth 100000 in
theorem kX6_skips (l : Launch) (D : va_G) (cI cC cT : ClassId) (h a1 a2 a3 a4 a5 a6 a7 a8 : Nat) (S : SV) (x1 : Int32) (hg : gX6_skips S x1) : mU l D (TY cI cC cT) yX6_skips wsX6_skips rmX6_skips [.ref h, .int x1] (w6 cI cC h a1 a2 a3 a4 a5 a6 a7 a8 S) (some (.int (fX6_skips S x1).1)) (w6 cI cC h a1 a2 a3 a4 a5 a6 a7 a8 (fX6_skips S x1).2) := by
  refine mU.ofW (cc := cX6_skips) (maxL := 2) (ret := (some .boolean)) (by decide) rfl (Nat.le_of_ble_eq_true rfl) ?_
  intro p e s m args below meth c Q ls A hx hb hml hr hlk hts hown hP hK hD hS hl hQ
  have hown : s.vm.findClass RX6 = some m.cls := hown
  have hP : va_P D vwCl (w6 cI cC h a1 a2 a3 a4 a5 a6 a7 a8 S) s.heap := hP
  have hD : va_D A (w6 cI cC h a1 a2 a3 a4 a5 a6 a7 a8 S) := hD
  have hl : lv_has ls 2 [(0, .ref h), (1, .int x1)] := hl
  have q0 := hts (Cond.fieldLink RX6 183 "TavernStoolsModel" "at" "I") (by decide +kernel)
  have q1 : ∀ w ∈ u_ws RX6 TX6 20, w ∈ wsX6_skips := by decide +kernel
  unfold gX6_skips at hg
  generalize hHe : s.heap = H at hP ⊢
  have hS : va_S A s.heap H [] := hHe ▸ hS
  generalize hLe : ([] : List Loc) = locs at hS ⊢
  refine lv_aload_n hx hb dX6_skips_0 rfl (lv_at hl 0 rfl) ?_
  obtain ⟨o1, hg⟩ := hg
  refine fRV (As := []) (rest := []) (st' := [.int (fX6_here S)]) ⟨hx, hb, hml, hown, hts⟩ (kX6_here l D cI cC cT h a1 a2 a3 a4 a5 a6 a7 a8 S o1) (cwV 0 hts gX6_skips_X6_here rfl rfl rfl (by decide +kernel) ⟨Nat.le_of_ble_eq_true rfl, Nat.le_of_ble_eq_true rfl⟩) hP hK [0, 1, 2, 3, 4, 5, 6, 7, 8] rfl 0 (ci := 7) rfl rfl rfl rfl hl.1 rfl rfl (Nat.le_of_ble_eq_true rfl) ⟨Nat.zero_le _, Nat.zero_le _⟩ dX6_skips_1 ?_
  refine lv_iload_n hx hb dX6_skips_4 rfl (lv_at hl 1 rfl) ?_
  refine lv_icmp_eq (tgt := 10) hx hb dX6_skips_5 (by decide) (fun c_5_1 => ?_) (fun c_5_1 => ?_)
  · refine lv_aload_n hx hb dX6_skips_10 rfl (lv_at hl 0 rfl) ?_
    refine lv_dup hx hb dX6_skips_11 rfl ?_
    refine va_get (D := D) (ci := 7) (v := .int S.2.2.2.2.2.2.2.2.2.2.2.2.2.2.2.2.2.2.1) (C := RX6) (T := TX6) (N := 20) hx hb hts q1 hown hK hP 0 rfl rfl 17 (by decide) q0 (fun _ h9 => h9) rfl dX6_skips_12 ?_
    refine lv_iconst (v := 1) hx hb dX6_skips_15 (by decide) ?_
    refine lv_iadd hx hb dX6_skips_16 ?_
    refine va_put (D := D) (ci := 7) (v := .int (S.2.2.2.2.2.2.2.2.2.2.2.2.2.2.2.2.2.2.1 + 1)) (ty := .int) (C := RX6) (T := TX6) (N := 20) hx hb hts q1 tyX6 tyX6_ok nmX6 hown hK hP hD hS 0 rfl rfl 17 (by decide) q0 (fun _ h9 => h9) rfl (by decide +kernel) rfl rfl (Nat.le_of_ble_eq_true rfl) dX6_skips_17 (fun H locs hP hD hS => ?_)
    have hP : va_P D vwCl (w6 cI cC h a1 a2 a3 a4 a5 a6 a7 a8 (sS18 (S.2.2.2.2.2.2.2.2.2.2.2.2.2.2.2.2.2.2.1 + 1) S)) H := w6p_18 hP
    have hD : va_D A (w6 cI cC h a1 a2 a3 a4 a5 a6 a7 a8 (sS18 (S.2.2.2.2.2.2.2.2.2.2.2.2.2.2.2.2.2.2.1 + 1) S)) := w6d_18 hD
    refine lv_iconst (v := 1) hx hb dX6_skips_20 (by decide) ?_
    have e9 : fX6_skips S x1 = (1, (sS18 (S.2.2.2.2.2.2.2.2.2.2.2.2.2.2.2.2.2.2.1 + 1) S)) := by rw [fX6_skips, if_pos c_5_1]
    exact rUi hx hb hr hlk hQ hP hS (by rw [e9]) (congrArg (fun z9 : (Int32 × SV) => (w6 cI cC h a1 a2 a3 a4 a5 a6 a7 a8 z9.2 : va_W)) e9).symm rfl dX6_skips_21
  · refine lv_iconst (v := 0) hx hb dX6_skips_8 (by decide) ?_
    have e9 : fX6_skips S x1 = (0, S) := by rw [fX6_skips, if_neg c_5_1]
    exact rUi hx hb hr hlk hQ hP hS (by rw [e9]) (congrArg (fun z9 : (Int32 × SV) => (w6 cI cC h a1 a2 a3 a4 a5 a6 a7 a8 z9.2 : va_W)) e9).symm rfl dX6_skips_9
theorem zX6_skips (S : SV) (x1 : Int32) : (fX6_skips S x1).1 = 0 ∨ (fX6_skips S x1).1 = 1 := by
  unfold fX6_skips
  repeat' split
  all_goals first | exact Or.inl rfl | exact Or.inr rfl
def lX6_figures_25 (x1 : Int32) (x2 : Int32) (v : (SV × Int32)) : (SV × Int32) ⊕ ((SV × Int32)) := (if x2 ≤ v.2 then (.inr (v.1, v.2)) else (if (fX6_in (fX6_here v.1) 48 57) = 0 then (.inr (v.1, v.2)) else (.inl ((sS18 (v.1.2.2.2.2.2.2.2.2.2.2.2.2.2.2.2.2.2.2.1 + 1) (sS7 (upd v.1.2.2.2.2.2.2.2.1 (x1).toNatClampNeg (((10 * (v.1.2.2.2.2.2.2.2.1 (x1).toNatClampNeg)) + (fX6_here v.1)) - 48)) v.1)), (v.2 + 1)))))
def glX6_figures_25 (x1 : Int32) (x2 : Int32) (v : (SV × Int32)) : Prop := (if x2 ≤ v.2 then True else ((gX6_here v.1) ∧ (if (fX6_in (fX6_here v.1) 48 57) = 0 then True else ((vp_in x1 155) ∧ (gX6_here v.1) ∧ (vp_in x1 155) ∧ True))))
def fX6_figures (S : SV) (x1 : Int32) (x2 : Int32) : (Int32 × SV) := (if (fX6_in (fX6_here S) 48 57) = 0 then (0, S) else (1, (itv ((sS7 (upd S.2.2.2.2.2.2.2.1 (x1).toNatClampNeg 0) S), 0) (lX6_figures_25 x1 x2) ((fun v : (SV × Int32) => (x2.toInt - v.2.toInt).toNat) ((sS7 (upd S.2.2.2.2.2.2.2.1 (x1).toNatClampNeg 0) S), 0) + 1) ((sS7 (upd S.2.2.2.2.2.2.2.1 (x1).toNatClampNeg 0) S), 0)).1))
def gX6_figures (S : SV) (x1 : Int32) (x2 : Int32) : Prop := ((gX6_here S) ∧ (if (fX6_in (fX6_here S) 48 57) = 0 then True else ((vp_in x1 155) ∧ (∃ r9 : (SV × Int32), lrun (lX6_figures_25 x1 x2) (glX6_figures_25 x1 x2) ((fun v : (SV × Int32) => (x2.toInt - v.2.toInt).toNat) ((sS7 (upd S.2.2.2.2.2.2.2.1 (x1).toNatClampNeg 0) S), 0) + 1) ((sS7 (upd S.2.2.2.2.2.2.2.1 (x1).toNatClampNeg 0) S), 0) r9) ∧ True)))
abbrev rmX6_figures : Room := { frames := 1, cells := 0, slots := 0, locals := 22 }
set_option maxHeartbeats 4000000 in
set_option maxRecDepth 100000 in
theorem kX6_figures (l : Launch) (D : va_G) (cI cC cT : ClassId) (h a1 a2 a3 a4 a5 a6 a7 a8 : Nat) (S : SV) (x1 : Int32) (x2 : Int32) (hg : gX6_figures S x1 x2) : mU l D (TY cI cC cT) yX6_figures wsX6_figures rmX6_figures [.ref h, .int x1, .int x2] (w6 cI cC h a1 a2 a3 a4 a5 a6 a7 a8 S) (some (.int (fX6_figures S x1 x2).1)) (w6 cI cC h a1 a2 a3 a4 a5 a6 a7 a8 (fX6_figures S x1 x2).2) := by
  refine mU.ofW (cc := cX6_figures) (maxL := 4) (ret := (some .boolean)) (by decide) rfl (Nat.le_of_ble_eq_true rfl) ?_
  intro p e s m args below meth c Q ls A hx hb hml hr hlk hts hown hP hK hD hS hl hQ
  have hown : s.vm.findClass RX6 = some m.cls := hown
  have hP : va_P D vwCl (w6 cI cC h a1 a2 a3 a4 a5 a6 a7 a8 S) s.heap := hP
  have hD : va_D A (w6 cI cC h a1 a2 a3 a4 a5 a6 a7 a8 S) := hD
  have hl : lv_has ls 4 [(0, .ref h), (1, .int x1), (2, .int x2)] := hl
  have q0 := hts (Cond.fieldLink RX6 36 "TavernStoolsModel" "told" "[I") (by decide +kernel)
  have q1 : ∀ w ∈ u_ws RX6 TX6 20, w ∈ wsX6_figures := by decide +kernel
  have q2 := hts (Cond.fieldLink RX6 183 "TavernStoolsModel" "at" "I") (by decide +kernel)
  unfold gX6_figures at hg
  generalize hHe : s.heap = H at hP ⊢
  have hS : va_S A s.heap H [] := hHe ▸ hS
  generalize hLe : ([] : List Loc) = locs at hS ⊢
  refine lv_aload_n hx hb dX6_figures_0 rfl (lv_at hl 0 rfl) ?_
  obtain ⟨o1, hg⟩ := hg
  refine fRV (As := []) (rest := []) (st' := [.int (fX6_here S)]) ⟨hx, hb, hml, hown, hts⟩ (kX6_here l D cI cC cT h a1 a2 a3 a4 a5 a6 a7 a8 S o1) (cwV 0 hts gX6_figures_X6_here rfl rfl rfl (by decide +kernel) ⟨Nat.le_of_ble_eq_true rfl, Nat.le_of_ble_eq_true rfl⟩) hP hK [0, 1, 2, 3, 4, 5, 6, 7, 8] rfl 0 (ci := 7) rfl rfl rfl rfl hl.1 rfl rfl (Nat.le_of_ble_eq_true rfl) ⟨Nat.zero_le _, Nat.zero_le _⟩ dX6_figures_1 ?_
  refine lv_bipush (v := 48) hx hb dX6_figures_4 (by decide) ?_
  refine lv_bipush (v := 57) hx hb dX6_figures_6 (by decide) ?_
  refine fRS (As := [.int (fX6_here S), .int 48, .int 57]) (rest := []) (st' := [.int (fX6_in (fX6_here S) 48 57)]) ⟨hx, hb, hml, hown, hts⟩ (kX6_in l D cI cC cT (fX6_here S) 48 57) (va_cwS 3 hts gX6_figures_X6_in rfl rfl rfl (by decide +kernel) ⟨Nat.le_of_ble_eq_true rfl, Nat.le_of_ble_eq_true rfl⟩) hP hK [] rfl rfl hl.1 rfl rfl (Nat.le_of_ble_eq_true rfl) ⟨Nat.zero_le _, Nat.zero_le _⟩ dX6_figures_8 ?_
  refine lv_if_ne (tgt := 16) hx hb dX6_figures_11 (by decide) (fun c_11_1 => ?_) (fun c_11_1 => ?_)
  · rw [if_neg c_11_1] at hg
    refine lv_aload_n hx hb dX6_figures_16 rfl (lv_at hl 0 rfl) ?_
    refine va_get (D := D) (ci := 7) (v := .ref a8) (C := RX6) (T := TX6) (N := 20) hx hb hts q1 hown hK hP 0 rfl rfl 18 (by decide) q0 (fun _ h9 => h9) rfl dX6_figures_17 ?_
    refine lv_iload_n hx hb dX6_figures_20 rfl (lv_at hl 1 rfl) ?_
    refine lv_iconst (v := 0) hx hb dX6_figures_21 (by decide) ?_
    obtain ⟨o2, hg⟩ := hg
    refine va_iast hx hb hK hP hD hS 8 0 rfl rfl o2 dX6_figures_22 (fun H locs hP hD hS => ?_)
    have hP : va_P D vwCl (w6 cI cC h a1 a2 a3 a4 a5 a6 a7 a8 (sS7 (upd S.2.2.2.2.2.2.2.1 (x1).toNatClampNeg 0) S)) H := w6p_7 hP
    have hD : va_D A (w6 cI cC h a1 a2 a3 a4 a5 a6 a7 a8 (sS7 (upd S.2.2.2.2.2.2.2.1 (x1).toNatClampNeg 0) S)) := w6d_7 hD
    refine lv_iconst (v := 0) hx hb dX6_figures_23 (by decide) ?_
    refine lv_istore_n (lv' := [(3, .int 0), (0, .ref h), (1, .int x1), (2, .int x2)]) hx hb dX6_figures_24 rfl hl (by decide) rfl (fun ls hl => ?_)
    obtain ⟨n1, en1⟩ : ∃ z9, z9 = (itv ((sS7 (upd S.2.2.2.2.2.2.2.1 (x1).toNatClampNeg 0) S), 0) (lX6_figures_25 x1 x2) ((fun v : (SV × Int32) => (x2.toInt - v.2.toInt).toNat) ((sS7 (upd S.2.2.2.2.2.2.2.1 (x1).toNatClampNeg 0) S), 0) + 1) ((sS7 (upd S.2.2.2.2.2.2.2.1 (x1).toNatClampNeg 0) S), 0)) := ⟨_, rfl⟩
    try rw [← en1] at hg
    obtain ⟨o7, hg⟩ := hg
    have L9 := lrun_val (d := ((sS7 (upd S.2.2.2.2.2.2.2.1 (x1).toNatClampNeg 0) S), 0)) o7
    rw [← en1] at L9
    refine loopWs (lX6_figures_25 x1 x2) (glX6_figures_25 x1 x2) (fun v : (SV × Int32) => ∀ (H : Heap) (locs : List Loc) ls, va_P D vwCl (w6 cI cC h a1 a2 a3 a4 a5 a6 a7 a8 v.1) H → va_D A (w6 cI cC h a1 a2 a3 a4 a5 a6 a7 a8 v.1) → va_S A s.heap H locs → lv_has ls 4 [(0, .ref h), (1, .int x1), (2, .int x2), (3, .int v.2)] → W p l e rmX6_figures s m args below meth c H locs 0 0 Q (F0 m 25 ls [])) (fun r9 : (SV × Int32) => ∀ (H : Heap) (locs : List Loc) ls, va_P D vwCl (w6 cI cC h a1 a2 a3 a4 a5 a6 a7 a8 r9.1) H → va_D A (w6 cI cC h a1 a2 a3 a4 a5 a6 a7 a8 r9.1) → va_S A s.heap H locs → lv_has ls 4 [(0, .ref h), (1, .int x1), (2, .int x2), (3, .int r9.2)] → W p l e rmX6_figures s m args below meth c H locs 0 0 Q (F0 m 83 ls [])) ?_ _ ((sS7 (upd S.2.2.2.2.2.2.2.1 (x1).toNatClampNeg 0) S), 0) n1 L9 ?_ _ _ ls hP hD hS (lv_sub hl [1, 2, 3, 0] rfl)
    · intro v hg kb kx H locs ls hP hD hS hl
      unfold glX6_figures_25 at hg
      refine lv_iload_n hx hb dX6_figures_25 rfl (lv_at hl 3 rfl) ?_
      refine lv_iload_n hx hb dX6_figures_26 rfl (lv_at hl 2 rfl) ?_
      refine lv_icmp_ge (tgt := 83) hx hb dX6_figures_27 (by decide) (fun c_27_2 => ?_) (fun c_27_2 => ?_)
      · rw [if_pos c_27_2] at hg
        exact kx (v.1, v.2) (by rw [lX6_figures_25, if_pos c_27_2]) H locs ls hP hD hS (lv_sub hl [0, 1, 2, 3] rfl)
      · rw [if_neg c_27_2] at hg
        refine lv_aload_n hx hb dX6_figures_30 rfl (lv_at hl 0 rfl) ?_
        obtain ⟨o3, hg⟩ := hg
        refine fRV (As := []) (rest := []) (st' := [.int (fX6_here v.1)]) ⟨hx, hb, hml, hown, hts⟩ (kX6_here l D cI cC cT h a1 a2 a3 a4 a5 a6 a7 a8 v.1 o3) (cwV 0 hts gX6_figures_X6_here rfl rfl rfl (by decide +kernel) ⟨Nat.le_of_ble_eq_true rfl, Nat.le_of_ble_eq_true rfl⟩) hP hK [0, 1, 2, 3, 4, 5, 6, 7, 8] rfl 0 (ci := 7) rfl rfl rfl rfl hl.1 rfl rfl (Nat.le_of_ble_eq_true rfl) ⟨Nat.zero_le _, Nat.zero_le _⟩ dX6_figures_31 ?_
        refine lv_bipush (v := 48) hx hb dX6_figures_34 (by decide) ?_
        refine lv_bipush (v := 57) hx hb dX6_figures_36 (by decide) ?_
        refine fRS (As := [.int (fX6_here v.1), .int 48, .int 57]) (rest := []) (st' := [.int (fX6_in (fX6_here v.1) 48 57)]) ⟨hx, hb, hml, hown, hts⟩ (kX6_in l D cI cC cT (fX6_here v.1) 48 57) (va_cwS 3 hts gX6_figures_X6_in rfl rfl rfl (by decide +kernel) ⟨Nat.le_of_ble_eq_true rfl, Nat.le_of_ble_eq_true rfl⟩) hP hK [] rfl rfl hl.1 rfl rfl (Nat.le_of_ble_eq_true rfl) ⟨Nat.zero_le _, Nat.zero_le _⟩ dX6_figures_38 ?_
        refine lv_if_eq (tgt := 83) hx hb dX6_figures_41 (by decide) (fun c_41_3 => ?_) (fun c_41_3 => ?_)
        · rw [if_pos c_41_3] at hg
          exact kx (v.1, v.2) (by rw [lX6_figures_25, if_neg c_27_2, if_pos c_41_3]) H locs ls hP hD hS (lv_sub hl [0, 1, 2, 3] rfl)
        · rw [if_neg c_41_3] at hg
          refine lv_aload_n hx hb dX6_figures_44 rfl (lv_at hl 0 rfl) ?_
          refine va_get (D := D) (ci := 7) (v := .ref a8) (C := RX6) (T := TX6) (N := 20) hx hb hts q1 hown hK hP 0 rfl rfl 18 (by decide) q0 (fun _ h9 => h9) rfl dX6_figures_45 ?_
          refine lv_iload_n hx hb dX6_figures_48 rfl (lv_at hl 1 rfl) ?_
          refine lv_bipush (v := 10) hx hb dX6_figures_49 (by decide) ?_
          refine lv_aload_n hx hb dX6_figures_51 rfl (lv_at hl 0 rfl) ?_
          refine va_get (D := D) (ci := 7) (v := .ref a8) (C := RX6) (T := TX6) (N := 20) hx hb hts q1 hown hK hP 0 rfl rfl 18 (by decide) q0 (fun _ h9 => h9) rfl dX6_figures_52 ?_
          refine lv_iload_n hx hb dX6_figures_55 rfl (lv_at hl 1 rfl) ?_
          obtain ⟨o4, hg⟩ := hg
          refine va_iald hx hb hK hP 8 0 rfl rfl o4 dX6_figures_56 ?_
          refine lv_imul hx hb dX6_figures_57 ?_
          refine lv_aload_n hx hb dX6_figures_58 rfl (lv_at hl 0 rfl) ?_
          obtain ⟨o5, hg⟩ := hg
          refine fRV (As := []) (rest := [.int (10 * (v.1.2.2.2.2.2.2.2.1 (x1).toNatClampNeg)), .int x1, .ref a8]) (st' := [.int (fX6_here v.1), .int (10 * (v.1.2.2.2.2.2.2.2.1 (x1).toNatClampNeg)), .int x1, .ref a8]) ⟨hx, hb, hml, hown, hts⟩ (kX6_here l D cI cC cT h a1 a2 a3 a4 a5 a6 a7 a8 v.1 o5) (cwV 0 hts gX6_figures_X6_here rfl rfl rfl (by decide +kernel) ⟨Nat.le_of_ble_eq_true rfl, Nat.le_of_ble_eq_true rfl⟩) hP hK [0, 1, 2, 3, 4, 5, 6, 7, 8] rfl 0 (ci := 7) rfl rfl rfl rfl hl.1 rfl rfl (Nat.le_of_ble_eq_true rfl) ⟨Nat.zero_le _, Nat.zero_le _⟩ dX6_figures_59 ?_
          refine lv_iadd hx hb dX6_figures_62 ?_
          refine lv_bipush (v := 48) hx hb dX6_figures_63 (by decide) ?_
          refine lv_isub hx hb dX6_figures_65 ?_
          obtain ⟨o6, hg⟩ := hg
          refine va_iast hx hb hK hP hD hS 8 0 rfl rfl o6 dX6_figures_66 (fun H locs hP hD hS => ?_)
          have hP : va_P D vwCl (w6 cI cC h a1 a2 a3 a4 a5 a6 a7 a8 (sS7 (upd v.1.2.2.2.2.2.2.2.1 (x1).toNatClampNeg (((10 * (v.1.2.2.2.2.2.2.2.1 (x1).toNatClampNeg)) + (fX6_here v.1)) - 48)) v.1)) H := w6p_7 hP
          have hD : va_D A (w6 cI cC h a1 a2 a3 a4 a5 a6 a7 a8 (sS7 (upd v.1.2.2.2.2.2.2.2.1 (x1).toNatClampNeg (((10 * (v.1.2.2.2.2.2.2.2.1 (x1).toNatClampNeg)) + (fX6_here v.1)) - 48)) v.1)) := w6d_7 hD
          refine lv_aload_n hx hb dX6_figures_67 rfl (lv_at hl 0 rfl) ?_
          refine lv_dup hx hb dX6_figures_68 rfl ?_
          refine va_get (D := D) (ci := 7) (v := .int v.1.2.2.2.2.2.2.2.2.2.2.2.2.2.2.2.2.2.2.1) (C := RX6) (T := TX6) (N := 20) hx hb hts q1 hown hK hP 0 rfl rfl 17 (by decide) q2 (fun _ h9 => h9) rfl dX6_figures_69 ?_
          refine lv_iconst (v := 1) hx hb dX6_figures_72 (by decide) ?_
          refine lv_iadd hx hb dX6_figures_73 ?_
          refine va_put (D := D) (ci := 7) (v := .int (v.1.2.2.2.2.2.2.2.2.2.2.2.2.2.2.2.2.2.2.1 + 1)) (ty := .int) (C := RX6) (T := TX6) (N := 20) hx hb hts q1 tyX6 tyX6_ok nmX6 hown hK hP hD hS 0 rfl rfl 17 (by decide) q2 (fun _ h9 => h9) rfl (by decide +kernel) rfl rfl (Nat.le_of_ble_eq_true rfl) dX6_figures_74 (fun H locs hP hD hS => ?_)
          have hP : va_P D vwCl (w6 cI cC h a1 a2 a3 a4 a5 a6 a7 a8 (sS18 (v.1.2.2.2.2.2.2.2.2.2.2.2.2.2.2.2.2.2.2.1 + 1) (sS7 (upd v.1.2.2.2.2.2.2.2.1 (x1).toNatClampNeg (((10 * (v.1.2.2.2.2.2.2.2.1 (x1).toNatClampNeg)) + (fX6_here v.1)) - 48)) v.1))) H := w6p_18 hP
          have hD : va_D A (w6 cI cC h a1 a2 a3 a4 a5 a6 a7 a8 (sS18 (v.1.2.2.2.2.2.2.2.2.2.2.2.2.2.2.2.2.2.2.1 + 1) (sS7 (upd v.1.2.2.2.2.2.2.2.1 (x1).toNatClampNeg (((10 * (v.1.2.2.2.2.2.2.2.1 (x1).toNatClampNeg)) + (fX6_here v.1)) - 48)) v.1))) := w6d_18 hD
          refine lv_iinc (v := (v.2 + 1)) (lv' := [(3, .int (v.2 + 1)), (0, .ref h), (1, .int x1), (2, .int x2)]) hx hb dX6_figures_77 hl (k := 3) rfl rfl (by decide) rfl (fun ls hl => ?_)
          refine lv_goto (tgt := 25) hx hb dX6_figures_80 (by decide) ?_
          exact kb ((sS18 (v.1.2.2.2.2.2.2.2.2.2.2.2.2.2.2.2.2.2.2.1 + 1) (sS7 (upd v.1.2.2.2.2.2.2.2.1 (x1).toNatClampNeg (((10 * (v.1.2.2.2.2.2.2.2.1 (x1).toNatClampNeg)) + (fX6_here v.1)) - 48)) v.1)), (v.2 + 1)) (by rw [lX6_figures_25, if_neg c_27_2, if_neg c_41_3]) H locs ls hP hD hS (lv_sub hl [1, 2, 3, 0] rfl)
    · intro H locs ls hP hD hS hl
      refine lv_iconst (v := 1) hx hb dX6_figures_83 (by decide) ?_
      have e9 : fX6_figures S x1 x2 = (1, n1.1) := by rw [fX6_figures, if_neg c_11_1, ← en1]
      exact rUi hx hb hr hlk hQ hP hS (by rw [e9]) (congrArg (fun z9 : (Int32 × SV) => (w6 cI cC h a1 a2 a3 a4 a5 a6 a7 a8 z9.2 : va_W)) e9).symm rfl dX6_figures_84
  · rw [if_pos c_11_1] at hg
    refine lv_iconst (v := 0) hx hb dX6_figures_14 (by decide) ?_
    have e9 : fX6_figures S x1 x2 = (0, S) := by rw [fX6_figures, if_pos c_11_1]
    exact rUi hx hb hr hlk hQ hP hS (by rw [e9]) (congrArg (fun z9 : (Int32 × SV) => (w6 cI cC h a1 a2 a3 a4 a5 a6 a7 a8 z9.2 : va_W)) e9).symm rfl dX6_figures_15
theorem zX6_figures (S : SV) (x1 : Int32) (x2 : Int32) : (fX6_figures S x1 x2).1 = 0 ∨ (fX6_figures S x1 x2).1 = 1 := by
  unfold fX6_figures
  repeat' split
  all_goals first | exact Or.inl rfl | exact Or.inr rfl | exact zX6_in ..
def fX6_stoolHere (S : SV) (x1 : Int32) : (Int32 × SV) := (if (fX6_figures S (x1 + 1) 2).1 = 0 then (0, (fX6_figures S (x1 + 1) 2).2) else (if (fX6_skips (fX6_figures S (x1 + 1) 2).2 47).1 = 0 then (0, (fX6_skips (fX6_figures S (x1 + 1) 2).2 47).2) else (if (fX6_figures (fX6_skips (fX6_figures S (x1 + 1) 2).2 47).2 (x1 + 2) 1).1 = 0 then (0, (fX6_figures (fX6_skips (fX6_figures S (x1 + 1) 2).2 47).2 (x1 + 2) 1).2) else (if (fX6_figures (fX6_figures (fX6_skips (fX6_figures S (x1 + 1) 2).2 47).2 (x1 + 2) 1).2 (x1 + 3) 1).1 = 0 then (0, (fX6_figures (fX6_figures (fX6_skips (fX6_figures S (x1 + 1) 2).2 47).2 (x1 + 2) 1).2 (x1 + 3) 1).2) else (if (fX6_here (fX6_figures (fX6_figures (fX6_skips (fX6_figures S (x1 + 1) 2).2 47).2 (x1 + 2) 1).2 (x1 + 3) 1).2) = 124 then (if (fX6_skips (sS7 (upd (fX6_figures (fX6_figures (fX6_skips (fX6_figures S (x1 + 1) 2).2 47).2 (x1 + 2) 1).2 (x1 + 3) 1).2.2.2.2.2.2.2.2.1 ((x1 + 4)).toNatClampNeg 1) (fX6_figures (fX6_figures (fX6_skips (fX6_figures S (x1 + 1) 2).2 47).2 (x1 + 2) 1).2 (x1 + 3) 1).2) 124).1 = 0 then (if ((fX6_skips (sS7 (upd (fX6_figures (fX6_figures (fX6_skips (fX6_figures S (x1 + 1) 2).2 47).2 (x1 + 2) 1).2 (x1 + 3) 1).2.2.2.2.2.2.2.2.1 ((x1 + 4)).toNatClampNeg 1) (fX6_figures (fX6_figures (fX6_skips (fX6_figures S (x1 + 1) 2).2 47).2 (x1 + 2) 1).2 (x1 + 3) 1).2) 124).2.2.2.2.2.2.2.2.1 ((x1 + 4)).toNatClampNeg) = 0 then (1, (fX6_skips (sS7 (upd (fX6_figures (fX6_figures (fX6_skips (fX6_figures S (x1 + 1) 2).2 47).2 (x1 + 2) 1).2 (x1 + 3) 1).2.2.2.2.2.2.2.2.1 ((x1 + 4)).toNatClampNeg 1) (fX6_figures (fX6_figures (fX6_skips (fX6_figures S (x1 + 1) 2).2 47).2 (x1 + 2) 1).2 (x1 + 3) 1).2) 124).2) else (0, (fX6_skips (sS7 (upd (fX6_figures (fX6_figures (fX6_skips (fX6_figures S (x1 + 1) 2).2 47).2 (x1 + 2) 1).2 (x1 + 3) 1).2.2.2.2.2.2.2.2.1 ((x1 + 4)).toNatClampNeg 1) (fX6_figures (fX6_figures (fX6_skips (fX6_figures S (x1 + 1) 2).2 47).2 (x1 + 2) 1).2 (x1 + 3) 1).2) 124).2)) else (1, (fX6_skips (sS7 (upd (fX6_figures (fX6_figures (fX6_skips (fX6_figures S (x1 + 1) 2).2 47).2 (x1 + 2) 1).2 (x1 + 3) 1).2.2.2.2.2.2.2.2.1 ((x1 + 4)).toNatClampNeg 1) (fX6_figures (fX6_figures (fX6_skips (fX6_figures S (x1 + 1) 2).2 47).2 (x1 + 2) 1).2 (x1 + 3) 1).2) 124).2)) else (if (fX6_skips (sS7 (upd (fX6_figures (fX6_figures (fX6_skips (fX6_figures S (x1 + 1) 2).2 47).2 (x1 + 2) 1).2 (x1 + 3) 1).2.2.2.2.2.2.2.2.1 ((x1 + 4)).toNatClampNeg 0) (fX6_figures (fX6_figures (fX6_skips (fX6_figures S (x1 + 1) 2).2 47).2 (x1 + 2) 1).2 (x1 + 3) 1).2) 124).1 = 0 then (if ((fX6_skips (sS7 (upd (fX6_figures (fX6_figures (fX6_skips (fX6_figures S (x1 + 1) 2).2 47).2 (x1 + 2) 1).2 (x1 + 3) 1).2.2.2.2.2.2.2.2.1 ((x1 + 4)).toNatClampNeg 0) (fX6_figures (fX6_figures (fX6_skips (fX6_figures S (x1 + 1) 2).2 47).2 (x1 + 2) 1).2 (x1 + 3) 1).2) 124).2.2.2.2.2.2.2.2.1 ((x1 + 4)).toNatClampNeg) = 0 then (1, (fX6_skips (sS7 (upd (fX6_figures (fX6_figures (fX6_skips (fX6_figures S (x1 + 1) 2).2 47).2 (x1 + 2) 1).2 (x1 + 3) 1).2.2.2.2.2.2.2.2.1 ((x1 + 4)).toNatClampNeg 0) (fX6_figures (fX6_figures (fX6_skips (fX6_figures S (x1 + 1) 2).2 47).2 (x1 + 2) 1).2 (x1 + 3) 1).2) 124).2) else (0, (fX6_skips (sS7 (upd (fX6_figures (fX6_figures (fX6_skips (fX6_figures S (x1 + 1) 2).2 47).2 (x1 + 2) 1).2 (x1 + 3) 1).2.2.2.2.2.2.2.2.1 ((x1 + 4)).toNatClampNeg 0) (fX6_figures (fX6_figures (fX6_skips (fX6_figures S (x1 + 1) 2).2 47).2 (x1 + 2) 1).2 (x1 + 3) 1).2) 124).2)) else (1, (fX6_skips (sS7 (upd (fX6_figures (fX6_figures (fX6_skips (fX6_figures S (x1 + 1) 2).2 47).2 (x1 + 2) 1).2 (x1 + 3) 1).2.2.2.2.2.2.2.2.1 ((x1 + 4)).toNatClampNeg 0) (fX6_figures (fX6_figures (fX6_skips (fX6_figures S (x1 + 1) 2).2 47).2 (x1 + 2) 1).2 (x1 + 3) 1).2) 124).2)))))))
def gX6_stoolHere (S : SV) (x1 : Int32) : Prop := ((gX6_figures S (x1 + 1) 2) ∧ (if (fX6_figures S (x1 + 1) 2).1 = 0 then True else ((gX6_skips (fX6_figures S (x1 + 1) 2).2 47) ∧ (if (fX6_skips (fX6_figures S (x1 + 1) 2).2 47).1 = 0 then True else ((gX6_figures (fX6_skips (fX6_figures S (x1 + 1) 2).2 47).2 (x1 + 2) 1) ∧ (if (fX6_figures (fX6_skips (fX6_figures S (x1 + 1) 2).2 47).2 (x1 + 2) 1).1 = 0 then True else ((gX6_figures (fX6_figures (fX6_skips (fX6_figures S (x1 + 1) 2).2 47).2 (x1 + 2) 1).2 (x1 + 3) 1) ∧ (if (fX6_figures (fX6_figures (fX6_skips (fX6_figures S (x1 + 1) 2).2 47).2 (x1 + 2) 1).2 (x1 + 3) 1).1 = 0 then True else ((gX6_here (fX6_figures (fX6_figures (fX6_skips (fX6_figures S (x1 + 1) 2).2 47).2 (x1 + 2) 1).2 (x1 + 3) 1).2) ∧ (if (fX6_here (fX6_figures (fX6_figures (fX6_skips (fX6_figures S (x1 + 1) 2).2 47).2 (x1 + 2) 1).2 (x1 + 3) 1).2) = 124 then ((vp_in (x1 + 4) 155) ∧ (gX6_skips (sS7 (upd (fX6_figures (fX6_figures (fX6_skips (fX6_figures S (x1 + 1) 2).2 47).2 (x1 + 2) 1).2 (x1 + 3) 1).2.2.2.2.2.2.2.2.1 ((x1 + 4)).toNatClampNeg 1) (fX6_figures (fX6_figures (fX6_skips (fX6_figures S (x1 + 1) 2).2 47).2 (x1 + 2) 1).2 (x1 + 3) 1).2) 124) ∧ (if (fX6_skips (sS7 (upd (fX6_figures (fX6_figures (fX6_skips (fX6_figures S (x1 + 1) 2).2 47).2 (x1 + 2) 1).2 (x1 + 3) 1).2.2.2.2.2.2.2.2.1 ((x1 + 4)).toNatClampNeg 1) (fX6_figures (fX6_figures (fX6_skips (fX6_figures S (x1 + 1) 2).2 47).2 (x1 + 2) 1).2 (x1 + 3) 1).2) 124).1 = 0 then ((vp_in (x1 + 4) 155) ∧ True) else True)) else ((vp_in (x1 + 4) 155) ∧ (gX6_skips (sS7 (upd (fX6_figures (fX6_figures (fX6_skips (fX6_figures S (x1 + 1) 2).2 47).2 (x1 + 2) 1).2 (x1 + 3) 1).2.2.2.2.2.2.2.2.1 ((x1 + 4)).toNatClampNeg 0) (fX6_figures (fX6_figures (fX6_skips (fX6_figures S (x1 + 1) 2).2 47).2 (x1 + 2) 1).2 (x1 + 3) 1).2) 124) ∧ (if (fX6_skips (sS7 (upd (fX6_figures (fX6_figures (fX6_skips (fX6_figures S (x1 + 1) 2).2 47).2 (x1 + 2) 1).2 (x1 + 3) 1).2.2.2.2.2.2.2.2.1 ((x1 + 4)).toNatClampNeg 0) (fX6_figures (fX6_figures (fX6_skips (fX6_figures S (x1 + 1) 2).2 47).2 (x1 + 2) 1).2 (x1 + 3) 1).2) 124).1 = 0 then ((vp_in (x1 + 4) 155) ∧ True) else True))))))))))))
abbrev rmX6_stoolHere : Room := { frames := 2, cells := 0, slots := 0, locals := 45 }
set_option maxHeartbeats 4000000 in
set_option maxRecDepth 100000 in
theorem kX6_stoolHere (l : Launch) (D : va_G) (cI cC cT : ClassId) (h a1 a2 a3 a4 a5 a6 a7 a8 : Nat) (S : SV) (x1 : Int32) (hg : gX6_stoolHere S x1) : mU l D (TY cI cC cT) yX6_stoolHere wsX6_stoolHere rmX6_stoolHere [.ref h, .int x1] (w6 cI cC h a1 a2 a3 a4 a5 a6 a7 a8 S) (some (.int (fX6_stoolHere S x1).1)) (w6 cI cC h a1 a2 a3 a4 a5 a6 a7 a8 (fX6_stoolHere S x1).2) := by
  refine mU.ofW (cc := cX6_stoolHere) (maxL := 2) (ret := (some .boolean)) (by decide) rfl (Nat.le_of_ble_eq_true rfl) ?_
  intro p e s m args below meth c Q ls A hx hb hml hr hlk hts hown hP hK hD hS hl hQ
  have hown : s.vm.findClass RX6 = some m.cls := hown
  have hP : va_P D vwCl (w6 cI cC h a1 a2 a3 a4 a5 a6 a7 a8 S) s.heap := hP
  have hD : va_D A (w6 cI cC h a1 a2 a3 a4 a5 a6 a7 a8 S) := hD
  have hl : lv_has ls 2 [(0, .ref h), (1, .int x1)] := hl
  have q0 := hts (Cond.fieldLink RX6 36 "TavernStoolsModel" "told" "[I") (by decide +kernel)
  have q1 : ∀ w ∈ u_ws RX6 TX6 20, w ∈ wsX6_stoolHere := by decide +kernel
  unfold gX6_stoolHere at hg
  generalize hHe : s.heap = H at hP ⊢
  have hS : va_S A s.heap H [] := hHe ▸ hS
  generalize hLe : ([] : List Loc) = locs at hS ⊢
  refine lv_aload_n hx hb dX6_stoolHere_0 rfl (lv_at hl 0 rfl) ?_
  refine lv_iload_n hx hb dX6_stoolHere_1 rfl (lv_at hl 1 rfl) ?_
  refine lv_iconst (v := 1) hx hb dX6_stoolHere_2 (by decide) ?_
  refine lv_iadd hx hb dX6_stoolHere_3 ?_
  refine lv_iconst (v := 2) hx hb dX6_stoolHere_4 (by decide) ?_
  obtain ⟨n1, en1⟩ : ∃ z9, z9 = (fX6_figures S (x1 + 1) 2) := ⟨_, rfl⟩
  try rw [← en1] at hg
  obtain ⟨o1, hg⟩ := hg
  have k9 := (kX6_figures l D cI cC cT h a1 a2 a3 a4 a5 a6 a7 a8 S (x1 + 1) 2 o1)
  rw [← en1] at k9
  refine fUV (As := [.int (x1 + 1), .int 2]) (rest := []) (st' := [.int n1.1]) ⟨hx, hb, hml, hown, hts⟩ k9 (cwV 2 hts gX6_stoolHere_X6_figures rfl rfl rfl (by decide +kernel) ⟨Nat.le_of_ble_eq_true rfl, Nat.le_of_ble_eq_true rfl⟩) hP hK hD hS [0, 1, 2, 3, 4, 5, 6, 7, 8] rfl rfl (by decide) rfl (w6 cI cC h a1 a2 a3 a4 a5 a6 a7 a8 n1.2) rfl rfl 0 (ci := 7) rfl rfl rfl rfl hl.1 rfl rfl (Nat.le_of_ble_eq_true rfl) ⟨Nat.zero_le _, Nat.zero_le _⟩ dX6_stoolHere_5 (fun H locs hP hD hS => ?_)
  refine lv_if_eq (tgt := 42) hx hb dX6_stoolHere_8 (by decide) (fun c_8_1 => ?_) (fun c_8_1 => ?_)
  · rw [if_pos c_8_1] at hg
    refine lv_iconst (v := 0) hx hb dX6_stoolHere_42 (by decide) ?_
    have e9 : fX6_stoolHere S x1 = (0, n1.2) := by rw [fX6_stoolHere, ← en1, if_pos c_8_1]
    exact rUi hx hb hr hlk hQ hP hS (by rw [e9]) (congrArg (fun z9 : (Int32 × SV) => (w6 cI cC h a1 a2 a3 a4 a5 a6 a7 a8 z9.2 : va_W)) e9).symm rfl dX6_stoolHere_43
  · rw [if_neg c_8_1] at hg
    refine lv_aload_n hx hb dX6_stoolHere_11 rfl (lv_at hl 0 rfl) ?_
    refine lv_bipush (v := 47) hx hb dX6_stoolHere_12 (by decide) ?_
    obtain ⟨n2, en2⟩ : ∃ z9, z9 = (fX6_skips n1.2 47) := ⟨_, rfl⟩
    try rw [← en2] at hg
    obtain ⟨o2, hg⟩ := hg
    have k9 := (kX6_skips l D cI cC cT h a1 a2 a3 a4 a5 a6 a7 a8 n1.2 47 o2)
    rw [← en2] at k9
    refine fUV (As := [.int 47]) (rest := []) (st' := [.int n2.1]) ⟨hx, hb, hml, hown, hts⟩ k9 (cwV 1 hts gX6_stoolHere_X6_skips rfl rfl rfl (by decide +kernel) ⟨Nat.le_of_ble_eq_true rfl, Nat.le_of_ble_eq_true rfl⟩) hP hK hD hS [0, 1, 2, 3, 4, 5, 6, 7, 8] rfl rfl (by decide) rfl (w6 cI cC h a1 a2 a3 a4 a5 a6 a7 a8 n2.2) rfl rfl 0 (ci := 7) rfl rfl rfl rfl hl.1 rfl rfl (Nat.le_of_ble_eq_true rfl) ⟨Nat.zero_le _, Nat.zero_le _⟩ dX6_stoolHere_14 (fun H locs hP hD hS => ?_)
    refine lv_if_eq (tgt := 42) hx hb dX6_stoolHere_17 (by decide) (fun c_17_2 => ?_) (fun c_17_2 => ?_)
    · rw [if_pos c_17_2] at hg
      refine lv_iconst (v := 0) hx hb dX6_stoolHere_42 (by decide) ?_
      have e9 : fX6_stoolHere S x1 = (0, n2.2) := by rw [fX6_stoolHere, ← en1, if_neg c_8_1, ← en2, if_pos c_17_2]
      exact rUi hx hb hr hlk hQ hP hS (by rw [e9]) (congrArg (fun z9 : (Int32 × SV) => (w6 cI cC h a1 a2 a3 a4 a5 a6 a7 a8 z9.2 : va_W)) e9).symm rfl dX6_stoolHere_43
    · rw [if_neg c_17_2] at hg
      refine lv_aload_n hx hb dX6_stoolHere_20 rfl (lv_at hl 0 rfl) ?_
      refine lv_iload_n hx hb dX6_stoolHere_21 rfl (lv_at hl 1 rfl) ?_
      refine lv_iconst (v := 2) hx hb dX6_stoolHere_22 (by decide) ?_
      refine lv_iadd hx hb dX6_stoolHere_23 ?_
      refine lv_iconst (v := 1) hx hb dX6_stoolHere_24 (by decide) ?_
      obtain ⟨n3, en3⟩ : ∃ z9, z9 = (fX6_figures n2.2 (x1 + 2) 1) := ⟨_, rfl⟩
      try rw [← en3] at hg
      obtain ⟨o3, hg⟩ := hg
      have k9 := (kX6_figures l D cI cC cT h a1 a2 a3 a4 a5 a6 a7 a8 n2.2 (x1 + 2) 1 o3)
      rw [← en3] at k9
      refine fUV (As := [.int (x1 + 2), .int 1]) (rest := []) (st' := [.int n3.1]) ⟨hx, hb, hml, hown, hts⟩ k9 (cwV 2 hts gX6_stoolHere_X6_figures rfl rfl rfl (by decide +kernel) ⟨Nat.le_of_ble_eq_true rfl, Nat.le_of_ble_eq_true rfl⟩) hP hK hD hS [0, 1, 2, 3, 4, 5, 6, 7, 8] rfl rfl (by decide) rfl (w6 cI cC h a1 a2 a3 a4 a5 a6 a7 a8 n3.2) rfl rfl 0 (ci := 7) rfl rfl rfl rfl hl.1 rfl rfl (Nat.le_of_ble_eq_true rfl) ⟨Nat.zero_le _, Nat.zero_le _⟩ dX6_stoolHere_25 (fun H locs hP hD hS => ?_)
      refine lv_if_eq (tgt := 42) hx hb dX6_stoolHere_28 (by decide) (fun c_28_3 => ?_) (fun c_28_3 => ?_)
      · rw [if_pos c_28_3] at hg
        refine lv_iconst (v := 0) hx hb dX6_stoolHere_42 (by decide) ?_
        have e9 : fX6_stoolHere S x1 = (0, n3.2) := by rw [fX6_stoolHere, ← en1, if_neg c_8_1, ← en2, if_neg c_17_2, ← en3, if_pos c_28_3]
        exact rUi hx hb hr hlk hQ hP hS (by rw [e9]) (congrArg (fun z9 : (Int32 × SV) => (w6 cI cC h a1 a2 a3 a4 a5 a6 a7 a8 z9.2 : va_W)) e9).symm rfl dX6_stoolHere_43
      · rw [if_neg c_28_3] at hg
        refine lv_aload_n hx hb dX6_stoolHere_31 rfl (lv_at hl 0 rfl) ?_
        refine lv_iload_n hx hb dX6_stoolHere_32 rfl (lv_at hl 1 rfl) ?_
        refine lv_iconst (v := 3) hx hb dX6_stoolHere_33 (by decide) ?_
        refine lv_iadd hx hb dX6_stoolHere_34 ?_
        refine lv_iconst (v := 1) hx hb dX6_stoolHere_35 (by decide) ?_
        obtain ⟨n4, en4⟩ : ∃ z9, z9 = (fX6_figures n3.2 (x1 + 3) 1) := ⟨_, rfl⟩
        try rw [← en4] at hg
        obtain ⟨o4, hg⟩ := hg
        have k9 := (kX6_figures l D cI cC cT h a1 a2 a3 a4 a5 a6 a7 a8 n3.2 (x1 + 3) 1 o4)
        rw [← en4] at k9
        refine fUV (As := [.int (x1 + 3), .int 1]) (rest := []) (st' := [.int n4.1]) ⟨hx, hb, hml, hown, hts⟩ k9 (cwV 2 hts gX6_stoolHere_X6_figures rfl rfl rfl (by decide +kernel) ⟨Nat.le_of_ble_eq_true rfl, Nat.le_of_ble_eq_true rfl⟩) hP hK hD hS [0, 1, 2, 3, 4, 5, 6, 7, 8] rfl rfl (by decide) rfl (w6 cI cC h a1 a2 a3 a4 a5 a6 a7 a8 n4.2) rfl rfl 0 (ci := 7) rfl rfl rfl rfl hl.1 rfl rfl (Nat.le_of_ble_eq_true rfl) ⟨Nat.zero_le _, Nat.zero_le _⟩ dX6_stoolHere_36 (fun H locs hP hD hS => ?_)
        refine lv_if_ne (tgt := 44) hx hb dX6_stoolHere_39 (by decide) (fun c_39_4 => ?_) (fun c_39_4 => ?_)
        · rw [if_neg c_39_4] at hg
          refine lv_aload_n hx hb dX6_stoolHere_44 rfl (lv_at hl 0 rfl) ?_
          refine va_get (D := D) (ci := 7) (v := .ref a8) (C := RX6) (T := TX6) (N := 20) hx hb hts q1 hown hK hP 0 rfl rfl 18 (by decide) q0 (fun _ h9 => h9) rfl dX6_stoolHere_45 ?_
          refine lv_iload_n hx hb dX6_stoolHere_48 rfl (lv_at hl 1 rfl) ?_
          refine lv_iconst (v := 4) hx hb dX6_stoolHere_49 (by decide) ?_
          refine lv_iadd hx hb dX6_stoolHere_50 ?_
          refine lv_aload_n hx hb dX6_stoolHere_51 rfl (lv_at hl 0 rfl) ?_
          obtain ⟨o5, hg⟩ := hg
          refine fRV (As := []) (rest := [.int (x1 + 4), .ref a8]) (st' := [.int (fX6_here n4.2), .int (x1 + 4), .ref a8]) ⟨hx, hb, hml, hown, hts⟩ (kX6_here l D cI cC cT h a1 a2 a3 a4 a5 a6 a7 a8 n4.2 o5) (cwV 0 hts gX6_stoolHere_X6_here rfl rfl rfl (by decide +kernel) ⟨Nat.le_of_ble_eq_true rfl, Nat.le_of_ble_eq_true rfl⟩) hP hK [0, 1, 2, 3, 4, 5, 6, 7, 8] rfl 0 (ci := 7) rfl rfl rfl rfl hl.1 rfl rfl (Nat.le_of_ble_eq_true rfl) ⟨Nat.zero_le _, Nat.zero_le _⟩ dX6_stoolHere_52 ?_
          refine lv_bipush (v := 124) hx hb dX6_stoolHere_55 (by decide) ?_
          refine lv_icmp_ne (tgt := 64) hx hb dX6_stoolHere_57 (by decide) (fun c_57_5 => ?_) (fun c_57_5 => ?_)
          · rw [if_neg c_57_5] at hg
            refine lv_iconst (v := 0) hx hb dX6_stoolHere_64 (by decide) ?_
            obtain ⟨o6, hg⟩ := hg
            refine va_iast hx hb hK hP hD hS 8 0 rfl rfl o6 dX6_stoolHere_65 (fun H locs hP hD hS => ?_)
            have hP : va_P D vwCl (w6 cI cC h a1 a2 a3 a4 a5 a6 a7 a8 (sS7 (upd n4.2.2.2.2.2.2.2.2.1 ((x1 + 4)).toNatClampNeg 0) n4.2)) H := w6p_7 hP
            have hD : va_D A (w6 cI cC h a1 a2 a3 a4 a5 a6 a7 a8 (sS7 (upd n4.2.2.2.2.2.2.2.2.1 ((x1 + 4)).toNatClampNeg 0) n4.2)) := w6d_7 hD
            refine lv_aload_n hx hb dX6_stoolHere_66 rfl (lv_at hl 0 rfl) ?_
            refine lv_bipush (v := 124) hx hb dX6_stoolHere_67 (by decide) ?_
            obtain ⟨n5, en5⟩ : ∃ z9, z9 = (fX6_skips (sS7 (upd n4.2.2.2.2.2.2.2.2.1 ((x1 + 4)).toNatClampNeg 0) n4.2) 124) := ⟨_, rfl⟩
            try rw [← en5] at hg
            obtain ⟨o7, hg⟩ := hg
            have k9 := (kX6_skips l D cI cC cT h a1 a2 a3 a4 a5 a6 a7 a8 (sS7 (upd n4.2.2.2.2.2.2.2.2.1 ((x1 + 4)).toNatClampNeg 0) n4.2) 124 o7)
            rw [← en5] at k9
            refine fUV (As := [.int 124]) (rest := []) (st' := [.int n5.1]) ⟨hx, hb, hml, hown, hts⟩ k9 (cwV 1 hts gX6_stoolHere_X6_skips rfl rfl rfl (by decide +kernel) ⟨Nat.le_of_ble_eq_true rfl, Nat.le_of_ble_eq_true rfl⟩) hP hK hD hS [0, 1, 2, 3, 4, 5, 6, 7, 8] rfl rfl (by decide) rfl (w6 cI cC h a1 a2 a3 a4 a5 a6 a7 a8 n5.2) rfl rfl 0 (ci := 7) rfl rfl rfl rfl hl.1 rfl rfl (Nat.le_of_ble_eq_true rfl) ⟨Nat.zero_le _, Nat.zero_le _⟩ dX6_stoolHere_69 (fun H locs hP hD hS => ?_)
            refine lv_if_ne (tgt := 86) hx hb dX6_stoolHere_72 (by decide) (fun c_72_6 => ?_) (fun c_72_6 => ?_)
            · rw [if_neg c_72_6] at hg
              refine lv_iconst (v := 1) hx hb dX6_stoolHere_86 (by decide) ?_
              refine lv_goto (tgt := 91) hx hb dX6_stoolHere_87 (by decide) ?_
              have e9 : fX6_stoolHere S x1 = (1, n5.2) := by rw [fX6_stoolHere, ← en1, if_neg c_8_1, ← en2, if_neg c_17_2, ← en3, if_neg c_28_3, ← en4, if_neg c_39_4, if_neg c_57_5, ← en5, if_neg c_72_6]
              exact rUi hx hb hr hlk hQ hP hS (by rw [e9]) (congrArg (fun z9 : (Int32 × SV) => (w6 cI cC h a1 a2 a3 a4 a5 a6 a7 a8 z9.2 : va_W)) e9).symm rfl dX6_stoolHere_91
            · rw [if_pos c_72_6] at hg
              refine lv_aload_n hx hb dX6_stoolHere_75 rfl (lv_at hl 0 rfl) ?_
              refine va_get (D := D) (ci := 7) (v := .ref a8) (C := RX6) (T := TX6) (N := 20) hx hb hts q1 hown hK hP 0 rfl rfl 18 (by decide) q0 (fun _ h9 => h9) rfl dX6_stoolHere_76 ?_
              refine lv_iload_n hx hb dX6_stoolHere_79 rfl (lv_at hl 1 rfl) ?_
              refine lv_iconst (v := 4) hx hb dX6_stoolHere_80 (by decide) ?_
              refine lv_iadd hx hb dX6_stoolHere_81 ?_
              obtain ⟨o8, hg⟩ := hg
              refine va_iald hx hb hK hP 8 0 rfl rfl o8 dX6_stoolHere_82 ?_
              refine lv_if_ne (tgt := 90) hx hb dX6_stoolHere_83 (by decide) (fun c_83_7 => ?_) (fun c_83_7 => ?_)
              · refine lv_iconst (v := 0) hx hb dX6_stoolHere_90 (by decide) ?_
                have e9 : fX6_stoolHere S x1 = (0, n5.2) := by rw [fX6_stoolHere, ← en1, if_neg c_8_1, ← en2, if_neg c_17_2, ← en3, if_neg c_28_3, ← en4, if_neg c_39_4, if_neg c_57_5, ← en5, if_pos c_72_6, if_neg c_83_7]
                exact rUi hx hb hr hlk hQ hP hS (by rw [e9]) (congrArg (fun z9 : (Int32 × SV) => (w6 cI cC h a1 a2 a3 a4 a5 a6 a7 a8 z9.2 : va_W)) e9).symm rfl dX6_stoolHere_91
              · refine lv_iconst (v := 1) hx hb dX6_stoolHere_86 (by decide) ?_
                refine lv_goto (tgt := 91) hx hb dX6_stoolHere_87 (by decide) ?_
                have e9 : fX6_stoolHere S x1 = (1, n5.2) := by rw [fX6_stoolHere, ← en1, if_neg c_8_1, ← en2, if_neg c_17_2, ← en3, if_neg c_28_3, ← en4, if_neg c_39_4, if_neg c_57_5, ← en5, if_pos c_72_6, if_pos c_83_7]
                exact rUi hx hb hr hlk hQ hP hS (by rw [e9]) (congrArg (fun z9 : (Int32 × SV) => (w6 cI cC h a1 a2 a3 a4 a5 a6 a7 a8 z9.2 : va_W)) e9).symm rfl dX6_stoolHere_91
          · rw [if_pos c_57_5] at hg
            refine lv_iconst (v := 1) hx hb dX6_stoolHere_60 (by decide) ?_
            refine lv_goto (tgt := 65) hx hb dX6_stoolHere_61 (by decide) ?_
            obtain ⟨o9, hg⟩ := hg
            refine va_iast hx hb hK hP hD hS 8 0 rfl rfl o9 dX6_stoolHere_65 (fun H locs hP hD hS => ?_)
            have hP : va_P D vwCl (w6 cI cC h a1 a2 a3 a4 a5 a6 a7 a8 (sS7 (upd n4.2.2.2.2.2.2.2.2.1 ((x1 + 4)).toNatClampNeg 1) n4.2)) H := w6p_7 hP
            have hD : va_D A (w6 cI cC h a1 a2 a3 a4 a5 a6 a7 a8 (sS7 (upd n4.2.2.2.2.2.2.2.2.1 ((x1 + 4)).toNatClampNeg 1) n4.2)) := w6d_7 hD
            refine lv_aload_n hx hb dX6_stoolHere_66 rfl (lv_at hl 0 rfl) ?_
            refine lv_bipush (v := 124) hx hb dX6_stoolHere_67 (by decide) ?_
            obtain ⟨n6, en6⟩ : ∃ z9, z9 = (fX6_skips (sS7 (upd n4.2.2.2.2.2.2.2.2.1 ((x1 + 4)).toNatClampNeg 1) n4.2) 124) := ⟨_, rfl⟩
            try rw [← en6] at hg
            obtain ⟨o10, hg⟩ := hg
            have k9 := (kX6_skips l D cI cC cT h a1 a2 a3 a4 a5 a6 a7 a8 (sS7 (upd n4.2.2.2.2.2.2.2.2.1 ((x1 + 4)).toNatClampNeg 1) n4.2) 124 o10)
            rw [← en6] at k9
            refine fUV (As := [.int 124]) (rest := []) (st' := [.int n6.1]) ⟨hx, hb, hml, hown, hts⟩ k9 (cwV 1 hts gX6_stoolHere_X6_skips rfl rfl rfl (by decide +kernel) ⟨Nat.le_of_ble_eq_true rfl, Nat.le_of_ble_eq_true rfl⟩) hP hK hD hS [0, 1, 2, 3, 4, 5, 6, 7, 8] rfl rfl (by decide) rfl (w6 cI cC h a1 a2 a3 a4 a5 a6 a7 a8 n6.2) rfl rfl 0 (ci := 7) rfl rfl rfl rfl hl.1 rfl rfl (Nat.le_of_ble_eq_true rfl) ⟨Nat.zero_le _, Nat.zero_le _⟩ dX6_stoolHere_69 (fun H locs hP hD hS => ?_)
            refine lv_if_ne (tgt := 86) hx hb dX6_stoolHere_72 (by decide) (fun c_72_8 => ?_) (fun c_72_8 => ?_)
            · rw [if_neg c_72_8] at hg
              refine lv_iconst (v := 1) hx hb dX6_stoolHere_86 (by decide) ?_
              refine lv_goto (tgt := 91) hx hb dX6_stoolHere_87 (by decide) ?_
              have e9 : fX6_stoolHere S x1 = (1, n6.2) := by rw [fX6_stoolHere, ← en1, if_neg c_8_1, ← en2, if_neg c_17_2, ← en3, if_neg c_28_3, ← en4, if_neg c_39_4, if_pos c_57_5, ← en6, if_neg c_72_8]
              exact rUi hx hb hr hlk hQ hP hS (by rw [e9]) (congrArg (fun z9 : (Int32 × SV) => (w6 cI cC h a1 a2 a3 a4 a5 a6 a7 a8 z9.2 : va_W)) e9).symm rfl dX6_stoolHere_91
            · rw [if_pos c_72_8] at hg
              refine lv_aload_n hx hb dX6_stoolHere_75 rfl (lv_at hl 0 rfl) ?_
              refine va_get (D := D) (ci := 7) (v := .ref a8) (C := RX6) (T := TX6) (N := 20) hx hb hts q1 hown hK hP 0 rfl rfl 18 (by decide) q0 (fun _ h9 => h9) rfl dX6_stoolHere_76 ?_
              refine lv_iload_n hx hb dX6_stoolHere_79 rfl (lv_at hl 1 rfl) ?_
              refine lv_iconst (v := 4) hx hb dX6_stoolHere_80 (by decide) ?_
              refine lv_iadd hx hb dX6_stoolHere_81 ?_
              obtain ⟨o11, hg⟩ := hg
              refine va_iald hx hb hK hP 8 0 rfl rfl o11 dX6_stoolHere_82 ?_
              refine lv_if_ne (tgt := 90) hx hb dX6_stoolHere_83 (by decide) (fun c_83_9 => ?_) (fun c_83_9 => ?_)
              · refine lv_iconst (v := 0) hx hb dX6_stoolHere_90 (by decide) ?_
                have e9 : fX6_stoolHere S x1 = (0, n6.2) := by rw [fX6_stoolHere, ← en1, if_neg c_8_1, ← en2, if_neg c_17_2, ← en3, if_neg c_28_3, ← en4, if_neg c_39_4, if_pos c_57_5, ← en6, if_pos c_72_8, if_neg c_83_9]
                exact rUi hx hb hr hlk hQ hP hS (by rw [e9]) (congrArg (fun z9 : (Int32 × SV) => (w6 cI cC h a1 a2 a3 a4 a5 a6 a7 a8 z9.2 : va_W)) e9).symm rfl dX6_stoolHere_91
              · refine lv_iconst (v := 1) hx hb dX6_stoolHere_86 (by decide) ?_
                refine lv_goto (tgt := 91) hx hb dX6_stoolHere_87 (by decide) ?_
                have e9 : fX6_stoolHere S x1 = (1, n6.2) := by rw [fX6_stoolHere, ← en1, if_neg c_8_1, ← en2, if_neg c_17_2, ← en3, if_neg c_28_3, ← en4, if_neg c_39_4, if_pos c_57_5, ← en6, if_pos c_72_8, if_pos c_83_9]
                exact rUi hx hb hr hlk hQ hP hS (by rw [e9]) (congrArg (fun z9 : (Int32 × SV) => (w6 cI cC h a1 a2 a3 a4 a5 a6 a7 a8 z9.2 : va_W)) e9).symm rfl dX6_stoolHere_91
        · rw [if_pos c_39_4] at hg
          refine lv_iconst (v := 0) hx hb dX6_stoolHere_42 (by decide) ?_
          have e9 : fX6_stoolHere S x1 = (0, n4.2) := by rw [fX6_stoolHere, ← en1, if_neg c_8_1, ← en2, if_neg c_17_2, ← en3, if_neg c_28_3, ← en4, if_pos c_39_4]
          exact rUi hx hb hr hlk hQ hP hS (by rw [e9]) (congrArg (fun z9 : (Int32 × SV) => (w6 cI cC h a1 a2 a3 a4 a5 a6 a7 a8 z9.2 : va_W)) e9).symm rfl dX6_stoolHere_43
theorem zX6_stoolHere (S : SV) (x1 : Int32) : (fX6_stoolHere S x1).1 = 0 ∨ (fX6_stoolHere S x1).1 = 1 := by
  unfold fX6_stoolHere
  repeat' split
  all_goals first | exact Or.inl rfl | exact Or.inr rfl | exact zX6_figures .. | exact zX6_skips ..
def fX6_orderHere (S : SV)  : (Int32 × SV) := (if (fX6_skips (sS7 (upd S.2.2.2.2.2.2.2.1 ((5 * S.2.2.2.2.2.2.2.2.2.2.2.2.2.2.2.2.2.2.2)).toNatClampNeg (fX6_here S)) S) 110).1 = 0 then (if (fX6_skips (fX6_skips (sS7 (upd S.2.2.2.2.2.2.2.1 ((5 * S.2.2.2.2.2.2.2.2.2.2.2.2.2.2.2.2.2.2.2)).toNatClampNeg (fX6_here S)) S) 110).2 115).1 = 0 then (if (fX6_skips (fX6_skips (fX6_skips (sS7 (upd S.2.2.2.2.2.2.2.1 ((5 * S.2.2.2.2.2.2.2.2.2.2.2.2.2.2.2.2.2.2.2)).toNatClampNeg (fX6_here S)) S) 110).2 115).2 103).1 = 0 then (if (fX6_skips (fX6_skips (fX6_skips (fX6_skips (sS7 (upd S.2.2.2.2.2.2.2.1 ((5 * S.2.2.2.2.2.2.2.2.2.2.2.2.2.2.2.2.2.2.2)).toNatClampNeg (fX6_here S)) S) 110).2 115).2 103).2 107).1 = 0 then (if (fX6_skips (fX6_skips (fX6_skips (fX6_skips (fX6_skips (sS7 (upd S.2.2.2.2.2.2.2.1 ((5 * S.2.2.2.2.2.2.2.2.2.2.2.2.2.2.2.2.2.2.2)).toNatClampNeg (fX6_here S)) S) 110).2 115).2 103).2 107).2 112).1 = 0 then (if (fX6_skips (fX6_skips (fX6_skips (fX6_skips (fX6_skips (fX6_skips (sS7 (upd S.2.2.2.2.2.2.2.1 ((5 * S.2.2.2.2.2.2.2.2.2.2.2.2.2.2.2.2.2.2.2)).toNatClampNeg (fX6_here S)) S) 110).2 115).2 103).2 107).2 112).2 98).1 = 0 then (if (fX6_skips (fX6_skips (fX6_skips (fX6_skips (fX6_skips (fX6_skips (fX6_skips (sS7 (upd S.2.2.2.2.2.2.2.1 ((5 * S.2.2.2.2.2.2.2.2.2.2.2.2.2.2.2.2.2.2.2)).toNatClampNeg (fX6_here S)) S) 110).2 115).2 103).2 107).2 112).2 98).2 117).1 = 0 then (if (fX6_skips (fX6_skips (fX6_skips (fX6_skips (fX6_skips (fX6_skips (fX6_skips (fX6_skips (sS7 (upd S.2.2.2.2.2.2.2.1 ((5 * S.2.2.2.2.2.2.2.2.2.2.2.2.2.2.2.2.2.2.2)).toNatClampNeg (fX6_here S)) S) 110).2 115).2 103).2 107).2 112).2 98).2 117).2 99).1 = 0 then (0, (fX6_skips (fX6_skips (fX6_skips (fX6_skips (fX6_skips (fX6_skips (fX6_skips (fX6_skips (sS7 (upd S.2.2.2.2.2.2.2.1 ((5 * S.2.2.2.2.2.2.2.2.2.2.2.2.2.2.2.2.2.2.2)).toNatClampNeg (fX6_here S)) S) 110).2 115).2 103).2 107).2 112).2 98).2 117).2 99).2) else (if (fX6_figures (fX6_skips (fX6_skips (fX6_skips (fX6_skips (fX6_skips (fX6_skips (fX6_skips (fX6_skips (sS7 (upd S.2.2.2.2.2.2.2.1 ((5 * S.2.2.2.2.2.2.2.2.2.2.2.2.2.2.2.2.2.2.2)).toNatClampNeg (fX6_here S)) S) 110).2 115).2 103).2 107).2 112).2 98).2 117).2 99).2 ((5 * S.2.2.2.2.2.2.2.2.2.2.2.2.2.2.2.2.2.2.2) + 1) 2).1 = 0 then (0, (fX6_figures (fX6_skips (fX6_skips (fX6_skips (fX6_skips (fX6_skips (fX6_skips (fX6_skips (fX6_skips (sS7 (upd S.2.2.2.2.2.2.2.1 ((5 * S.2.2.2.2.2.2.2.2.2.2.2.2.2.2.2.2.2.2.2)).toNatClampNeg (fX6_here S)) S) 110).2 115).2 103).2 107).2 112).2 98).2 117).2 99).2 ((5 * S.2.2.2.2.2.2.2.2.2.2.2.2.2.2.2.2.2.2.2) + 1) 2).2) else (1, (fX6_figures (fX6_skips (fX6_skips (fX6_skips (fX6_skips (fX6_skips (fX6_skips (fX6_skips (fX6_skips (sS7 (upd S.2.2.2.2.2.2.2.1 ((5 * S.2.2.2.2.2.2.2.2.2.2.2.2.2.2.2.2.2.2.2)).toNatClampNeg (fX6_here S)) S) 110).2 115).2 103).2 107).2 112).2 98).2 117).2 99).2 ((5 * S.2.2.2.2.2.2.2.2.2.2.2.2.2.2.2.2.2.2.2) + 1) 2).2))) else (if (fX6_figures (fX6_skips (fX6_skips (fX6_skips (fX6_skips (fX6_skips (fX6_skips (fX6_skips (sS7 (upd S.2.2.2.2.2.2.2.1 ((5 * S.2.2.2.2.2.2.2.2.2.2.2.2.2.2.2.2.2.2.2)).toNatClampNeg (fX6_here S)) S) 110).2 115).2 103).2 107).2 112).2 98).2 117).2 ((5 * S.2.2.2.2.2.2.2.2.2.2.2.2.2.2.2.2.2.2.2) + 1) 2).1 = 0 then (0, (fX6_figures (fX6_skips (fX6_skips (fX6_skips (fX6_skips (fX6_skips (fX6_skips (fX6_skips (sS7 (upd S.2.2.2.2.2.2.2.1 ((5 * S.2.2.2.2.2.2.2.2.2.2.2.2.2.2.2.2.2.2.2)).toNatClampNeg (fX6_here S)) S) 110).2 115).2 103).2 107).2 112).2 98).2 117).2 ((5 * S.2.2.2.2.2.2.2.2.2.2.2.2.2.2.2.2.2.2.2) + 1) 2).2) else (1, (fX6_figures (fX6_skips (fX6_skips (fX6_skips (fX6_skips (fX6_skips (fX6_skips (fX6_skips (sS7 (upd S.2.2.2.2.2.2.2.1 ((5 * S.2.2.2.2.2.2.2.2.2.2.2.2.2.2.2.2.2.2.2)).toNatClampNeg (fX6_here S)) S) 110).2 115).2 103).2 107).2 112).2 98).2 117).2 ((5 * S.2.2.2.2.2.2.2.2.2.2.2.2.2.2.2.2.2.2.2) + 1) 2).2))) else (if (fX6_figures (fX6_skips (fX6_skips (fX6_skips (fX6_skips (fX6_skips (fX6_skips (sS7 (upd S.2.2.2.2.2.2.2.1 ((5 * S.2.2.2.2.2.2.2.2.2.2.2.2.2.2.2.2.2.2.2)).toNatClampNeg (fX6_here S)) S) 110).2 115).2 103).2 107).2 112).2 98).2 ((5 * S.2.2.2.2.2.2.2.2.2.2.2.2.2.2.2.2.2.2.2) + 1) 2).1 = 0 then (0, (fX6_figures (fX6_skips (fX6_skips (fX6_skips (fX6_skips (fX6_skips (fX6_skips (sS7 (upd S.2.2.2.2.2.2.2.1 ((5 * S.2.2.2.2.2.2.2.2.2.2.2.2.2.2.2.2.2.2.2)).toNatClampNeg (fX6_here S)) S) 110).2 115).2 103).2 107).2 112).2 98).2 ((5 * S.2.2.2.2.2.2.2.2.2.2.2.2.2.2.2.2.2.2.2) + 1) 2).2) else (if (fX6_skips (fX6_figures (fX6_skips (fX6_skips (fX6_skips (fX6_skips (fX6_skips (fX6_skips (sS7 (upd S.2.2.2.2.2.2.2.1 ((5 * S.2.2.2.2.2.2.2.2.2.2.2.2.2.2.2.2.2.2.2)).toNatClampNeg (fX6_here S)) S) 110).2 115).2 103).2 107).2 112).2 98).2 ((5 * S.2.2.2.2.2.2.2.2.2.2.2.2.2.2.2.2.2.2.2) + 1) 2).2 45).1 = 0 then (0, (fX6_skips (fX6_figures (fX6_skips (fX6_skips (fX6_skips (fX6_skips (fX6_skips (fX6_skips (sS7 (upd S.2.2.2.2.2.2.2.1 ((5 * S.2.2.2.2.2.2.2.2.2.2.2.2.2.2.2.2.2.2.2)).toNatClampNeg (fX6_here S)) S) 110).2 115).2 103).2 107).2 112).2 98).2 ((5 * S.2.2.2.2.2.2.2.2.2.2.2.2.2.2.2.2.2.2.2) + 1) 2).2 45).2) else (if (fX6_figures (fX6_skips (fX6_figures (fX6_skips (fX6_skips (fX6_skips (fX6_skips (fX6_skips (fX6_skips (sS7 (upd S.2.2.2.2.2.2.2.1 ((5 * S.2.2.2.2.2.2.2.2.2.2.2.2.2.2.2.2.2.2.2)).toNatClampNeg (fX6_here S)) S) 110).2 115).2 103).2 107).2 112).2 98).2 ((5 * S.2.2.2.2.2.2.2.2.2.2.2.2.2.2.2.2.2.2.2) + 1) 2).2 45).2 ((5 * S.2.2.2.2.2.2.2.2.2.2.2.2.2.2.2.2.2.2.2) + 2) 2).1 = 0 then (0, (fX6_figures (fX6_skips (fX6_figures (fX6_skips (fX6_skips (fX6_skips (fX6_skips (fX6_skips (fX6_skips (sS7 (upd S.2.2.2.2.2.2.2.1 ((5 * S.2.2.2.2.2.2.2.2.2.2.2.2.2.2.2.2.2.2.2)).toNatClampNeg (fX6_here S)) S) 110).2 115).2 103).2 107).2 112).2 98).2 ((5 * S.2.2.2.2.2.2.2.2.2.2.2.2.2.2.2.2.2.2.2) + 1) 2).2 45).2 ((5 * S.2.2.2.2.2.2.2.2.2.2.2.2.2.2.2.2.2.2.2) + 2) 2).2) else (1, (fX6_figures (fX6_skips (fX6_figures (fX6_skips (fX6_skips (fX6_skips (fX6_skips (fX6_skips (fX6_skips (sS7 (upd S.2.2.2.2.2.2.2.1 ((5 * S.2.2.2.2.2.2.2.2.2.2.2.2.2.2.2.2.2.2.2)).toNatClampNeg (fX6_here S)) S) 110).2 115).2 103).2 107).2 112).2 98).2 ((5 * S.2.2.2.2.2.2.2.2.2.2.2.2.2.2.2.2.2.2.2) + 1) 2).2 45).2 ((5 * S.2.2.2.2.2.2.2.2.2.2.2.2.2.2.2.2.2.2.2) + 2) 2).2))))) else (if (fX6_figures (fX6_skips (fX6_skips (fX6_skips (fX6_skips (fX6_skips (sS7 (upd S.2.2.2.2.2.2.2.1 ((5 * S.2.2.2.2.2.2.2.2.2.2.2.2.2.2.2.2.2.2.2)).toNatClampNeg (fX6_here S)) S) 110).2 115).2 103).2 107).2 112).2 ((5 * S.2.2.2.2.2.2.2.2.2.2.2.2.2.2.2.2.2.2.2) + 1) 2).1 = 0 then (0, (fX6_figures (fX6_skips (fX6_skips (fX6_skips (fX6_skips (fX6_skips (sS7 (upd S.2.2.2.2.2.2.2.1 ((5 * S.2.2.2.2.2.2.2.2.2.2.2.2.2.2.2.2.2.2.2)).toNatClampNeg (fX6_here S)) S) 110).2 115).2 103).2 107).2 112).2 ((5 * S.2.2.2.2.2.2.2.2.2.2.2.2.2.2.2.2.2.2.2) + 1) 2).2) else (if (fX6_skips (fX6_figures (fX6_skips (fX6_skips (fX6_skips (fX6_skips (fX6_skips (sS7 (upd S.2.2.2.2.2.2.2.1 ((5 * S.2.2.2.2.2.2.2.2.2.2.2.2.2.2.2.2.2.2.2)).toNatClampNeg (fX6_here S)) S) 110).2 115).2 103).2 107).2 112).2 ((5 * S.2.2.2.2.2.2.2.2.2.2.2.2.2.2.2.2.2.2.2) + 1) 2).2 62).1 = 0 then (0, (fX6_skips (fX6_figures (fX6_skips (fX6_skips (fX6_skips (fX6_skips (fX6_skips (sS7 (upd S.2.2.2.2.2.2.2.1 ((5 * S.2.2.2.2.2.2.2.2.2.2.2.2.2.2.2.2.2.2.2)).toNatClampNeg (fX6_here S)) S) 110).2 115).2 103).2 107).2 112).2 ((5 * S.2.2.2.2.2.2.2.2.2.2.2.2.2.2.2.2.2.2.2) + 1) 2).2 62).2) else (if (fX6_figures (fX6_skips (fX6_figures (fX6_skips (fX6_skips (fX6_skips (fX6_skips (fX6_skips (sS7 (upd S.2.2.2.2.2.2.2.1 ((5 * S.2.2.2.2.2.2.2.2.2.2.2.2.2.2.2.2.2.2.2)).toNatClampNeg (fX6_here S)) S) 110).2 115).2 103).2 107).2 112).2 ((5 * S.2.2.2.2.2.2.2.2.2.2.2.2.2.2.2.2.2.2.2) + 1) 2).2 62).2 ((5 * S.2.2.2.2.2.2.2.2.2.2.2.2.2.2.2.2.2.2.2) + 2) 2).1 = 0 then (0, (fX6_figures (fX6_skips (fX6_figures (fX6_skips (fX6_skips (fX6_skips (fX6_skips (fX6_skips (sS7 (upd S.2.2.2.2.2.2.2.1 ((5 * S.2.2.2.2.2.2.2.2.2.2.2.2.2.2.2.2.2.2.2)).toNatClampNeg (fX6_here S)) S) 110).2 115).2 103).2 107).2 112).2 ((5 * S.2.2.2.2.2.2.2.2.2.2.2.2.2.2.2.2.2.2.2) + 1) 2).2 62).2 ((5 * S.2.2.2.2.2.2.2.2.2.2.2.2.2.2.2.2.2.2.2) + 2) 2).2) else (1, (fX6_figures (fX6_skips (fX6_figures (fX6_skips (fX6_skips (fX6_skips (fX6_skips (fX6_skips (sS7 (upd S.2.2.2.2.2.2.2.1 ((5 * S.2.2.2.2.2.2.2.2.2.2.2.2.2.2.2.2.2.2.2)).toNatClampNeg (fX6_here S)) S) 110).2 115).2 103).2 107).2 112).2 ((5 * S.2.2.2.2.2.2.2.2.2.2.2.2.2.2.2.2.2.2.2) + 1) 2).2 62).2 ((5 * S.2.2.2.2.2.2.2.2.2.2.2.2.2.2.2.2.2.2.2) + 2) 2).2))))) else ((fX6_figures (fX6_skips (fX6_skips (fX6_skips (fX6_skips (sS7 (upd S.2.2.2.2.2.2.2.1 ((5 * S.2.2.2.2.2.2.2.2.2.2.2.2.2.2.2.2.2.2.2)).toNatClampNeg (fX6_here S)) S) 110).2 115).2 103).2 107).2 ((5 * S.2.2.2.2.2.2.2.2.2.2.2.2.2.2.2.2.2.2.2) + 1) 3).1, (fX6_figures (fX6_skips (fX6_skips (fX6_skips (fX6_skips (sS7 (upd S.2.2.2.2.2.2.2.1 ((5 * S.2.2.2.2.2.2.2.2.2.2.2.2.2.2.2.2.2.2.2)).toNatClampNeg (fX6_here S)) S) 110).2 115).2 103).2 107).2 ((5 * S.2.2.2.2.2.2.2.2.2.2.2.2.2.2.2.2.2.2.2) + 1) 3).2)) else (if (fX6_figures (fX6_skips (fX6_skips (fX6_skips (sS7 (upd S.2.2.2.2.2.2.2.1 ((5 * S.2.2.2.2.2.2.2.2.2.2.2.2.2.2.2.2.2.2.2)).toNatClampNeg (fX6_here S)) S) 110).2 115).2 103).2 ((5 * S.2.2.2.2.2.2.2.2.2.2.2.2.2.2.2.2.2.2.2) + 1) 1).1 = 0 then (0, (fX6_figures (fX6_skips (fX6_skips (fX6_skips (sS7 (upd S.2.2.2.2.2.2.2.1 ((5 * S.2.2.2.2.2.2.2.2.2.2.2.2.2.2.2.2.2.2.2)).toNatClampNeg (fX6_here S)) S) 110).2 115).2 103).2 ((5 * S.2.2.2.2.2.2.2.2.2.2.2.2.2.2.2.2.2.2.2) + 1) 1).2) else (if (fX6_skips (fX6_figures (fX6_skips (fX6_skips (fX6_skips (sS7 (upd S.2.2.2.2.2.2.2.1 ((5 * S.2.2.2.2.2.2.2.2.2.2.2.2.2.2.2.2.2.2.2)).toNatClampNeg (fX6_here S)) S) 110).2 115).2 103).2 ((5 * S.2.2.2.2.2.2.2.2.2.2.2.2.2.2.2.2.2.2.2) + 1) 1).2 42).1 = 0 then (0, (fX6_skips (fX6_figures (fX6_skips (fX6_skips (fX6_skips (sS7 (upd S.2.2.2.2.2.2.2.1 ((5 * S.2.2.2.2.2.2.2.2.2.2.2.2.2.2.2.2.2.2.2)).toNatClampNeg (fX6_here S)) S) 110).2 115).2 103).2 ((5 * S.2.2.2.2.2.2.2.2.2.2.2.2.2.2.2.2.2.2.2) + 1) 1).2 42).2) else (if (fX6_figures (fX6_skips (fX6_figures (fX6_skips (fX6_skips (fX6_skips (sS7 (upd S.2.2.2.2.2.2.2.1 ((5 * S.2.2.2.2.2.2.2.2.2.2.2.2.2.2.2.2.2.2.2)).toNatClampNeg (fX6_here S)) S) 110).2 115).2 103).2 ((5 * S.2.2.2.2.2.2.2.2.2.2.2.2.2.2.2.2.2.2.2) + 1) 1).2 42).2 ((5 * S.2.2.2.2.2.2.2.2.2.2.2.2.2.2.2.2.2.2.2) + 2) 3).1 = 0 then (0, (fX6_figures (fX6_skips (fX6_figures (fX6_skips (fX6_skips (fX6_skips (sS7 (upd S.2.2.2.2.2.2.2.1 ((5 * S.2.2.2.2.2.2.2.2.2.2.2.2.2.2.2.2.2.2.2)).toNatClampNeg (fX6_here S)) S) 110).2 115).2 103).2 ((5 * S.2.2.2.2.2.2.2.2.2.2.2.2.2.2.2.2.2.2.2) + 1) 1).2 42).2 ((5 * S.2.2.2.2.2.2.2.2.2.2.2.2.2.2.2.2.2.2.2) + 2) 3).2) else (1, (fX6_figures (fX6_skips (fX6_figures (fX6_skips (fX6_skips (fX6_skips (sS7 (upd S.2.2.2.2.2.2.2.1 ((5 * S.2.2.2.2.2.2.2.2.2.2.2.2.2.2.2.2.2.2.2)).toNatClampNeg (fX6_here S)) S) 110).2 115).2 103).2 ((5 * S.2.2.2.2.2.2.2.2.2.2.2.2.2.2.2.2.2.2.2) + 1) 1).2 42).2 ((5 * S.2.2.2.2.2.2.2.2.2.2.2.2.2.2.2.2.2.2.2) + 2) 3).2))))) else ((fX6_stoolHere (fX6_skips (fX6_skips (sS7 (upd S.2.2.2.2.2.2.2.1 ((5 * S.2.2.2.2.2.2.2.2.2.2.2.2.2.2.2.2.2.2.2)).toNatClampNeg (fX6_here S)) S) 110).2 115).2 (5 * S.2.2.2.2.2.2.2.2.2.2.2.2.2.2.2.2.2.2.2)).1, (fX6_stoolHere (fX6_skips (fX6_skips (sS7 (upd S.2.2.2.2.2.2.2.1 ((5 * S.2.2.2.2.2.2.2.2.2.2.2.2.2.2.2.2.2.2.2)).toNatClampNeg (fX6_here S)) S) 110).2 115).2 (5 * S.2.2.2.2.2.2.2.2.2.2.2.2.2.2.2.2.2.2.2)).2)) else (1, (fX6_skips (sS7 (upd S.2.2.2.2.2.2.2.1 ((5 * S.2.2.2.2.2.2.2.2.2.2.2.2.2.2.2.2.2.2.2)).toNatClampNeg (fX6_here S)) S) 110).2))
def gX6_orderHere (S : SV)  : Prop := ((gX6_here S) ∧ (vp_in (5 * S.2.2.2.2.2.2.2.2.2.2.2.2.2.2.2.2.2.2.2) 155) ∧ (gX6_skips (sS7 (upd S.2.2.2.2.2.2.2.1 ((5 * S.2.2.2.2.2.2.2.2.2.2.2.2.2.2.2.2.2.2.2)).toNatClampNeg (fX6_here S)) S) 110) ∧ (if (fX6_skips (sS7 (upd S.2.2.2.2.2.2.2.1 ((5 * S.2.2.2.2.2.2.2.2.2.2.2.2.2.2.2.2.2.2.2)).toNatClampNeg (fX6_here S)) S) 110).1 = 0 then ((gX6_skips (fX6_skips (sS7 (upd S.2.2.2.2.2.2.2.1 ((5 * S.2.2.2.2.2.2.2.2.2.2.2.2.2.2.2.2.2.2.2)).toNatClampNeg (fX6_here S)) S) 110).2 115) ∧ (if (fX6_skips (fX6_skips (sS7 (upd S.2.2.2.2.2.2.2.1 ((5 * S.2.2.2.2.2.2.2.2.2.2.2.2.2.2.2.2.2.2.2)).toNatClampNeg (fX6_here S)) S) 110).2 115).1 = 0 then ((gX6_skips (fX6_skips (fX6_skips (sS7 (upd S.2.2.2.2.2.2.2.1 ((5 * S.2.2.2.2.2.2.2.2.2.2.2.2.2.2.2.2.2.2.2)).toNatClampNeg (fX6_here S)) S) 110).2 115).2 103) ∧ (if (fX6_skips (fX6_skips (fX6_skips (sS7 (upd S.2.2.2.2.2.2.2.1 ((5 * S.2.2.2.2.2.2.2.2.2.2.2.2.2.2.2.2.2.2.2)).toNatClampNeg (fX6_here S)) S) 110).2 115).2 103).1 = 0 then ((gX6_skips (fX6_skips (fX6_skips (fX6_skips (sS7 (upd S.2.2.2.2.2.2.2.1 ((5 * S.2.2.2.2.2.2.2.2.2.2.2.2.2.2.2.2.2.2.2)).toNatClampNeg (fX6_here S)) S) 110).2 115).2 103).2 107) ∧ (if (fX6_skips (fX6_skips (fX6_skips (fX6_skips (sS7 (upd S.2.2.2.2.2.2.2.1 ((5 * S.2.2.2.2.2.2.2.2.2.2.2.2.2.2.2.2.2.2.2)).toNatClampNeg (fX6_here S)) S) 110).2 115).2 103).2 107).1 = 0 then ((gX6_skips (fX6_skips (fX6_skips (fX6_skips (fX6_skips (sS7 (upd S.2.2.2.2.2.2.2.1 ((5 * S.2.2.2.2.2.2.2.2.2.2.2.2.2.2.2.2.2.2.2)).toNatClampNeg (fX6_here S)) S) 110).2 115).2 103).2 107).2 112) ∧ (if (fX6_skips (fX6_skips (fX6_skips (fX6_skips (fX6_skips (sS7 (upd S.2.2.2.2.2.2.2.1 ((5 * S.2.2.2.2.2.2.2.2.2.2.2.2.2.2.2.2.2.2.2)).toNatClampNeg (fX6_here S)) S) 110).2 115).2 103).2 107).2 112).1 = 0 then ((gX6_skips (fX6_skips (fX6_skips (fX6_skips (fX6_skips (fX6_skips (sS7 (upd S.2.2.2.2.2.2.2.1 ((5 * S.2.2.2.2.2.2.2.2.2.2.2.2.2.2.2.2.2.2.2)).toNatClampNeg (fX6_here S)) S) 110).2 115).2 103).2 107).2 112).2 98) ∧ (if (fX6_skips (fX6_skips (fX6_skips (fX6_skips (fX6_skips (fX6_skips (sS7 (upd S.2.2.2.2.2.2.2.1 ((5 * S.2.2.2.2.2.2.2.2.2.2.2.2.2.2.2.2.2.2.2)).toNatClampNeg (fX6_here S)) S) 110).2 115).2 103).2 107).2 112).2 98).1 = 0 then ((gX6_skips (fX6_skips (fX6_skips (fX6_skips (fX6_skips (fX6_skips (fX6_skips (sS7 (upd S.2.2.2.2.2.2.2.1 ((5 * S.2.2.2.2.2.2.2.2.2.2.2.2.2.2.2.2.2.2.2)).toNatClampNeg (fX6_here S)) S) 110).2 115).2 103).2 107).2 112).2 98).2 117) ∧ (if (fX6_skips (fX6_skips (fX6_skips (fX6_skips (fX6_skips (fX6_skips (fX6_skips (sS7 (upd S.2.2.2.2.2.2.2.1 ((5 * S.2.2.2.2.2.2.2.2.2.2.2.2.2.2.2.2.2.2.2)).toNatClampNeg (fX6_here S)) S) 110).2 115).2 103).2 107).2 112).2 98).2 117).1 = 0 then ((gX6_skips (fX6_skips (fX6_skips (fX6_skips (fX6_skips (fX6_skips (fX6_skips (fX6_skips (sS7 (upd S.2.2.2.2.2.2.2.1 ((5 * S.2.2.2.2.2.2.2.2.2.2.2.2.2.2.2.2.2.2.2)).toNatClampNeg (fX6_here S)) S) 110).2 115).2 103).2 107).2 112).2 98).2 117).2 99) ∧ (if (fX6_skips (fX6_skips (fX6_skips (fX6_skips (fX6_skips (fX6_skips (fX6_skips (fX6_skips (sS7 (upd S.2.2.2.2.2.2.2.1 ((5 * S.2.2.2.2.2.2.2.2.2.2.2.2.2.2.2.2.2.2.2)).toNatClampNeg (fX6_here S)) S) 110).2 115).2 103).2 107).2 112).2 98).2 117).2 99).1 = 0 then True else ((gX6_figures (fX6_skips (fX6_skips (fX6_skips (fX6_skips (fX6_skips (fX6_skips (fX6_skips (fX6_skips (sS7 (upd S.2.2.2.2.2.2.2.1 ((5 * S.2.2.2.2.2.2.2.2.2.2.2.2.2.2.2.2.2.2.2)).toNatClampNeg (fX6_here S)) S) 110).2 115).2 103).2 107).2 112).2 98).2 117).2 99).2 ((5 * S.2.2.2.2.2.2.2.2.2.2.2.2.2.2.2.2.2.2.2) + 1) 2) ∧ True))) else ((gX6_figures (fX6_skips (fX6_skips (fX6_skips (fX6_skips (fX6_skips (fX6_skips (fX6_skips (sS7 (upd S.2.2.2.2.2.2.2.1 ((5 * S.2.2.2.2.2.2.2.2.2.2.2.2.2.2.2.2.2.2.2)).toNatClampNeg (fX6_here S)) S) 110).2 115).2 103).2 107).2 112).2 98).2 117).2 ((5 * S.2.2.2.2.2.2.2.2.2.2.2.2.2.2.2.2.2.2.2) + 1) 2) ∧ True))) else ((gX6_figures (fX6_skips (fX6_skips (fX6_skips (fX6_skips (fX6_skips (fX6_skips (sS7 (upd S.2.2.2.2.2.2.2.1 ((5 * S.2.2.2.2.2.2.2.2.2.2.2.2.2.2.2.2.2.2.2)).toNatClampNeg (fX6_here S)) S) 110).2 115).2 103).2 107).2 112).2 98).2 ((5 * S.2.2.2.2.2.2.2.2.2.2.2.2.2.2.2.2.2.2.2) + 1) 2) ∧ (if (fX6_figures (fX6_skips (fX6_skips (fX6_skips (fX6_skips (fX6_skips (fX6_skips (sS7 (upd S.2.2.2.2.2.2.2.1 ((5 * S.2.2.2.2.2.2.2.2.2.2.2.2.2.2.2.2.2.2.2)).toNatClampNeg (fX6_here S)) S) 110).2 115).2 103).2 107).2 112).2 98).2 ((5 * S.2.2.2.2.2.2.2.2.2.2.2.2.2.2.2.2.2.2.2) + 1) 2).1 = 0 then True else ((gX6_skips (fX6_figures (fX6_skips (fX6_skips (fX6_skips (fX6_skips (fX6_skips (fX6_skips (sS7 (upd S.2.2.2.2.2.2.2.1 ((5 * S.2.2.2.2.2.2.2.2.2.2.2.2.2.2.2.2.2.2.2)).toNatClampNeg (fX6_here S)) S) 110).2 115).2 103).2 107).2 112).2 98).2 ((5 * S.2.2.2.2.2.2.2.2.2.2.2.2.2.2.2.2.2.2.2) + 1) 2).2 45) ∧ (if (fX6_skips (fX6_figures (fX6_skips (fX6_skips (fX6_skips (fX6_skips (fX6_skips (fX6_skips (sS7 (upd S.2.2.2.2.2.2.2.1 ((5 * S.2.2.2.2.2.2.2.2.2.2.2.2.2.2.2.2.2.2.2)).toNatClampNeg (fX6_here S)) S) 110).2 115).2 103).2 107).2 112).2 98).2 ((5 * S.2.2.2.2.2.2.2.2.2.2.2.2.2.2.2.2.2.2.2) + 1) 2).2 45).1 = 0 then True else ((gX6_figures (fX6_skips (fX6_figures (fX6_skips (fX6_skips (fX6_skips (fX6_skips (fX6_skips (fX6_skips (sS7 (upd S.2.2.2.2.2.2.2.1 ((5 * S.2.2.2.2.2.2.2.2.2.2.2.2.2.2.2.2.2.2.2)).toNatClampNeg (fX6_here S)) S) 110).2 115).2 103).2 107).2 112).2 98).2 ((5 * S.2.2.2.2.2.2.2.2.2.2.2.2.2.2.2.2.2.2.2) + 1) 2).2 45).2 ((5 * S.2.2.2.2.2.2.2.2.2.2.2.2.2.2.2.2.2.2.2) + 2) 2) ∧ True))))))) else ((gX6_figures (fX6_skips (fX6_skips (fX6_skips (fX6_skips (fX6_skips (sS7 (upd S.2.2.2.2.2.2.2.1 ((5 * S.2.2.2.2.2.2.2.2.2.2.2.2.2.2.2.2.2.2.2)).toNatClampNeg (fX6_here S)) S) 110).2 115).2 103).2 107).2 112).2 ((5 * S.2.2.2.2.2.2.2.2.2.2.2.2.2.2.2.2.2.2.2) + 1) 2) ∧ (if (fX6_figures (fX6_skips (fX6_skips (fX6_skips (fX6_skips (fX6_skips (sS7 (upd S.2.2.2.2.2.2.2.1 ((5 * S.2.2.2.2.2.2.2.2.2.2.2.2.2.2.2.2.2.2.2)).toNatClampNeg (fX6_here S)) S) 110).2 115).2 103).2 107).2 112).2 ((5 * S.2.2.2.2.2.2.2.2.2.2.2.2.2.2.2.2.2.2.2) + 1) 2).1 = 0 then True else ((gX6_skips (fX6_figures (fX6_skips (fX6_skips (fX6_skips (fX6_skips (fX6_skips (sS7 (upd S.2.2.2.2.2.2.2.1 ((5 * S.2.2.2.2.2.2.2.2.2.2.2.2.2.2.2.2.2.2.2)).toNatClampNeg (fX6_here S)) S) 110).2 115).2 103).2 107).2 112).2 ((5 * S.2.2.2.2.2.2.2.2.2.2.2.2.2.2.2.2.2.2.2) + 1) 2).2 62) ∧ (if (fX6_skips (fX6_figures (fX6_skips (fX6_skips (fX6_skips (fX6_skips (fX6_skips (sS7 (upd S.2.2.2.2.2.2.2.1 ((5 * S.2.2.2.2.2.2.2.2.2.2.2.2.2.2.2.2.2.2.2)).toNatClampNeg (fX6_here S)) S) 110).2 115).2 103).2 107).2 112).2 ((5 * S.2.2.2.2.2.2.2.2.2.2.2.2.2.2.2.2.2.2.2) + 1) 2).2 62).1 = 0 then True else ((gX6_figures (fX6_skips (fX6_figures (fX6_skips (fX6_skips (fX6_skips (fX6_skips (fX6_skips (sS7 (upd S.2.2.2.2.2.2.2.1 ((5 * S.2.2.2.2.2.2.2.2.2.2.2.2.2.2.2.2.2.2.2)).toNatClampNeg (fX6_here S)) S) 110).2 115).2 103).2 107).2 112).2 ((5 * S.2.2.2.2.2.2.2.2.2.2.2.2.2.2.2.2.2.2.2) + 1) 2).2 62).2 ((5 * S.2.2.2.2.2.2.2.2.2.2.2.2.2.2.2.2.2.2.2) + 2) 2) ∧ True))))))) else ((gX6_figures (fX6_skips (fX6_skips (fX6_skips (fX6_skips (sS7 (upd S.2.2.2.2.2.2.2.1 ((5 * S.2.2.2.2.2.2.2.2.2.2.2.2.2.2.2.2.2.2.2)).toNatClampNeg (fX6_here S)) S) 110).2 115).2 103).2 107).2 ((5 * S.2.2.2.2.2.2.2.2.2.2.2.2.2.2.2.2.2.2.2) + 1) 3) ∧ True))) else ((gX6_figures (fX6_skips (fX6_skips (fX6_skips (sS7 (upd S.2.2.2.2.2.2.2.1 ((5 * S.2.2.2.2.2.2.2.2.2.2.2.2.2.2.2.2.2.2.2)).toNatClampNeg (fX6_here S)) S) 110).2 115).2 103).2 ((5 * S.2.2.2.2.2.2.2.2.2.2.2.2.2.2.2.2.2.2.2) + 1) 1) ∧ (if (fX6_figures (fX6_skips (fX6_skips (fX6_skips (sS7 (upd S.2.2.2.2.2.2.2.1 ((5 * S.2.2.2.2.2.2.2.2.2.2.2.2.2.2.2.2.2.2.2)).toNatClampNeg (fX6_here S)) S) 110).2 115).2 103).2 ((5 * S.2.2.2.2.2.2.2.2.2.2.2.2.2.2.2.2.2.2.2) + 1) 1).1 = 0 then True else ((gX6_skips (fX6_figures (fX6_skips (fX6_skips (fX6_skips (sS7 (upd S.2.2.2.2.2.2.2.1 ((5 * S.2.2.2.2.2.2.2.2.2.2.2.2.2.2.2.2.2.2.2)).toNatClampNeg (fX6_here S)) S) 110).2 115).2 103).2 ((5 * S.2.2.2.2.2.2.2.2.2.2.2.2.2.2.2.2.2.2.2) + 1) 1).2 42) ∧ (if (fX6_skips (fX6_figures (fX6_skips (fX6_skips (fX6_skips (sS7 (upd S.2.2.2.2.2.2.2.1 ((5 * S.2.2.2.2.2.2.2.2.2.2.2.2.2.2.2.2.2.2.2)).toNatClampNeg (fX6_here S)) S) 110).2 115).2 103).2 ((5 * S.2.2.2.2.2.2.2.2.2.2.2.2.2.2.2.2.2.2.2) + 1) 1).2 42).1 = 0 then True else ((gX6_figures (fX6_skips (fX6_figures (fX6_skips (fX6_skips (fX6_skips (sS7 (upd S.2.2.2.2.2.2.2.1 ((5 * S.2.2.2.2.2.2.2.2.2.2.2.2.2.2.2.2.2.2.2)).toNatClampNeg (fX6_here S)) S) 110).2 115).2 103).2 ((5 * S.2.2.2.2.2.2.2.2.2.2.2.2.2.2.2.2.2.2.2) + 1) 1).2 42).2 ((5 * S.2.2.2.2.2.2.2.2.2.2.2.2.2.2.2.2.2.2.2) + 2) 3) ∧ True))))))) else ((gX6_stoolHere (fX6_skips (fX6_skips (sS7 (upd S.2.2.2.2.2.2.2.1 ((5 * S.2.2.2.2.2.2.2.2.2.2.2.2.2.2.2.2.2.2.2)).toNatClampNeg (fX6_here S)) S) 110).2 115).2 (5 * S.2.2.2.2.2.2.2.2.2.2.2.2.2.2.2.2.2.2.2)) ∧ True))) else True))
abbrev rmX6_orderHere : Room := { frames := 3, cells := 0, slots := 0, locals := 66 }
set_option maxHeartbeats 4000000 in
set_option maxRecDepth 100000 in
theorem kX6_orderHere (l : Launch) (D : va_G) (cI cC cT : ClassId) (h a1 a2 a3 a4 a5 a6 a7 a8 : Nat) (S : SV)  (hg : gX6_orderHere S) : mU l D (TY cI cC cT) yX6_orderHere wsX6_orderHere rmX6_orderHere [.ref h] (w6 cI cC h a1 a2 a3 a4 a5 a6 a7 a8 S) (some (.int (fX6_orderHere S).1)) (w6 cI cC h a1 a2 a3 a4 a5 a6 a7 a8 (fX6_orderHere S).2) := by
  refine mU.ofW (cc := cX6_orderHere) (maxL := 2) (ret := (some .boolean)) (by decide) rfl (Nat.le_of_ble_eq_true rfl) ?_
  intro p e s m args below meth c Q ls A hx hb hml hr hlk hts hown hP hK hD hS hl hQ
  have hown : s.vm.findClass RX6 = some m.cls := hown
  have hP : va_P D vwCl (w6 cI cC h a1 a2 a3 a4 a5 a6 a7 a8 S) s.heap := hP
  have hD : va_D A (w6 cI cC h a1 a2 a3 a4 a5 a6 a7 a8 S) := hD
  have hl : lv_has ls 2 [(0, .ref h)] := hl
  have q0 := hts (Cond.fieldLink RX6 195 "TavernStoolsModel" "toldMany" "I") (by decide +kernel)
  have q1 : ∀ w ∈ u_ws RX6 TX6 20, w ∈ wsX6_orderHere := by decide +kernel
  have q2 := hts (Cond.fieldLink RX6 36 "TavernStoolsModel" "told" "[I") (by decide +kernel)
  unfold gX6_orderHere at hg
  generalize hHe : s.heap = H at hP ⊢
  have hS : va_S A s.heap H [] := hHe ▸ hS
  generalize hLe : ([] : List Loc) = locs at hS ⊢
  refine lv_iconst (v := 5) hx hb dX6_orderHere_0 (by decide) ?_
  refine lv_aload_n hx hb dX6_orderHere_1 rfl (lv_at hl 0 rfl) ?_
  refine va_get (D := D) (ci := 7) (v := .int S.2.2.2.2.2.2.2.2.2.2.2.2.2.2.2.2.2.2.2) (C := RX6) (T := TX6) (N := 20) hx hb hts q1 hown hK hP 0 rfl rfl 19 (by decide) q0 (fun _ h9 => h9) rfl dX6_orderHere_2 ?_
  refine lv_imul hx hb dX6_orderHere_5 ?_
  refine lv_istore_n (lv' := [(1, .int (5 * S.2.2.2.2.2.2.2.2.2.2.2.2.2.2.2.2.2.2.2)), (0, .ref h)]) hx hb dX6_orderHere_6 rfl hl (by decide) rfl (fun ls hl => ?_)
  refine lv_aload_n hx hb dX6_orderHere_7 rfl (lv_at hl 1 rfl) ?_
  refine va_get (D := D) (ci := 7) (v := .ref a8) (C := RX6) (T := TX6) (N := 20) hx hb hts q1 hown hK hP 0 rfl rfl 18 (by decide) q2 (fun _ h9 => h9) rfl dX6_orderHere_8 ?_
  refine lv_iload_n hx hb dX6_orderHere_11 rfl (lv_at hl 0 rfl) ?_
  refine lv_aload_n hx hb dX6_orderHere_12 rfl (lv_at hl 1 rfl) ?_
  obtain ⟨o1, hg⟩ := hg
  refine fRV (As := []) (rest := [.int (5 * S.2.2.2.2.2.2.2.2.2.2.2.2.2.2.2.2.2.2.2), .ref a8]) (st' := [.int (fX6_here S), .int (5 * S.2.2.2.2.2.2.2.2.2.2.2.2.2.2.2.2.2.2.2), .ref a8]) ⟨hx, hb, hml, hown, hts⟩ (kX6_here l D cI cC cT h a1 a2 a3 a4 a5 a6 a7 a8 S o1) (cwV 0 hts gX6_orderHere_X6_here rfl rfl rfl (by decide +kernel) ⟨Nat.le_of_ble_eq_true rfl, Nat.le_of_ble_eq_true rfl⟩) hP hK [0, 1, 2, 3, 4, 5, 6, 7, 8] rfl 0 (ci := 7) rfl rfl rfl rfl hl.1 rfl rfl (Nat.le_of_ble_eq_true rfl) ⟨Nat.zero_le _, Nat.zero_le _⟩ dX6_orderHere_13 ?_
  obtain ⟨o2, hg⟩ := hg
  refine va_iast hx hb hK hP hD hS 8 0 rfl rfl o2 dX6_orderHere_16 (fun H locs hP hD hS => ?_)
  have hP : va_P D vwCl (w6 cI cC h a1 a2 a3 a4 a5 a6 a7 a8 (sS7 (upd S.2.2.2.2.2.2.2.1 ((5 * S.2.2.2.2.2.2.2.2.2.2.2.2.2.2.2.2.2.2.2)).toNatClampNeg (fX6_here S)) S)) H := w6p_7 hP
  have hD : va_D A (w6 cI cC h a1 a2 a3 a4 a5 a6 a7 a8 (sS7 (upd S.2.2.2.2.2.2.2.1 ((5 * S.2.2.2.2.2.2.2.2.2.2.2.2.2.2.2.2.2.2.2)).toNatClampNeg (fX6_here S)) S)) := w6d_7 hD
  refine lv_aload_n hx hb dX6_orderHere_17 rfl (lv_at hl 1 rfl) ?_
  refine lv_bipush (v := 110) hx hb dX6_orderHere_18 (by decide) ?_
  obtain ⟨n1, en1⟩ : ∃ z9, z9 = (fX6_skips (sS7 (upd S.2.2.2.2.2.2.2.1 ((5 * S.2.2.2.2.2.2.2.2.2.2.2.2.2.2.2.2.2.2.2)).toNatClampNeg (fX6_here S)) S) 110) := ⟨_, rfl⟩
  try rw [← en1] at hg
  obtain ⟨o3, hg⟩ := hg
  have k9 := (kX6_skips l D cI cC cT h a1 a2 a3 a4 a5 a6 a7 a8 (sS7 (upd S.2.2.2.2.2.2.2.1 ((5 * S.2.2.2.2.2.2.2.2.2.2.2.2.2.2.2.2.2.2.2)).toNatClampNeg (fX6_here S)) S) 110 o3)
  rw [← en1] at k9
  refine fUV (As := [.int 110]) (rest := []) (st' := [.int n1.1]) ⟨hx, hb, hml, hown, hts⟩ k9 (cwV 1 hts gX6_orderHere_X6_skips rfl rfl rfl (by decide +kernel) ⟨Nat.le_of_ble_eq_true rfl, Nat.le_of_ble_eq_true rfl⟩) hP hK hD hS [0, 1, 2, 3, 4, 5, 6, 7, 8] rfl rfl (by decide) rfl (w6 cI cC h a1 a2 a3 a4 a5 a6 a7 a8 n1.2) rfl rfl 0 (ci := 7) rfl rfl rfl rfl hl.1 rfl rfl (Nat.le_of_ble_eq_true rfl) ⟨Nat.zero_le _, Nat.zero_le _⟩ dX6_orderHere_20 (fun H locs hP hD hS => ?_)
  refine lv_if_eq (tgt := 28) hx hb dX6_orderHere_23 (by decide) (fun c_23_1 => ?_) (fun c_23_1 => ?_)
  · rw [if_pos c_23_1] at hg
    refine lv_aload_n hx hb dX6_orderHere_28 rfl (lv_at hl 1 rfl) ?_
    refine lv_bipush (v := 115) hx hb dX6_orderHere_29 (by decide) ?_
    obtain ⟨n2, en2⟩ : ∃ z9, z9 = (fX6_skips n1.2 115) := ⟨_, rfl⟩
    try rw [← en2] at hg
    obtain ⟨o4, hg⟩ := hg
    have k9 := (kX6_skips l D cI cC cT h a1 a2 a3 a4 a5 a6 a7 a8 n1.2 115 o4)
    rw [← en2] at k9
    refine fUV (As := [.int 115]) (rest := []) (st' := [.int n2.1]) ⟨hx, hb, hml, hown, hts⟩ k9 (cwV 1 hts gX6_orderHere_X6_skips rfl rfl rfl (by decide +kernel) ⟨Nat.le_of_ble_eq_true rfl, Nat.le_of_ble_eq_true rfl⟩) hP hK hD hS [0, 1, 2, 3, 4, 5, 6, 7, 8] rfl rfl (by decide) rfl (w6 cI cC h a1 a2 a3 a4 a5 a6 a7 a8 n2.2) rfl rfl 0 (ci := 7) rfl rfl rfl rfl hl.1 rfl rfl (Nat.le_of_ble_eq_true rfl) ⟨Nat.zero_le _, Nat.zero_le _⟩ dX6_orderHere_31 (fun H locs hP hD hS => ?_)
    refine lv_if_eq (tgt := 43) hx hb dX6_orderHere_34 (by decide) (fun c_34_2 => ?_) (fun c_34_2 => ?_)
    · rw [if_pos c_34_2] at hg
      refine lv_aload_n hx hb dX6_orderHere_43 rfl (lv_at hl 1 rfl) ?_
      refine lv_bipush (v := 103) hx hb dX6_orderHere_44 (by decide) ?_
      obtain ⟨n3, en3⟩ : ∃ z9, z9 = (fX6_skips n2.2 103) := ⟨_, rfl⟩
      try rw [← en3] at hg
      obtain ⟨o5, hg⟩ := hg
      have k9 := (kX6_skips l D cI cC cT h a1 a2 a3 a4 a5 a6 a7 a8 n2.2 103 o5)
      rw [← en3] at k9
      refine fUV (As := [.int 103]) (rest := []) (st' := [.int n3.1]) ⟨hx, hb, hml, hown, hts⟩ k9 (cwV 1 hts gX6_orderHere_X6_skips rfl rfl rfl (by decide +kernel) ⟨Nat.le_of_ble_eq_true rfl, Nat.le_of_ble_eq_true rfl⟩) hP hK hD hS [0, 1, 2, 3, 4, 5, 6, 7, 8] rfl rfl (by decide) rfl (w6 cI cC h a1 a2 a3 a4 a5 a6 a7 a8 n3.2) rfl rfl 0 (ci := 7) rfl rfl rfl rfl hl.1 rfl rfl (Nat.le_of_ble_eq_true rfl) ⟨Nat.zero_le _, Nat.zero_le _⟩ dX6_orderHere_46 (fun H locs hP hD hS => ?_)
      refine lv_if_eq (tgt := 89) hx hb dX6_orderHere_49 (by decide) (fun c_49_3 => ?_) (fun c_49_3 => ?_)
      · rw [if_pos c_49_3] at hg
        refine lv_aload_n hx hb dX6_orderHere_89 rfl (lv_at hl 1 rfl) ?_
        refine lv_bipush (v := 107) hx hb dX6_orderHere_90 (by decide) ?_
        obtain ⟨n4, en4⟩ : ∃ z9, z9 = (fX6_skips n3.2 107) := ⟨_, rfl⟩
        try rw [← en4] at hg
        obtain ⟨o6, hg⟩ := hg
        have k9 := (kX6_skips l D cI cC cT h a1 a2 a3 a4 a5 a6 a7 a8 n3.2 107 o6)
        rw [← en4] at k9
        refine fUV (As := [.int 107]) (rest := []) (st' := [.int n4.1]) ⟨hx, hb, hml, hown, hts⟩ k9 (cwV 1 hts gX6_orderHere_X6_skips rfl rfl rfl (by decide +kernel) ⟨Nat.le_of_ble_eq_true rfl, Nat.le_of_ble_eq_true rfl⟩) hP hK hD hS [0, 1, 2, 3, 4, 5, 6, 7, 8] rfl rfl (by decide) rfl (w6 cI cC h a1 a2 a3 a4 a5 a6 a7 a8 n4.2) rfl rfl 0 (ci := 7) rfl rfl rfl rfl hl.1 rfl rfl (Nat.le_of_ble_eq_true rfl) ⟨Nat.zero_le _, Nat.zero_le _⟩ dX6_orderHere_92 (fun H locs hP hD hS => ?_)
        refine lv_if_eq (tgt := 107) hx hb dX6_orderHere_95 (by decide) (fun c_95_4 => ?_) (fun c_95_4 => ?_)
        · rw [if_pos c_95_4] at hg
          refine lv_aload_n hx hb dX6_orderHere_107 rfl (lv_at hl 1 rfl) ?_
          refine lv_bipush (v := 112) hx hb dX6_orderHere_108 (by decide) ?_
          obtain ⟨n5, en5⟩ : ∃ z9, z9 = (fX6_skips n4.2 112) := ⟨_, rfl⟩
          try rw [← en5] at hg
          obtain ⟨o7, hg⟩ := hg
          have k9 := (kX6_skips l D cI cC cT h a1 a2 a3 a4 a5 a6 a7 a8 n4.2 112 o7)
          rw [← en5] at k9
          refine fUV (As := [.int 112]) (rest := []) (st' := [.int n5.1]) ⟨hx, hb, hml, hown, hts⟩ k9 (cwV 1 hts gX6_orderHere_X6_skips rfl rfl rfl (by decide +kernel) ⟨Nat.le_of_ble_eq_true rfl, Nat.le_of_ble_eq_true rfl⟩) hP hK hD hS [0, 1, 2, 3, 4, 5, 6, 7, 8] rfl rfl (by decide) rfl (w6 cI cC h a1 a2 a3 a4 a5 a6 a7 a8 n5.2) rfl rfl 0 (ci := 7) rfl rfl rfl rfl hl.1 rfl rfl (Nat.le_of_ble_eq_true rfl) ⟨Nat.zero_le _, Nat.zero_le _⟩ dX6_orderHere_110 (fun H locs hP hD hS => ?_)
          refine lv_if_eq (tgt := 153) hx hb dX6_orderHere_113 (by decide) (fun c_113_5 => ?_) (fun c_113_5 => ?_)
          · rw [if_pos c_113_5] at hg
            refine lv_aload_n hx hb dX6_orderHere_153 rfl (lv_at hl 1 rfl) ?_
            refine lv_bipush (v := 98) hx hb dX6_orderHere_154 (by decide) ?_
            obtain ⟨n6, en6⟩ : ∃ z9, z9 = (fX6_skips n5.2 98) := ⟨_, rfl⟩
            try rw [← en6] at hg
            obtain ⟨o8, hg⟩ := hg
            have k9 := (kX6_skips l D cI cC cT h a1 a2 a3 a4 a5 a6 a7 a8 n5.2 98 o8)
            rw [← en6] at k9
            refine fUV (As := [.int 98]) (rest := []) (st' := [.int n6.1]) ⟨hx, hb, hml, hown, hts⟩ k9 (cwV 1 hts gX6_orderHere_X6_skips rfl rfl rfl (by decide +kernel) ⟨Nat.le_of_ble_eq_true rfl, Nat.le_of_ble_eq_true rfl⟩) hP hK hD hS [0, 1, 2, 3, 4, 5, 6, 7, 8] rfl rfl (by decide) rfl (w6 cI cC h a1 a2 a3 a4 a5 a6 a7 a8 n6.2) rfl rfl 0 (ci := 7) rfl rfl rfl rfl hl.1 rfl rfl (Nat.le_of_ble_eq_true rfl) ⟨Nat.zero_le _, Nat.zero_le _⟩ dX6_orderHere_156 (fun H locs hP hD hS => ?_)
            refine lv_if_eq (tgt := 199) hx hb dX6_orderHere_159 (by decide) (fun c_159_6 => ?_) (fun c_159_6 => ?_)
            · rw [if_pos c_159_6] at hg
              refine lv_aload_n hx hb dX6_orderHere_199 rfl (lv_at hl 1 rfl) ?_
              refine lv_bipush (v := 117) hx hb dX6_orderHere_200 (by decide) ?_
              obtain ⟨n7, en7⟩ : ∃ z9, z9 = (fX6_skips n6.2 117) := ⟨_, rfl⟩
              try rw [← en7] at hg
              obtain ⟨o9, hg⟩ := hg
              have k9 := (kX6_skips l D cI cC cT h a1 a2 a3 a4 a5 a6 a7 a8 n6.2 117 o9)
              rw [← en7] at k9
              refine fUV (As := [.int 117]) (rest := []) (st' := [.int n7.1]) ⟨hx, hb, hml, hown, hts⟩ k9 (cwV 1 hts gX6_orderHere_X6_skips rfl rfl rfl (by decide +kernel) ⟨Nat.le_of_ble_eq_true rfl, Nat.le_of_ble_eq_true rfl⟩) hP hK hD hS [0, 1, 2, 3, 4, 5, 6, 7, 8] rfl rfl (by decide) rfl (w6 cI cC h a1 a2 a3 a4 a5 a6 a7 a8 n7.2) rfl rfl 0 (ci := 7) rfl rfl rfl rfl hl.1 rfl rfl (Nat.le_of_ble_eq_true rfl) ⟨Nat.zero_le _, Nat.zero_le _⟩ dX6_orderHere_202 (fun H locs hP hD hS => ?_)
              refine lv_if_ne (tgt := 217) hx hb dX6_orderHere_205 (by decide) (fun c_205_7 => ?_) (fun c_205_7 => ?_)
              · rw [if_neg c_205_7] at hg
                refine lv_aload_n hx hb dX6_orderHere_217 rfl (lv_at hl 1 rfl) ?_
                refine lv_iload_n hx hb dX6_orderHere_218 rfl (lv_at hl 0 rfl) ?_
                refine lv_iconst (v := 1) hx hb dX6_orderHere_219 (by decide) ?_
                refine lv_iadd hx hb dX6_orderHere_220 ?_
                refine lv_iconst (v := 2) hx hb dX6_orderHere_221 (by decide) ?_
                obtain ⟨n8, en8⟩ : ∃ z9, z9 = (fX6_figures n7.2 ((5 * S.2.2.2.2.2.2.2.2.2.2.2.2.2.2.2.2.2.2.2) + 1) 2) := ⟨_, rfl⟩
                try rw [← en8] at hg
                obtain ⟨o10, hg⟩ := hg
                have k9 := (kX6_figures l D cI cC cT h a1 a2 a3 a4 a5 a6 a7 a8 n7.2 ((5 * S.2.2.2.2.2.2.2.2.2.2.2.2.2.2.2.2.2.2.2) + 1) 2 o10)
                rw [← en8] at k9
                refine fUV (As := [.int ((5 * S.2.2.2.2.2.2.2.2.2.2.2.2.2.2.2.2.2.2.2) + 1), .int 2]) (rest := []) (st' := [.int n8.1]) ⟨hx, hb, hml, hown, hts⟩ k9 (cwV 2 hts gX6_orderHere_X6_figures rfl rfl rfl (by decide +kernel) ⟨Nat.le_of_ble_eq_true rfl, Nat.le_of_ble_eq_true rfl⟩) hP hK hD hS [0, 1, 2, 3, 4, 5, 6, 7, 8] rfl rfl (by decide) rfl (w6 cI cC h a1 a2 a3 a4 a5 a6 a7 a8 n8.2) rfl rfl 0 (ci := 7) rfl rfl rfl rfl hl.1 rfl rfl (Nat.le_of_ble_eq_true rfl) ⟨Nat.zero_le _, Nat.zero_le _⟩ dX6_orderHere_222 (fun H locs hP hD hS => ?_)
                refine lv_if_eq (tgt := 232) hx hb dX6_orderHere_225 (by decide) (fun c_225_8 => ?_) (fun c_225_8 => ?_)
                · refine lv_iconst (v := 0) hx hb dX6_orderHere_232 (by decide) ?_
                  have e9 : fX6_orderHere S = (0, n8.2) := by rw [fX6_orderHere, ← en1, if_pos c_23_1, ← en2, if_pos c_34_2, ← en3, if_pos c_49_3, ← en4, if_pos c_95_4, ← en5, if_pos c_113_5, ← en6, if_pos c_159_6, ← en7, if_neg c_205_7, ← en8, if_pos c_225_8]
                  exact rUi hx hb hr hlk hQ hP hS (by rw [e9]) (congrArg (fun z9 : (Int32 × SV) => (w6 cI cC h a1 a2 a3 a4 a5 a6 a7 a8 z9.2 : va_W)) e9).symm rfl dX6_orderHere_233
                · refine lv_iconst (v := 1) hx hb dX6_orderHere_228 (by decide) ?_
                  refine lv_goto (tgt := 233) hx hb dX6_orderHere_229 (by decide) ?_
                  have e9 : fX6_orderHere S = (1, n8.2) := by rw [fX6_orderHere, ← en1, if_pos c_23_1, ← en2, if_pos c_34_2, ← en3, if_pos c_49_3, ← en4, if_pos c_95_4, ← en5, if_pos c_113_5, ← en6, if_pos c_159_6, ← en7, if_neg c_205_7, ← en8, if_neg c_225_8]
                  exact rUi hx hb hr hlk hQ hP hS (by rw [e9]) (congrArg (fun z9 : (Int32 × SV) => (w6 cI cC h a1 a2 a3 a4 a5 a6 a7 a8 z9.2 : va_W)) e9).symm rfl dX6_orderHere_233
              · rw [if_pos c_205_7] at hg
                refine lv_aload_n hx hb dX6_orderHere_208 rfl (lv_at hl 1 rfl) ?_
                refine lv_bipush (v := 99) hx hb dX6_orderHere_209 (by decide) ?_
                obtain ⟨n9, en9⟩ : ∃ z9, z9 = (fX6_skips n7.2 99) := ⟨_, rfl⟩
                try rw [← en9] at hg
                obtain ⟨o11, hg⟩ := hg
                have k9 := (kX6_skips l D cI cC cT h a1 a2 a3 a4 a5 a6 a7 a8 n7.2 99 o11)
                rw [← en9] at k9
                refine fUV (As := [.int 99]) (rest := []) (st' := [.int n9.1]) ⟨hx, hb, hml, hown, hts⟩ k9 (cwV 1 hts gX6_orderHere_X6_skips rfl rfl rfl (by decide +kernel) ⟨Nat.le_of_ble_eq_true rfl, Nat.le_of_ble_eq_true rfl⟩) hP hK hD hS [0, 1, 2, 3, 4, 5, 6, 7, 8] rfl rfl (by decide) rfl (w6 cI cC h a1 a2 a3 a4 a5 a6 a7 a8 n9.2) rfl rfl 0 (ci := 7) rfl rfl rfl rfl hl.1 rfl rfl (Nat.le_of_ble_eq_true rfl) ⟨Nat.zero_le _, Nat.zero_le _⟩ dX6_orderHere_211 (fun H locs hP hD hS => ?_)
                refine lv_if_eq (tgt := 232) hx hb dX6_orderHere_214 (by decide) (fun c_214_9 => ?_) (fun c_214_9 => ?_)
                · rw [if_pos c_214_9] at hg
                  refine lv_iconst (v := 0) hx hb dX6_orderHere_232 (by decide) ?_
                  have e9 : fX6_orderHere S = (0, n9.2) := by rw [fX6_orderHere, ← en1, if_pos c_23_1, ← en2, if_pos c_34_2, ← en3, if_pos c_49_3, ← en4, if_pos c_95_4, ← en5, if_pos c_113_5, ← en6, if_pos c_159_6, ← en7, if_pos c_205_7, ← en9, if_pos c_214_9]
                  exact rUi hx hb hr hlk hQ hP hS (by rw [e9]) (congrArg (fun z9 : (Int32 × SV) => (w6 cI cC h a1 a2 a3 a4 a5 a6 a7 a8 z9.2 : va_W)) e9).symm rfl dX6_orderHere_233
                · rw [if_neg c_214_9] at hg
                  refine lv_aload_n hx hb dX6_orderHere_217 rfl (lv_at hl 1 rfl) ?_
                  refine lv_iload_n hx hb dX6_orderHere_218 rfl (lv_at hl 0 rfl) ?_
                  refine lv_iconst (v := 1) hx hb dX6_orderHere_219 (by decide) ?_
                  refine lv_iadd hx hb dX6_orderHere_220 ?_
                  refine lv_iconst (v := 2) hx hb dX6_orderHere_221 (by decide) ?_
                  obtain ⟨n10, en10⟩ : ∃ z9, z9 = (fX6_figures n9.2 ((5 * S.2.2.2.2.2.2.2.2.2.2.2.2.2.2.2.2.2.2.2) + 1) 2) := ⟨_, rfl⟩
                  try rw [← en10] at hg
                  obtain ⟨o12, hg⟩ := hg
                  have k9 := (kX6_figures l D cI cC cT h a1 a2 a3 a4 a5 a6 a7 a8 n9.2 ((5 * S.2.2.2.2.2.2.2.2.2.2.2.2.2.2.2.2.2.2.2) + 1) 2 o12)
                  rw [← en10] at k9
                  refine fUV (As := [.int ((5 * S.2.2.2.2.2.2.2.2.2.2.2.2.2.2.2.2.2.2.2) + 1), .int 2]) (rest := []) (st' := [.int n10.1]) ⟨hx, hb, hml, hown, hts⟩ k9 (cwV 2 hts gX6_orderHere_X6_figures rfl rfl rfl (by decide +kernel) ⟨Nat.le_of_ble_eq_true rfl, Nat.le_of_ble_eq_true rfl⟩) hP hK hD hS [0, 1, 2, 3, 4, 5, 6, 7, 8] rfl rfl (by decide) rfl (w6 cI cC h a1 a2 a3 a4 a5 a6 a7 a8 n10.2) rfl rfl 0 (ci := 7) rfl rfl rfl rfl hl.1 rfl rfl (Nat.le_of_ble_eq_true rfl) ⟨Nat.zero_le _, Nat.zero_le _⟩ dX6_orderHere_222 (fun H locs hP hD hS => ?_)
                  refine lv_if_eq (tgt := 232) hx hb dX6_orderHere_225 (by decide) (fun c_225_10 => ?_) (fun c_225_10 => ?_)
                  · refine lv_iconst (v := 0) hx hb dX6_orderHere_232 (by decide) ?_
                    have e9 : fX6_orderHere S = (0, n10.2) := by rw [fX6_orderHere, ← en1, if_pos c_23_1, ← en2, if_pos c_34_2, ← en3, if_pos c_49_3, ← en4, if_pos c_95_4, ← en5, if_pos c_113_5, ← en6, if_pos c_159_6, ← en7, if_pos c_205_7, ← en9, if_neg c_214_9, ← en10, if_pos c_225_10]
                    exact rUi hx hb hr hlk hQ hP hS (by rw [e9]) (congrArg (fun z9 : (Int32 × SV) => (w6 cI cC h a1 a2 a3 a4 a5 a6 a7 a8 z9.2 : va_W)) e9).symm rfl dX6_orderHere_233
                  · refine lv_iconst (v := 1) hx hb dX6_orderHere_228 (by decide) ?_
                    refine lv_goto (tgt := 233) hx hb dX6_orderHere_229 (by decide) ?_
                    have e9 : fX6_orderHere S = (1, n10.2) := by rw [fX6_orderHere, ← en1, if_pos c_23_1, ← en2, if_pos c_34_2, ← en3, if_pos c_49_3, ← en4, if_pos c_95_4, ← en5, if_pos c_113_5, ← en6, if_pos c_159_6, ← en7, if_pos c_205_7, ← en9, if_neg c_214_9, ← en10, if_neg c_225_10]
                    exact rUi hx hb hr hlk hQ hP hS (by rw [e9]) (congrArg (fun z9 : (Int32 × SV) => (w6 cI cC h a1 a2 a3 a4 a5 a6 a7 a8 z9.2 : va_W)) e9).symm rfl dX6_orderHere_233
            · rw [if_neg c_159_6] at hg
              refine lv_aload_n hx hb dX6_orderHere_162 rfl (lv_at hl 1 rfl) ?_
              refine lv_iload_n hx hb dX6_orderHere_163 rfl (lv_at hl 0 rfl) ?_
              refine lv_iconst (v := 1) hx hb dX6_orderHere_164 (by decide) ?_
              refine lv_iadd hx hb dX6_orderHere_165 ?_
              refine lv_iconst (v := 2) hx hb dX6_orderHere_166 (by decide) ?_
              obtain ⟨n11, en11⟩ : ∃ z9, z9 = (fX6_figures n6.2 ((5 * S.2.2.2.2.2.2.2.2.2.2.2.2.2.2.2.2.2.2.2) + 1) 2) := ⟨_, rfl⟩
              try rw [← en11] at hg
              obtain ⟨o13, hg⟩ := hg
              have k9 := (kX6_figures l D cI cC cT h a1 a2 a3 a4 a5 a6 a7 a8 n6.2 ((5 * S.2.2.2.2.2.2.2.2.2.2.2.2.2.2.2.2.2.2.2) + 1) 2 o13)
              rw [← en11] at k9
              refine fUV (As := [.int ((5 * S.2.2.2.2.2.2.2.2.2.2.2.2.2.2.2.2.2.2.2) + 1), .int 2]) (rest := []) (st' := [.int n11.1]) ⟨hx, hb, hml, hown, hts⟩ k9 (cwV 2 hts gX6_orderHere_X6_figures rfl rfl rfl (by decide +kernel) ⟨Nat.le_of_ble_eq_true rfl, Nat.le_of_ble_eq_true rfl⟩) hP hK hD hS [0, 1, 2, 3, 4, 5, 6, 7, 8] rfl rfl (by decide) rfl (w6 cI cC h a1 a2 a3 a4 a5 a6 a7 a8 n11.2) rfl rfl 0 (ci := 7) rfl rfl rfl rfl hl.1 rfl rfl (Nat.le_of_ble_eq_true rfl) ⟨Nat.zero_le _, Nat.zero_le _⟩ dX6_orderHere_167 (fun H locs hP hD hS => ?_)
              refine lv_if_eq (tgt := 197) hx hb dX6_orderHere_170 (by decide) (fun c_170_11 => ?_) (fun c_170_11 => ?_)
              · rw [if_pos c_170_11] at hg
                refine lv_iconst (v := 0) hx hb dX6_orderHere_197 (by decide) ?_
                have e9 : fX6_orderHere S = (0, n11.2) := by rw [fX6_orderHere, ← en1, if_pos c_23_1, ← en2, if_pos c_34_2, ← en3, if_pos c_49_3, ← en4, if_pos c_95_4, ← en5, if_pos c_113_5, ← en6, if_neg c_159_6, ← en11, if_pos c_170_11]
                exact rUi hx hb hr hlk hQ hP hS (by rw [e9]) (congrArg (fun z9 : (Int32 × SV) => (w6 cI cC h a1 a2 a3 a4 a5 a6 a7 a8 z9.2 : va_W)) e9).symm rfl dX6_orderHere_198
              · rw [if_neg c_170_11] at hg
                refine lv_aload_n hx hb dX6_orderHere_173 rfl (lv_at hl 1 rfl) ?_
                refine lv_bipush (v := 45) hx hb dX6_orderHere_174 (by decide) ?_
                obtain ⟨n12, en12⟩ : ∃ z9, z9 = (fX6_skips n11.2 45) := ⟨_, rfl⟩
                try rw [← en12] at hg
                obtain ⟨o14, hg⟩ := hg
                have k9 := (kX6_skips l D cI cC cT h a1 a2 a3 a4 a5 a6 a7 a8 n11.2 45 o14)
                rw [← en12] at k9
                refine fUV (As := [.int 45]) (rest := []) (st' := [.int n12.1]) ⟨hx, hb, hml, hown, hts⟩ k9 (cwV 1 hts gX6_orderHere_X6_skips rfl rfl rfl (by decide +kernel) ⟨Nat.le_of_ble_eq_true rfl, Nat.le_of_ble_eq_true rfl⟩) hP hK hD hS [0, 1, 2, 3, 4, 5, 6, 7, 8] rfl rfl (by decide) rfl (w6 cI cC h a1 a2 a3 a4 a5 a6 a7 a8 n12.2) rfl rfl 0 (ci := 7) rfl rfl rfl rfl hl.1 rfl rfl (Nat.le_of_ble_eq_true rfl) ⟨Nat.zero_le _, Nat.zero_le _⟩ dX6_orderHere_176 (fun H locs hP hD hS => ?_)
                refine lv_if_eq (tgt := 197) hx hb dX6_orderHere_179 (by decide) (fun c_179_12 => ?_) (fun c_179_12 => ?_)
                · rw [if_pos c_179_12] at hg
                  refine lv_iconst (v := 0) hx hb dX6_orderHere_197 (by decide) ?_
                  have e9 : fX6_orderHere S = (0, n12.2) := by rw [fX6_orderHere, ← en1, if_pos c_23_1, ← en2, if_pos c_34_2, ← en3, if_pos c_49_3, ← en4, if_pos c_95_4, ← en5, if_pos c_113_5, ← en6, if_neg c_159_6, ← en11, if_neg c_170_11, ← en12, if_pos c_179_12]
                  exact rUi hx hb hr hlk hQ hP hS (by rw [e9]) (congrArg (fun z9 : (Int32 × SV) => (w6 cI cC h a1 a2 a3 a4 a5 a6 a7 a8 z9.2 : va_W)) e9).symm rfl dX6_orderHere_198
                · rw [if_neg c_179_12] at hg
                  refine lv_aload_n hx hb dX6_orderHere_182 rfl (lv_at hl 1 rfl) ?_
                  refine lv_iload_n hx hb dX6_orderHere_183 rfl (lv_at hl 0 rfl) ?_
                  refine lv_iconst (v := 2) hx hb dX6_orderHere_184 (by decide) ?_
                  refine lv_iadd hx hb dX6_orderHere_185 ?_
                  refine lv_iconst (v := 2) hx hb dX6_orderHere_186 (by decide) ?_
                  obtain ⟨n13, en13⟩ : ∃ z9, z9 = (fX6_figures n12.2 ((5 * S.2.2.2.2.2.2.2.2.2.2.2.2.2.2.2.2.2.2.2) + 2) 2) := ⟨_, rfl⟩
                  try rw [← en13] at hg
                  obtain ⟨o15, hg⟩ := hg
                  have k9 := (kX6_figures l D cI cC cT h a1 a2 a3 a4 a5 a6 a7 a8 n12.2 ((5 * S.2.2.2.2.2.2.2.2.2.2.2.2.2.2.2.2.2.2.2) + 2) 2 o15)
                  rw [← en13] at k9
                  refine fUV (As := [.int ((5 * S.2.2.2.2.2.2.2.2.2.2.2.2.2.2.2.2.2.2.2) + 2), .int 2]) (rest := []) (st' := [.int n13.1]) ⟨hx, hb, hml, hown, hts⟩ k9 (cwV 2 hts gX6_orderHere_X6_figures rfl rfl rfl (by decide +kernel) ⟨Nat.le_of_ble_eq_true rfl, Nat.le_of_ble_eq_true rfl⟩) hP hK hD hS [0, 1, 2, 3, 4, 5, 6, 7, 8] rfl rfl (by decide) rfl (w6 cI cC h a1 a2 a3 a4 a5 a6 a7 a8 n13.2) rfl rfl 0 (ci := 7) rfl rfl rfl rfl hl.1 rfl rfl (Nat.le_of_ble_eq_true rfl) ⟨Nat.zero_le _, Nat.zero_le _⟩ dX6_orderHere_187 (fun H locs hP hD hS => ?_)
                  refine lv_if_eq (tgt := 197) hx hb dX6_orderHere_190 (by decide) (fun c_190_13 => ?_) (fun c_190_13 => ?_)
                  · refine lv_iconst (v := 0) hx hb dX6_orderHere_197 (by decide) ?_
                    have e9 : fX6_orderHere S = (0, n13.2) := by rw [fX6_orderHere, ← en1, if_pos c_23_1, ← en2, if_pos c_34_2, ← en3, if_pos c_49_3, ← en4, if_pos c_95_4, ← en5, if_pos c_113_5, ← en6, if_neg c_159_6, ← en11, if_neg c_170_11, ← en12, if_neg c_179_12, ← en13, if_pos c_190_13]
                    exact rUi hx hb hr hlk hQ hP hS (by rw [e9]) (congrArg (fun z9 : (Int32 × SV) => (w6 cI cC h a1 a2 a3 a4 a5 a6 a7 a8 z9.2 : va_W)) e9).symm rfl dX6_orderHere_198
                  · refine lv_iconst (v := 1) hx hb dX6_orderHere_193 (by decide) ?_
                    refine lv_goto (tgt := 198) hx hb dX6_orderHere_194 (by decide) ?_
                    have e9 : fX6_orderHere S = (1, n13.2) := by rw [fX6_orderHere, ← en1, if_pos c_23_1, ← en2, if_pos c_34_2, ← en3, if_pos c_49_3, ← en4, if_pos c_95_4, ← en5, if_pos c_113_5, ← en6, if_neg c_159_6, ← en11, if_neg c_170_11, ← en12, if_neg c_179_12, ← en13, if_neg c_190_13]
                    exact rUi hx hb hr hlk hQ hP hS (by rw [e9]) (congrArg (fun z9 : (Int32 × SV) => (w6 cI cC h a1 a2 a3 a4 a5 a6 a7 a8 z9.2 : va_W)) e9).symm rfl dX6_orderHere_198
          · rw [if_neg c_113_5] at hg
            refine lv_aload_n hx hb dX6_orderHere_116 rfl (lv_at hl 1 rfl) ?_
            refine lv_iload_n hx hb dX6_orderHere_117 rfl (lv_at hl 0 rfl) ?_
            refine lv_iconst (v := 1) hx hb dX6_orderHere_118 (by decide) ?_
            refine lv_iadd hx hb dX6_orderHere_119 ?_
            refine lv_iconst (v := 2) hx hb dX6_orderHere_120 (by decide) ?_
            obtain ⟨n14, en14⟩ : ∃ z9, z9 = (fX6_figures n5.2 ((5 * S.2.2.2.2.2.2.2.2.2.2.2.2.2.2.2.2.2.2.2) + 1) 2) := ⟨_, rfl⟩
            try rw [← en14] at hg
            obtain ⟨o16, hg⟩ := hg
            have k9 := (kX6_figures l D cI cC cT h a1 a2 a3 a4 a5 a6 a7 a8 n5.2 ((5 * S.2.2.2.2.2.2.2.2.2.2.2.2.2.2.2.2.2.2.2) + 1) 2 o16)
            rw [← en14] at k9
            refine fUV (As := [.int ((5 * S.2.2.2.2.2.2.2.2.2.2.2.2.2.2.2.2.2.2.2) + 1), .int 2]) (rest := []) (st' := [.int n14.1]) ⟨hx, hb, hml, hown, hts⟩ k9 (cwV 2 hts gX6_orderHere_X6_figures rfl rfl rfl (by decide +kernel) ⟨Nat.le_of_ble_eq_true rfl, Nat.le_of_ble_eq_true rfl⟩) hP hK hD hS [0, 1, 2, 3, 4, 5, 6, 7, 8] rfl rfl (by decide) rfl (w6 cI cC h a1 a2 a3 a4 a5 a6 a7 a8 n14.2) rfl rfl 0 (ci := 7) rfl rfl rfl rfl hl.1 rfl rfl (Nat.le_of_ble_eq_true rfl) ⟨Nat.zero_le _, Nat.zero_le _⟩ dX6_orderHere_121 (fun H locs hP hD hS => ?_)
            refine lv_if_eq (tgt := 151) hx hb dX6_orderHere_124 (by decide) (fun c_124_14 => ?_) (fun c_124_14 => ?_)
            · rw [if_pos c_124_14] at hg
              refine lv_iconst (v := 0) hx hb dX6_orderHere_151 (by decide) ?_
              have e9 : fX6_orderHere S = (0, n14.2) := by rw [fX6_orderHere, ← en1, if_pos c_23_1, ← en2, if_pos c_34_2, ← en3, if_pos c_49_3, ← en4, if_pos c_95_4, ← en5, if_neg c_113_5, ← en14, if_pos c_124_14]
              exact rUi hx hb hr hlk hQ hP hS (by rw [e9]) (congrArg (fun z9 : (Int32 × SV) => (w6 cI cC h a1 a2 a3 a4 a5 a6 a7 a8 z9.2 : va_W)) e9).symm rfl dX6_orderHere_152
            · rw [if_neg c_124_14] at hg
              refine lv_aload_n hx hb dX6_orderHere_127 rfl (lv_at hl 1 rfl) ?_
              refine lv_bipush (v := 62) hx hb dX6_orderHere_128 (by decide) ?_
              obtain ⟨n15, en15⟩ : ∃ z9, z9 = (fX6_skips n14.2 62) := ⟨_, rfl⟩
              try rw [← en15] at hg
              obtain ⟨o17, hg⟩ := hg
              have k9 := (kX6_skips l D cI cC cT h a1 a2 a3 a4 a5 a6 a7 a8 n14.2 62 o17)
              rw [← en15] at k9
              refine fUV (As := [.int 62]) (rest := []) (st' := [.int n15.1]) ⟨hx, hb, hml, hown, hts⟩ k9 (cwV 1 hts gX6_orderHere_X6_skips rfl rfl rfl (by decide +kernel) ⟨Nat.le_of_ble_eq_true rfl, Nat.le_of_ble_eq_true rfl⟩) hP hK hD hS [0, 1, 2, 3, 4, 5, 6, 7, 8] rfl rfl (by decide) rfl (w6 cI cC h a1 a2 a3 a4 a5 a6 a7 a8 n15.2) rfl rfl 0 (ci := 7) rfl rfl rfl rfl hl.1 rfl rfl (Nat.le_of_ble_eq_true rfl) ⟨Nat.zero_le _, Nat.zero_le _⟩ dX6_orderHere_130 (fun H locs hP hD hS => ?_)
              refine lv_if_eq (tgt := 151) hx hb dX6_orderHere_133 (by decide) (fun c_133_15 => ?_) (fun c_133_15 => ?_)
              · rw [if_pos c_133_15] at hg
                refine lv_iconst (v := 0) hx hb dX6_orderHere_151 (by decide) ?_
                have e9 : fX6_orderHere S = (0, n15.2) := by rw [fX6_orderHere, ← en1, if_pos c_23_1, ← en2, if_pos c_34_2, ← en3, if_pos c_49_3, ← en4, if_pos c_95_4, ← en5, if_neg c_113_5, ← en14, if_neg c_124_14, ← en15, if_pos c_133_15]
                exact rUi hx hb hr hlk hQ hP hS (by rw [e9]) (congrArg (fun z9 : (Int32 × SV) => (w6 cI cC h a1 a2 a3 a4 a5 a6 a7 a8 z9.2 : va_W)) e9).symm rfl dX6_orderHere_152
              · rw [if_neg c_133_15] at hg
                refine lv_aload_n hx hb dX6_orderHere_136 rfl (lv_at hl 1 rfl) ?_
                refine lv_iload_n hx hb dX6_orderHere_137 rfl (lv_at hl 0 rfl) ?_
                refine lv_iconst (v := 2) hx hb dX6_orderHere_138 (by decide) ?_
                refine lv_iadd hx hb dX6_orderHere_139 ?_
                refine lv_iconst (v := 2) hx hb dX6_orderHere_140 (by decide) ?_
                obtain ⟨n16, en16⟩ : ∃ z9, z9 = (fX6_figures n15.2 ((5 * S.2.2.2.2.2.2.2.2.2.2.2.2.2.2.2.2.2.2.2) + 2) 2) := ⟨_, rfl⟩
                try rw [← en16] at hg
                obtain ⟨o18, hg⟩ := hg
                have k9 := (kX6_figures l D cI cC cT h a1 a2 a3 a4 a5 a6 a7 a8 n15.2 ((5 * S.2.2.2.2.2.2.2.2.2.2.2.2.2.2.2.2.2.2.2) + 2) 2 o18)
                rw [← en16] at k9
                refine fUV (As := [.int ((5 * S.2.2.2.2.2.2.2.2.2.2.2.2.2.2.2.2.2.2.2) + 2), .int 2]) (rest := []) (st' := [.int n16.1]) ⟨hx, hb, hml, hown, hts⟩ k9 (cwV 2 hts gX6_orderHere_X6_figures rfl rfl rfl (by decide +kernel) ⟨Nat.le_of_ble_eq_true rfl, Nat.le_of_ble_eq_true rfl⟩) hP hK hD hS [0, 1, 2, 3, 4, 5, 6, 7, 8] rfl rfl (by decide) rfl (w6 cI cC h a1 a2 a3 a4 a5 a6 a7 a8 n16.2) rfl rfl 0 (ci := 7) rfl rfl rfl rfl hl.1 rfl rfl (Nat.le_of_ble_eq_true rfl) ⟨Nat.zero_le _, Nat.zero_le _⟩ dX6_orderHere_141 (fun H locs hP hD hS => ?_)
                refine lv_if_eq (tgt := 151) hx hb dX6_orderHere_144 (by decide) (fun c_144_16 => ?_) (fun c_144_16 => ?_)
                · refine lv_iconst (v := 0) hx hb dX6_orderHere_151 (by decide) ?_
                  have e9 : fX6_orderHere S = (0, n16.2) := by rw [fX6_orderHere, ← en1, if_pos c_23_1, ← en2, if_pos c_34_2, ← en3, if_pos c_49_3, ← en4, if_pos c_95_4, ← en5, if_neg c_113_5, ← en14, if_neg c_124_14, ← en15, if_neg c_133_15, ← en16, if_pos c_144_16]
                  exact rUi hx hb hr hlk hQ hP hS (by rw [e9]) (congrArg (fun z9 : (Int32 × SV) => (w6 cI cC h a1 a2 a3 a4 a5 a6 a7 a8 z9.2 : va_W)) e9).symm rfl dX6_orderHere_152
                · refine lv_iconst (v := 1) hx hb dX6_orderHere_147 (by decide) ?_
                  refine lv_goto (tgt := 152) hx hb dX6_orderHere_148 (by decide) ?_
                  have e9 : fX6_orderHere S = (1, n16.2) := by rw [fX6_orderHere, ← en1, if_pos c_23_1, ← en2, if_pos c_34_2, ← en3, if_pos c_49_3, ← en4, if_pos c_95_4, ← en5, if_neg c_113_5, ← en14, if_neg c_124_14, ← en15, if_neg c_133_15, ← en16, if_neg c_144_16]
                  exact rUi hx hb hr hlk hQ hP hS (by rw [e9]) (congrArg (fun z9 : (Int32 × SV) => (w6 cI cC h a1 a2 a3 a4 a5 a6 a7 a8 z9.2 : va_W)) e9).symm rfl dX6_orderHere_152
        · rw [if_neg c_95_4] at hg
          refine lv_aload_n hx hb dX6_orderHere_98 rfl (lv_at hl 1 rfl) ?_
          refine lv_iload_n hx hb dX6_orderHere_99 rfl (lv_at hl 0 rfl) ?_
          refine lv_iconst (v := 1) hx hb dX6_orderHere_100 (by decide) ?_
          refine lv_iadd hx hb dX6_orderHere_101 ?_
          refine lv_iconst (v := 3) hx hb dX6_orderHere_102 (by decide) ?_
          obtain ⟨n17, en17⟩ : ∃ z9, z9 = (fX6_figures n4.2 ((5 * S.2.2.2.2.2.2.2.2.2.2.2.2.2.2.2.2.2.2.2) + 1) 3) := ⟨_, rfl⟩
          try rw [← en17] at hg
          obtain ⟨o19, hg⟩ := hg
          have k9 := (kX6_figures l D cI cC cT h a1 a2 a3 a4 a5 a6 a7 a8 n4.2 ((5 * S.2.2.2.2.2.2.2.2.2.2.2.2.2.2.2.2.2.2.2) + 1) 3 o19)
          rw [← en17] at k9
          refine fUV (As := [.int ((5 * S.2.2.2.2.2.2.2.2.2.2.2.2.2.2.2.2.2.2.2) + 1), .int 3]) (rest := []) (st' := [.int n17.1]) ⟨hx, hb, hml, hown, hts⟩ k9 (cwV 2 hts gX6_orderHere_X6_figures rfl rfl rfl (by decide +kernel) ⟨Nat.le_of_ble_eq_true rfl, Nat.le_of_ble_eq_true rfl⟩) hP hK hD hS [0, 1, 2, 3, 4, 5, 6, 7, 8] rfl rfl (by decide) rfl (w6 cI cC h a1 a2 a3 a4 a5 a6 a7 a8 n17.2) rfl rfl 0 (ci := 7) rfl rfl rfl rfl hl.1 rfl rfl (Nat.le_of_ble_eq_true rfl) ⟨Nat.zero_le _, Nat.zero_le _⟩ dX6_orderHere_103 (fun H locs hP hD hS => ?_)
          have e9 : fX6_orderHere S = (n17.1, n17.2) := by rw [fX6_orderHere, ← en1, if_pos c_23_1, ← en2, if_pos c_34_2, ← en3, if_pos c_49_3, ← en4, if_neg c_95_4, ← en17]
          exact rUi hx hb hr hlk hQ hP hS (by rw [e9]) (congrArg (fun z9 : (Int32 × SV) => (w6 cI cC h a1 a2 a3 a4 a5 a6 a7 a8 z9.2 : va_W)) e9).symm (nzb (by rw [en17]; exact zX6_figures n4.2 ((5 * S.2.2.2.2.2.2.2.2.2.2.2.2.2.2.2.2.2.2.2) + 1) 3)) dX6_orderHere_106
      · rw [if_neg c_49_3] at hg
        refine lv_aload_n hx hb dX6_orderHere_52 rfl (lv_at hl 1 rfl) ?_
        refine lv_iload_n hx hb dX6_orderHere_53 rfl (lv_at hl 0 rfl) ?_
        refine lv_iconst (v := 1) hx hb dX6_orderHere_54 (by decide) ?_
        refine lv_iadd hx hb dX6_orderHere_55 ?_
        refine lv_iconst (v := 1) hx hb dX6_orderHere_56 (by decide) ?_
        obtain ⟨n18, en18⟩ : ∃ z9, z9 = (fX6_figures n3.2 ((5 * S.2.2.2.2.2.2.2.2.2.2.2.2.2.2.2.2.2.2.2) + 1) 1) := ⟨_, rfl⟩
        try rw [← en18] at hg
        obtain ⟨o20, hg⟩ := hg
        have k9 := (kX6_figures l D cI cC cT h a1 a2 a3 a4 a5 a6 a7 a8 n3.2 ((5 * S.2.2.2.2.2.2.2.2.2.2.2.2.2.2.2.2.2.2.2) + 1) 1 o20)
        rw [← en18] at k9
        refine fUV (As := [.int ((5 * S.2.2.2.2.2.2.2.2.2.2.2.2.2.2.2.2.2.2.2) + 1), .int 1]) (rest := []) (st' := [.int n18.1]) ⟨hx, hb, hml, hown, hts⟩ k9 (cwV 2 hts gX6_orderHere_X6_figures rfl rfl rfl (by decide +kernel) ⟨Nat.le_of_ble_eq_true rfl, Nat.le_of_ble_eq_true rfl⟩) hP hK hD hS [0, 1, 2, 3, 4, 5, 6, 7, 8] rfl rfl (by decide) rfl (w6 cI cC h a1 a2 a3 a4 a5 a6 a7 a8 n18.2) rfl rfl 0 (ci := 7) rfl rfl rfl rfl hl.1 rfl rfl (Nat.le_of_ble_eq_true rfl) ⟨Nat.zero_le _, Nat.zero_le _⟩ dX6_orderHere_57 (fun H locs hP hD hS => ?_)
        refine lv_if_eq (tgt := 87) hx hb dX6_orderHere_60 (by decide) (fun c_60_17 => ?_) (fun c_60_17 => ?_)
        · rw [if_pos c_60_17] at hg
          refine lv_iconst (v := 0) hx hb dX6_orderHere_87 (by decide) ?_
          have e9 : fX6_orderHere S = (0, n18.2) := by rw [fX6_orderHere, ← en1, if_pos c_23_1, ← en2, if_pos c_34_2, ← en3, if_neg c_49_3, ← en18, if_pos c_60_17]
          exact rUi hx hb hr hlk hQ hP hS (by rw [e9]) (congrArg (fun z9 : (Int32 × SV) => (w6 cI cC h a1 a2 a3 a4 a5 a6 a7 a8 z9.2 : va_W)) e9).symm rfl dX6_orderHere_88
        · rw [if_neg c_60_17] at hg
          refine lv_aload_n hx hb dX6_orderHere_63 rfl (lv_at hl 1 rfl) ?_
          refine lv_bipush (v := 42) hx hb dX6_orderHere_64 (by decide) ?_
          obtain ⟨n19, en19⟩ : ∃ z9, z9 = (fX6_skips n18.2 42) := ⟨_, rfl⟩
          try rw [← en19] at hg
          obtain ⟨o21, hg⟩ := hg
          have k9 := (kX6_skips l D cI cC cT h a1 a2 a3 a4 a5 a6 a7 a8 n18.2 42 o21)
          rw [← en19] at k9
          refine fUV (As := [.int 42]) (rest := []) (st' := [.int n19.1]) ⟨hx, hb, hml, hown, hts⟩ k9 (cwV 1 hts gX6_orderHere_X6_skips rfl rfl rfl (by decide +kernel) ⟨Nat.le_of_ble_eq_true rfl, Nat.le_of_ble_eq_true rfl⟩) hP hK hD hS [0, 1, 2, 3, 4, 5, 6, 7, 8] rfl rfl (by decide) rfl (w6 cI cC h a1 a2 a3 a4 a5 a6 a7 a8 n19.2) rfl rfl 0 (ci := 7) rfl rfl rfl rfl hl.1 rfl rfl (Nat.le_of_ble_eq_true rfl) ⟨Nat.zero_le _, Nat.zero_le _⟩ dX6_orderHere_66 (fun H locs hP hD hS => ?_)
          refine lv_if_eq (tgt := 87) hx hb dX6_orderHere_69 (by decide) (fun c_69_18 => ?_) (fun c_69_18 => ?_)
          · rw [if_pos c_69_18] at hg
            refine lv_iconst (v := 0) hx hb dX6_orderHere_87 (by decide) ?_
            have e9 : fX6_orderHere S = (0, n19.2) := by rw [fX6_orderHere, ← en1, if_pos c_23_1, ← en2, if_pos c_34_2, ← en3, if_neg c_49_3, ← en18, if_neg c_60_17, ← en19, if_pos c_69_18]
            exact rUi hx hb hr hlk hQ hP hS (by rw [e9]) (congrArg (fun z9 : (Int32 × SV) => (w6 cI cC h a1 a2 a3 a4 a5 a6 a7 a8 z9.2 : va_W)) e9).symm rfl dX6_orderHere_88
          · rw [if_neg c_69_18] at hg
            refine lv_aload_n hx hb dX6_orderHere_72 rfl (lv_at hl 1 rfl) ?_
            refine lv_iload_n hx hb dX6_orderHere_73 rfl (lv_at hl 0 rfl) ?_
            refine lv_iconst (v := 2) hx hb dX6_orderHere_74 (by decide) ?_
            refine lv_iadd hx hb dX6_orderHere_75 ?_
            refine lv_iconst (v := 3) hx hb dX6_orderHere_76 (by decide) ?_
            obtain ⟨n20, en20⟩ : ∃ z9, z9 = (fX6_figures n19.2 ((5 * S.2.2.2.2.2.2.2.2.2.2.2.2.2.2.2.2.2.2.2) + 2) 3) := ⟨_, rfl⟩
            try rw [← en20] at hg
            obtain ⟨o22, hg⟩ := hg
            have k9 := (kX6_figures l D cI cC cT h a1 a2 a3 a4 a5 a6 a7 a8 n19.2 ((5 * S.2.2.2.2.2.2.2.2.2.2.2.2.2.2.2.2.2.2.2) + 2) 3 o22)
            rw [← en20] at k9
            refine fUV (As := [.int ((5 * S.2.2.2.2.2.2.2.2.2.2.2.2.2.2.2.2.2.2.2) + 2), .int 3]) (rest := []) (st' := [.int n20.1]) ⟨hx, hb, hml, hown, hts⟩ k9 (cwV 2 hts gX6_orderHere_X6_figures rfl rfl rfl (by decide +kernel) ⟨Nat.le_of_ble_eq_true rfl, Nat.le_of_ble_eq_true rfl⟩) hP hK hD hS [0, 1, 2, 3, 4, 5, 6, 7, 8] rfl rfl (by decide) rfl (w6 cI cC h a1 a2 a3 a4 a5 a6 a7 a8 n20.2) rfl rfl 0 (ci := 7) rfl rfl rfl rfl hl.1 rfl rfl (Nat.le_of_ble_eq_true rfl) ⟨Nat.zero_le _, Nat.zero_le _⟩ dX6_orderHere_77 (fun H locs hP hD hS => ?_)
            refine lv_if_eq (tgt := 87) hx hb dX6_orderHere_80 (by decide) (fun c_80_19 => ?_) (fun c_80_19 => ?_)
            · refine lv_iconst (v := 0) hx hb dX6_orderHere_87 (by decide) ?_
              have e9 : fX6_orderHere S = (0, n20.2) := by rw [fX6_orderHere, ← en1, if_pos c_23_1, ← en2, if_pos c_34_2, ← en3, if_neg c_49_3, ← en18, if_neg c_60_17, ← en19, if_neg c_69_18, ← en20, if_pos c_80_19]
              exact rUi hx hb hr hlk hQ hP hS (by rw [e9]) (congrArg (fun z9 : (Int32 × SV) => (w6 cI cC h a1 a2 a3 a4 a5 a6 a7 a8 z9.2 : va_W)) e9).symm rfl dX6_orderHere_88
            · refine lv_iconst (v := 1) hx hb dX6_orderHere_83 (by decide) ?_
              refine lv_goto (tgt := 88) hx hb dX6_orderHere_84 (by decide) ?_
              have e9 : fX6_orderHere S = (1, n20.2) := by rw [fX6_orderHere, ← en1, if_pos c_23_1, ← en2, if_pos c_34_2, ← en3, if_neg c_49_3, ← en18, if_neg c_60_17, ← en19, if_neg c_69_18, ← en20, if_neg c_80_19]
              exact rUi hx hb hr hlk hQ hP hS (by rw [e9]) (congrArg (fun z9 : (Int32 × SV) => (w6 cI cC h a1 a2 a3 a4 a5 a6 a7 a8 z9.2 : va_W)) e9).symm rfl dX6_orderHere_88
    · rw [if_neg c_34_2] at hg
      refine lv_aload_n hx hb dX6_orderHere_37 rfl (lv_at hl 1 rfl) ?_
      refine lv_iload_n hx hb dX6_orderHere_38 rfl (lv_at hl 0 rfl) ?_
      obtain ⟨n21, en21⟩ : ∃ z9, z9 = (fX6_stoolHere n2.2 (5 * S.2.2.2.2.2.2.2.2.2.2.2.2.2.2.2.2.2.2.2)) := ⟨_, rfl⟩
      try rw [← en21] at hg
      obtain ⟨o23, hg⟩ := hg
      have k9 := (kX6_stoolHere l D cI cC cT h a1 a2 a3 a4 a5 a6 a7 a8 n2.2 (5 * S.2.2.2.2.2.2.2.2.2.2.2.2.2.2.2.2.2.2.2) o23)
      rw [← en21] at k9
      refine fUV (As := [.int (5 * S.2.2.2.2.2.2.2.2.2.2.2.2.2.2.2.2.2.2.2)]) (rest := []) (st' := [.int n21.1]) ⟨hx, hb, hml, hown, hts⟩ k9 (cwV 1 hts gX6_orderHere_X6_stoolHere rfl rfl rfl (by decide +kernel) ⟨Nat.le_of_ble_eq_true rfl, Nat.le_of_ble_eq_true rfl⟩) hP hK hD hS [0, 1, 2, 3, 4, 5, 6, 7, 8] rfl rfl (by decide) rfl (w6 cI cC h a1 a2 a3 a4 a5 a6 a7 a8 n21.2) rfl rfl 0 (ci := 7) rfl rfl rfl rfl hl.1 rfl rfl (Nat.le_of_ble_eq_true rfl) ⟨Nat.zero_le _, Nat.zero_le _⟩ dX6_orderHere_39 (fun H locs hP hD hS => ?_)
      have e9 : fX6_orderHere S = (n21.1, n21.2) := by rw [fX6_orderHere, ← en1, if_pos c_23_1, ← en2, if_neg c_34_2, ← en21]
      exact rUi hx hb hr hlk hQ hP hS (by rw [e9]) (congrArg (fun z9 : (Int32 × SV) => (w6 cI cC h a1 a2 a3 a4 a5 a6 a7 a8 z9.2 : va_W)) e9).symm (nzb (by rw [en21]; exact zX6_stoolHere n2.2 (5 * S.2.2.2.2.2.2.2.2.2.2.2.2.2.2.2.2.2.2.2))) dX6_orderHere_42
  · rw [if_neg c_23_1] at hg
    refine lv_iconst (v := 1) hx hb dX6_orderHere_26 (by decide) ?_
    have e9 : fX6_orderHere S = (1, n1.2) := by rw [fX6_orderHere, ← en1, if_neg c_23_1]
    exact rUi hx hb hr hlk hQ hP hS (by rw [e9]) (congrArg (fun z9 : (Int32 × SV) => (w6 cI cC h a1 a2 a3 a4 a5 a6 a7 a8 z9.2 : va_W)) e9).symm rfl dX6_orderHere_27
def lX6_isText_10  (v : SV) : SV ⊕ (SV ⊕ (Int32 × SV)) := (if (fX6_orderHere v).1 = 0 then (.inr (.inr (0, (fX6_orderHere v).2))) else (if (fX6_skips (sS19 ((fX6_orderHere v).2.2.2.2.2.2.2.2.2.2.2.2.2.2.2.2.2.2.2.2 + 1) (fX6_orderHere v).2) 59).1 = 0 then (.inr (.inl (fX6_skips (sS19 ((fX6_orderHere v).2.2.2.2.2.2.2.2.2.2.2.2.2.2.2.2.2.2.2.2 + 1) (fX6_orderHere v).2) 59).2)) else (.inl (fX6_skips (sS19 ((fX6_orderHere v).2.2.2.2.2.2.2.2.2.2.2.2.2.2.2.2.2.2.2.2 + 1) (fX6_orderHere v).2) 59).2)))
def glX6_isText_10  (v : SV) : Prop := ((gX6_orderHere v) ∧ (if (fX6_orderHere v).1 = 0 then True else ((gX6_skips (sS19 ((fX6_orderHere v).2.2.2.2.2.2.2.2.2.2.2.2.2.2.2.2.2.2.2.2 + 1) (fX6_orderHere v).2) 59) ∧ True)))
def fX6_isText (S : SV)  : (Int32 × SV) := (Sum.elim (fun y9 => (if y9.2.2.2.2.2.2.2.2.2.2.2.2.2.2.2.2.2.2.1 = y9.2.2.2.2.2.2.2.2.2.2.2.2.2.2.2.1 then (1, y9) else (0, y9))) (fun q9 => q9) (itv (.inl (sS19 0 (sS18 0 S))) lX6_isText_10 ((fun v : SV => 60) (sS19 0 (sS18 0 S)) + 1) (sS19 0 (sS18 0 S))))
def gX6_isText (S : SV)  : Prop := ((∃ r9 : SV ⊕ (Int32 × SV), lrun lX6_isText_10 glX6_isText_10 ((fun v : SV => 60) (sS19 0 (sS18 0 S)) + 1) (sS19 0 (sS18 0 S)) r9) ∧ True)
abbrev rmX6_isText : Room := { frames := 4, cells := 0, slots := 0, locals := 87 }
set_option maxHeartbeats 4000000 in
set_option maxRecDepth 100000 in
theorem kX6_isText (l : Launch) (D : va_G) (cI cC cT : ClassId) (h a1 a2 a3 a4 a5 a6 a7 a8 : Nat) (S : SV)  (hg : gX6_isText S) : mU l D (TY cI cC cT) yX6_isText wsX6_isText rmX6_isText [.ref h] (w6 cI cC h a1 a2 a3 a4 a5 a6 a7 a8 S) (some (.int (fX6_isText S).1)) (w6 cI cC h a1 a2 a3 a4 a5 a6 a7 a8 (fX6_isText S).2) := by
  refine mU.ofW (cc := cX6_isText) (maxL := 1) (ret := (some .boolean)) (by decide) rfl (Nat.le_of_ble_eq_true rfl) ?_
  intro p e s m args below meth c Q ls A hx hb hml hr hlk hts hown hP hK hD hS hl hQ
  have hown : s.vm.findClass RX6 = some m.cls := hown
  have hP : va_P D vwCl (w6 cI cC h a1 a2 a3 a4 a5 a6 a7 a8 S) s.heap := hP
  have hD : va_D A (w6 cI cC h a1 a2 a3 a4 a5 a6 a7 a8 S) := hD
  have hl : lv_has ls 1 [(0, .ref h)] := hl
  have q0 := hts (Cond.fieldLink RX6 183 "TavernStoolsModel" "at" "I") (by decide +kernel)
  have q1 : ∀ w ∈ u_ws RX6 TX6 20, w ∈ wsX6_isText := by decide +kernel
  have q2 := hts (Cond.fieldLink RX6 195 "TavernStoolsModel" "toldMany" "I") (by decide +kernel)
  have q3 := hts (Cond.fieldLink RX6 180 "TavernStoolsModel" "length" "I") (by decide +kernel)
  unfold gX6_isText at hg
  generalize hHe : s.heap = H at hP ⊢
  have hS : va_S A s.heap H [] := hHe ▸ hS
  generalize hLe : ([] : List Loc) = locs at hS ⊢
  refine lv_aload_n hx hb dX6_isText_0 rfl (lv_at hl 0 rfl) ?_
  refine lv_iconst (v := 0) hx hb dX6_isText_1 (by decide) ?_
  refine va_put (D := D) (ci := 7) (v := .int 0) (ty := .int) (C := RX6) (T := TX6) (N := 20) hx hb hts q1 tyX6 tyX6_ok nmX6 hown hK hP hD hS 0 rfl rfl 17 (by decide) q0 (fun _ h9 => h9) rfl (by decide +kernel) rfl rfl (Nat.le_of_ble_eq_true rfl) dX6_isText_2 (fun H locs hP hD hS => ?_)
  have hP : va_P D vwCl (w6 cI cC h a1 a2 a3 a4 a5 a6 a7 a8 (sS18 0 S)) H := w6p_18 hP
  have hD : va_D A (w6 cI cC h a1 a2 a3 a4 a5 a6 a7 a8 (sS18 0 S)) := w6d_18 hD
  refine lv_aload_n hx hb dX6_isText_5 rfl (lv_at hl 0 rfl) ?_
  refine lv_iconst (v := 0) hx hb dX6_isText_6 (by decide) ?_
  refine va_put (D := D) (ci := 7) (v := .int 0) (ty := .int) (C := RX6) (T := TX6) (N := 20) hx hb hts q1 tyX6 tyX6_ok nmX6 hown hK hP hD hS 0 rfl rfl 19 (by decide) q2 (fun _ h9 => h9) rfl (by decide +kernel) rfl rfl (Nat.le_of_ble_eq_true rfl) dX6_isText_7 (fun H locs hP hD hS => ?_)
  have hP : va_P D vwCl (w6 cI cC h a1 a2 a3 a4 a5 a6 a7 a8 (sS19 0 (sS18 0 S))) H := w6p_19 hP
  have hD : va_D A (w6 cI cC h a1 a2 a3 a4 a5 a6 a7 a8 (sS19 0 (sS18 0 S))) := w6d_19 hD
  obtain ⟨n3, en3⟩ : ∃ z9, z9 = (itv (.inl (sS19 0 (sS18 0 S))) lX6_isText_10 ((fun v : SV => 60) (sS19 0 (sS18 0 S)) + 1) (sS19 0 (sS18 0 S))) := ⟨_, rfl⟩
  try rw [← en3] at hg
  obtain ⟨o3, hg⟩ := hg
  have L9 := lrun_val (d := (.inl (sS19 0 (sS18 0 S)))) o3
  rw [← en3] at L9
  refine loopWs lX6_isText_10 glX6_isText_10 (fun v : SV => ∀ (H : Heap) (locs : List Loc) ls, va_P D vwCl (w6 cI cC h a1 a2 a3 a4 a5 a6 a7 a8 v) H → va_D A (w6 cI cC h a1 a2 a3 a4 a5 a6 a7 a8 v) → va_S A s.heap H locs → lv_has ls 1 [(0, .ref h)] → W p l e rmX6_isText s m args below meth c H locs 0 0 Q (F0 m 10 ls [])) (fun r8 : SV ⊕ (Int32 × SV) => Sum.elim (fun r9 : SV => ∀ (H : Heap) (locs : List Loc) ls, va_P D vwCl (w6 cI cC h a1 a2 a3 a4 a5 a6 a7 a8 r9) H → va_D A (w6 cI cC h a1 a2 a3 a4 a5 a6 a7 a8 r9) → va_S A s.heap H locs → lv_has ls 1 [(0, .ref h)] → W p l e rmX6_isText s m args below meth c H locs 0 0 Q (F0 m 38 ls [])) (fun q9 : (Int32 × SV) => ∀ (H : Heap) (locs : List Loc) (pc : Nat) ls, va_P D vwCl (w6 cI cC h a1 a2 a3 a4 a5 a6 a7 a8 q9.2) H → va_D A (w6 cI cC h a1 a2 a3 a4 a5 a6 a7 a8 q9.2) → va_S A s.heap H locs → decode cX6_isText pc = .ok (.ireturn, 1) → narrow (.boolean) (.int q9.1) = .int q9.1 → W p l e rmX6_isText s m args below meth c H locs 0 0 Q (F0 m pc ls [.int q9.1])) r8) ?_ _ (sS19 0 (sS18 0 S)) n3 L9 ?_ _ _ ls hP hD hS (lv_sub hl [0] rfl)
  · intro v hg kb kx H locs ls hP hD hS hl
    unfold glX6_isText_10 at hg
    refine lv_aload_n hx hb dX6_isText_10 rfl (lv_at hl 0 rfl) ?_
    obtain ⟨n1, en1⟩ : ∃ z9, z9 = (fX6_orderHere v) := ⟨_, rfl⟩
    try rw [← en1] at hg
    obtain ⟨o1, hg⟩ := hg
    have k9 := (kX6_orderHere l D cI cC cT h a1 a2 a3 a4 a5 a6 a7 a8 v o1)
    rw [← en1] at k9
    refine fUV (As := []) (rest := []) (st' := [.int n1.1]) ⟨hx, hb, hml, hown, hts⟩ k9 (cwV 0 hts gX6_isText_X6_orderHere rfl rfl rfl (by decide +kernel) ⟨Nat.le_of_ble_eq_true rfl, Nat.le_of_ble_eq_true rfl⟩) hP hK hD hS [0, 1, 2, 3, 4, 5, 6, 7, 8] rfl rfl (by decide) rfl (w6 cI cC h a1 a2 a3 a4 a5 a6 a7 a8 n1.2) rfl rfl 0 (ci := 7) rfl rfl rfl rfl hl.1 rfl rfl (Nat.le_of_ble_eq_true rfl) ⟨Nat.zero_le _, Nat.zero_le _⟩ dX6_isText_11 (fun H locs hP hD hS => ?_)
    refine lv_if_ne (tgt := 19) hx hb dX6_isText_14 (by decide) (fun c_14_1 => ?_) (fun c_14_1 => ?_)
    · rw [if_neg c_14_1] at hg
      refine lv_aload_n hx hb dX6_isText_19 rfl (lv_at hl 0 rfl) ?_
      refine lv_dup hx hb dX6_isText_20 rfl ?_
      refine va_get (D := D) (ci := 7) (v := .int n1.2.2.2.2.2.2.2.2.2.2.2.2.2.2.2.2.2.2.2.2) (C := RX6) (T := TX6) (N := 20) hx hb hts q1 hown hK hP 0 rfl rfl 19 (by decide) q2 (fun _ h9 => h9) rfl dX6_isText_21 ?_
      refine lv_iconst (v := 1) hx hb dX6_isText_24 (by decide) ?_
      refine lv_iadd hx hb dX6_isText_25 ?_
      refine va_put (D := D) (ci := 7) (v := .int (n1.2.2.2.2.2.2.2.2.2.2.2.2.2.2.2.2.2.2.2.2 + 1)) (ty := .int) (C := RX6) (T := TX6) (N := 20) hx hb hts q1 tyX6 tyX6_ok nmX6 hown hK hP hD hS 0 rfl rfl 19 (by decide) q2 (fun _ h9 => h9) rfl (by decide +kernel) rfl rfl (Nat.le_of_ble_eq_true rfl) dX6_isText_26 (fun H locs hP hD hS => ?_)
      have hP : va_P D vwCl (w6 cI cC h a1 a2 a3 a4 a5 a6 a7 a8 (sS19 (n1.2.2.2.2.2.2.2.2.2.2.2.2.2.2.2.2.2.2.2.2 + 1) n1.2)) H := w6p_19 hP
      have hD : va_D A (w6 cI cC h a1 a2 a3 a4 a5 a6 a7 a8 (sS19 (n1.2.2.2.2.2.2.2.2.2.2.2.2.2.2.2.2.2.2.2.2 + 1) n1.2)) := w6d_19 hD
      refine lv_aload_n hx hb dX6_isText_29 rfl (lv_at hl 0 rfl) ?_
      refine lv_bipush (v := 59) hx hb dX6_isText_30 (by decide) ?_
      obtain ⟨n2, en2⟩ : ∃ z9, z9 = (fX6_skips (sS19 (n1.2.2.2.2.2.2.2.2.2.2.2.2.2.2.2.2.2.2.2.2 + 1) n1.2) 59) := ⟨_, rfl⟩
      try rw [← en2] at hg
      obtain ⟨o2, hg⟩ := hg
      have k9 := (kX6_skips l D cI cC cT h a1 a2 a3 a4 a5 a6 a7 a8 (sS19 (n1.2.2.2.2.2.2.2.2.2.2.2.2.2.2.2.2.2.2.2.2 + 1) n1.2) 59 o2)
      rw [← en2] at k9
      refine fUV (As := [.int 59]) (rest := []) (st' := [.int n2.1]) ⟨hx, hb, hml, hown, hts⟩ k9 (cwV 1 hts gX6_isText_X6_skips rfl rfl rfl (by decide +kernel) ⟨Nat.le_of_ble_eq_true rfl, Nat.le_of_ble_eq_true rfl⟩) hP hK hD hS [0, 1, 2, 3, 4, 5, 6, 7, 8] rfl rfl (by decide) rfl (w6 cI cC h a1 a2 a3 a4 a5 a6 a7 a8 n2.2) rfl rfl 0 (ci := 7) rfl rfl rfl rfl hl.1 rfl rfl (Nat.le_of_ble_eq_true rfl) ⟨Nat.zero_le _, Nat.zero_le _⟩ dX6_isText_32 (fun H locs hP hD hS => ?_)
      refine lv_if_ne (tgt := 10) hx hb dX6_isText_35 (by decide) (fun c_35_2 => ?_) (fun c_35_2 => ?_)
      · exact kb n2.2 (by rw [lX6_isText_10, ← en1, if_neg c_14_1, ← en2, if_neg c_35_2]) H locs ls hP hD hS (lv_sub hl [0] rfl)
      · exact kx (.inl n2.2) (by rw [lX6_isText_10, ← en1, if_neg c_14_1, ← en2, if_pos c_35_2]) H locs ls hP hD hS (lv_sub hl [0] rfl)
    · rw [if_pos c_14_1] at hg
      refine lv_iconst (v := 0) hx hb dX6_isText_17 (by decide) ?_
      exact kx (.inr (0, n1.2)) (by rw [lX6_isText_10, ← en1, if_pos c_14_1]) H locs 18 ls hP hD hS dX6_isText_18 (show narrow (.boolean) (.int 0) = .int 0 from rfl)
  · cases hy_10 : n3 with
    | inl y9 =>
      show ∀ (H : Heap) (locs : List Loc) ls, va_P D vwCl (w6 cI cC h a1 a2 a3 a4 a5 a6 a7 a8 y9) H → va_D A (w6 cI cC h a1 a2 a3 a4 a5 a6 a7 a8 y9) → va_S A s.heap H locs → lv_has ls 1 [(0, .ref h)] → W p l e rmX6_isText s m args below meth c H locs 0 0 Q (F0 m 38 ls [])
      intro H locs ls hP hD hS hl
      refine lv_aload_n hx hb dX6_isText_38 rfl (lv_at hl 0 rfl) ?_
      refine va_get (D := D) (ci := 7) (v := .int y9.2.2.2.2.2.2.2.2.2.2.2.2.2.2.2.2.2.2.1) (C := RX6) (T := TX6) (N := 20) hx hb hts q1 hown hK hP 0 rfl rfl 17 (by decide) q0 (fun _ h9 => h9) rfl dX6_isText_39 ?_
      refine lv_aload_n hx hb dX6_isText_42 rfl (lv_at hl 0 rfl) ?_
      refine va_get (D := D) (ci := 7) (v := .int y9.2.2.2.2.2.2.2.2.2.2.2.2.2.2.2.1) (C := RX6) (T := TX6) (N := 20) hx hb hts q1 hown hK hP 0 rfl rfl 12 (by decide) q3 (fun _ h9 => h9) rfl dX6_isText_43 ?_
      refine lv_icmp_ne (tgt := 53) hx hb dX6_isText_46 (by decide) (fun c_46_3 => ?_) (fun c_46_3 => ?_)
      · refine lv_iconst (v := 0) hx hb dX6_isText_53 (by decide) ?_
        have e9 : fX6_isText S = (0, y9) := by rw [fX6_isText, ← en3, hy_10, Sum.elim_inl, if_neg c_46_3]
        exact rUi hx hb hr hlk hQ hP hS (by rw [e9]) (congrArg (fun z9 : (Int32 × SV) => (w6 cI cC h a1 a2 a3 a4 a5 a6 a7 a8 z9.2 : va_W)) e9).symm rfl dX6_isText_54
      · refine lv_iconst (v := 1) hx hb dX6_isText_49 (by decide) ?_
        refine lv_goto (tgt := 54) hx hb dX6_isText_50 (by decide) ?_
        have e9 : fX6_isText S = (1, y9) := by rw [fX6_isText, ← en3, hy_10, Sum.elim_inl, if_pos c_46_3]
        exact rUi hx hb hr hlk hQ hP hS (by rw [e9]) (congrArg (fun z9 : (Int32 × SV) => (w6 cI cC h a1 a2 a3 a4 a5 a6 a7 a8 z9.2 : va_W)) e9).symm rfl dX6_isText_54
    | inr q9 =>
      intro H locs pc ls hP hD hS hd9 hn9
      have e9 : fX6_isText S = q9 := by rw [fX6_isText, ← en3, hy_10, Sum.elim_inr]
      exact rUi hx hb hr hlk hQ hP hS (by rw [e9]) (congrArg (fun z9 : (Int32 × SV) => w6 cI cC h a1 a2 a3 a4 a5 a6 a7 a8 z9.2) e9).symm hn9 hd9
