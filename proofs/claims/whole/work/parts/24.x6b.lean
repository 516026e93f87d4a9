def fX6_stool (S : SV) (x1 : Int32) (x2 : Int32) (x3 : Int32) (x4 : Int32) : (Int32 × SV) := (if (fX6_in x1 1 40) = 0 then (0, (fX6_fails S 1).2) else (if (fX6_in x2 0 9) = 0 then (0, (fX6_fails S 1).2) else (if (fX6_in x3 0 9) = 0 then (0, (fX6_fails S 1).2) else (if ((fX6_fails S 0).2.1 (0 : Int32).toNatClampNeg) = 12 then ((fX6_refuses (fX6_fails S 0).2 2 1 12).1, (fX6_refuses (fX6_fails S 0).2 2 1 12).2) else (if x4 = 0 then (((fX6_keeps_g (fX6_fails S 0).2).1 (0 : Int32).toNatClampNeg), (fX6_lays (fX6_lays (fX6_lays (fX6_lays (fX6_lays (fX6_lays (sS0 (upd (fX6_keeps_g (fX6_fails S 0).2).1 (0 : Int32).toNatClampNeg (((fX6_keeps_g (fX6_fails S 0).2).1 (0 : Int32).toNatClampNeg) + 1)) (fX6_keeps_g (fX6_fails S 0).2)) ((fX6_keeps_g (fX6_fails S 0).2).1 (0 : Int32).toNatClampNeg) 0 x1) ((fX6_keeps_g (fX6_fails S 0).2).1 (0 : Int32).toNatClampNeg) 1 x2) ((fX6_keeps_g (fX6_fails S 0).2).1 (0 : Int32).toNatClampNeg) 2 x3) ((fX6_keeps_g (fX6_fails S 0).2).1 (0 : Int32).toNatClampNeg) 3 0) ((fX6_keeps_g (fX6_fails S 0).2).1 (0 : Int32).toNatClampNeg) 4 0) ((fX6_keeps_g (fX6_fails S 0).2).1 (0 : Int32).toNatClampNeg) 5 (-1))) else (((fX6_keeps_g (fX6_fails S 0).2).1 (0 : Int32).toNatClampNeg), (fX6_lays (fX6_lays (fX6_lays (fX6_lays (fX6_lays (fX6_lays (sS0 (upd (fX6_keeps_g (fX6_fails S 0).2).1 (0 : Int32).toNatClampNeg (((fX6_keeps_g (fX6_fails S 0).2).1 (0 : Int32).toNatClampNeg) + 1)) (fX6_keeps_g (fX6_fails S 0).2)) ((fX6_keeps_g (fX6_fails S 0).2).1 (0 : Int32).toNatClampNeg) 0 x1) ((fX6_keeps_g (fX6_fails S 0).2).1 (0 : Int32).toNatClampNeg) 1 x2) ((fX6_keeps_g (fX6_fails S 0).2).1 (0 : Int32).toNatClampNeg) 2 x3) ((fX6_keeps_g (fX6_fails S 0).2).1 (0 : Int32).toNatClampNeg) 3 1) ((fX6_keeps_g (fX6_fails S 0).2).1 (0 : Int32).toNatClampNeg) 4 0) ((fX6_keeps_g (fX6_fails S 0).2).1 (0 : Int32).toNatClampNeg) 5 (-1))))))))
def gX6_stool (S : SV) (x1 : Int32) (x2 : Int32) (x3 : Int32) (x4 : Int32) : Prop := (if (fX6_in x1 1 40) = 0 then True else (if (fX6_in x2 0 9) = 0 then True else (if (fX6_in x3 0 9) = 0 then True else ((vp_in 0 114) ∧ (if ((fX6_fails S 0).2.1 (0 : Int32).toNatClampNeg) = 12 then True else ((gX6_keeps_g (fX6_fails S 0).2) ∧ (vp_in 0 114) ∧ (vp_in 0 114) ∧ (vp_in 0 114) ∧ (gX6_lays (sS0 (upd (fX6_keeps_g (fX6_fails S 0).2).1 (0 : Int32).toNatClampNeg (((fX6_keeps_g (fX6_fails S 0).2).1 (0 : Int32).toNatClampNeg) + 1)) (fX6_keeps_g (fX6_fails S 0).2)) ((fX6_keeps_g (fX6_fails S 0).2).1 (0 : Int32).toNatClampNeg) 0 x1) ∧ (gX6_lays (fX6_lays (sS0 (upd (fX6_keeps_g (fX6_fails S 0).2).1 (0 : Int32).toNatClampNeg (((fX6_keeps_g (fX6_fails S 0).2).1 (0 : Int32).toNatClampNeg) + 1)) (fX6_keeps_g (fX6_fails S 0).2)) ((fX6_keeps_g (fX6_fails S 0).2).1 (0 : Int32).toNatClampNeg) 0 x1) ((fX6_keeps_g (fX6_fails S 0).2).1 (0 : Int32).toNatClampNeg) 1 x2) ∧ (gX6_lays (fX6_lays (fX6_lays (sS0 (upd (fX6_keeps_g (fX6_fails S 0).2).1 (0 : Int32).toNatClampNeg (((fX6_keeps_g (fX6_fails S 0).2).1 (0 : Int32).toNatClampNeg) + 1)) (fX6_keeps_g (fX6_fails S 0).2)) ((fX6_keeps_g (fX6_fails S 0).2).1 (0 : Int32).toNatClampNeg) 0 x1) ((fX6_keeps_g (fX6_fails S 0).2).1 (0 : Int32).toNatClampNeg) 1 x2) ((fX6_keeps_g (fX6_fails S 0).2).1 (0 : Int32).toNatClampNeg) 2 x3) ∧ (if x4 = 0 then ((gX6_lays (fX6_lays (fX6_lays (fX6_lays (sS0 (upd (fX6_keeps_g (fX6_fails S 0).2).1 (0 : Int32).toNatClampNeg (((fX6_keeps_g (fX6_fails S 0).2).1 (0 : Int32).toNatClampNeg) + 1)) (fX6_keeps_g (fX6_fails S 0).2)) ((fX6_keeps_g (fX6_fails S 0).2).1 (0 : Int32).toNatClampNeg) 0 x1) ((fX6_keeps_g (fX6_fails S 0).2).1 (0 : Int32).toNatClampNeg) 1 x2) ((fX6_keeps_g (fX6_fails S 0).2).1 (0 : Int32).toNatClampNeg) 2 x3) ((fX6_keeps_g (fX6_fails S 0).2).1 (0 : Int32).toNatClampNeg) 3 0) ∧ (gX6_lays (fX6_lays (fX6_lays (fX6_lays (fX6_lays (sS0 (upd (fX6_keeps_g (fX6_fails S 0).2).1 (0 : Int32).toNatClampNeg (((fX6_keeps_g (fX6_fails S 0).2).1 (0 : Int32).toNatClampNeg) + 1)) (fX6_keeps_g (fX6_fails S 0).2)) ((fX6_keeps_g (fX6_fails S 0).2).1 (0 : Int32).toNatClampNeg) 0 x1) ((fX6_keeps_g (fX6_fails S 0).2).1 (0 : Int32).toNatClampNeg) 1 x2) ((fX6_keeps_g (fX6_fails S 0).2).1 (0 : Int32).toNatClampNeg) 2 x3) ((fX6_keeps_g (fX6_fails S 0).2).1 (0 : Int32).toNatClampNeg) 3 0) ((fX6_keeps_g (fX6_fails S 0).2).1 (0 : Int32).toNatClampNeg) 4 0) ∧ (gX6_lays (fX6_lays (fX6_lays (fX6_lays (fX6_lays (fX6_lays (sS0 (upd (fX6_keeps_g (fX6_fails S 0).2).1 (0 : Int32).toNatClampNeg (((fX6_keeps_g (fX6_fails S 0).2).1 (0 : Int32).toNatClampNeg) + 1)) (fX6_keeps_g (fX6_fails S 0).2)) ((fX6_keeps_g (fX6_fails S 0).2).1 (0 : Int32).toNatClampNeg) 0 x1) ((fX6_keeps_g (fX6_fails S 0).2).1 (0 : Int32).toNatClampNeg) 1 x2) ((fX6_keeps_g (fX6_fails S 0).2).1 (0 : Int32).toNatClampNeg) 2 x3) ((fX6_keeps_g (fX6_fails S 0).2).1 (0 : Int32).toNatClampNeg) 3 0) ((fX6_keeps_g (fX6_fails S 0).2).1 (0 : Int32).toNatClampNeg) 4 0) ((fX6_keeps_g (fX6_fails S 0).2).1 (0 : Int32).toNatClampNeg) 5 (-1)) ∧ True) else ((gX6_lays (fX6_lays (fX6_lays (fX6_lays (sS0 (upd (fX6_keeps_g (fX6_fails S 0).2).1 (0 : Int32).toNatClampNeg (((fX6_keeps_g (fX6_fails S 0).2).1 (0 : Int32).toNatClampNeg) + 1)) (fX6_keeps_g (fX6_fails S 0).2)) ((fX6_keeps_g (fX6_fails S 0).2).1 (0 : Int32).toNatClampNeg) 0 x1) ((fX6_keeps_g (fX6_fails S 0).2).1 (0 : Int32).toNatClampNeg) 1 x2) ((fX6_keeps_g (fX6_fails S 0).2).1 (0 : Int32).toNatClampNeg) 2 x3) ((fX6_keeps_g (fX6_fails S 0).2).1 (0 : Int32).toNatClampNeg) 3 1) ∧ (gX6_lays (fX6_lays (fX6_lays (fX6_lays (fX6_lays (sS0 (upd (fX6_keeps_g (fX6_fails S 0).2).1 (0 : Int32).toNatClampNeg (((fX6_keeps_g (fX6_fails S 0).2).1 (0 : Int32).toNatClampNeg) + 1)) (fX6_keeps_g (fX6_fails S 0).2)) ((fX6_keeps_g (fX6_fails S 0).2).1 (0 : Int32).toNatClampNeg) 0 x1) ((fX6_keeps_g (fX6_fails S 0).2).1 (0 : Int32).toNatClampNeg) 1 x2) ((fX6_keeps_g (fX6_fails S 0).2).1 (0 : Int32).toNatClampNeg) 2 x3) ((fX6_keeps_g (fX6_fails S 0).2).1 (0 : Int32).toNatClampNeg) 3 1) ((fX6_keeps_g (fX6_fails S 0).2).1 (0 : Int32).toNatClampNeg) 4 0) ∧ (gX6_lays (fX6_lays (fX6_lays (fX6_lays (fX6_lays (fX6_lays (sS0 (upd (fX6_keeps_g (fX6_fails S 0).2).1 (0 : Int32).toNatClampNeg (((fX6_keeps_g (fX6_fails S 0).2).1 (0 : Int32).toNatClampNeg) + 1)) (fX6_keeps_g (fX6_fails S 0).2)) ((fX6_keeps_g (fX6_fails S 0).2).1 (0 : Int32).toNatClampNeg) 0 x1) ((fX6_keeps_g (fX6_fails S 0).2).1 (0 : Int32).toNatClampNeg) 1 x2) ((fX6_keeps_g (fX6_fails S 0).2).1 (0 : Int32).toNatClampNeg) 2 x3) ((fX6_keeps_g (fX6_fails S 0).2).1 (0 : Int32).toNatClampNeg) 3 1) ((fX6_keeps_g (fX6_fails S 0).2).1 (0 : Int32).toNatClampNeg) 4 0) ((fX6_keeps_g (fX6_fails S 0).2).1 (0 : Int32).toNatClampNeg) 5 (-1)) ∧ True))))))))
abbrev rmX6_stool : Room := { frames := 2, cells := 0, slots := 0, locals := 46 }
set_option maxHeartbeats 4000000 in
set_option maxRecDepth 100000 in
theorem kX6_stool (l : Launch) (D : va_G) (cI cC cT : ClassId) (h a1 a2 a3 a4 a5 a6 a7 a8 : Nat) (S : SV) (x1 : Int32) (x2 : Int32) (x3 : Int32) (x4 : Int32) (hg : gX6_stool S x1 x2 x3 x4) : mU l D (TY cI cC cT) yX6_stool wsX6_stool rmX6_stool [.ref h, .int x1, .int x2, .int x3, .int x4] (w6 cI cC h a1 a2 a3 a4 a5 a6 a7 a8 S) (some (.int (fX6_stool S x1 x2 x3 x4).1)) (w6 cI cC h a1 a2 a3 a4 a5 a6 a7 a8 (fX6_stool S x1 x2 x3 x4).2) := by
  refine mU.ofW (cc := cX6_stool) (maxL := 6) (ret := (some .int)) (by decide) rfl (Nat.le_of_ble_eq_true rfl) ?_
  intro p e s m args below meth c Q ls A hx hb hml hr hlk hts hown hP hK hD hS hl hQ
  have hown : s.vm.findClass RX6 = some m.cls := hown
  have hP : va_P D vwCl (w6 cI cC h a1 a2 a3 a4 a5 a6 a7 a8 S) s.heap := hP
  have hD : va_D A (w6 cI cC h a1 a2 a3 a4 a5 a6 a7 a8 S) := hD
  have hl : lv_has ls 6 [(0, .ref h), (1, .int x1), (2, .int x2), (3, .int x3), (4, .int x4)] := hl
  have q0 := hts (Cond.fieldLink RX6 7 "TavernStoolsModel" "g" "[I") (by decide +kernel)
  have q1 : ∀ w ∈ u_ws RX6 TX6 20, w ∈ wsX6_stool := by decide +kernel
  unfold gX6_stool at hg
  generalize hHe : s.heap = H at hP ⊢
  have hS : va_S A s.heap H [] := hHe ▸ hS
  generalize hLe : ([] : List Loc) = locs at hS ⊢
  refine lv_aload_n hx hb dX6_stool_0 rfl (lv_at hl 0 rfl) ?_
  refine lv_iload_n hx hb dX6_stool_1 rfl (lv_at hl 1 rfl) ?_
  refine lv_iconst (v := 1) hx hb dX6_stool_2 (by decide) ?_
  refine lv_bipush (v := 40) hx hb dX6_stool_3 (by decide) ?_
  refine fRS (As := [.int x1, .int 1, .int 40]) (rest := [.ref h]) (st' := [.int (fX6_in x1 1 40), .ref h]) ⟨hx, hb, hml, hown, hts⟩ (kX6_in l D cI cC cT x1 1 40) (va_cwS 3 hts gX6_stool_X6_in rfl rfl rfl (by decide +kernel) ⟨Nat.le_of_ble_eq_true rfl, Nat.le_of_ble_eq_true rfl⟩) hP hK [] rfl rfl hl.1 rfl rfl (Nat.le_of_ble_eq_true rfl) ⟨Nat.zero_le _, Nat.zero_le _⟩ dX6_stool_5 ?_
  refine lv_if_eq (tgt := 35) hx hb dX6_stool_8 (by decide) (fun c_8_1 => ?_) (fun c_8_1 => ?_)
  · rw [if_pos c_8_1] at hg
    refine lv_iconst (v := 1) hx hb dX6_stool_35 (by decide) ?_
    obtain ⟨n1, en1⟩ : ∃ z9, z9 = (fX6_fails S 1) := ⟨_, rfl⟩
    try rw [← en1] at hg
    have k9 := (kX6_fails l D cI cC cT h a1 a2 a3 a4 a5 a6 a7 a8 S 1)
    rw [← en1] at k9
    refine fUV (As := [.int 1]) (rest := []) (st' := [.int n1.1]) ⟨hx, hb, hml, hown, hts⟩ k9 (cwV 1 hts gX6_stool_X6_fails rfl rfl rfl (by decide +kernel) ⟨Nat.le_of_ble_eq_true rfl, Nat.le_of_ble_eq_true rfl⟩) hP hK hD hS [0, 1, 2, 3, 4, 5, 6, 7, 8] rfl rfl (by decide) rfl (w6 cI cC h a1 a2 a3 a4 a5 a6 a7 a8 n1.2) rfl rfl 0 (ci := 7) rfl rfl rfl rfl hl.1 rfl rfl (Nat.le_of_ble_eq_true rfl) ⟨Nat.zero_le _, Nat.zero_le _⟩ dX6_stool_36 (fun H locs hP hD hS => ?_)
    refine lv_if_eq (tgt := 44) hx hb dX6_stool_39 (by decide) (fun c_39 => absurd c_39 (by rw [en1, fails_1]; decide)) (fun c_39 => ?_)
    refine lv_iconst (v := 0) hx hb dX6_stool_42 (by decide) ?_
    have e9 : fX6_stool S x1 x2 x3 x4 = (0, n1.2) := by rw [fX6_stool, if_pos c_8_1, ← en1]
    exact rUi hx hb hr hlk hQ hP hS (by rw [e9]) (congrArg (fun z9 : (Int32 × SV) => (w6 cI cC h a1 a2 a3 a4 a5 a6 a7 a8 z9.2 : va_W)) e9).symm rfl dX6_stool_43
  · rw [if_neg c_8_1] at hg
    refine lv_iload_n hx hb dX6_stool_11 rfl (lv_at hl 2 rfl) ?_
    refine lv_iconst (v := 0) hx hb dX6_stool_12 (by decide) ?_
    refine lv_bipush (v := 9) hx hb dX6_stool_13 (by decide) ?_
    refine fRS (As := [.int x2, .int 0, .int 9]) (rest := [.ref h]) (st' := [.int (fX6_in x2 0 9), .ref h]) ⟨hx, hb, hml, hown, hts⟩ (kX6_in l D cI cC cT x2 0 9) (va_cwS 3 hts gX6_stool_X6_in rfl rfl rfl (by decide +kernel) ⟨Nat.le_of_ble_eq_true rfl, Nat.le_of_ble_eq_true rfl⟩) hP hK [] rfl rfl hl.1 rfl rfl (Nat.le_of_ble_eq_true rfl) ⟨Nat.zero_le _, Nat.zero_le _⟩ dX6_stool_15 ?_
    refine lv_if_eq (tgt := 35) hx hb dX6_stool_18 (by decide) (fun c_18_2 => ?_) (fun c_18_2 => ?_)
    · rw [if_pos c_18_2] at hg
      refine lv_iconst (v := 1) hx hb dX6_stool_35 (by decide) ?_
      obtain ⟨n2, en2⟩ : ∃ z9, z9 = (fX6_fails S 1) := ⟨_, rfl⟩
      try rw [← en2] at hg
      have k9 := (kX6_fails l D cI cC cT h a1 a2 a3 a4 a5 a6 a7 a8 S 1)
      rw [← en2] at k9
      refine fUV (As := [.int 1]) (rest := []) (st' := [.int n2.1]) ⟨hx, hb, hml, hown, hts⟩ k9 (cwV 1 hts gX6_stool_X6_fails rfl rfl rfl (by decide +kernel) ⟨Nat.le_of_ble_eq_true rfl, Nat.le_of_ble_eq_true rfl⟩) hP hK hD hS [0, 1, 2, 3, 4, 5, 6, 7, 8] rfl rfl (by decide) rfl (w6 cI cC h a1 a2 a3 a4 a5 a6 a7 a8 n2.2) rfl rfl 0 (ci := 7) rfl rfl rfl rfl hl.1 rfl rfl (Nat.le_of_ble_eq_true rfl) ⟨Nat.zero_le _, Nat.zero_le _⟩ dX6_stool_36 (fun H locs hP hD hS => ?_)
      refine lv_if_eq (tgt := 44) hx hb dX6_stool_39 (by decide) (fun c_39 => absurd c_39 (by rw [en2, fails_1]; decide)) (fun c_39 => ?_)
      refine lv_iconst (v := 0) hx hb dX6_stool_42 (by decide) ?_
      have e9 : fX6_stool S x1 x2 x3 x4 = (0, n2.2) := by rw [fX6_stool, if_neg c_8_1, if_pos c_18_2, ← en2]
      exact rUi hx hb hr hlk hQ hP hS (by rw [e9]) (congrArg (fun z9 : (Int32 × SV) => (w6 cI cC h a1 a2 a3 a4 a5 a6 a7 a8 z9.2 : va_W)) e9).symm rfl dX6_stool_43
    · rw [if_neg c_18_2] at hg
      refine lv_iload_n hx hb dX6_stool_21 rfl (lv_at hl 3 rfl) ?_
      refine lv_iconst (v := 0) hx hb dX6_stool_22 (by decide) ?_
      refine lv_bipush (v := 9) hx hb dX6_stool_23 (by decide) ?_
      refine fRS (As := [.int x3, .int 0, .int 9]) (rest := [.ref h]) (st' := [.int (fX6_in x3 0 9), .ref h]) ⟨hx, hb, hml, hown, hts⟩ (kX6_in l D cI cC cT x3 0 9) (va_cwS 3 hts gX6_stool_X6_in rfl rfl rfl (by decide +kernel) ⟨Nat.le_of_ble_eq_true rfl, Nat.le_of_ble_eq_true rfl⟩) hP hK [] rfl rfl hl.1 rfl rfl (Nat.le_of_ble_eq_true rfl) ⟨Nat.zero_le _, Nat.zero_le _⟩ dX6_stool_25 ?_
      refine lv_if_eq (tgt := 35) hx hb dX6_stool_28 (by decide) (fun c_28_3 => ?_) (fun c_28_3 => ?_)
      · rw [if_pos c_28_3] at hg
        refine lv_iconst (v := 1) hx hb dX6_stool_35 (by decide) ?_
        obtain ⟨n3, en3⟩ : ∃ z9, z9 = (fX6_fails S 1) := ⟨_, rfl⟩
        try rw [← en3] at hg
        have k9 := (kX6_fails l D cI cC cT h a1 a2 a3 a4 a5 a6 a7 a8 S 1)
        rw [← en3] at k9
        refine fUV (As := [.int 1]) (rest := []) (st' := [.int n3.1]) ⟨hx, hb, hml, hown, hts⟩ k9 (cwV 1 hts gX6_stool_X6_fails rfl rfl rfl (by decide +kernel) ⟨Nat.le_of_ble_eq_true rfl, Nat.le_of_ble_eq_true rfl⟩) hP hK hD hS [0, 1, 2, 3, 4, 5, 6, 7, 8] rfl rfl (by decide) rfl (w6 cI cC h a1 a2 a3 a4 a5 a6 a7 a8 n3.2) rfl rfl 0 (ci := 7) rfl rfl rfl rfl hl.1 rfl rfl (Nat.le_of_ble_eq_true rfl) ⟨Nat.zero_le _, Nat.zero_le _⟩ dX6_stool_36 (fun H locs hP hD hS => ?_)
        refine lv_if_eq (tgt := 44) hx hb dX6_stool_39 (by decide) (fun c_39 => absurd c_39 (by rw [en3, fails_1]; decide)) (fun c_39 => ?_)
        refine lv_iconst (v := 0) hx hb dX6_stool_42 (by decide) ?_
        have e9 : fX6_stool S x1 x2 x3 x4 = (0, n3.2) := by rw [fX6_stool, if_neg c_8_1, if_neg c_18_2, if_pos c_28_3, ← en3]
        exact rUi hx hb hr hlk hQ hP hS (by rw [e9]) (congrArg (fun z9 : (Int32 × SV) => (w6 cI cC h a1 a2 a3 a4 a5 a6 a7 a8 z9.2 : va_W)) e9).symm rfl dX6_stool_43
      · rw [if_neg c_28_3] at hg
        refine lv_iconst (v := 0) hx hb dX6_stool_31 (by decide) ?_
        refine lv_goto (tgt := 36) hx hb dX6_stool_32 (by decide) ?_
        obtain ⟨n4, en4⟩ : ∃ z9, z9 = (fX6_fails S 0) := ⟨_, rfl⟩
        try rw [← en4] at hg
        have k9 := (kX6_fails l D cI cC cT h a1 a2 a3 a4 a5 a6 a7 a8 S 0)
        rw [← en4] at k9
        refine fUV (As := [.int 0]) (rest := []) (st' := [.int n4.1]) ⟨hx, hb, hml, hown, hts⟩ k9 (cwV 1 hts gX6_stool_X6_fails rfl rfl rfl (by decide +kernel) ⟨Nat.le_of_ble_eq_true rfl, Nat.le_of_ble_eq_true rfl⟩) hP hK hD hS [0, 1, 2, 3, 4, 5, 6, 7, 8] rfl rfl (by decide) rfl (w6 cI cC h a1 a2 a3 a4 a5 a6 a7 a8 n4.2) rfl rfl 0 (ci := 7) rfl rfl rfl rfl hl.1 rfl rfl (Nat.le_of_ble_eq_true rfl) ⟨Nat.zero_le _, Nat.zero_le _⟩ dX6_stool_36 (fun H locs hP hD hS => ?_)
        refine lv_if_eq (tgt := 44) hx hb dX6_stool_39 (by decide) (fun c_39 => ?_) (fun c_39 => absurd (by rw [en4]; exact fails_0 _) c_39)
        refine lv_aload_n hx hb dX6_stool_44 rfl (lv_at hl 0 rfl) ?_
        refine va_get (D := D) (ci := 7) (v := .ref a1) (C := RX6) (T := TX6) (N := 20) hx hb hts q1 hown hK hP 0 rfl rfl 0 (by decide) q0 (fun _ h9 => h9) rfl dX6_stool_45 ?_
        refine lv_iconst (v := 0) hx hb dX6_stool_48 (by decide) ?_
        obtain ⟨o1, hg⟩ := hg
        refine va_iald hx hb hK hP 1 0 rfl rfl o1 dX6_stool_49 ?_
        refine lv_bipush (v := 12) hx hb dX6_stool_50 (by decide) ?_
        refine lv_icmp_ne (tgt := 64) hx hb dX6_stool_52 (by decide) (fun c_52_4 => ?_) (fun c_52_4 => ?_)
        · rw [if_neg c_52_4] at hg
          refine lv_aload_n hx hb dX6_stool_64 rfl (lv_at hl 0 rfl) ?_
          refine lv_aload_n hx hb dX6_stool_65 rfl (lv_at hl 0 rfl) ?_
          refine va_get (D := D) (ci := 7) (v := .ref a1) (C := RX6) (T := TX6) (N := 20) hx hb hts q1 hown hK hP 0 rfl rfl 0 (by decide) q0 (fun _ h9 => h9) rfl dX6_stool_66 ?_
          obtain ⟨n5, en5⟩ : ∃ z9, z9 = (fX6_keeps_g n4.2) := ⟨_, rfl⟩
          try rw [← en5] at hg
          obtain ⟨o2, hg⟩ := hg
          have k9 := (kX6_keeps_g l D cI cC cT h a1 a2 a3 a4 a5 a6 a7 a8 n4.2 o2)
          rw [← en5] at k9
          refine fUV (As := [.ref a1]) (rest := []) (st' := []) ⟨hx, hb, hml, hown, hts⟩ k9 (cwV 1 hts gX6_stool_X6_keeps rfl rfl rfl (by decide +kernel) ⟨Nat.le_of_ble_eq_true rfl, Nat.le_of_ble_eq_true rfl⟩) hP hK hD hS [0, 1, 2, 3, 4, 5, 6, 7, 8] rfl rfl (by decide) rfl (w6 cI cC h a1 a2 a3 a4 a5 a6 a7 a8 n5) rfl rfl 0 (ci := 7) rfl rfl rfl rfl hl.1 rfl rfl (Nat.le_of_ble_eq_true rfl) ⟨Nat.zero_le _, Nat.zero_le _⟩ dX6_stool_69 (fun H locs hP hD hS => ?_)
          refine lv_aload_n hx hb dX6_stool_72 rfl (lv_at hl 0 rfl) ?_
          refine va_get (D := D) (ci := 7) (v := .ref a1) (C := RX6) (T := TX6) (N := 20) hx hb hts q1 hown hK hP 0 rfl rfl 0 (by decide) q0 (fun _ h9 => h9) rfl dX6_stool_73 ?_
          refine lv_iconst (v := 0) hx hb dX6_stool_76 (by decide) ?_
          obtain ⟨o3, hg⟩ := hg
          refine va_iald hx hb hK hP 1 0 rfl rfl o3 dX6_stool_77 ?_
          refine lv_istore (lv' := [(5, .int (n5.1 (0 : Int32).toNatClampNeg)), (0, .ref h), (1, .int x1), (2, .int x2), (3, .int x3), (4, .int x4)]) hx hb dX6_stool_78 hl (by decide) rfl (fun ls hl => ?_)
          refine lv_aload_n hx hb dX6_stool_80 rfl (lv_at hl 1 rfl) ?_
          refine va_get (D := D) (ci := 7) (v := .ref a1) (C := RX6) (T := TX6) (N := 20) hx hb hts q1 hown hK hP 0 rfl rfl 0 (by decide) q0 (fun _ h9 => h9) rfl dX6_stool_81 ?_
          refine lv_iconst (v := 0) hx hb dX6_stool_84 (by decide) ?_
          refine lv_dup2_11 hx hb dX6_stool_85 rfl rfl ?_
          obtain ⟨o4, hg⟩ := hg
          refine va_iald hx hb hK hP 1 0 rfl rfl o4 dX6_stool_86 ?_
          refine lv_iconst (v := 1) hx hb dX6_stool_87 (by decide) ?_
          refine lv_iadd hx hb dX6_stool_88 ?_
          obtain ⟨o5, hg⟩ := hg
          refine va_iast hx hb hK hP hD hS 1 0 rfl rfl o5 dX6_stool_89 (fun H locs hP hD hS => ?_)
          have hP : va_P D vwCl (w6 cI cC h a1 a2 a3 a4 a5 a6 a7 a8 (sS0 (upd n5.1 (0 : Int32).toNatClampNeg ((n5.1 (0 : Int32).toNatClampNeg) + 1)) n5)) H := w6p_0 hP
          have hD : va_D A (w6 cI cC h a1 a2 a3 a4 a5 a6 a7 a8 (sS0 (upd n5.1 (0 : Int32).toNatClampNeg ((n5.1 (0 : Int32).toNatClampNeg) + 1)) n5)) := w6d_0 hD
          refine lv_aload_n hx hb dX6_stool_90 rfl (lv_at hl 1 rfl) ?_
          refine lv_iload hx hb dX6_stool_91 (lv_at hl 0 rfl) ?_
          refine lv_iconst (v := 0) hx hb dX6_stool_93 (by decide) ?_
          refine lv_iload_n hx hb dX6_stool_94 rfl (lv_at hl 2 rfl) ?_
          obtain ⟨n6, en6⟩ : ∃ z9, z9 = (fX6_lays (sS0 (upd n5.1 (0 : Int32).toNatClampNeg ((n5.1 (0 : Int32).toNatClampNeg) + 1)) n5) (n5.1 (0 : Int32).toNatClampNeg) 0 x1) := ⟨_, rfl⟩
          try rw [← en6] at hg
          obtain ⟨o6, hg⟩ := hg
          have k9 := (kX6_lays l D cI cC cT h a1 a2 a3 a4 a5 a6 a7 a8 (sS0 (upd n5.1 (0 : Int32).toNatClampNeg ((n5.1 (0 : Int32).toNatClampNeg) + 1)) n5) (n5.1 (0 : Int32).toNatClampNeg) 0 x1 o6)
          rw [← en6] at k9
          refine fUV (As := [.int (n5.1 (0 : Int32).toNatClampNeg), .int 0, .int x1]) (rest := []) (st' := []) ⟨hx, hb, hml, hown, hts⟩ k9 (cwV 3 hts gX6_stool_X6_lays rfl rfl rfl (by decide +kernel) ⟨Nat.le_of_ble_eq_true rfl, Nat.le_of_ble_eq_true rfl⟩) hP hK hD hS [0, 1, 2, 3, 4, 5, 6, 7, 8] rfl rfl (by decide) rfl (w6 cI cC h a1 a2 a3 a4 a5 a6 a7 a8 n6) rfl rfl 0 (ci := 7) rfl rfl rfl rfl hl.1 rfl rfl (Nat.le_of_ble_eq_true rfl) ⟨Nat.zero_le _, Nat.zero_le _⟩ dX6_stool_95 (fun H locs hP hD hS => ?_)
          refine lv_aload_n hx hb dX6_stool_98 rfl (lv_at hl 1 rfl) ?_
          refine lv_iload hx hb dX6_stool_99 (lv_at hl 0 rfl) ?_
          refine lv_iconst (v := 1) hx hb dX6_stool_101 (by decide) ?_
          refine lv_iload_n hx hb dX6_stool_102 rfl (lv_at hl 3 rfl) ?_
          obtain ⟨n7, en7⟩ : ∃ z9, z9 = (fX6_lays n6 (n5.1 (0 : Int32).toNatClampNeg) 1 x2) := ⟨_, rfl⟩
          try rw [← en7] at hg
          obtain ⟨o7, hg⟩ := hg
          have k9 := (kX6_lays l D cI cC cT h a1 a2 a3 a4 a5 a6 a7 a8 n6 (n5.1 (0 : Int32).toNatClampNeg) 1 x2 o7)
          rw [← en7] at k9
          refine fUV (As := [.int (n5.1 (0 : Int32).toNatClampNeg), .int 1, .int x2]) (rest := []) (st' := []) ⟨hx, hb, hml, hown, hts⟩ k9 (cwV 3 hts gX6_stool_X6_lays rfl rfl rfl (by decide +kernel) ⟨Nat.le_of_ble_eq_true rfl, Nat.le_of_ble_eq_true rfl⟩) hP hK hD hS [0, 1, 2, 3, 4, 5, 6, 7, 8] rfl rfl (by decide) rfl (w6 cI cC h a1 a2 a3 a4 a5 a6 a7 a8 n7) rfl rfl 0 (ci := 7) rfl rfl rfl rfl hl.1 rfl rfl (Nat.le_of_ble_eq_true rfl) ⟨Nat.zero_le _, Nat.zero_le _⟩ dX6_stool_103 (fun H locs hP hD hS => ?_)
          refine lv_aload_n hx hb dX6_stool_106 rfl (lv_at hl 1 rfl) ?_
          refine lv_iload hx hb dX6_stool_107 (lv_at hl 0 rfl) ?_
          refine lv_iconst (v := 2) hx hb dX6_stool_109 (by decide) ?_
          refine lv_iload_n hx hb dX6_stool_110 rfl (lv_at hl 4 rfl) ?_
          obtain ⟨n8, en8⟩ : ∃ z9, z9 = (fX6_lays n7 (n5.1 (0 : Int32).toNatClampNeg) 2 x3) := ⟨_, rfl⟩
          try rw [← en8] at hg
          obtain ⟨o8, hg⟩ := hg
          have k9 := (kX6_lays l D cI cC cT h a1 a2 a3 a4 a5 a6 a7 a8 n7 (n5.1 (0 : Int32).toNatClampNeg) 2 x3 o8)
          rw [← en8] at k9
          refine fUV (As := [.int (n5.1 (0 : Int32).toNatClampNeg), .int 2, .int x3]) (rest := []) (st' := []) ⟨hx, hb, hml, hown, hts⟩ k9 (cwV 3 hts gX6_stool_X6_lays rfl rfl rfl (by decide +kernel) ⟨Nat.le_of_ble_eq_true rfl, Nat.le_of_ble_eq_true rfl⟩) hP hK hD hS [0, 1, 2, 3, 4, 5, 6, 7, 8] rfl rfl (by decide) rfl (w6 cI cC h a1 a2 a3 a4 a5 a6 a7 a8 n8) rfl rfl 0 (ci := 7) rfl rfl rfl rfl hl.1 rfl rfl (Nat.le_of_ble_eq_true rfl) ⟨Nat.zero_le _, Nat.zero_le _⟩ dX6_stool_111 (fun H locs hP hD hS => ?_)
          refine lv_aload_n hx hb dX6_stool_114 rfl (lv_at hl 1 rfl) ?_
          refine lv_iload hx hb dX6_stool_115 (lv_at hl 0 rfl) ?_
          refine lv_iconst (v := 3) hx hb dX6_stool_117 (by decide) ?_
          refine lv_iload hx hb dX6_stool_118 (lv_at hl 5 rfl) ?_
          refine lv_if_eq (tgt := 127) hx hb dX6_stool_120 (by decide) (fun c_120_5 => ?_) (fun c_120_5 => ?_)
          · rw [if_pos c_120_5] at hg
            refine lv_iconst (v := 0) hx hb dX6_stool_127 (by decide) ?_
            obtain ⟨n9, en9⟩ : ∃ z9, z9 = (fX6_lays n8 (n5.1 (0 : Int32).toNatClampNeg) 3 0) := ⟨_, rfl⟩
            try rw [← en9] at hg
            obtain ⟨o9, hg⟩ := hg
            have k9 := (kX6_lays l D cI cC cT h a1 a2 a3 a4 a5 a6 a7 a8 n8 (n5.1 (0 : Int32).toNatClampNeg) 3 0 o9)
            rw [← en9] at k9
            refine fUV (As := [.int (n5.1 (0 : Int32).toNatClampNeg), .int 3, .int 0]) (rest := []) (st' := []) ⟨hx, hb, hml, hown, hts⟩ k9 (cwV 3 hts gX6_stool_X6_lays rfl rfl rfl (by decide +kernel) ⟨Nat.le_of_ble_eq_true rfl, Nat.le_of_ble_eq_true rfl⟩) hP hK hD hS [0, 1, 2, 3, 4, 5, 6, 7, 8] rfl rfl (by decide) rfl (w6 cI cC h a1 a2 a3 a4 a5 a6 a7 a8 n9) rfl rfl 0 (ci := 7) rfl rfl rfl rfl hl.1 rfl rfl (Nat.le_of_ble_eq_true rfl) ⟨Nat.zero_le _, Nat.zero_le _⟩ dX6_stool_128 (fun H locs hP hD hS => ?_)
            refine lv_aload_n hx hb dX6_stool_131 rfl (lv_at hl 1 rfl) ?_
            refine lv_iload hx hb dX6_stool_132 (lv_at hl 0 rfl) ?_
            refine lv_iconst (v := 4) hx hb dX6_stool_134 (by decide) ?_
            refine lv_iconst (v := 0) hx hb dX6_stool_135 (by decide) ?_
            obtain ⟨n10, en10⟩ : ∃ z9, z9 = (fX6_lays n9 (n5.1 (0 : Int32).toNatClampNeg) 4 0) := ⟨_, rfl⟩
            try rw [← en10] at hg
            obtain ⟨o10, hg⟩ := hg
            have k9 := (kX6_lays l D cI cC cT h a1 a2 a3 a4 a5 a6 a7 a8 n9 (n5.1 (0 : Int32).toNatClampNeg) 4 0 o10)
            rw [← en10] at k9
            refine fUV (As := [.int (n5.1 (0 : Int32).toNatClampNeg), .int 4, .int 0]) (rest := []) (st' := []) ⟨hx, hb, hml, hown, hts⟩ k9 (cwV 3 hts gX6_stool_X6_lays rfl rfl rfl (by decide +kernel) ⟨Nat.le_of_ble_eq_true rfl, Nat.le_of_ble_eq_true rfl⟩) hP hK hD hS [0, 1, 2, 3, 4, 5, 6, 7, 8] rfl rfl (by decide) rfl (w6 cI cC h a1 a2 a3 a4 a5 a6 a7 a8 n10) rfl rfl 0 (ci := 7) rfl rfl rfl rfl hl.1 rfl rfl (Nat.le_of_ble_eq_true rfl) ⟨Nat.zero_le _, Nat.zero_le _⟩ dX6_stool_136 (fun H locs hP hD hS => ?_)
            refine lv_aload_n hx hb dX6_stool_139 rfl (lv_at hl 1 rfl) ?_
            refine lv_iload hx hb dX6_stool_140 (lv_at hl 0 rfl) ?_
            refine lv_iconst (v := 5) hx hb dX6_stool_142 (by decide) ?_
            refine lv_iconst (v := (-1)) hx hb dX6_stool_143 (by decide) ?_
            obtain ⟨n11, en11⟩ : ∃ z9, z9 = (fX6_lays n10 (n5.1 (0 : Int32).toNatClampNeg) 5 (-1)) := ⟨_, rfl⟩
            try rw [← en11] at hg
            obtain ⟨o11, hg⟩ := hg
            have k9 := (kX6_lays l D cI cC cT h a1 a2 a3 a4 a5 a6 a7 a8 n10 (n5.1 (0 : Int32).toNatClampNeg) 5 (-1) o11)
            rw [← en11] at k9
            refine fUV (As := [.int (n5.1 (0 : Int32).toNatClampNeg), .int 5, .int (-1)]) (rest := []) (st' := []) ⟨hx, hb, hml, hown, hts⟩ k9 (cwV 3 hts gX6_stool_X6_lays rfl rfl rfl (by decide +kernel) ⟨Nat.le_of_ble_eq_true rfl, Nat.le_of_ble_eq_true rfl⟩) hP hK hD hS [0, 1, 2, 3, 4, 5, 6, 7, 8] rfl rfl (by decide) rfl (w6 cI cC h a1 a2 a3 a4 a5 a6 a7 a8 n11) rfl rfl 0 (ci := 7) rfl rfl rfl rfl hl.1 rfl rfl (Nat.le_of_ble_eq_true rfl) ⟨Nat.zero_le _, Nat.zero_le _⟩ dX6_stool_144 (fun H locs hP hD hS => ?_)
            refine lv_iload hx hb dX6_stool_147 (lv_at hl 0 rfl) ?_
            have e9 : fX6_stool S x1 x2 x3 x4 = ((n5.1 (0 : Int32).toNatClampNeg), n11) := by rw [fX6_stool, if_neg c_8_1, if_neg c_18_2, if_neg c_28_3, ← en4, if_neg c_52_4, ← en5, ← en6, ← en7, ← en8, if_pos c_120_5, ← en9, ← en10, ← en11]
            exact rUi hx hb hr hlk hQ hP hS (by rw [e9]) (congrArg (fun z9 : (Int32 × SV) => (w6 cI cC h a1 a2 a3 a4 a5 a6 a7 a8 z9.2 : va_W)) e9).symm rfl dX6_stool_149
          · rw [if_neg c_120_5] at hg
            refine lv_iconst (v := 1) hx hb dX6_stool_123 (by decide) ?_
            refine lv_goto (tgt := 128) hx hb dX6_stool_124 (by decide) ?_
            obtain ⟨n12, en12⟩ : ∃ z9, z9 = (fX6_lays n8 (n5.1 (0 : Int32).toNatClampNeg) 3 1) := ⟨_, rfl⟩
            try rw [← en12] at hg
            obtain ⟨o12, hg⟩ := hg
            have k9 := (kX6_lays l D cI cC cT h a1 a2 a3 a4 a5 a6 a7 a8 n8 (n5.1 (0 : Int32).toNatClampNeg) 3 1 o12)
            rw [← en12] at k9
            refine fUV (As := [.int (n5.1 (0 : Int32).toNatClampNeg), .int 3, .int 1]) (rest := []) (st' := []) ⟨hx, hb, hml, hown, hts⟩ k9 (cwV 3 hts gX6_stool_X6_lays rfl rfl rfl (by decide +kernel) ⟨Nat.le_of_ble_eq_true rfl, Nat.le_of_ble_eq_true rfl⟩) hP hK hD hS [0, 1, 2, 3, 4, 5, 6, 7, 8] rfl rfl (by decide) rfl (w6 cI cC h a1 a2 a3 a4 a5 a6 a7 a8 n12) rfl rfl 0 (ci := 7) rfl rfl rfl rfl hl.1 rfl rfl (Nat.le_of_ble_eq_true rfl) ⟨Nat.zero_le _, Nat.zero_le _⟩ dX6_stool_128 (fun H locs hP hD hS => ?_)
            refine lv_aload_n hx hb dX6_stool_131 rfl (lv_at hl 1 rfl) ?_
            refine lv_iload hx hb dX6_stool_132 (lv_at hl 0 rfl) ?_
            refine lv_iconst (v := 4) hx hb dX6_stool_134 (by decide) ?_
            refine lv_iconst (v := 0) hx hb dX6_stool_135 (by decide) ?_
            obtain ⟨n13, en13⟩ : ∃ z9, z9 = (fX6_lays n12 (n5.1 (0 : Int32).toNatClampNeg) 4 0) := ⟨_, rfl⟩
            try rw [← en13] at hg
            obtain ⟨o13, hg⟩ := hg
            have k9 := (kX6_lays l D cI cC cT h a1 a2 a3 a4 a5 a6 a7 a8 n12 (n5.1 (0 : Int32).toNatClampNeg) 4 0 o13)
            rw [← en13] at k9
            refine fUV (As := [.int (n5.1 (0 : Int32).toNatClampNeg), .int 4, .int 0]) (rest := []) (st' := []) ⟨hx, hb, hml, hown, hts⟩ k9 (cwV 3 hts gX6_stool_X6_lays rfl rfl rfl (by decide +kernel) ⟨Nat.le_of_ble_eq_true rfl, Nat.le_of_ble_eq_true rfl⟩) hP hK hD hS [0, 1, 2, 3, 4, 5, 6, 7, 8] rfl rfl (by decide) rfl (w6 cI cC h a1 a2 a3 a4 a5 a6 a7 a8 n13) rfl rfl 0 (ci := 7) rfl rfl rfl rfl hl.1 rfl rfl (Nat.le_of_ble_eq_true rfl) ⟨Nat.zero_le _, Nat.zero_le _⟩ dX6_stool_136 (fun H locs hP hD hS => ?_)
            refine lv_aload_n hx hb dX6_stool_139 rfl (lv_at hl 1 rfl) ?_
            refine lv_iload hx hb dX6_stool_140 (lv_at hl 0 rfl) ?_
            refine lv_iconst (v := 5) hx hb dX6_stool_142 (by decide) ?_
            refine lv_iconst (v := (-1)) hx hb dX6_stool_143 (by decide) ?_
            obtain ⟨n14, en14⟩ : ∃ z9, z9 = (fX6_lays n13 (n5.1 (0 : Int32).toNatClampNeg) 5 (-1)) := ⟨_, rfl⟩
            try rw [← en14] at hg
            obtain ⟨o14, hg⟩ := hg
            have k9 := (kX6_lays l D cI cC cT h a1 a2 a3 a4 a5 a6 a7 a8 n13 (n5.1 (0 : Int32).toNatClampNeg) 5 (-1) o14)
            rw [← en14] at k9
            refine fUV (As := [.int (n5.1 (0 : Int32).toNatClampNeg), .int 5, .int (-1)]) (rest := []) (st' := []) ⟨hx, hb, hml, hown, hts⟩ k9 (cwV 3 hts gX6_stool_X6_lays rfl rfl rfl (by decide +kernel) ⟨Nat.le_of_ble_eq_true rfl, Nat.le_of_ble_eq_true rfl⟩) hP hK hD hS [0, 1, 2, 3, 4, 5, 6, 7, 8] rfl rfl (by decide) rfl (w6 cI cC h a1 a2 a3 a4 a5 a6 a7 a8 n14) rfl rfl 0 (ci := 7) rfl rfl rfl rfl hl.1 rfl rfl (Nat.le_of_ble_eq_true rfl) ⟨Nat.zero_le _, Nat.zero_le _⟩ dX6_stool_144 (fun H locs hP hD hS => ?_)
            refine lv_iload hx hb dX6_stool_147 (lv_at hl 0 rfl) ?_
            have e9 : fX6_stool S x1 x2 x3 x4 = ((n5.1 (0 : Int32).toNatClampNeg), n14) := by rw [fX6_stool, if_neg c_8_1, if_neg c_18_2, if_neg c_28_3, ← en4, if_neg c_52_4, ← en5, ← en6, ← en7, ← en8, if_neg c_120_5, ← en12, ← en13, ← en14]
            exact rUi hx hb hr hlk hQ hP hS (by rw [e9]) (congrArg (fun z9 : (Int32 × SV) => (w6 cI cC h a1 a2 a3 a4 a5 a6 a7 a8 z9.2 : va_W)) e9).symm rfl dX6_stool_149
        · rw [if_pos c_52_4] at hg
          refine lv_aload_n hx hb dX6_stool_55 rfl (lv_at hl 0 rfl) ?_
          refine lv_iconst (v := 2) hx hb dX6_stool_56 (by decide) ?_
          refine lv_iconst (v := 1) hx hb dX6_stool_57 (by decide) ?_
          refine lv_bipush (v := 12) hx hb dX6_stool_58 (by decide) ?_
          obtain ⟨n15, en15⟩ : ∃ z9, z9 = (fX6_refuses n4.2 2 1 12) := ⟨_, rfl⟩
          try rw [← en15] at hg
          have k9 := (kX6_refuses l D cI cC cT h a1 a2 a3 a4 a5 a6 a7 a8 n4.2 2 1 12)
          rw [← en15] at k9
          refine fUV (As := [.int 2, .int 1, .int 12]) (rest := []) (st' := [.int n15.1]) ⟨hx, hb, hml, hown, hts⟩ k9 (cwV 3 hts gX6_stool_X6_refuses rfl rfl rfl (by decide +kernel) ⟨Nat.le_of_ble_eq_true rfl, Nat.le_of_ble_eq_true rfl⟩) hP hK hD hS [0, 1, 2, 3, 4, 5, 6, 7, 8] rfl rfl (by decide) rfl (w6 cI cC h a1 a2 a3 a4 a5 a6 a7 a8 n15.2) rfl rfl 0 (ci := 7) rfl rfl rfl rfl hl.1 rfl rfl (Nat.le_of_ble_eq_true rfl) ⟨Nat.zero_le _, Nat.zero_le _⟩ dX6_stool_60 (fun H locs hP hD hS => ?_)
          have e9 : fX6_stool S x1 x2 x3 x4 = (n15.1, n15.2) := by rw [fX6_stool, if_neg c_8_1, if_neg c_18_2, if_neg c_28_3, ← en4, if_pos c_52_4, ← en15]
          exact rUi hx hb hr hlk hQ hP hS (by rw [e9]) (congrArg (fun z9 : (Int32 × SV) => (w6 cI cC h a1 a2 a3 a4 a5 a6 a7 a8 z9.2 : va_W)) e9).symm rfl dX6_stool_63
def fX6_comes (S : SV) (x1 : Int32) (x2 : Int32) : (Int32 × SV) := (if (S.1 (1 : Int32).toNatClampNeg) = 12 then ((fX6_refuses S 2 1 12).1, (fX6_refuses S 2 1 12).2) else ((((upd (upd (upd (upd (fX6_keeps_g S).1 (((78 + (3 * ((fX6_keeps_g S).1 (1 : Int32).toNatClampNeg))) + 0)).toNatClampNeg x1) (((78 + (3 * ((fX6_keeps_g S).1 (1 : Int32).toNatClampNeg))) + 1)).toNatClampNeg x2) (((78 + (3 * ((fX6_keeps_g S).1 (1 : Int32).toNatClampNeg))) + 2)).toNatClampNeg (-1)) (1 : Int32).toNatClampNeg (((upd (upd (upd (fX6_keeps_g S).1 (((78 + (3 * ((fX6_keeps_g S).1 (1 : Int32).toNatClampNeg))) + 0)).toNatClampNeg x1) (((78 + (3 * ((fX6_keeps_g S).1 (1 : Int32).toNatClampNeg))) + 1)).toNatClampNeg x2) (((78 + (3 * ((fX6_keeps_g S).1 (1 : Int32).toNatClampNeg))) + 2)).toNatClampNeg (-1)) (1 : Int32).toNatClampNeg) + 1)) (1 : Int32).toNatClampNeg) - 1), (sS0 (upd (upd (upd (upd (fX6_keeps_g S).1 (((78 + (3 * ((fX6_keeps_g S).1 (1 : Int32).toNatClampNeg))) + 0)).toNatClampNeg x1) (((78 + (3 * ((fX6_keeps_g S).1 (1 : Int32).toNatClampNeg))) + 1)).toNatClampNeg x2) (((78 + (3 * ((fX6_keeps_g S).1 (1 : Int32).toNatClampNeg))) + 2)).toNatClampNeg (-1)) (1 : Int32).toNatClampNeg (((upd (upd (upd (fX6_keeps_g S).1 (((78 + (3 * ((fX6_keeps_g S).1 (1 : Int32).toNatClampNeg))) + 0)).toNatClampNeg x1) (((78 + (3 * ((fX6_keeps_g S).1 (1 : Int32).toNatClampNeg))) + 1)).toNatClampNeg x2) (((78 + (3 * ((fX6_keeps_g S).1 (1 : Int32).toNatClampNeg))) + 2)).toNatClampNeg (-1)) (1 : Int32).toNatClampNeg) + 1)) (sS0 (upd (upd (upd (fX6_keeps_g S).1 (((78 + (3 * ((fX6_keeps_g S).1 (1 : Int32).toNatClampNeg))) + 0)).toNatClampNeg x1) (((78 + (3 * ((fX6_keeps_g S).1 (1 : Int32).toNatClampNeg))) + 1)).toNatClampNeg x2) (((78 + (3 * ((fX6_keeps_g S).1 (1 : Int32).toNatClampNeg))) + 2)).toNatClampNeg (-1)) (sS0 (upd (upd (fX6_keeps_g S).1 (((78 + (3 * ((fX6_keeps_g S).1 (1 : Int32).toNatClampNeg))) + 0)).toNatClampNeg x1) (((78 + (3 * ((fX6_keeps_g S).1 (1 : Int32).toNatClampNeg))) + 1)).toNatClampNeg x2) (sS0 (upd (fX6_keeps_g S).1 (((78 + (3 * ((fX6_keeps_g S).1 (1 : Int32).toNatClampNeg))) + 0)).toNatClampNeg x1) (fX6_keeps_g S)))))))
def gX6_comes (S : SV) (x1 : Int32) (x2 : Int32) : Prop := ((vp_in 1 114) ∧ (if (S.1 (1 : Int32).toNatClampNeg) = 12 then True else ((gX6_keeps_g S) ∧ (vp_in 1 114) ∧ (vp_in ((78 + (3 * ((fX6_keeps_g S).1 (1 : Int32).toNatClampNeg))) + 0) 114) ∧ (vp_in ((78 + (3 * ((fX6_keeps_g S).1 (1 : Int32).toNatClampNeg))) + 1) 114) ∧ (vp_in ((78 + (3 * ((fX6_keeps_g S).1 (1 : Int32).toNatClampNeg))) + 2) 114) ∧ (vp_in 1 114) ∧ (vp_in 1 114) ∧ (vp_in 1 114) ∧ True)))
abbrev rmX6_comes : Room := { frames := 2, cells := 0, slots := 0, locals := 46 }
set_option maxHeartbeats 4000000 in
set_option maxRecDepth 100000 in
theorem kX6_comes (l : Launch) (D : va_G) (cI cC cT : ClassId) (h a1 a2 a3 a4 a5 a6 a7 a8 : Nat) (S : SV) (x1 : Int32) (x2 : Int32) (hg : gX6_comes S x1 x2) : mU l D (TY cI cC cT) yX6_comes wsX6_comes rmX6_comes [.ref h, .int x1, .int x2] (w6 cI cC h a1 a2 a3 a4 a5 a6 a7 a8 S) (some (.int (fX6_comes S x1 x2).1)) (w6 cI cC h a1 a2 a3 a4 a5 a6 a7 a8 (fX6_comes S x1 x2).2) := by
  refine mU.ofW (cc := cX6_comes) (maxL := 4) (ret := (some .int)) (by decide) rfl (Nat.le_of_ble_eq_true rfl) ?_
  intro p e s m args below meth c Q ls A hx hb hml hr hlk hts hown hP hK hD hS hl hQ
  have hown : s.vm.findClass RX6 = some m.cls := hown
  have hP : va_P D vwCl (w6 cI cC h a1 a2 a3 a4 a5 a6 a7 a8 S) s.heap := hP
  have hD : va_D A (w6 cI cC h a1 a2 a3 a4 a5 a6 a7 a8 S) := hD
  have hl : lv_has ls 4 [(0, .ref h), (1, .int x1), (2, .int x2)] := hl
  have q0 := hts (Cond.fieldLink RX6 7 "TavernStoolsModel" "g" "[I") (by decide +kernel)
  have q1 : ∀ w ∈ u_ws RX6 TX6 20, w ∈ wsX6_comes := by decide +kernel
  unfold gX6_comes at hg
  generalize hHe : s.heap = H at hP ⊢
  have hS : va_S A s.heap H [] := hHe ▸ hS
  generalize hLe : ([] : List Loc) = locs at hS ⊢
  refine lv_aload_n hx hb dX6_comes_0 rfl (lv_at hl 0 rfl) ?_
  refine va_get (D := D) (ci := 7) (v := .ref a1) (C := RX6) (T := TX6) (N := 20) hx hb hts q1 hown hK hP 0 rfl rfl 0 (by decide) q0 (fun _ h9 => h9) rfl dX6_comes_1 ?_
  refine lv_iconst (v := 1) hx hb dX6_comes_4 (by decide) ?_
  obtain ⟨o1, hg⟩ := hg
  refine va_iald hx hb hK hP 1 0 rfl rfl o1 dX6_comes_5 ?_
  refine lv_bipush (v := 12) hx hb dX6_comes_6 (by decide) ?_
  refine lv_icmp_ne (tgt := 20) hx hb dX6_comes_8 (by decide) (fun c_8_1 => ?_) (fun c_8_1 => ?_)
  · rw [if_neg c_8_1] at hg
    refine lv_aload_n hx hb dX6_comes_20 rfl (lv_at hl 0 rfl) ?_
    refine lv_aload_n hx hb dX6_comes_21 rfl (lv_at hl 0 rfl) ?_
    refine va_get (D := D) (ci := 7) (v := .ref a1) (C := RX6) (T := TX6) (N := 20) hx hb hts q1 hown hK hP 0 rfl rfl 0 (by decide) q0 (fun _ h9 => h9) rfl dX6_comes_22 ?_
    obtain ⟨n1, en1⟩ : ∃ z9, z9 = (fX6_keeps_g S) := ⟨_, rfl⟩
    try rw [← en1] at hg
    obtain ⟨o2, hg⟩ := hg
    have k9 := (kX6_keeps_g l D cI cC cT h a1 a2 a3 a4 a5 a6 a7 a8 S o2)
    rw [← en1] at k9
    refine fUV (As := [.ref a1]) (rest := []) (st' := []) ⟨hx, hb, hml, hown, hts⟩ k9 (cwV 1 hts gX6_comes_X6_keeps rfl rfl rfl (by decide +kernel) ⟨Nat.le_of_ble_eq_true rfl, Nat.le_of_ble_eq_true rfl⟩) hP hK hD hS [0, 1, 2, 3, 4, 5, 6, 7, 8] rfl rfl (by decide) rfl (w6 cI cC h a1 a2 a3 a4 a5 a6 a7 a8 n1) rfl rfl 0 (ci := 7) rfl rfl rfl rfl hl.1 rfl rfl (Nat.le_of_ble_eq_true rfl) ⟨Nat.zero_le _, Nat.zero_le _⟩ dX6_comes_25 (fun H locs hP hD hS => ?_)
    refine lv_bipush (v := 78) hx hb dX6_comes_28 (by decide) ?_
    refine lv_iconst (v := 3) hx hb dX6_comes_30 (by decide) ?_
    refine lv_aload_n hx hb dX6_comes_31 rfl (lv_at hl 0 rfl) ?_
    refine va_get (D := D) (ci := 7) (v := .ref a1) (C := RX6) (T := TX6) (N := 20) hx hb hts q1 hown hK hP 0 rfl rfl 0 (by decide) q0 (fun _ h9 => h9) rfl dX6_comes_32 ?_
    refine lv_iconst (v := 1) hx hb dX6_comes_35 (by decide) ?_
    obtain ⟨o3, hg⟩ := hg
    refine va_iald hx hb hK hP 1 0 rfl rfl o3 dX6_comes_36 ?_
    refine lv_imul hx hb dX6_comes_37 ?_
    refine lv_iadd hx hb dX6_comes_38 ?_
    refine lv_istore_n (lv' := [(3, .int (78 + (3 * (n1.1 (1 : Int32).toNatClampNeg)))), (0, .ref h), (1, .int x1), (2, .int x2)]) hx hb dX6_comes_39 rfl hl (by decide) rfl (fun ls hl => ?_)
    refine lv_aload_n hx hb dX6_comes_40 rfl (lv_at hl 1 rfl) ?_
    refine va_get (D := D) (ci := 7) (v := .ref a1) (C := RX6) (T := TX6) (N := 20) hx hb hts q1 hown hK hP 0 rfl rfl 0 (by decide) q0 (fun _ h9 => h9) rfl dX6_comes_41 ?_
    refine lv_iload_n hx hb dX6_comes_44 rfl (lv_at hl 0 rfl) ?_
    refine lv_iconst (v := 0) hx hb dX6_comes_45 (by decide) ?_
    refine lv_iadd hx hb dX6_comes_46 ?_
    refine lv_iload_n hx hb dX6_comes_47 rfl (lv_at hl 2 rfl) ?_
    obtain ⟨o4, hg⟩ := hg
    refine va_iast hx hb hK hP hD hS 1 0 rfl rfl o4 dX6_comes_48 (fun H locs hP hD hS => ?_)
    have hP : va_P D vwCl (w6 cI cC h a1 a2 a3 a4 a5 a6 a7 a8 (sS0 (upd n1.1 (((78 + (3 * (n1.1 (1 : Int32).toNatClampNeg))) + 0)).toNatClampNeg x1) n1)) H := w6p_0 hP
    have hD : va_D A (w6 cI cC h a1 a2 a3 a4 a5 a6 a7 a8 (sS0 (upd n1.1 (((78 + (3 * (n1.1 (1 : Int32).toNatClampNeg))) + 0)).toNatClampNeg x1) n1)) := w6d_0 hD
    refine lv_aload_n hx hb dX6_comes_49 rfl (lv_at hl 1 rfl) ?_
    refine va_get (D := D) (ci := 7) (v := .ref a1) (C := RX6) (T := TX6) (N := 20) hx hb hts q1 hown hK hP 0 rfl rfl 0 (by decide) q0 (fun _ h9 => h9) rfl dX6_comes_50 ?_
    refine lv_iload_n hx hb dX6_comes_53 rfl (lv_at hl 0 rfl) ?_
    refine lv_iconst (v := 1) hx hb dX6_comes_54 (by decide) ?_
    refine lv_iadd hx hb dX6_comes_55 ?_
    refine lv_iload_n hx hb dX6_comes_56 rfl (lv_at hl 3 rfl) ?_
    obtain ⟨o5, hg⟩ := hg
    refine va_iast hx hb hK hP hD hS 1 0 rfl rfl o5 dX6_comes_57 (fun H locs hP hD hS => ?_)
    have hP : va_P D vwCl (w6 cI cC h a1 a2 a3 a4 a5 a6 a7 a8 (sS0 (upd (upd n1.1 (((78 + (3 * (n1.1 (1 : Int32).toNatClampNeg))) + 0)).toNatClampNeg x1) (((78 + (3 * (n1.1 (1 : Int32).toNatClampNeg))) + 1)).toNatClampNeg x2) (sS0 (upd n1.1 (((78 + (3 * (n1.1 (1 : Int32).toNatClampNeg))) + 0)).toNatClampNeg x1) n1))) H := w6p_0 hP
    have hD : va_D A (w6 cI cC h a1 a2 a3 a4 a5 a6 a7 a8 (sS0 (upd (upd n1.1 (((78 + (3 * (n1.1 (1 : Int32).toNatClampNeg))) + 0)).toNatClampNeg x1) (((78 + (3 * (n1.1 (1 : Int32).toNatClampNeg))) + 1)).toNatClampNeg x2) (sS0 (upd n1.1 (((78 + (3 * (n1.1 (1 : Int32).toNatClampNeg))) + 0)).toNatClampNeg x1) n1))) := w6d_0 hD
    refine lv_aload_n hx hb dX6_comes_58 rfl (lv_at hl 1 rfl) ?_
    refine va_get (D := D) (ci := 7) (v := .ref a1) (C := RX6) (T := TX6) (N := 20) hx hb hts q1 hown hK hP 0 rfl rfl 0 (by decide) q0 (fun _ h9 => h9) rfl dX6_comes_59 ?_
    refine lv_iload_n hx hb dX6_comes_62 rfl (lv_at hl 0 rfl) ?_
    refine lv_iconst (v := 2) hx hb dX6_comes_63 (by decide) ?_
    refine lv_iadd hx hb dX6_comes_64 ?_
    refine lv_iconst (v := (-1)) hx hb dX6_comes_65 (by decide) ?_
    obtain ⟨o6, hg⟩ := hg
    refine va_iast hx hb hK hP hD hS 1 0 rfl rfl o6 dX6_comes_66 (fun H locs hP hD hS => ?_)
    have hP : va_P D vwCl (w6 cI cC h a1 a2 a3 a4 a5 a6 a7 a8 (sS0 (upd (upd (upd n1.1 (((78 + (3 * (n1.1 (1 : Int32).toNatClampNeg))) + 0)).toNatClampNeg x1) (((78 + (3 * (n1.1 (1 : Int32).toNatClampNeg))) + 1)).toNatClampNeg x2) (((78 + (3 * (n1.1 (1 : Int32).toNatClampNeg))) + 2)).toNatClampNeg (-1)) (sS0 (upd (upd n1.1 (((78 + (3 * (n1.1 (1 : Int32).toNatClampNeg))) + 0)).toNatClampNeg x1) (((78 + (3 * (n1.1 (1 : Int32).toNatClampNeg))) + 1)).toNatClampNeg x2) (sS0 (upd n1.1 (((78 + (3 * (n1.1 (1 : Int32).toNatClampNeg))) + 0)).toNatClampNeg x1) n1)))) H := w6p_0 hP
    have hD : va_D A (w6 cI cC h a1 a2 a3 a4 a5 a6 a7 a8 (sS0 (upd (upd (upd n1.1 (((78 + (3 * (n1.1 (1 : Int32).toNatClampNeg))) + 0)).toNatClampNeg x1) (((78 + (3 * (n1.1 (1 : Int32).toNatClampNeg))) + 1)).toNatClampNeg x2) (((78 + (3 * (n1.1 (1 : Int32).toNatClampNeg))) + 2)).toNatClampNeg (-1)) (sS0 (upd (upd n1.1 (((78 + (3 * (n1.1 (1 : Int32).toNatClampNeg))) + 0)).toNatClampNeg x1) (((78 + (3 * (n1.1 (1 : Int32).toNatClampNeg))) + 1)).toNatClampNeg x2) (sS0 (upd n1.1 (((78 + (3 * (n1.1 (1 : Int32).toNatClampNeg))) + 0)).toNatClampNeg x1) n1)))) := w6d_0 hD
    refine lv_aload_n hx hb dX6_comes_67 rfl (lv_at hl 1 rfl) ?_
    refine va_get (D := D) (ci := 7) (v := .ref a1) (C := RX6) (T := TX6) (N := 20) hx hb hts q1 hown hK hP 0 rfl rfl 0 (by decide) q0 (fun _ h9 => h9) rfl dX6_comes_68 ?_
    refine lv_iconst (v := 1) hx hb dX6_comes_71 (by decide) ?_
    refine lv_dup2_11 hx hb dX6_comes_72 rfl rfl ?_
    obtain ⟨o7, hg⟩ := hg
    refine va_iald hx hb hK hP 1 0 rfl rfl o7 dX6_comes_73 ?_
    try rw [show (sS0 (upd (upd (upd n1.1 (((78 + (3 * (n1.1 (1 : Int32).toNatClampNeg))) + 0)).toNatClampNeg x1) (((78 + (3 * (n1.1 (1 : Int32).toNatClampNeg))) + 1)).toNatClampNeg x2) (((78 + (3 * (n1.1 (1 : Int32).toNatClampNeg))) + 2)).toNatClampNeg (-1)) (sS0 (upd (upd n1.1 (((78 + (3 * (n1.1 (1 : Int32).toNatClampNeg))) + 0)).toNatClampNeg x1) (((78 + (3 * (n1.1 (1 : Int32).toNatClampNeg))) + 1)).toNatClampNeg x2) (sS0 (upd n1.1 (((78 + (3 * (n1.1 (1 : Int32).toNatClampNeg))) + 0)).toNatClampNeg x1) n1))).1 = (upd (upd (upd n1.1 (((78 + (3 * (n1.1 (1 : Int32).toNatClampNeg))) + 0)).toNatClampNeg x1) (((78 + (3 * (n1.1 (1 : Int32).toNatClampNeg))) + 1)).toNatClampNeg x2) (((78 + (3 * (n1.1 (1 : Int32).toNatClampNeg))) + 2)).toNatClampNeg (-1)) from rfl]
    refine lv_iconst (v := 1) hx hb dX6_comes_74 (by decide) ?_
    refine lv_iadd hx hb dX6_comes_75 ?_
    obtain ⟨o8, hg⟩ := hg
    refine va_iast hx hb hK hP hD hS 1 0 rfl rfl o8 dX6_comes_76 (fun H locs hP hD hS => ?_)
    have hP : va_P D vwCl (w6 cI cC h a1 a2 a3 a4 a5 a6 a7 a8 (sS0 (upd (upd (upd (upd n1.1 (((78 + (3 * (n1.1 (1 : Int32).toNatClampNeg))) + 0)).toNatClampNeg x1) (((78 + (3 * (n1.1 (1 : Int32).toNatClampNeg))) + 1)).toNatClampNeg x2) (((78 + (3 * (n1.1 (1 : Int32).toNatClampNeg))) + 2)).toNatClampNeg (-1)) (1 : Int32).toNatClampNeg (((upd (upd (upd n1.1 (((78 + (3 * (n1.1 (1 : Int32).toNatClampNeg))) + 0)).toNatClampNeg x1) (((78 + (3 * (n1.1 (1 : Int32).toNatClampNeg))) + 1)).toNatClampNeg x2) (((78 + (3 * (n1.1 (1 : Int32).toNatClampNeg))) + 2)).toNatClampNeg (-1)) (1 : Int32).toNatClampNeg) + 1)) (sS0 (upd (upd (upd n1.1 (((78 + (3 * (n1.1 (1 : Int32).toNatClampNeg))) + 0)).toNatClampNeg x1) (((78 + (3 * (n1.1 (1 : Int32).toNatClampNeg))) + 1)).toNatClampNeg x2) (((78 + (3 * (n1.1 (1 : Int32).toNatClampNeg))) + 2)).toNatClampNeg (-1)) (sS0 (upd (upd n1.1 (((78 + (3 * (n1.1 (1 : Int32).toNatClampNeg))) + 0)).toNatClampNeg x1) (((78 + (3 * (n1.1 (1 : Int32).toNatClampNeg))) + 1)).toNatClampNeg x2) (sS0 (upd n1.1 (((78 + (3 * (n1.1 (1 : Int32).toNatClampNeg))) + 0)).toNatClampNeg x1) n1))))) H := w6p_0 hP
    have hD : va_D A (w6 cI cC h a1 a2 a3 a4 a5 a6 a7 a8 (sS0 (upd (upd (upd (upd n1.1 (((78 + (3 * (n1.1 (1 : Int32).toNatClampNeg))) + 0)).toNatClampNeg x1) (((78 + (3 * (n1.1 (1 : Int32).toNatClampNeg))) + 1)).toNatClampNeg x2) (((78 + (3 * (n1.1 (1 : Int32).toNatClampNeg))) + 2)).toNatClampNeg (-1)) (1 : Int32).toNatClampNeg (((upd (upd (upd n1.1 (((78 + (3 * (n1.1 (1 : Int32).toNatClampNeg))) + 0)).toNatClampNeg x1) (((78 + (3 * (n1.1 (1 : Int32).toNatClampNeg))) + 1)).toNatClampNeg x2) (((78 + (3 * (n1.1 (1 : Int32).toNatClampNeg))) + 2)).toNatClampNeg (-1)) (1 : Int32).toNatClampNeg) + 1)) (sS0 (upd (upd (upd n1.1 (((78 + (3 * (n1.1 (1 : Int32).toNatClampNeg))) + 0)).toNatClampNeg x1) (((78 + (3 * (n1.1 (1 : Int32).toNatClampNeg))) + 1)).toNatClampNeg x2) (((78 + (3 * (n1.1 (1 : Int32).toNatClampNeg))) + 2)).toNatClampNeg (-1)) (sS0 (upd (upd n1.1 (((78 + (3 * (n1.1 (1 : Int32).toNatClampNeg))) + 0)).toNatClampNeg x1) (((78 + (3 * (n1.1 (1 : Int32).toNatClampNeg))) + 1)).toNatClampNeg x2) (sS0 (upd n1.1 (((78 + (3 * (n1.1 (1 : Int32).toNatClampNeg))) + 0)).toNatClampNeg x1) n1))))) := w6d_0 hD
    refine lv_aload_n hx hb dX6_comes_77 rfl (lv_at hl 1 rfl) ?_
    refine va_get (D := D) (ci := 7) (v := .ref a1) (C := RX6) (T := TX6) (N := 20) hx hb hts q1 hown hK hP 0 rfl rfl 0 (by decide) q0 (fun _ h9 => h9) rfl dX6_comes_78 ?_
    refine lv_iconst (v := 1) hx hb dX6_comes_81 (by decide) ?_
    obtain ⟨o9, hg⟩ := hg
    refine va_iald hx hb hK hP 1 0 rfl rfl o9 dX6_comes_82 ?_
    try rw [show (sS0 (upd (upd (upd (upd n1.1 (((78 + (3 * (n1.1 (1 : Int32).toNatClampNeg))) + 0)).toNatClampNeg x1) (((78 + (3 * (n1.1 (1 : Int32).toNatClampNeg))) + 1)).toNatClampNeg x2) (((78 + (3 * (n1.1 (1 : Int32).toNatClampNeg))) + 2)).toNatClampNeg (-1)) (1 : Int32).toNatClampNeg (((upd (upd (upd n1.1 (((78 + (3 * (n1.1 (1 : Int32).toNatClampNeg))) + 0)).toNatClampNeg x1) (((78 + (3 * (n1.1 (1 : Int32).toNatClampNeg))) + 1)).toNatClampNeg x2) (((78 + (3 * (n1.1 (1 : Int32).toNatClampNeg))) + 2)).toNatClampNeg (-1)) (1 : Int32).toNatClampNeg) + 1)) (sS0 (upd (upd (upd n1.1 (((78 + (3 * (n1.1 (1 : Int32).toNatClampNeg))) + 0)).toNatClampNeg x1) (((78 + (3 * (n1.1 (1 : Int32).toNatClampNeg))) + 1)).toNatClampNeg x2) (((78 + (3 * (n1.1 (1 : Int32).toNatClampNeg))) + 2)).toNatClampNeg (-1)) (sS0 (upd (upd n1.1 (((78 + (3 * (n1.1 (1 : Int32).toNatClampNeg))) + 0)).toNatClampNeg x1) (((78 + (3 * (n1.1 (1 : Int32).toNatClampNeg))) + 1)).toNatClampNeg x2) (sS0 (upd n1.1 (((78 + (3 * (n1.1 (1 : Int32).toNatClampNeg))) + 0)).toNatClampNeg x1) n1)))).1 = (upd (upd (upd (upd n1.1 (((78 + (3 * (n1.1 (1 : Int32).toNatClampNeg))) + 0)).toNatClampNeg x1) (((78 + (3 * (n1.1 (1 : Int32).toNatClampNeg))) + 1)).toNatClampNeg x2) (((78 + (3 * (n1.1 (1 : Int32).toNatClampNeg))) + 2)).toNatClampNeg (-1)) (1 : Int32).toNatClampNeg (((upd (upd (upd n1.1 (((78 + (3 * (n1.1 (1 : Int32).toNatClampNeg))) + 0)).toNatClampNeg x1) (((78 + (3 * (n1.1 (1 : Int32).toNatClampNeg))) + 1)).toNatClampNeg x2) (((78 + (3 * (n1.1 (1 : Int32).toNatClampNeg))) + 2)).toNatClampNeg (-1)) (1 : Int32).toNatClampNeg) + 1)) from rfl]
    refine lv_iconst (v := 1) hx hb dX6_comes_83 (by decide) ?_
    refine lv_isub hx hb dX6_comes_84 ?_
    have e9 : fX6_comes S x1 x2 = ((((upd (upd (upd (upd n1.1 (((78 + (3 * (n1.1 (1 : Int32).toNatClampNeg))) + 0)).toNatClampNeg x1) (((78 + (3 * (n1.1 (1 : Int32).toNatClampNeg))) + 1)).toNatClampNeg x2) (((78 + (3 * (n1.1 (1 : Int32).toNatClampNeg))) + 2)).toNatClampNeg (-1)) (1 : Int32).toNatClampNeg (((upd (upd (upd n1.1 (((78 + (3 * (n1.1 (1 : Int32).toNatClampNeg))) + 0)).toNatClampNeg x1) (((78 + (3 * (n1.1 (1 : Int32).toNatClampNeg))) + 1)).toNatClampNeg x2) (((78 + (3 * (n1.1 (1 : Int32).toNatClampNeg))) + 2)).toNatClampNeg (-1)) (1 : Int32).toNatClampNeg) + 1)) (1 : Int32).toNatClampNeg) - 1), (sS0 (upd (upd (upd (upd n1.1 (((78 + (3 * (n1.1 (1 : Int32).toNatClampNeg))) + 0)).toNatClampNeg x1) (((78 + (3 * (n1.1 (1 : Int32).toNatClampNeg))) + 1)).toNatClampNeg x2) (((78 + (3 * (n1.1 (1 : Int32).toNatClampNeg))) + 2)).toNatClampNeg (-1)) (1 : Int32).toNatClampNeg (((upd (upd (upd n1.1 (((78 + (3 * (n1.1 (1 : Int32).toNatClampNeg))) + 0)).toNatClampNeg x1) (((78 + (3 * (n1.1 (1 : Int32).toNatClampNeg))) + 1)).toNatClampNeg x2) (((78 + (3 * (n1.1 (1 : Int32).toNatClampNeg))) + 2)).toNatClampNeg (-1)) (1 : Int32).toNatClampNeg) + 1)) (sS0 (upd (upd (upd n1.1 (((78 + (3 * (n1.1 (1 : Int32).toNatClampNeg))) + 0)).toNatClampNeg x1) (((78 + (3 * (n1.1 (1 : Int32).toNatClampNeg))) + 1)).toNatClampNeg x2) (((78 + (3 * (n1.1 (1 : Int32).toNatClampNeg))) + 2)).toNatClampNeg (-1)) (sS0 (upd (upd n1.1 (((78 + (3 * (n1.1 (1 : Int32).toNatClampNeg))) + 0)).toNatClampNeg x1) (((78 + (3 * (n1.1 (1 : Int32).toNatClampNeg))) + 1)).toNatClampNeg x2) (sS0 (upd n1.1 (((78 + (3 * (n1.1 (1 : Int32).toNatClampNeg))) + 0)).toNatClampNeg x1) n1))))) := by rw [fX6_comes, if_neg c_8_1, ← en1]
    exact rUi hx hb hr hlk hQ hP hS (by rw [e9]) (congrArg (fun z9 : (Int32 × SV) => (w6 cI cC h a1 a2 a3 a4 a5 a6 a7 a8 z9.2 : va_W)) e9).symm rfl dX6_comes_85
  · rw [if_pos c_8_1] at hg
    refine lv_aload_n hx hb dX6_comes_11 rfl (lv_at hl 0 rfl) ?_
    refine lv_iconst (v := 2) hx hb dX6_comes_12 (by decide) ?_
    refine lv_iconst (v := 1) hx hb dX6_comes_13 (by decide) ?_
    refine lv_bipush (v := 12) hx hb dX6_comes_14 (by decide) ?_
    obtain ⟨n2, en2⟩ : ∃ z9, z9 = (fX6_refuses S 2 1 12) := ⟨_, rfl⟩
    try rw [← en2] at hg
    have k9 := (kX6_refuses l D cI cC cT h a1 a2 a3 a4 a5 a6 a7 a8 S 2 1 12)
    rw [← en2] at k9
    refine fUV (As := [.int 2, .int 1, .int 12]) (rest := []) (st' := [.int n2.1]) ⟨hx, hb, hml, hown, hts⟩ k9 (cwV 3 hts gX6_comes_X6_refuses rfl rfl rfl (by decide +kernel) ⟨Nat.le_of_ble_eq_true rfl, Nat.le_of_ble_eq_true rfl⟩) hP hK hD hS [0, 1, 2, 3, 4, 5, 6, 7, 8] rfl rfl (by decide) rfl (w6 cI cC h a1 a2 a3 a4 a5 a6 a7 a8 n2.2) rfl rfl 0 (ci := 7) rfl rfl rfl rfl hl.1 rfl rfl (Nat.le_of_ble_eq_true rfl) ⟨Nat.zero_le _, Nat.zero_le _⟩ dX6_comes_16 (fun H locs hP hD hS => ?_)
    have e9 : fX6_comes S x1 x2 = (n2.1, n2.2) := by rw [fX6_comes, if_pos c_8_1, ← en2]
    exact rUi hx hb hr hlk hQ hP hS (by rw [e9]) (congrArg (fun z9 : (Int32 × SV) => (w6 cI cC h a1 a2 a3 a4 a5 a6 a7 a8 z9.2 : va_W)) e9).symm rfl dX6_comes_19
def fX6_guest (S : SV) (x1 : Int32) (x2 : Int32) : (Int32 × SV) := (if (fX6_in x1 1 9) = 0 then (0, (fX6_fails S 1).2) else (if (fX6_in x2 1 200) = 0 then (0, (fX6_fails S 1).2) else ((fX6_comes (fX6_fails S 0).2 x1 x2).1, (fX6_comes (fX6_fails S 0).2 x1 x2).2)))
def gX6_guest (S : SV) (x1 : Int32) (x2 : Int32) : Prop := (if (fX6_in x1 1 9) = 0 then True else (if (fX6_in x2 1 200) = 0 then True else ((gX6_comes (fX6_fails S 0).2 x1 x2) ∧ True)))
abbrev rmX6_guest : Room := { frames := 3, cells := 0, slots := 0, locals := 69 }
set_option maxHeartbeats 4000000 in
set_option maxRecDepth 100000 in
theorem kX6_guest (l : Launch) (D : va_G) (cI cC cT : ClassId) (h a1 a2 a3 a4 a5 a6 a7 a8 : Nat) (S : SV) (x1 : Int32) (x2 : Int32) (hg : gX6_guest S x1 x2) : mU l D (TY cI cC cT) yX6_guest wsX6_guest rmX6_guest [.ref h, .int x1, .int x2] (w6 cI cC h a1 a2 a3 a4 a5 a6 a7 a8 S) (some (.int (fX6_guest S x1 x2).1)) (w6 cI cC h a1 a2 a3 a4 a5 a6 a7 a8 (fX6_guest S x1 x2).2) := by
  refine mU.ofW (cc := cX6_guest) (maxL := 3) (ret := (some .int)) (by decide) rfl (Nat.le_of_ble_eq_true rfl) ?_
  intro p e s m args below meth c Q ls A hx hb hml hr hlk hts hown hP hK hD hS hl hQ
  have hown : s.vm.findClass RX6 = some m.cls := hown
  have hP : va_P D vwCl (w6 cI cC h a1 a2 a3 a4 a5 a6 a7 a8 S) s.heap := hP
  have hD : va_D A (w6 cI cC h a1 a2 a3 a4 a5 a6 a7 a8 S) := hD
  have hl : lv_has ls 3 [(0, .ref h), (1, .int x1), (2, .int x2)] := hl
  unfold gX6_guest at hg
  generalize hHe : s.heap = H at hP ⊢
  have hS : va_S A s.heap H [] := hHe ▸ hS
  generalize hLe : ([] : List Loc) = locs at hS ⊢
  refine lv_aload_n hx hb dX6_guest_0 rfl (lv_at hl 0 rfl) ?_
  refine lv_iload_n hx hb dX6_guest_1 rfl (lv_at hl 1 rfl) ?_
  refine lv_iconst (v := 1) hx hb dX6_guest_2 (by decide) ?_
  refine lv_bipush (v := 9) hx hb dX6_guest_3 (by decide) ?_
  refine fRS (As := [.int x1, .int 1, .int 9]) (rest := [.ref h]) (st' := [.int (fX6_in x1 1 9), .ref h]) ⟨hx, hb, hml, hown, hts⟩ (kX6_in l D cI cC cT x1 1 9) (va_cwS 3 hts gX6_guest_X6_in rfl rfl rfl (by decide +kernel) ⟨Nat.le_of_ble_eq_true rfl, Nat.le_of_ble_eq_true rfl⟩) hP hK [] rfl rfl hl.1 rfl rfl (Nat.le_of_ble_eq_true rfl) ⟨Nat.zero_le _, Nat.zero_le _⟩ dX6_guest_5 ?_
  refine lv_if_eq (tgt := 26) hx hb dX6_guest_8 (by decide) (fun c_8_1 => ?_) (fun c_8_1 => ?_)
  · rw [if_pos c_8_1] at hg
    refine lv_iconst (v := 1) hx hb dX6_guest_26 (by decide) ?_
    obtain ⟨n1, en1⟩ : ∃ z9, z9 = (fX6_fails S 1) := ⟨_, rfl⟩
    try rw [← en1] at hg
    have k9 := (kX6_fails l D cI cC cT h a1 a2 a3 a4 a5 a6 a7 a8 S 1)
    rw [← en1] at k9
    refine fUV (As := [.int 1]) (rest := []) (st' := [.int n1.1]) ⟨hx, hb, hml, hown, hts⟩ k9 (cwV 1 hts gX6_guest_X6_fails rfl rfl rfl (by decide +kernel) ⟨Nat.le_of_ble_eq_true rfl, Nat.le_of_ble_eq_true rfl⟩) hP hK hD hS [0, 1, 2, 3, 4, 5, 6, 7, 8] rfl rfl (by decide) rfl (w6 cI cC h a1 a2 a3 a4 a5 a6 a7 a8 n1.2) rfl rfl 0 (ci := 7) rfl rfl rfl rfl hl.1 rfl rfl (Nat.le_of_ble_eq_true rfl) ⟨Nat.zero_le _, Nat.zero_le _⟩ dX6_guest_27 (fun H locs hP hD hS => ?_)
    refine lv_if_eq (tgt := 37) hx hb dX6_guest_30 (by decide) (fun c_30 => absurd c_30 (by rw [en1, fails_1]; decide)) (fun c_30 => ?_)
    refine lv_iconst (v := 0) hx hb dX6_guest_33 (by decide) ?_
    refine lv_goto (tgt := 43) hx hb dX6_guest_34 (by decide) ?_
    have e9 : fX6_guest S x1 x2 = (0, n1.2) := by rw [fX6_guest, if_pos c_8_1, ← en1]
    exact rUi hx hb hr hlk hQ hP hS (by rw [e9]) (congrArg (fun z9 : (Int32 × SV) => (w6 cI cC h a1 a2 a3 a4 a5 a6 a7 a8 z9.2 : va_W)) e9).symm rfl dX6_guest_43
  · rw [if_neg c_8_1] at hg
    refine lv_iload_n hx hb dX6_guest_11 rfl (lv_at hl 2 rfl) ?_
    refine lv_iconst (v := 1) hx hb dX6_guest_12 (by decide) ?_
    refine lv_sipush (v := 200) hx hb dX6_guest_13 (by decide) ?_
    refine fRS (As := [.int x2, .int 1, .int 200]) (rest := [.ref h]) (st' := [.int (fX6_in x2 1 200), .ref h]) ⟨hx, hb, hml, hown, hts⟩ (kX6_in l D cI cC cT x2 1 200) (va_cwS 3 hts gX6_guest_X6_in rfl rfl rfl (by decide +kernel) ⟨Nat.le_of_ble_eq_true rfl, Nat.le_of_ble_eq_true rfl⟩) hP hK [] rfl rfl hl.1 rfl rfl (Nat.le_of_ble_eq_true rfl) ⟨Nat.zero_le _, Nat.zero_le _⟩ dX6_guest_16 ?_
    refine lv_if_eq (tgt := 26) hx hb dX6_guest_19 (by decide) (fun c_19_2 => ?_) (fun c_19_2 => ?_)
    · rw [if_pos c_19_2] at hg
      refine lv_iconst (v := 1) hx hb dX6_guest_26 (by decide) ?_
      obtain ⟨n2, en2⟩ : ∃ z9, z9 = (fX6_fails S 1) := ⟨_, rfl⟩
      try rw [← en2] at hg
      have k9 := (kX6_fails l D cI cC cT h a1 a2 a3 a4 a5 a6 a7 a8 S 1)
      rw [← en2] at k9
      refine fUV (As := [.int 1]) (rest := []) (st' := [.int n2.1]) ⟨hx, hb, hml, hown, hts⟩ k9 (cwV 1 hts gX6_guest_X6_fails rfl rfl rfl (by decide +kernel) ⟨Nat.le_of_ble_eq_true rfl, Nat.le_of_ble_eq_true rfl⟩) hP hK hD hS [0, 1, 2, 3, 4, 5, 6, 7, 8] rfl rfl (by decide) rfl (w6 cI cC h a1 a2 a3 a4 a5 a6 a7 a8 n2.2) rfl rfl 0 (ci := 7) rfl rfl rfl rfl hl.1 rfl rfl (Nat.le_of_ble_eq_true rfl) ⟨Nat.zero_le _, Nat.zero_le _⟩ dX6_guest_27 (fun H locs hP hD hS => ?_)
      refine lv_if_eq (tgt := 37) hx hb dX6_guest_30 (by decide) (fun c_30 => absurd c_30 (by rw [en2, fails_1]; decide)) (fun c_30 => ?_)
      refine lv_iconst (v := 0) hx hb dX6_guest_33 (by decide) ?_
      refine lv_goto (tgt := 43) hx hb dX6_guest_34 (by decide) ?_
      have e9 : fX6_guest S x1 x2 = (0, n2.2) := by rw [fX6_guest, if_neg c_8_1, if_pos c_19_2, ← en2]
      exact rUi hx hb hr hlk hQ hP hS (by rw [e9]) (congrArg (fun z9 : (Int32 × SV) => (w6 cI cC h a1 a2 a3 a4 a5 a6 a7 a8 z9.2 : va_W)) e9).symm rfl dX6_guest_43
    · rw [if_neg c_19_2] at hg
      refine lv_iconst (v := 0) hx hb dX6_guest_22 (by decide) ?_
      refine lv_goto (tgt := 27) hx hb dX6_guest_23 (by decide) ?_
      obtain ⟨n3, en3⟩ : ∃ z9, z9 = (fX6_fails S 0) := ⟨_, rfl⟩
      try rw [← en3] at hg
      have k9 := (kX6_fails l D cI cC cT h a1 a2 a3 a4 a5 a6 a7 a8 S 0)
      rw [← en3] at k9
      refine fUV (As := [.int 0]) (rest := []) (st' := [.int n3.1]) ⟨hx, hb, hml, hown, hts⟩ k9 (cwV 1 hts gX6_guest_X6_fails rfl rfl rfl (by decide +kernel) ⟨Nat.le_of_ble_eq_true rfl, Nat.le_of_ble_eq_true rfl⟩) hP hK hD hS [0, 1, 2, 3, 4, 5, 6, 7, 8] rfl rfl (by decide) rfl (w6 cI cC h a1 a2 a3 a4 a5 a6 a7 a8 n3.2) rfl rfl 0 (ci := 7) rfl rfl rfl rfl hl.1 rfl rfl (Nat.le_of_ble_eq_true rfl) ⟨Nat.zero_le _, Nat.zero_le _⟩ dX6_guest_27 (fun H locs hP hD hS => ?_)
      refine lv_if_eq (tgt := 37) hx hb dX6_guest_30 (by decide) (fun c_30 => ?_) (fun c_30 => absurd (by rw [en3]; exact fails_0 _) c_30)
      refine lv_aload_n hx hb dX6_guest_37 rfl (lv_at hl 0 rfl) ?_
      refine lv_iload_n hx hb dX6_guest_38 rfl (lv_at hl 1 rfl) ?_
      refine lv_iload_n hx hb dX6_guest_39 rfl (lv_at hl 2 rfl) ?_
      obtain ⟨n4, en4⟩ : ∃ z9, z9 = (fX6_comes n3.2 x1 x2) := ⟨_, rfl⟩
      try rw [← en4] at hg
      obtain ⟨o1, hg⟩ := hg
      have k9 := (kX6_comes l D cI cC cT h a1 a2 a3 a4 a5 a6 a7 a8 n3.2 x1 x2 o1)
      rw [← en4] at k9
      refine fUV (As := [.int x1, .int x2]) (rest := []) (st' := [.int n4.1]) ⟨hx, hb, hml, hown, hts⟩ k9 (cwV 2 hts gX6_guest_X6_comes rfl rfl rfl (by decide +kernel) ⟨Nat.le_of_ble_eq_true rfl, Nat.le_of_ble_eq_true rfl⟩) hP hK hD hS [0, 1, 2, 3, 4, 5, 6, 7, 8] rfl rfl (by decide) rfl (w6 cI cC h a1 a2 a3 a4 a5 a6 a7 a8 n4.2) rfl rfl 0 (ci := 7) rfl rfl rfl rfl hl.1 rfl rfl (Nat.le_of_ble_eq_true rfl) ⟨Nat.zero_le _, Nat.zero_le _⟩ dX6_guest_40 (fun H locs hP hD hS => ?_)
      have e9 : fX6_guest S x1 x2 = (n4.1, n4.2) := by rw [fX6_guest, if_neg c_8_1, if_neg c_19_2, ← en3, ← en4]
      exact rUi hx hb hr hlk hQ hP hS (by rw [e9]) (congrArg (fun z9 : (Int32 × SV) => (w6 cI cC h a1 a2 a3 a4 a5 a6 a7 a8 z9.2 : va_W)) e9).symm rfl dX6_guest_43
def fX6_cat (S : SV) (x1 : Int32) : (Int32 × SV) := (if (fX6_in x1 1 200) = 0 then (0, (fX6_fails S 1).2) else ((fX6_comes (fX6_fails S 0).2 0 x1).1, (fX6_comes (fX6_fails S 0).2 0 x1).2))
def gX6_cat (S : SV) (x1 : Int32) : Prop := (if (fX6_in x1 1 200) = 0 then True else ((gX6_comes (fX6_fails S 0).2 0 x1) ∧ True))
abbrev rmX6_cat : Room := { frames := 3, cells := 0, slots := 0, locals := 69 }
set_option maxHeartbeats 4000000 in
set_option maxRecDepth 100000 in
theorem kX6_cat (l : Launch) (D : va_G) (cI cC cT : ClassId) (h a1 a2 a3 a4 a5 a6 a7 a8 : Nat) (S : SV) (x1 : Int32) (hg : gX6_cat S x1) : mU l D (TY cI cC cT) yX6_cat wsX6_cat rmX6_cat [.ref h, .int x1] (w6 cI cC h a1 a2 a3 a4 a5 a6 a7 a8 S) (some (.int (fX6_cat S x1).1)) (w6 cI cC h a1 a2 a3 a4 a5 a6 a7 a8 (fX6_cat S x1).2) := by
  refine mU.ofW (cc := cX6_cat) (maxL := 2) (ret := (some .int)) (by decide) rfl (Nat.le_of_ble_eq_true rfl) ?_
  intro p e s m args below meth c Q ls A hx hb hml hr hlk hts hown hP hK hD hS hl hQ
  have hown : s.vm.findClass RX6 = some m.cls := hown
  have hP : va_P D vwCl (w6 cI cC h a1 a2 a3 a4 a5 a6 a7 a8 S) s.heap := hP
  have hD : va_D A (w6 cI cC h a1 a2 a3 a4 a5 a6 a7 a8 S) := hD
  have hl : lv_has ls 2 [(0, .ref h), (1, .int x1)] := hl
  unfold gX6_cat at hg
  generalize hHe : s.heap = H at hP ⊢
  have hS : va_S A s.heap H [] := hHe ▸ hS
  generalize hLe : ([] : List Loc) = locs at hS ⊢
  refine lv_aload_n hx hb dX6_cat_0 rfl (lv_at hl 0 rfl) ?_
  refine lv_iload_n hx hb dX6_cat_1 rfl (lv_at hl 1 rfl) ?_
  refine lv_iconst (v := 1) hx hb dX6_cat_2 (by decide) ?_
  refine lv_sipush (v := 200) hx hb dX6_cat_3 (by decide) ?_
  refine fRS (As := [.int x1, .int 1, .int 200]) (rest := [.ref h]) (st' := [.int (fX6_in x1 1 200), .ref h]) ⟨hx, hb, hml, hown, hts⟩ (kX6_in l D cI cC cT x1 1 200) (va_cwS 3 hts gX6_cat_X6_in rfl rfl rfl (by decide +kernel) ⟨Nat.le_of_ble_eq_true rfl, Nat.le_of_ble_eq_true rfl⟩) hP hK [] rfl rfl hl.1 rfl rfl (Nat.le_of_ble_eq_true rfl) ⟨Nat.zero_le _, Nat.zero_le _⟩ dX6_cat_6 ?_
  refine lv_if_eq (tgt := 16) hx hb dX6_cat_9 (by decide) (fun c_9_1 => ?_) (fun c_9_1 => ?_)
  · rw [if_pos c_9_1] at hg
    refine lv_iconst (v := 1) hx hb dX6_cat_16 (by decide) ?_
    obtain ⟨n1, en1⟩ : ∃ z9, z9 = (fX6_fails S 1) := ⟨_, rfl⟩
    try rw [← en1] at hg
    have k9 := (kX6_fails l D cI cC cT h a1 a2 a3 a4 a5 a6 a7 a8 S 1)
    rw [← en1] at k9
    refine fUV (As := [.int 1]) (rest := []) (st' := [.int n1.1]) ⟨hx, hb, hml, hown, hts⟩ k9 (cwV 1 hts gX6_cat_X6_fails rfl rfl rfl (by decide +kernel) ⟨Nat.le_of_ble_eq_true rfl, Nat.le_of_ble_eq_true rfl⟩) hP hK hD hS [0, 1, 2, 3, 4, 5, 6, 7, 8] rfl rfl (by decide) rfl (w6 cI cC h a1 a2 a3 a4 a5 a6 a7 a8 n1.2) rfl rfl 0 (ci := 7) rfl rfl rfl rfl hl.1 rfl rfl (Nat.le_of_ble_eq_true rfl) ⟨Nat.zero_le _, Nat.zero_le _⟩ dX6_cat_17 (fun H locs hP hD hS => ?_)
    refine lv_if_eq (tgt := 27) hx hb dX6_cat_20 (by decide) (fun c_20 => absurd c_20 (by rw [en1, fails_1]; decide)) (fun c_20 => ?_)
    refine lv_iconst (v := 0) hx hb dX6_cat_23 (by decide) ?_
    refine lv_goto (tgt := 33) hx hb dX6_cat_24 (by decide) ?_
    have e9 : fX6_cat S x1 = (0, n1.2) := by rw [fX6_cat, if_pos c_9_1, ← en1]
    exact rUi hx hb hr hlk hQ hP hS (by rw [e9]) (congrArg (fun z9 : (Int32 × SV) => (w6 cI cC h a1 a2 a3 a4 a5 a6 a7 a8 z9.2 : va_W)) e9).symm rfl dX6_cat_33
  · rw [if_neg c_9_1] at hg
    refine lv_iconst (v := 0) hx hb dX6_cat_12 (by decide) ?_
    refine lv_goto (tgt := 17) hx hb dX6_cat_13 (by decide) ?_
    obtain ⟨n2, en2⟩ : ∃ z9, z9 = (fX6_fails S 0) := ⟨_, rfl⟩
    try rw [← en2] at hg
    have k9 := (kX6_fails l D cI cC cT h a1 a2 a3 a4 a5 a6 a7 a8 S 0)
    rw [← en2] at k9
    refine fUV (As := [.int 0]) (rest := []) (st' := [.int n2.1]) ⟨hx, hb, hml, hown, hts⟩ k9 (cwV 1 hts gX6_cat_X6_fails rfl rfl rfl (by decide +kernel) ⟨Nat.le_of_ble_eq_true rfl, Nat.le_of_ble_eq_true rfl⟩) hP hK hD hS [0, 1, 2, 3, 4, 5, 6, 7, 8] rfl rfl (by decide) rfl (w6 cI cC h a1 a2 a3 a4 a5 a6 a7 a8 n2.2) rfl rfl 0 (ci := 7) rfl rfl rfl rfl hl.1 rfl rfl (Nat.le_of_ble_eq_true rfl) ⟨Nat.zero_le _, Nat.zero_le _⟩ dX6_cat_17 (fun H locs hP hD hS => ?_)
    refine lv_if_eq (tgt := 27) hx hb dX6_cat_20 (by decide) (fun c_20 => ?_) (fun c_20 => absurd (by rw [en2]; exact fails_0 _) c_20)
    refine lv_aload_n hx hb dX6_cat_27 rfl (lv_at hl 0 rfl) ?_
    refine lv_iconst (v := 0) hx hb dX6_cat_28 (by decide) ?_
    refine lv_iload_n hx hb dX6_cat_29 rfl (lv_at hl 1 rfl) ?_
    obtain ⟨n3, en3⟩ : ∃ z9, z9 = (fX6_comes n2.2 0 x1) := ⟨_, rfl⟩
    try rw [← en3] at hg
    obtain ⟨o1, hg⟩ := hg
    have k9 := (kX6_comes l D cI cC cT h a1 a2 a3 a4 a5 a6 a7 a8 n2.2 0 x1 o1)
    rw [← en3] at k9
    refine fUV (As := [.int 0, .int x1]) (rest := []) (st' := [.int n3.1]) ⟨hx, hb, hml, hown, hts⟩ k9 (cwV 2 hts gX6_cat_X6_comes rfl rfl rfl (by decide +kernel) ⟨Nat.le_of_ble_eq_true rfl, Nat.le_of_ble_eq_true rfl⟩) hP hK hD hS [0, 1, 2, 3, 4, 5, 6, 7, 8] rfl rfl (by decide) rfl (w6 cI cC h a1 a2 a3 a4 a5 a6 a7 a8 n3.2) rfl rfl 0 (ci := 7) rfl rfl rfl rfl hl.1 rfl rfl (Nat.le_of_ble_eq_true rfl) ⟨Nat.zero_le _, Nat.zero_le _⟩ dX6_cat_30 (fun H locs hP hD hS => ?_)
    have e9 : fX6_cat S x1 = (n3.1, n3.2) := by rw [fX6_cat, if_neg c_9_1, ← en2, ← en3]
    exact rUi hx hb hr hlk hQ hP hS (by rw [e9]) (congrArg (fun z9 : (Int32 × SV) => (w6 cI cC h a1 a2 a3 a4 a5 a6 a7 a8 z9.2 : va_W)) e9).symm rfl dX6_cat_33
def lX6_laysSeats_2  (v : (SV × Int32)) : (SV × Int32) ⊕ ((SV × Int32)) := (if (v.1.1 (1 : Int32).toNatClampNeg) ≤ v.2 then (.inr (v.1, v.2)) else (.inl ((sS6 (upd v.1.2.2.2.2.2.2.1 (v.2).toNatClampNeg (fX6_by v.1 v.2 2)) v.1), (v.2 + 1))))
def glX6_laysSeats_2  (v : (SV × Int32)) : Prop := ((vp_in 1 114) ∧ (if (v.1.1 (1 : Int32).toNatClampNeg) ≤ v.2 then True else ((gX6_by v.1 v.2 2) ∧ (vp_in v.2 12) ∧ True)))
def fX6_laysSeats (S : SV)  : SV := (itv (S, 0) lX6_laysSeats_2 ((fun v : (SV × Int32) => ((v.1.1 (1 : Int32).toNatClampNeg).toInt - v.2.toInt).toNat) (S, 0) + 1) (S, 0)).1
def gX6_laysSeats (S : SV)  : Prop := ((∃ r9 : (SV × Int32), lrun lX6_laysSeats_2 glX6_laysSeats_2 ((fun v : (SV × Int32) => ((v.1.1 (1 : Int32).toNatClampNeg).toInt - v.2.toInt).toNat) (S, 0) + 1) (S, 0) r9) ∧ True)
abbrev rmX6_laysSeats : Room := { frames := 1, cells := 0, slots := 0, locals := 22 }
set_option maxHeartbeats 4000000 in
set_option maxRecDepth 100000 in
theorem kX6_laysSeats (l : Launch) (D : va_G) (cI cC cT : ClassId) (h a1 a2 a3 a4 a5 a6 a7 a8 : Nat) (S : SV)  (hg : gX6_laysSeats S) : mU l D (TY cI cC cT) yX6_laysSeats wsX6_laysSeats rmX6_laysSeats [.ref h] (w6 cI cC h a1 a2 a3 a4 a5 a6 a7 a8 S) none (w6 cI cC h a1 a2 a3 a4 a5 a6 a7 a8 (fX6_laysSeats S)) := by
  refine mU.ofW (cc := cX6_laysSeats) (maxL := 2) (ret := none) (by decide) rfl (Nat.le_of_ble_eq_true rfl) ?_
  intro p e s m args below meth c Q ls A hx hb hml hr hlk hts hown hP hK hD hS hl hQ
  have hown : s.vm.findClass RX6 = some m.cls := hown
  have hP : va_P D vwCl (w6 cI cC h a1 a2 a3 a4 a5 a6 a7 a8 S) s.heap := hP
  have hD : va_D A (w6 cI cC h a1 a2 a3 a4 a5 a6 a7 a8 S) := hD
  have hl : lv_has ls 2 [(0, .ref h)] := hl
  have q0 := hts (Cond.fieldLink RX6 7 "TavernStoolsModel" "g" "[I") (by decide +kernel)
  have q1 : ∀ w ∈ u_ws RX6 TX6 20, w ∈ wsX6_laysSeats := by decide +kernel
  have q2 := hts (Cond.fieldLink RX6 33 "TavernStoolsModel" "seats" "[I") (by decide +kernel)
  unfold gX6_laysSeats at hg
  generalize hHe : s.heap = H at hP ⊢
  have hS : va_S A s.heap H [] := hHe ▸ hS
  generalize hLe : ([] : List Loc) = locs at hS ⊢
  refine lv_iconst (v := 0) hx hb dX6_laysSeats_0 (by decide) ?_
  refine lv_istore_n (lv' := [(1, .int 0), (0, .ref h)]) hx hb dX6_laysSeats_1 rfl hl (by decide) rfl (fun ls hl => ?_)
  obtain ⟨n1, en1⟩ : ∃ z9, z9 = (itv (S, 0) lX6_laysSeats_2 ((fun v : (SV × Int32) => ((v.1.1 (1 : Int32).toNatClampNeg).toInt - v.2.toInt).toNat) (S, 0) + 1) (S, 0)) := ⟨_, rfl⟩
  try rw [← en1] at hg
  obtain ⟨o4, hg⟩ := hg
  have L9 := lrun_val (d := (S, 0)) o4
  rw [← en1] at L9
  refine loopWs lX6_laysSeats_2 glX6_laysSeats_2 (fun v : (SV × Int32) => ∀ (H : Heap) (locs : List Loc) ls, va_P D vwCl (w6 cI cC h a1 a2 a3 a4 a5 a6 a7 a8 v.1) H → va_D A (w6 cI cC h a1 a2 a3 a4 a5 a6 a7 a8 v.1) → va_S A s.heap H locs → lv_has ls 2 [(0, .ref h), (1, .int v.2)] → W p l e rmX6_laysSeats s m args below meth c H locs 0 0 Q (F0 m 2 ls [])) (fun r9 : (SV × Int32) => ∀ (H : Heap) (locs : List Loc) ls, va_P D vwCl (w6 cI cC h a1 a2 a3 a4 a5 a6 a7 a8 r9.1) H → va_D A (w6 cI cC h a1 a2 a3 a4 a5 a6 a7 a8 r9.1) → va_S A s.heap H locs → lv_has ls 2 [(0, .ref h), (1, .int r9.2)] → W p l e rmX6_laysSeats s m args below meth c H locs 0 0 Q (F0 m 30 ls [])) ?_ _ (S, 0) n1 L9 ?_ _ _ ls hP hD hS (lv_sub hl [1, 0] rfl)
  · intro v hg kb kx H locs ls hP hD hS hl
    unfold glX6_laysSeats_2 at hg
    refine lv_iload_n hx hb dX6_laysSeats_2 rfl (lv_at hl 1 rfl) ?_
    refine lv_aload_n hx hb dX6_laysSeats_3 rfl (lv_at hl 0 rfl) ?_
    refine va_get (D := D) (ci := 7) (v := .ref a1) (C := RX6) (T := TX6) (N := 20) hx hb hts q1 hown hK hP 0 rfl rfl 0 (by decide) q0 (fun _ h9 => h9) rfl dX6_laysSeats_4 ?_
    refine lv_iconst (v := 1) hx hb dX6_laysSeats_7 (by decide) ?_
    obtain ⟨o1, hg⟩ := hg
    refine va_iald hx hb hK hP 1 0 rfl rfl o1 dX6_laysSeats_8 ?_
    refine lv_icmp_ge (tgt := 30) hx hb dX6_laysSeats_9 (by decide) (fun c_9_1 => ?_) (fun c_9_1 => ?_)
    · rw [if_pos c_9_1] at hg
      exact kx (v.1, v.2) (by rw [lX6_laysSeats_2, if_pos c_9_1]) H locs ls hP hD hS (lv_sub hl [0, 1] rfl)
    · rw [if_neg c_9_1] at hg
      refine lv_aload_n hx hb dX6_laysSeats_12 rfl (lv_at hl 0 rfl) ?_
      refine va_get (D := D) (ci := 7) (v := .ref a7) (C := RX6) (T := TX6) (N := 20) hx hb hts q1 hown hK hP 0 rfl rfl 16 (by decide) q2 (fun _ h9 => h9) rfl dX6_laysSeats_13 ?_
      refine lv_iload_n hx hb dX6_laysSeats_16 rfl (lv_at hl 1 rfl) ?_
      refine lv_aload_n hx hb dX6_laysSeats_17 rfl (lv_at hl 0 rfl) ?_
      refine lv_iload_n hx hb dX6_laysSeats_18 rfl (lv_at hl 1 rfl) ?_
      refine lv_iconst (v := 2) hx hb dX6_laysSeats_19 (by decide) ?_
      obtain ⟨o2, hg⟩ := hg
      refine fRV (As := [.int v.2, .int 2]) (rest := [.int v.2, .ref a7]) (st' := [.int (fX6_by v.1 v.2 2), .int v.2, .ref a7]) ⟨hx, hb, hml, hown, hts⟩ (kX6_by l D cI cC cT h a1 a2 a3 a4 a5 a6 a7 a8 v.1 v.2 2 o2) (cwV 2 hts gX6_laysSeats_X6_by rfl rfl rfl (by decide +kernel) ⟨Nat.le_of_ble_eq_true rfl, Nat.le_of_ble_eq_true rfl⟩) hP hK [0, 1, 2, 3, 4, 5, 6, 7, 8] rfl 0 (ci := 7) rfl rfl rfl rfl hl.1 rfl rfl (Nat.le_of_ble_eq_true rfl) ⟨Nat.zero_le _, Nat.zero_le _⟩ dX6_laysSeats_20 ?_
      obtain ⟨o3, hg⟩ := hg
      refine va_iast hx hb hK hP hD hS 7 0 rfl rfl o3 dX6_laysSeats_23 (fun H locs hP hD hS => ?_)
      have hP : va_P D vwCl (w6 cI cC h a1 a2 a3 a4 a5 a6 a7 a8 (sS6 (upd v.1.2.2.2.2.2.2.1 (v.2).toNatClampNeg (fX6_by v.1 v.2 2)) v.1)) H := w6p_6 hP
      have hD : va_D A (w6 cI cC h a1 a2 a3 a4 a5 a6 a7 a8 (sS6 (upd v.1.2.2.2.2.2.2.1 (v.2).toNatClampNeg (fX6_by v.1 v.2 2)) v.1)) := w6d_6 hD
      refine lv_iinc (v := (v.2 + 1)) (lv' := [(1, .int (v.2 + 1)), (0, .ref h)]) hx hb dX6_laysSeats_24 hl (k := 1) rfl rfl (by decide) rfl (fun ls hl => ?_)
      refine lv_goto (tgt := 2) hx hb dX6_laysSeats_27 (by decide) ?_
      exact kb ((sS6 (upd v.1.2.2.2.2.2.2.1 (v.2).toNatClampNeg (fX6_by v.1 v.2 2)) v.1), (v.2 + 1)) (by rw [lX6_laysSeats_2, if_neg c_9_1]) H locs ls hP hD hS (lv_sub hl [1, 0] rfl)
  · intro H locs ls hP hD hS hl
    have e9 : fX6_laysSeats S = n1.1 := by rw [fX6_laysSeats, ← en1]
    exact rUv hx hb hr hlk hQ hP hS (congrArg (fun z9 : SV => (w6 cI cC h a1 a2 a3 a4 a5 a6 a7 a8 z9 : va_W)) e9).symm dX6_laysSeats_30
def lX6_takesSeats_2  (v : (SV × Int32)) : (SV × Int32) ⊕ ((SV × Int32)) := (if (v.1.1 (0 : Int32).toNatClampNeg) ≤ v.2 then (.inr (v.1, v.2)) else (.inl ((fX6_lays v.1 v.2 5 (-1)), (v.2 + 1))))
def glX6_takesSeats_2  (v : (SV × Int32)) : Prop := ((vp_in 0 114) ∧ (if (v.1.1 (0 : Int32).toNatClampNeg) ≤ v.2 then True else ((gX6_lays v.1 v.2 5 (-1)) ∧ True)))
def lX6_takesSeats_27  (v : (SV × Int32)) : (SV × Int32) ⊕ ((SV × Int32)) := (if (v.1.1 (1 : Int32).toNatClampNeg) ≤ v.2 then (.inr (v.1, v.2)) else (if (v.1.2.2.2.2.2.2.1 (v.2).toNatClampNeg) < 0 then (.inl ((sS0 (upd v.1.1 (((78 + (3 * v.2)) + 2)).toNatClampNeg (v.1.2.2.2.2.2.2.1 (v.2).toNatClampNeg)) v.1), (v.2 + 1))) else (.inl ((fX6_lays (sS0 (upd v.1.1 (((78 + (3 * v.2)) + 2)).toNatClampNeg (v.1.2.2.2.2.2.2.1 (v.2).toNatClampNeg)) v.1) (v.1.2.2.2.2.2.2.1 (v.2).toNatClampNeg) 5 v.2), (v.2 + 1)))))
def glX6_takesSeats_27  (v : (SV × Int32)) : Prop := ((vp_in 1 114) ∧ (if (v.1.1 (1 : Int32).toNatClampNeg) ≤ v.2 then True else ((vp_in v.2 12) ∧ (vp_in ((78 + (3 * v.2)) + 2) 114) ∧ (vp_in v.2 12) ∧ (if (v.1.2.2.2.2.2.2.1 (v.2).toNatClampNeg) < 0 then True else ((vp_in v.2 12) ∧ (gX6_lays (sS0 (upd v.1.1 (((78 + (3 * v.2)) + 2)).toNatClampNeg (v.1.2.2.2.2.2.2.1 (v.2).toNatClampNeg)) v.1) (v.1.2.2.2.2.2.2.1 (v.2).toNatClampNeg) 5 v.2) ∧ True)))))
def fX6_takesSeats (S : SV)  : SV := (itv ((itv (S, 0) lX6_takesSeats_2 ((fun v : (SV × Int32) => ((v.1.1 (0 : Int32).toNatClampNeg).toInt - v.2.toInt).toNat) (S, 0) + 1) (S, 0)).1, 0) lX6_takesSeats_27 ((fun v : (SV × Int32) => ((v.1.1 (1 : Int32).toNatClampNeg).toInt - v.2.toInt).toNat) ((itv (S, 0) lX6_takesSeats_2 ((fun v : (SV × Int32) => ((v.1.1 (0 : Int32).toNatClampNeg).toInt - v.2.toInt).toNat) (S, 0) + 1) (S, 0)).1, 0) + 1) ((itv (S, 0) lX6_takesSeats_2 ((fun v : (SV × Int32) => ((v.1.1 (0 : Int32).toNatClampNeg).toInt - v.2.toInt).toNat) (S, 0) + 1) (S, 0)).1, 0)).1
def gX6_takesSeats (S : SV)  : Prop := ((∃ r9 : (SV × Int32), lrun lX6_takesSeats_2 glX6_takesSeats_2 ((fun v : (SV × Int32) => ((v.1.1 (0 : Int32).toNatClampNeg).toInt - v.2.toInt).toNat) (S, 0) + 1) (S, 0) r9) ∧ ((∃ r9 : (SV × Int32), lrun lX6_takesSeats_27 glX6_takesSeats_27 ((fun v : (SV × Int32) => ((v.1.1 (1 : Int32).toNatClampNeg).toInt - v.2.toInt).toNat) ((itv (S, 0) lX6_takesSeats_2 ((fun v : (SV × Int32) => ((v.1.1 (0 : Int32).toNatClampNeg).toInt - v.2.toInt).toNat) (S, 0) + 1) (S, 0)).1, 0) + 1) ((itv (S, 0) lX6_takesSeats_2 ((fun v : (SV × Int32) => ((v.1.1 (0 : Int32).toNatClampNeg).toInt - v.2.toInt).toNat) (S, 0) + 1) (S, 0)).1, 0) r9) ∧ True))
abbrev rmX6_takesSeats : Room := { frames := 1, cells := 0, slots := 0, locals := 23 }
set_option maxHeartbeats 4000000 in
set_option maxRecDepth 100000 in
theorem kX6_takesSeats (l : Launch) (D : va_G) (cI cC cT : ClassId) (h a1 a2 a3 a4 a5 a6 a7 a8 : Nat) (S : SV)  (hg : gX6_takesSeats S) : mU l D (TY cI cC cT) yX6_takesSeats wsX6_takesSeats rmX6_takesSeats [.ref h] (w6 cI cC h a1 a2 a3 a4 a5 a6 a7 a8 S) none (w6 cI cC h a1 a2 a3 a4 a5 a6 a7 a8 (fX6_takesSeats S)) := by
  refine mU.ofW (cc := cX6_takesSeats) (maxL := 2) (ret := none) (by decide) rfl (Nat.le_of_ble_eq_true rfl) ?_
  intro p e s m args below meth c Q ls A hx hb hml hr hlk hts hown hP hK hD hS hl hQ
  have hown : s.vm.findClass RX6 = some m.cls := hown
  have hP : va_P D vwCl (w6 cI cC h a1 a2 a3 a4 a5 a6 a7 a8 S) s.heap := hP
  have hD : va_D A (w6 cI cC h a1 a2 a3 a4 a5 a6 a7 a8 S) := hD
  have hl : lv_has ls 2 [(0, .ref h)] := hl
  have q0 := hts (Cond.fieldLink RX6 7 "TavernStoolsModel" "g" "[I") (by decide +kernel)
  have q1 : ∀ w ∈ u_ws RX6 TX6 20, w ∈ wsX6_takesSeats := by decide +kernel
  have q2 := hts (Cond.fieldLink RX6 33 "TavernStoolsModel" "seats" "[I") (by decide +kernel)
  unfold gX6_takesSeats at hg
  generalize hHe : s.heap = H at hP ⊢
  have hS : va_S A s.heap H [] := hHe ▸ hS
  generalize hLe : ([] : List Loc) = locs at hS ⊢
  refine lv_iconst (v := 0) hx hb dX6_takesSeats_0 (by decide) ?_
  refine lv_istore_n (lv' := [(1, .int 0), (0, .ref h)]) hx hb dX6_takesSeats_1 rfl hl (by decide) rfl (fun ls hl => ?_)
  obtain ⟨n2, en2⟩ : ∃ z9, z9 = (itv (S, 0) lX6_takesSeats_2 ((fun v : (SV × Int32) => ((v.1.1 (0 : Int32).toNatClampNeg).toInt - v.2.toInt).toNat) (S, 0) + 1) (S, 0)) := ⟨_, rfl⟩
  try rw [← en2] at hg
  obtain ⟨o3, hg⟩ := hg
  have L9 := lrun_val (d := (S, 0)) o3
  rw [← en2] at L9
  refine loopWs lX6_takesSeats_2 glX6_takesSeats_2 (fun v : (SV × Int32) => ∀ (H : Heap) (locs : List Loc) ls, va_P D vwCl (w6 cI cC h a1 a2 a3 a4 a5 a6 a7 a8 v.1) H → va_D A (w6 cI cC h a1 a2 a3 a4 a5 a6 a7 a8 v.1) → va_S A s.heap H locs → lv_has ls 2 [(0, .ref h), (1, .int v.2)] → W p l e rmX6_takesSeats s m args below meth c H locs 0 0 Q (F0 m 2 ls [])) (fun r9 : (SV × Int32) => ∀ (H : Heap) (locs : List Loc) ls, va_P D vwCl (w6 cI cC h a1 a2 a3 a4 a5 a6 a7 a8 r9.1) H → va_D A (w6 cI cC h a1 a2 a3 a4 a5 a6 a7 a8 r9.1) → va_S A s.heap H locs → lv_has ls 2 [(0, .ref h), (1, .int r9.2)] → W p l e rmX6_takesSeats s m args below meth c H locs 0 0 Q (F0 m 25 ls [])) ?_ _ (S, 0) n2 L9 ?_ _ _ ls hP hD hS (lv_sub hl [1, 0] rfl)
  · intro v hg kb kx H locs ls hP hD hS hl
    unfold glX6_takesSeats_2 at hg
    refine lv_iload_n hx hb dX6_takesSeats_2 rfl (lv_at hl 1 rfl) ?_
    refine lv_aload_n hx hb dX6_takesSeats_3 rfl (lv_at hl 0 rfl) ?_
    refine va_get (D := D) (ci := 7) (v := .ref a1) (C := RX6) (T := TX6) (N := 20) hx hb hts q1 hown hK hP 0 rfl rfl 0 (by decide) q0 (fun _ h9 => h9) rfl dX6_takesSeats_4 ?_
    refine lv_iconst (v := 0) hx hb dX6_takesSeats_7 (by decide) ?_
    obtain ⟨o1, hg⟩ := hg
    refine va_iald hx hb hK hP 1 0 rfl rfl o1 dX6_takesSeats_8 ?_
    refine lv_icmp_ge (tgt := 25) hx hb dX6_takesSeats_9 (by decide) (fun c_9_1 => ?_) (fun c_9_1 => ?_)
    · rw [if_pos c_9_1] at hg
      exact kx (v.1, v.2) (by rw [lX6_takesSeats_2, if_pos c_9_1]) H locs ls hP hD hS (lv_sub hl [0, 1] rfl)
    · rw [if_neg c_9_1] at hg
      refine lv_aload_n hx hb dX6_takesSeats_12 rfl (lv_at hl 0 rfl) ?_
      refine lv_iload_n hx hb dX6_takesSeats_13 rfl (lv_at hl 1 rfl) ?_
      refine lv_iconst (v := 5) hx hb dX6_takesSeats_14 (by decide) ?_
      refine lv_iconst (v := (-1)) hx hb dX6_takesSeats_15 (by decide) ?_
      obtain ⟨n1, en1⟩ : ∃ z9, z9 = (fX6_lays v.1 v.2 5 (-1)) := ⟨_, rfl⟩
      try rw [← en1] at hg
      obtain ⟨o2, hg⟩ := hg
      have k9 := (kX6_lays l D cI cC cT h a1 a2 a3 a4 a5 a6 a7 a8 v.1 v.2 5 (-1) o2)
      rw [← en1] at k9
      refine fUV (As := [.int v.2, .int 5, .int (-1)]) (rest := []) (st' := []) ⟨hx, hb, hml, hown, hts⟩ k9 (cwV 3 hts gX6_takesSeats_X6_lays rfl rfl rfl (by decide +kernel) ⟨Nat.le_of_ble_eq_true rfl, Nat.le_of_ble_eq_true rfl⟩) hP hK hD hS [0, 1, 2, 3, 4, 5, 6, 7, 8] rfl rfl (by decide) rfl (w6 cI cC h a1 a2 a3 a4 a5 a6 a7 a8 n1) rfl rfl 0 (ci := 7) rfl rfl rfl rfl hl.1 rfl rfl (Nat.le_of_ble_eq_true rfl) ⟨Nat.zero_le _, Nat.zero_le _⟩ dX6_takesSeats_16 (fun H locs hP hD hS => ?_)
      refine lv_iinc (v := (v.2 + 1)) (lv' := [(1, .int (v.2 + 1)), (0, .ref h)]) hx hb dX6_takesSeats_19 hl (k := 1) rfl rfl (by decide) rfl (fun ls hl => ?_)
      refine lv_goto (tgt := 2) hx hb dX6_takesSeats_22 (by decide) ?_
      exact kb (n1, (v.2 + 1)) (by rw [lX6_takesSeats_2, if_neg c_9_1, ← en1]) H locs ls hP hD hS (lv_sub hl [1, 0] rfl)
  · intro H locs ls hP hD hS hl
    refine lv_iconst (v := 0) hx hb dX6_takesSeats_25 (by decide) ?_
    refine lv_istore_n (lv' := [(1, .int 0), (0, .ref h)]) hx hb dX6_takesSeats_26 rfl hl (by decide) rfl (fun ls hl => ?_)
    obtain ⟨n4, en4⟩ : ∃ z9, z9 = (itv (n2.1, 0) lX6_takesSeats_27 ((fun v : (SV × Int32) => ((v.1.1 (1 : Int32).toNatClampNeg).toInt - v.2.toInt).toNat) (n2.1, 0) + 1) (n2.1, 0)) := ⟨_, rfl⟩
    try rw [← en4] at hg
    obtain ⟨o10, hg⟩ := hg
    have L9 := lrun_val (d := (n2.1, 0)) o10
    rw [← en4] at L9
    refine loopWs lX6_takesSeats_27 glX6_takesSeats_27 (fun v : (SV × Int32) => ∀ (H : Heap) (locs : List Loc) ls, va_P D vwCl (w6 cI cC h a1 a2 a3 a4 a5 a6 a7 a8 v.1) H → va_D A (w6 cI cC h a1 a2 a3 a4 a5 a6 a7 a8 v.1) → va_S A s.heap H locs → lv_has ls 2 [(0, .ref h), (1, .int v.2)] → W p l e rmX6_takesSeats s m args below meth c H locs 0 0 Q (F0 m 27 ls [])) (fun r9 : (SV × Int32) => ∀ (H : Heap) (locs : List Loc) ls, va_P D vwCl (w6 cI cC h a1 a2 a3 a4 a5 a6 a7 a8 r9.1) H → va_D A (w6 cI cC h a1 a2 a3 a4 a5 a6 a7 a8 r9.1) → va_S A s.heap H locs → lv_has ls 2 [(0, .ref h), (1, .int r9.2)] → W p l e rmX6_takesSeats s m args below meth c H locs 0 0 Q (F0 m 83 ls [])) ?_ _ (n2.1, 0) n4 L9 ?_ _ _ ls hP hD hS (lv_sub hl [1, 0] rfl)
    · intro v hg kb kx H locs ls hP hD hS hl
      unfold glX6_takesSeats_27 at hg
      refine lv_iload_n hx hb dX6_takesSeats_27 rfl (lv_at hl 1 rfl) ?_
      refine lv_aload_n hx hb dX6_takesSeats_28 rfl (lv_at hl 0 rfl) ?_
      refine va_get (D := D) (ci := 7) (v := .ref a1) (C := RX6) (T := TX6) (N := 20) hx hb hts q1 hown hK hP 0 rfl rfl 0 (by decide) q0 (fun _ h9 => h9) rfl dX6_takesSeats_29 ?_
      refine lv_iconst (v := 1) hx hb dX6_takesSeats_32 (by decide) ?_
      obtain ⟨o4, hg⟩ := hg
      refine va_iald hx hb hK hP 1 0 rfl rfl o4 dX6_takesSeats_33 ?_
      refine lv_icmp_ge (tgt := 83) hx hb dX6_takesSeats_34 (by decide) (fun c_34_2 => ?_) (fun c_34_2 => ?_)
      · rw [if_pos c_34_2] at hg
        exact kx (v.1, v.2) (by rw [lX6_takesSeats_27, if_pos c_34_2]) H locs ls hP hD hS (lv_sub hl [0, 1] rfl)
      · rw [if_neg c_34_2] at hg
        refine lv_aload_n hx hb dX6_takesSeats_37 rfl (lv_at hl 0 rfl) ?_
        refine va_get (D := D) (ci := 7) (v := .ref a1) (C := RX6) (T := TX6) (N := 20) hx hb hts q1 hown hK hP 0 rfl rfl 0 (by decide) q0 (fun _ h9 => h9) rfl dX6_takesSeats_38 ?_
        refine lv_bipush (v := 78) hx hb dX6_takesSeats_41 (by decide) ?_
        refine lv_iconst (v := 3) hx hb dX6_takesSeats_43 (by decide) ?_
        refine lv_iload_n hx hb dX6_takesSeats_44 rfl (lv_at hl 1 rfl) ?_
        refine lv_imul hx hb dX6_takesSeats_45 ?_
        refine lv_iadd hx hb dX6_takesSeats_46 ?_
        refine lv_iconst (v := 2) hx hb dX6_takesSeats_47 (by decide) ?_
        refine lv_iadd hx hb dX6_takesSeats_48 ?_
        refine lv_aload_n hx hb dX6_takesSeats_49 rfl (lv_at hl 0 rfl) ?_
        refine va_get (D := D) (ci := 7) (v := .ref a7) (C := RX6) (T := TX6) (N := 20) hx hb hts q1 hown hK hP 0 rfl rfl 16 (by decide) q2 (fun _ h9 => h9) rfl dX6_takesSeats_50 ?_
        refine lv_iload_n hx hb dX6_takesSeats_53 rfl (lv_at hl 1 rfl) ?_
        obtain ⟨o5, hg⟩ := hg
        refine va_iald hx hb hK hP 7 0 rfl rfl o5 dX6_takesSeats_54 ?_
        obtain ⟨o6, hg⟩ := hg
        refine va_iast hx hb hK hP hD hS 1 0 rfl rfl o6 dX6_takesSeats_55 (fun H locs hP hD hS => ?_)
        have hP : va_P D vwCl (w6 cI cC h a1 a2 a3 a4 a5 a6 a7 a8 (sS0 (upd v.1.1 (((78 + (3 * v.2)) + 2)).toNatClampNeg (v.1.2.2.2.2.2.2.1 (v.2).toNatClampNeg)) v.1)) H := w6p_0 hP
        have hD : va_D A (w6 cI cC h a1 a2 a3 a4 a5 a6 a7 a8 (sS0 (upd v.1.1 (((78 + (3 * v.2)) + 2)).toNatClampNeg (v.1.2.2.2.2.2.2.1 (v.2).toNatClampNeg)) v.1)) := w6d_0 hD
        refine lv_aload_n hx hb dX6_takesSeats_56 rfl (lv_at hl 0 rfl) ?_
        refine va_get (D := D) (ci := 7) (v := .ref a7) (C := RX6) (T := TX6) (N := 20) hx hb hts q1 hown hK hP 0 rfl rfl 16 (by decide) q2 (fun _ h9 => h9) rfl dX6_takesSeats_57 ?_
        refine lv_iload_n hx hb dX6_takesSeats_60 rfl (lv_at hl 1 rfl) ?_
        obtain ⟨o7, hg⟩ := hg
        refine va_iald hx hb hK hP 7 0 rfl rfl o7 dX6_takesSeats_61 ?_
        try rw [show (sS0 (upd v.1.1 (((78 + (3 * v.2)) + 2)).toNatClampNeg (v.1.2.2.2.2.2.2.1 (v.2).toNatClampNeg)) v.1).2.2.2.2.2.2.1 = v.1.2.2.2.2.2.2.1 from rfl]
        refine lv_if_lt (tgt := 77) hx hb dX6_takesSeats_62 (by decide) (fun c_62_3 => ?_) (fun c_62_3 => ?_)
        · rw [if_pos c_62_3] at hg
          refine lv_iinc (v := (v.2 + 1)) (lv' := [(1, .int (v.2 + 1)), (0, .ref h)]) hx hb dX6_takesSeats_77 hl (k := 1) rfl rfl (by decide) rfl (fun ls hl => ?_)
          refine lv_goto (tgt := 27) hx hb dX6_takesSeats_80 (by decide) ?_
          exact kb ((sS0 (upd v.1.1 (((78 + (3 * v.2)) + 2)).toNatClampNeg (v.1.2.2.2.2.2.2.1 (v.2).toNatClampNeg)) v.1), (v.2 + 1)) (by rw [lX6_takesSeats_27, if_neg c_34_2, if_pos c_62_3]) H locs ls hP hD hS (lv_sub hl [1, 0] rfl)
        · rw [if_neg c_62_3] at hg
          refine lv_aload_n hx hb dX6_takesSeats_65 rfl (lv_at hl 0 rfl) ?_
          refine lv_aload_n hx hb dX6_takesSeats_66 rfl (lv_at hl 0 rfl) ?_
          refine va_get (D := D) (ci := 7) (v := .ref a7) (C := RX6) (T := TX6) (N := 20) hx hb hts q1 hown hK hP 0 rfl rfl 16 (by decide) q2 (fun _ h9 => h9) rfl dX6_takesSeats_67 ?_
          refine lv_iload_n hx hb dX6_takesSeats_70 rfl (lv_at hl 1 rfl) ?_
          obtain ⟨o8, hg⟩ := hg
          refine va_iald hx hb hK hP 7 0 rfl rfl o8 dX6_takesSeats_71 ?_
          try rw [show (sS0 (upd v.1.1 (((78 + (3 * v.2)) + 2)).toNatClampNeg (v.1.2.2.2.2.2.2.1 (v.2).toNatClampNeg)) v.1).2.2.2.2.2.2.1 = v.1.2.2.2.2.2.2.1 from rfl]
          refine lv_iconst (v := 5) hx hb dX6_takesSeats_72 (by decide) ?_
          refine lv_iload_n hx hb dX6_takesSeats_73 rfl (lv_at hl 1 rfl) ?_
          obtain ⟨n3, en3⟩ : ∃ z9, z9 = (fX6_lays (sS0 (upd v.1.1 (((78 + (3 * v.2)) + 2)).toNatClampNeg (v.1.2.2.2.2.2.2.1 (v.2).toNatClampNeg)) v.1) (v.1.2.2.2.2.2.2.1 (v.2).toNatClampNeg) 5 v.2) := ⟨_, rfl⟩
          try rw [← en3] at hg
          obtain ⟨o9, hg⟩ := hg
          have k9 := (kX6_lays l D cI cC cT h a1 a2 a3 a4 a5 a6 a7 a8 (sS0 (upd v.1.1 (((78 + (3 * v.2)) + 2)).toNatClampNeg (v.1.2.2.2.2.2.2.1 (v.2).toNatClampNeg)) v.1) (v.1.2.2.2.2.2.2.1 (v.2).toNatClampNeg) 5 v.2 o9)
          rw [← en3] at k9
          refine fUV (As := [.int (v.1.2.2.2.2.2.2.1 (v.2).toNatClampNeg), .int 5, .int v.2]) (rest := []) (st' := []) ⟨hx, hb, hml, hown, hts⟩ k9 (cwV 3 hts gX6_takesSeats_X6_lays rfl rfl rfl (by decide +kernel) ⟨Nat.le_of_ble_eq_true rfl, Nat.le_of_ble_eq_true rfl⟩) hP hK hD hS [0, 1, 2, 3, 4, 5, 6, 7, 8] rfl rfl (by decide) rfl (w6 cI cC h a1 a2 a3 a4 a5 a6 a7 a8 n3) rfl rfl 0 (ci := 7) rfl rfl rfl rfl hl.1 rfl rfl (Nat.le_of_ble_eq_true rfl) ⟨Nat.zero_le _, Nat.zero_le _⟩ dX6_takesSeats_74 (fun H locs hP hD hS => ?_)
          refine lv_iinc (v := (v.2 + 1)) (lv' := [(1, .int (v.2 + 1)), (0, .ref h)]) hx hb dX6_takesSeats_77 hl (k := 1) rfl rfl (by decide) rfl (fun ls hl => ?_)
          refine lv_goto (tgt := 27) hx hb dX6_takesSeats_80 (by decide) ?_
          exact kb (n3, (v.2 + 1)) (by rw [lX6_takesSeats_27, if_neg c_34_2, if_neg c_62_3, ← en3]) H locs ls hP hD hS (lv_sub hl [1, 0] rfl)
    · intro H locs ls hP hD hS hl
      have e9 : fX6_takesSeats S = n4.1 := by rw [fX6_takesSeats, ← en2, ← en4]
      exact rUv hx hb hr hlk hQ hP hS (congrArg (fun z9 : SV => (w6 cI cC h a1 a2 a3 a4 a5 a6 a7 a8 z9 : va_W)) e9).symm dX6_takesSeats_83
def fX6_areClashing (S : SV) (x1 : Int32) (x2 : Int32) : Int32 := (if (S.2.2.2.2.2.2.1 (x1).toNatClampNeg) < 0 then 0 else (if 0 ≤ (S.2.2.2.2.2.2.1 (x2).toNatClampNeg) then (if ((fX6_by S x1 0) - (fX6_by S x2 0)) ≤ 0 then (if 0 ≤ ((fX6_by S x1 0) - (fX6_by S x2 0)) then 0 else (if ((fX6_of S (S.2.2.2.2.2.2.1 (x1).toNatClampNeg) 0) - (fX6_of S (S.2.2.2.2.2.2.1 (x2).toNatClampNeg) 0)) ≤ 0 then 0 else 1)) else (if ((fX6_of S (S.2.2.2.2.2.2.1 (x1).toNatClampNeg) 0) - (fX6_of S (S.2.2.2.2.2.2.1 (x2).toNatClampNeg) 0)) < 0 then 1 else (if 0 ≤ ((fX6_by S x1 0) - (fX6_by S x2 0)) then 0 else (if ((fX6_of S (S.2.2.2.2.2.2.1 (x1).toNatClampNeg) 0) - (fX6_of S (S.2.2.2.2.2.2.1 (x2).toNatClampNeg) 0)) ≤ 0 then 0 else 1)))) else 0))
def gX6_areClashing (S : SV) (x1 : Int32) (x2 : Int32) : Prop := ((vp_in x1 12) ∧ (if (S.2.2.2.2.2.2.1 (x1).toNatClampNeg) < 0 then True else ((vp_in x2 12) ∧ (if 0 ≤ (S.2.2.2.2.2.2.1 (x2).toNatClampNeg) then ((gX6_by S x1 0) ∧ (gX6_by S x2 0) ∧ (vp_in x1 12) ∧ (gX6_of S (S.2.2.2.2.2.2.1 (x1).toNatClampNeg) 0) ∧ (vp_in x2 12) ∧ (gX6_of S (S.2.2.2.2.2.2.1 (x2).toNatClampNeg) 0) ∧ True) else True))))
abbrev rmX6_areClashing : Room := { frames := 1, cells := 0, slots := 0, locals := 22 }
set_option maxHeartbeats 4000000 in
set_option maxRecDepth 100000 in
theorem kX6_areClashing (l : Launch) (D : va_G) (cI cC cT : ClassId) (h a1 a2 a3 a4 a5 a6 a7 a8 : Nat) (S : SV) (x1 : Int32) (x2 : Int32) (hg : gX6_areClashing S x1 x2) : mR l D (TY cI cC cT) yX6_areClashing wsX6_areClashing rmX6_areClashing [.ref h, .int x1, .int x2] (w6 cI cC h a1 a2 a3 a4 a5 a6 a7 a8 S) (some (.int (fX6_areClashing S x1 x2))) := by
  refine mR.ofW (cc := cX6_areClashing) (maxL := 5) (ret := (some .boolean)) (by decide) rfl (Nat.le_of_ble_eq_true rfl) ?_
  intro p e s m args below meth c Q ls hx hb hml hr hlk hts hown hP hK hl hQ
  have hown : s.vm.findClass RX6 = some m.cls := hown
  have hP : va_P D vwCl (w6 cI cC h a1 a2 a3 a4 a5 a6 a7 a8 S) s.heap := hP
  have hl : lv_has ls 5 [(0, .ref h), (1, .int x1), (2, .int x2)] := hl
  have q0 := hts (Cond.fieldLink RX6 33 "TavernStoolsModel" "seats" "[I") (by decide +kernel)
  have q1 : ∀ w ∈ u_ws RX6 TX6 20, w ∈ wsX6_areClashing := by decide +kernel
  unfold gX6_areClashing at hg
  refine lv_aload_n hx hb dX6_areClashing_0 rfl (lv_at hl 0 rfl) ?_
  refine va_get (D := D) (ci := 7) (v := .ref a7) (C := RX6) (T := TX6) (N := 20) hx hb hts q1 hown hK hP 0 rfl rfl 16 (by decide) q0 (fun _ h9 => h9) rfl dX6_areClashing_1 ?_
  refine lv_iload_n hx hb dX6_areClashing_4 rfl (lv_at hl 1 rfl) ?_
  obtain ⟨o1, hg⟩ := hg
  refine va_iald hx hb hK hP 7 0 rfl rfl o1 dX6_areClashing_5 ?_
  refine lv_if_lt (tgt := 18) hx hb dX6_areClashing_6 (by decide) (fun c_6_1 => ?_) (fun c_6_1 => ?_)
  · rw [if_pos c_6_1] at hg
    refine lv_iconst (v := 0) hx hb dX6_areClashing_18 (by decide) ?_
    exact rRi hx hb hr hlk hQ (by rw [fX6_areClashing, if_pos c_6_1]) rfl dX6_areClashing_19
  · rw [if_neg c_6_1] at hg
    refine lv_aload_n hx hb dX6_areClashing_9 rfl (lv_at hl 0 rfl) ?_
    refine va_get (D := D) (ci := 7) (v := .ref a7) (C := RX6) (T := TX6) (N := 20) hx hb hts q1 hown hK hP 0 rfl rfl 16 (by decide) q0 (fun _ h9 => h9) rfl dX6_areClashing_10 ?_
    refine lv_iload_n hx hb dX6_areClashing_13 rfl (lv_at hl 2 rfl) ?_
    obtain ⟨o2, hg⟩ := hg
    refine va_iald hx hb hK hP 7 0 rfl rfl o2 dX6_areClashing_14 ?_
    refine lv_if_ge (tgt := 20) hx hb dX6_areClashing_15 (by decide) (fun c_15_2 => ?_) (fun c_15_2 => ?_)
    · rw [if_pos c_15_2] at hg
      refine lv_aload_n hx hb dX6_areClashing_20 rfl (lv_at hl 0 rfl) ?_
      refine lv_iload_n hx hb dX6_areClashing_21 rfl (lv_at hl 1 rfl) ?_
      refine lv_iconst (v := 0) hx hb dX6_areClashing_22 (by decide) ?_
      obtain ⟨o3, hg⟩ := hg
      refine fRV (As := [.int x1, .int 0]) (rest := []) (st' := [.int (fX6_by S x1 0)]) ⟨hx, hb, hml, hown, hts⟩ (kX6_by l D cI cC cT h a1 a2 a3 a4 a5 a6 a7 a8 S x1 0 o3) (cwV 2 hts gX6_areClashing_X6_by rfl rfl rfl (by decide +kernel) ⟨Nat.le_of_ble_eq_true rfl, Nat.le_of_ble_eq_true rfl⟩) hP hK [0, 1, 2, 3, 4, 5, 6, 7, 8] rfl 0 (ci := 7) rfl rfl rfl rfl hl.1 rfl rfl (Nat.le_of_ble_eq_true rfl) ⟨Nat.zero_le _, Nat.zero_le _⟩ dX6_areClashing_23 ?_
      refine lv_aload_n hx hb dX6_areClashing_26 rfl (lv_at hl 0 rfl) ?_
      refine lv_iload_n hx hb dX6_areClashing_27 rfl (lv_at hl 2 rfl) ?_
      refine lv_iconst (v := 0) hx hb dX6_areClashing_28 (by decide) ?_
      obtain ⟨o4, hg⟩ := hg
      refine fRV (As := [.int x2, .int 0]) (rest := [.int (fX6_by S x1 0)]) (st' := [.int (fX6_by S x2 0), .int (fX6_by S x1 0)]) ⟨hx, hb, hml, hown, hts⟩ (kX6_by l D cI cC cT h a1 a2 a3 a4 a5 a6 a7 a8 S x2 0 o4) (cwV 2 hts gX6_areClashing_X6_by rfl rfl rfl (by decide +kernel) ⟨Nat.le_of_ble_eq_true rfl, Nat.le_of_ble_eq_true rfl⟩) hP hK [0, 1, 2, 3, 4, 5, 6, 7, 8] rfl 0 (ci := 7) rfl rfl rfl rfl hl.1 rfl rfl (Nat.le_of_ble_eq_true rfl) ⟨Nat.zero_le _, Nat.zero_le _⟩ dX6_areClashing_29 ?_
      refine lv_isub hx hb dX6_areClashing_32 ?_
      refine lv_istore_n (lv' := [(3, .int ((fX6_by S x1 0) - (fX6_by S x2 0))), (0, .ref h), (1, .int x1), (2, .int x2)]) hx hb dX6_areClashing_33 rfl hl (by decide) rfl (fun ls hl => ?_)
      refine lv_aload_n hx hb dX6_areClashing_34 rfl (lv_at hl 1 rfl) ?_
      refine lv_aload_n hx hb dX6_areClashing_35 rfl (lv_at hl 1 rfl) ?_
      refine va_get (D := D) (ci := 7) (v := .ref a7) (C := RX6) (T := TX6) (N := 20) hx hb hts q1 hown hK hP 0 rfl rfl 16 (by decide) q0 (fun _ h9 => h9) rfl dX6_areClashing_36 ?_
      refine lv_iload_n hx hb dX6_areClashing_39 rfl (lv_at hl 2 rfl) ?_
      obtain ⟨o5, hg⟩ := hg
      refine va_iald hx hb hK hP 7 0 rfl rfl o5 dX6_areClashing_40 ?_
      refine lv_iconst (v := 0) hx hb dX6_areClashing_41 (by decide) ?_
      obtain ⟨o6, hg⟩ := hg
      refine fRV (As := [.int (S.2.2.2.2.2.2.1 (x1).toNatClampNeg), .int 0]) (rest := []) (st' := [.int (fX6_of S (S.2.2.2.2.2.2.1 (x1).toNatClampNeg) 0)]) ⟨hx, hb, hml, hown, hts⟩ (kX6_of l D cI cC cT h a1 a2 a3 a4 a5 a6 a7 a8 S (S.2.2.2.2.2.2.1 (x1).toNatClampNeg) 0 o6) (cwV 2 hts gX6_areClashing_X6_of rfl rfl rfl (by decide +kernel) ⟨Nat.le_of_ble_eq_true rfl, Nat.le_of_ble_eq_true rfl⟩) hP hK [0, 1, 2, 3, 4, 5, 6, 7, 8] rfl 0 (ci := 7) rfl rfl rfl rfl hl.1 rfl rfl (Nat.le_of_ble_eq_true rfl) ⟨Nat.zero_le _, Nat.zero_le _⟩ dX6_areClashing_42 ?_
      refine lv_aload_n hx hb dX6_areClashing_45 rfl (lv_at hl 1 rfl) ?_
      refine lv_aload_n hx hb dX6_areClashing_46 rfl (lv_at hl 1 rfl) ?_
      refine va_get (D := D) (ci := 7) (v := .ref a7) (C := RX6) (T := TX6) (N := 20) hx hb hts q1 hown hK hP 0 rfl rfl 16 (by decide) q0 (fun _ h9 => h9) rfl dX6_areClashing_47 ?_
      refine lv_iload_n hx hb dX6_areClashing_50 rfl (lv_at hl 3 rfl) ?_
      obtain ⟨o7, hg⟩ := hg
      refine va_iald hx hb hK hP 7 0 rfl rfl o7 dX6_areClashing_51 ?_
      refine lv_iconst (v := 0) hx hb dX6_areClashing_52 (by decide) ?_
      obtain ⟨o8, hg⟩ := hg
      refine fRV (As := [.int (S.2.2.2.2.2.2.1 (x2).toNatClampNeg), .int 0]) (rest := [.int (fX6_of S (S.2.2.2.2.2.2.1 (x1).toNatClampNeg) 0)]) (st' := [.int (fX6_of S (S.2.2.2.2.2.2.1 (x2).toNatClampNeg) 0), .int (fX6_of S (S.2.2.2.2.2.2.1 (x1).toNatClampNeg) 0)]) ⟨hx, hb, hml, hown, hts⟩ (kX6_of l D cI cC cT h a1 a2 a3 a4 a5 a6 a7 a8 S (S.2.2.2.2.2.2.1 (x2).toNatClampNeg) 0 o8) (cwV 2 hts gX6_areClashing_X6_of rfl rfl rfl (by decide +kernel) ⟨Nat.le_of_ble_eq_true rfl, Nat.le_of_ble_eq_true rfl⟩) hP hK [0, 1, 2, 3, 4, 5, 6, 7, 8] rfl 0 (ci := 7) rfl rfl rfl rfl hl.1 rfl rfl (Nat.le_of_ble_eq_true rfl) ⟨Nat.zero_le _, Nat.zero_le _⟩ dX6_areClashing_53 ?_
      refine lv_isub hx hb dX6_areClashing_56 ?_
      refine lv_istore (lv' := [(4, .int ((fX6_of S (S.2.2.2.2.2.2.1 (x1).toNatClampNeg) 0) - (fX6_of S (S.2.2.2.2.2.2.1 (x2).toNatClampNeg) 0))), (3, .int ((fX6_by S x1 0) - (fX6_by S x2 0))), (0, .ref h), (1, .int x1), (2, .int x2)]) hx hb dX6_areClashing_57 hl (by decide) rfl (fun ls hl => ?_)
      refine lv_iload_n hx hb dX6_areClashing_59 rfl (lv_at hl 1 rfl) ?_
      refine lv_if_le (tgt := 68) hx hb dX6_areClashing_60 (by decide) (fun c_60_3 => ?_) (fun c_60_3 => ?_)
      · refine lv_iload_n hx hb dX6_areClashing_68 rfl (lv_at hl 1 rfl) ?_
        refine lv_if_ge (tgt := 81) hx hb dX6_areClashing_69 (by decide) (fun c_69_4 => ?_) (fun c_69_4 => ?_)
        · refine lv_iconst (v := 0) hx hb dX6_areClashing_81 (by decide) ?_
          exact rRi hx hb hr hlk hQ (by rw [fX6_areClashing, if_neg c_6_1, if_pos c_15_2, if_pos c_60_3, if_pos c_69_4]) rfl dX6_areClashing_82
        · refine lv_iload hx hb dX6_areClashing_72 (lv_at hl 0 rfl) ?_
          refine lv_if_le (tgt := 81) hx hb dX6_areClashing_74 (by decide) (fun c_74_5 => ?_) (fun c_74_5 => ?_)
          · refine lv_iconst (v := 0) hx hb dX6_areClashing_81 (by decide) ?_
            exact rRi hx hb hr hlk hQ (by rw [fX6_areClashing, if_neg c_6_1, if_pos c_15_2, if_pos c_60_3, if_neg c_69_4, if_pos c_74_5]) rfl dX6_areClashing_82
          · refine lv_iconst (v := 1) hx hb dX6_areClashing_77 (by decide) ?_
            refine lv_goto (tgt := 82) hx hb dX6_areClashing_78 (by decide) ?_
            exact rRi hx hb hr hlk hQ (by rw [fX6_areClashing, if_neg c_6_1, if_pos c_15_2, if_pos c_60_3, if_neg c_69_4, if_neg c_74_5]) rfl dX6_areClashing_82
      · refine lv_iload hx hb dX6_areClashing_63 (lv_at hl 0 rfl) ?_
        refine lv_if_lt (tgt := 77) hx hb dX6_areClashing_65 (by decide) (fun c_65_6 => ?_) (fun c_65_6 => ?_)
        · refine lv_iconst (v := 1) hx hb dX6_areClashing_77 (by decide) ?_
          refine lv_goto (tgt := 82) hx hb dX6_areClashing_78 (by decide) ?_
          exact rRi hx hb hr hlk hQ (by rw [fX6_areClashing, if_neg c_6_1, if_pos c_15_2, if_neg c_60_3, if_pos c_65_6]) rfl dX6_areClashing_82
        · refine lv_iload_n hx hb dX6_areClashing_68 rfl (lv_at hl 1 rfl) ?_
          refine lv_if_ge (tgt := 81) hx hb dX6_areClashing_69 (by decide) (fun c_69_7 => ?_) (fun c_69_7 => ?_)
          · refine lv_iconst (v := 0) hx hb dX6_areClashing_81 (by decide) ?_
            exact rRi hx hb hr hlk hQ (by rw [fX6_areClashing, if_neg c_6_1, if_pos c_15_2, if_neg c_60_3, if_neg c_65_6, if_pos c_69_7]) rfl dX6_areClashing_82
          · refine lv_iload hx hb dX6_areClashing_72 (lv_at hl 0 rfl) ?_
            refine lv_if_le (tgt := 81) hx hb dX6_areClashing_74 (by decide) (fun c_74_8 => ?_) (fun c_74_8 => ?_)
            · refine lv_iconst (v := 0) hx hb dX6_areClashing_81 (by decide) ?_
              exact rRi hx hb hr hlk hQ (by rw [fX6_areClashing, if_neg c_6_1, if_pos c_15_2, if_neg c_60_3, if_neg c_65_6, if_neg c_69_7, if_pos c_74_8]) rfl dX6_areClashing_82
            · refine lv_iconst (v := 1) hx hb dX6_areClashing_77 (by decide) ?_
              refine lv_goto (tgt := 82) hx hb dX6_areClashing_78 (by decide) ?_
              exact rRi hx hb hr hlk hQ (by rw [fX6_areClashing, if_neg c_6_1, if_pos c_15_2, if_neg c_60_3, if_neg c_65_6, if_neg c_69_7, if_neg c_74_8]) rfl dX6_areClashing_82
    · rw [if_neg c_15_2] at hg
      refine lv_iconst (v := 0) hx hb dX6_areClashing_18 (by decide) ?_
      exact rRi hx hb hr hlk hQ (by rw [fX6_areClashing, if_neg c_6_1, if_neg c_15_2]) rfl dX6_areClashing_19
theorem zX6_areClashing (S : SV) (x1 : Int32) (x2 : Int32) : (fX6_areClashing S x1 x2) = 0 ∨ (fX6_areClashing S x1 x2) = 1 := by
  unfold fX6_areClashing
  repeat' split
  all_goals first | exact Or.inl rfl | exact Or.inr rfl
def lX6_clashesOf_4 (S : SV) (x1 : Int32) (v : (Int32 × Int32)) : (Int32 × Int32) ⊕ ((Int32 × Int32)) := (if (S.1 (1 : Int32).toNatClampNeg) ≤ v.2 then (.inr (v.1, v.2)) else (if (fX6_areClashing S x1 v.2) = 0 then (.inl ((v.1 + 0), (v.2 + 1))) else (.inl ((v.1 + 1), (v.2 + 1)))))
def glX6_clashesOf_4 (S : SV) (x1 : Int32) (v : (Int32 × Int32)) : Prop := ((vp_in 1 114) ∧ (if (S.1 (1 : Int32).toNatClampNeg) ≤ v.2 then True else ((gX6_areClashing S x1 v.2) ∧ True)))
def fX6_clashesOf (S : SV) (x1 : Int32) : Int32 := (itv (0, 0) (lX6_clashesOf_4 S x1) ((fun v : (Int32 × Int32) => ((S.1 (1 : Int32).toNatClampNeg).toInt - v.2.toInt).toNat) (0, 0) + 1) (0, 0)).1
def gX6_clashesOf (S : SV) (x1 : Int32) : Prop := ((∃ r9 : (Int32 × Int32), lrun (lX6_clashesOf_4 S x1) (glX6_clashesOf_4 S x1) ((fun v : (Int32 × Int32) => ((S.1 (1 : Int32).toNatClampNeg).toInt - v.2.toInt).toNat) (0, 0) + 1) (0, 0) r9) ∧ True)
abbrev rmX6_clashesOf : Room := { frames := 2, cells := 0, slots := 0, locals := 46 }
set_option maxHeartbeats 4000000 in
set_option maxRecDepth 100000 in
theorem kX6_clashesOf (l : Launch) (D : va_G) (cI cC cT : ClassId) (h a1 a2 a3 a4 a5 a6 a7 a8 : Nat) (S : SV) (x1 : Int32) (hg : gX6_clashesOf S x1) : mR l D (TY cI cC cT) yX6_clashesOf wsX6_clashesOf rmX6_clashesOf [.ref h, .int x1] (w6 cI cC h a1 a2 a3 a4 a5 a6 a7 a8 S) (some (.int (fX6_clashesOf S x1))) := by
  refine mR.ofW (cc := cX6_clashesOf) (maxL := 4) (ret := (some .int)) (by decide) rfl (Nat.le_of_ble_eq_true rfl) ?_
  intro p e s m args below meth c Q ls hx hb hml hr hlk hts hown hP hK hl hQ
  have hown : s.vm.findClass RX6 = some m.cls := hown
  have hP : va_P D vwCl (w6 cI cC h a1 a2 a3 a4 a5 a6 a7 a8 S) s.heap := hP
  have hl : lv_has ls 4 [(0, .ref h), (1, .int x1)] := hl
  have q0 := hts (Cond.fieldLink RX6 7 "TavernStoolsModel" "g" "[I") (by decide +kernel)
  have q1 : ∀ w ∈ u_ws RX6 TX6 20, w ∈ wsX6_clashesOf := by decide +kernel
  unfold gX6_clashesOf at hg
  refine lv_iconst (v := 0) hx hb dX6_clashesOf_0 (by decide) ?_
  refine lv_istore_n (lv' := [(2, .int 0), (0, .ref h), (1, .int x1)]) hx hb dX6_clashesOf_1 rfl hl (by decide) rfl (fun ls hl => ?_)
  refine lv_iconst (v := 0) hx hb dX6_clashesOf_2 (by decide) ?_
  refine lv_istore_n (lv' := [(3, .int 0), (2, .int 0), (0, .ref h), (1, .int x1)]) hx hb dX6_clashesOf_3 rfl hl (by decide) rfl (fun ls hl => ?_)
  obtain ⟨n1, en1⟩ : ∃ z9, z9 = (itv (0, 0) (lX6_clashesOf_4 S x1) ((fun v : (Int32 × Int32) => ((S.1 (1 : Int32).toNatClampNeg).toInt - v.2.toInt).toNat) (0, 0) + 1) (0, 0)) := ⟨_, rfl⟩
  try rw [← en1] at hg
  obtain ⟨o3, hg⟩ := hg
  have L9 := lrun_val (d := (0, 0)) o3
  rw [← en1] at L9
  refine loopWs (lX6_clashesOf_4 S x1) (glX6_clashesOf_4 S x1) (fun v : (Int32 × Int32) => ∀ ls, lv_has ls 4 [(0, .ref h), (1, .int x1), (2, .int v.1), (3, .int v.2)] → W p l e rmX6_clashesOf s m args below meth c s.heap [] 0 0 Q (F0 m 4 ls [])) (fun r9 : (Int32 × Int32) => ∀ ls, lv_has ls 4 [(0, .ref h), (1, .int x1), (2, .int r9.1), (3, .int r9.2)] → W p l e rmX6_clashesOf s m args below meth c s.heap [] 0 0 Q (F0 m 37 ls [])) ?_ _ (0, 0) n1 L9 ?_ ls (lv_sub hl [2, 3, 1, 0] rfl)
  · intro v hg kb kx ls hl
    unfold glX6_clashesOf_4 at hg
    refine lv_iload_n hx hb dX6_clashesOf_4 rfl (lv_at hl 3 rfl) ?_
    refine lv_aload_n hx hb dX6_clashesOf_5 rfl (lv_at hl 0 rfl) ?_
    refine va_get (D := D) (ci := 7) (v := .ref a1) (C := RX6) (T := TX6) (N := 20) hx hb hts q1 hown hK hP 0 rfl rfl 0 (by decide) q0 (fun _ h9 => h9) rfl dX6_clashesOf_6 ?_
    refine lv_iconst (v := 1) hx hb dX6_clashesOf_9 (by decide) ?_
    obtain ⟨o1, hg⟩ := hg
    refine va_iald hx hb hK hP 1 0 rfl rfl o1 dX6_clashesOf_10 ?_
    refine lv_icmp_ge (tgt := 37) hx hb dX6_clashesOf_11 (by decide) (fun c_11_1 => ?_) (fun c_11_1 => ?_)
    · rw [if_pos c_11_1] at hg
      exact kx (v.1, v.2) (by rw [lX6_clashesOf_4, if_pos c_11_1]) ls (lv_sub hl [0, 1, 2, 3] rfl)
    · rw [if_neg c_11_1] at hg
      refine lv_iload_n hx hb dX6_clashesOf_14 rfl (lv_at hl 2 rfl) ?_
      refine lv_aload_n hx hb dX6_clashesOf_15 rfl (lv_at hl 0 rfl) ?_
      refine lv_iload_n hx hb dX6_clashesOf_16 rfl (lv_at hl 1 rfl) ?_
      refine lv_iload_n hx hb dX6_clashesOf_17 rfl (lv_at hl 3 rfl) ?_
      obtain ⟨o2, hg⟩ := hg
      refine fRV (As := [.int x1, .int v.2]) (rest := [.int v.1]) (st' := [.int (fX6_areClashing S x1 v.2), .int v.1]) ⟨hx, hb, hml, hown, hts⟩ (kX6_areClashing l D cI cC cT h a1 a2 a3 a4 a5 a6 a7 a8 S x1 v.2 o2) (cwV 2 hts gX6_clashesOf_X6_areClashing rfl rfl rfl (by decide +kernel) ⟨Nat.le_of_ble_eq_true rfl, Nat.le_of_ble_eq_true rfl⟩) hP hK [0, 1, 2, 3, 4, 5, 6, 7, 8] rfl 0 (ci := 7) rfl rfl rfl rfl hl.1 rfl rfl (Nat.le_of_ble_eq_true rfl) ⟨Nat.zero_le _, Nat.zero_le _⟩ dX6_clashesOf_18 ?_
      refine lv_if_eq (tgt := 28) hx hb dX6_clashesOf_21 (by decide) (fun c_21_2 => ?_) (fun c_21_2 => ?_)
      · refine lv_iconst (v := 0) hx hb dX6_clashesOf_28 (by decide) ?_
        refine lv_iadd hx hb dX6_clashesOf_29 ?_
        refine lv_istore_n (lv' := [(2, .int (v.1 + 0)), (0, .ref h), (1, .int x1), (3, .int v.2)]) hx hb dX6_clashesOf_30 rfl hl (by decide) rfl (fun ls hl => ?_)
        refine lv_iinc (v := (v.2 + 1)) (lv' := [(3, .int (v.2 + 1)), (2, .int (v.1 + 0)), (0, .ref h), (1, .int x1)]) hx hb dX6_clashesOf_31 hl (k := 3) rfl rfl (by decide) rfl (fun ls hl => ?_)
        refine lv_goto (tgt := 4) hx hb dX6_clashesOf_34 (by decide) ?_
        exact kb ((v.1 + 0), (v.2 + 1)) (by rw [lX6_clashesOf_4, if_neg c_11_1, if_pos c_21_2]) ls (lv_sub hl [2, 3, 1, 0] rfl)
      · refine lv_iconst (v := 1) hx hb dX6_clashesOf_24 (by decide) ?_
        refine lv_goto (tgt := 29) hx hb dX6_clashesOf_25 (by decide) ?_
        refine lv_iadd hx hb dX6_clashesOf_29 ?_
        refine lv_istore_n (lv' := [(2, .int (v.1 + 1)), (0, .ref h), (1, .int x1), (3, .int v.2)]) hx hb dX6_clashesOf_30 rfl hl (by decide) rfl (fun ls hl => ?_)
        refine lv_iinc (v := (v.2 + 1)) (lv' := [(3, .int (v.2 + 1)), (2, .int (v.1 + 1)), (0, .ref h), (1, .int x1)]) hx hb dX6_clashesOf_31 hl (k := 3) rfl rfl (by decide) rfl (fun ls hl => ?_)
        refine lv_goto (tgt := 4) hx hb dX6_clashesOf_34 (by decide) ?_
        exact kb ((v.1 + 1), (v.2 + 1)) (by rw [lX6_clashesOf_4, if_neg c_11_1, if_neg c_21_2]) ls (lv_sub hl [2, 3, 1, 0] rfl)
  · intro ls hl
    refine lv_iload_n hx hb dX6_clashesOf_37 rfl (lv_at hl 2 rfl) ?_
    exact rRi hx hb hr hlk hQ (by rw [fX6_clashesOf, ← en1]) rfl dX6_clashesOf_38
def lX6_clashesTried_4 (S : SV) (v : (Int32 × Int32)) : (Int32 × Int32) ⊕ ((Int32 × Int32)) := (if (S.1 (1 : Int32).toNatClampNeg) ≤ v.2 then (.inr (v.1, v.2)) else (.inl ((v.1 + (fX6_clashesOf S v.2)), (v.2 + 1))))
def glX6_clashesTried_4 (S : SV) (v : (Int32 × Int32)) : Prop := ((vp_in 1 114) ∧ (if (S.1 (1 : Int32).toNatClampNeg) ≤ v.2 then True else ((gX6_clashesOf S v.2) ∧ True)))
def fX6_clashesTried (S : SV)  : Int32 := ((itv (0, 0) (lX6_clashesTried_4 S) ((fun v : (Int32 × Int32) => ((S.1 (1 : Int32).toNatClampNeg).toInt - v.2.toInt).toNat) (0, 0) + 1) (0, 0)).1 / 2)
def gX6_clashesTried (S : SV)  : Prop := ((∃ r9 : (Int32 × Int32), lrun (lX6_clashesTried_4 S) (glX6_clashesTried_4 S) ((fun v : (Int32 × Int32) => ((S.1 (1 : Int32).toNatClampNeg).toInt - v.2.toInt).toNat) (0, 0) + 1) (0, 0) r9) ∧ True)
abbrev rmX6_clashesTried : Room := { frames := 3, cells := 0, slots := 0, locals := 69 }
set_option maxHeartbeats 4000000 in
set_option maxRecDepth 100000 in
theorem kX6_clashesTried (l : Launch) (D : va_G) (cI cC cT : ClassId) (h a1 a2 a3 a4 a5 a6 a7 a8 : Nat) (S : SV)  (hg : gX6_clashesTried S) : mR l D (TY cI cC cT) yX6_clashesTried wsX6_clashesTried rmX6_clashesTried [.ref h] (w6 cI cC h a1 a2 a3 a4 a5 a6 a7 a8 S) (some (.int (fX6_clashesTried S))) := by
  refine mR.ofW (cc := cX6_clashesTried) (maxL := 3) (ret := (some .int)) (by decide) rfl (Nat.le_of_ble_eq_true rfl) ?_
  intro p e s m args below meth c Q ls hx hb hml hr hlk hts hown hP hK hl hQ
  have hown : s.vm.findClass RX6 = some m.cls := hown
  have hP : va_P D vwCl (w6 cI cC h a1 a2 a3 a4 a5 a6 a7 a8 S) s.heap := hP
  have hl : lv_has ls 3 [(0, .ref h)] := hl
  have q0 := hts (Cond.fieldLink RX6 7 "TavernStoolsModel" "g" "[I") (by decide +kernel)
  have q1 : ∀ w ∈ u_ws RX6 TX6 20, w ∈ wsX6_clashesTried := by decide +kernel
  unfold gX6_clashesTried at hg
  refine lv_iconst (v := 0) hx hb dX6_clashesTried_0 (by decide) ?_
  refine lv_istore_n (lv' := [(1, .int 0), (0, .ref h)]) hx hb dX6_clashesTried_1 rfl hl (by decide) rfl (fun ls hl => ?_)
  refine lv_iconst (v := 0) hx hb dX6_clashesTried_2 (by decide) ?_
  refine lv_istore_n (lv' := [(2, .int 0), (1, .int 0), (0, .ref h)]) hx hb dX6_clashesTried_3 rfl hl (by decide) rfl (fun ls hl => ?_)
  obtain ⟨n1, en1⟩ : ∃ z9, z9 = (itv (0, 0) (lX6_clashesTried_4 S) ((fun v : (Int32 × Int32) => ((S.1 (1 : Int32).toNatClampNeg).toInt - v.2.toInt).toNat) (0, 0) + 1) (0, 0)) := ⟨_, rfl⟩
  try rw [← en1] at hg
  obtain ⟨o3, hg⟩ := hg
  have L9 := lrun_val (d := (0, 0)) o3
  rw [← en1] at L9
  refine loopWs (lX6_clashesTried_4 S) (glX6_clashesTried_4 S) (fun v : (Int32 × Int32) => ∀ ls, lv_has ls 3 [(0, .ref h), (1, .int v.1), (2, .int v.2)] → W p l e rmX6_clashesTried s m args below meth c s.heap [] 0 0 Q (F0 m 4 ls [])) (fun r9 : (Int32 × Int32) => ∀ ls, lv_has ls 3 [(0, .ref h), (1, .int r9.1), (2, .int r9.2)] → W p l e rmX6_clashesTried s m args below meth c s.heap [] 0 0 Q (F0 m 28 ls [])) ?_ _ (0, 0) n1 L9 ?_ ls (lv_sub hl [2, 1, 0] rfl)
  · intro v hg kb kx ls hl
    unfold glX6_clashesTried_4 at hg
    refine lv_iload_n hx hb dX6_clashesTried_4 rfl (lv_at hl 2 rfl) ?_
    refine lv_aload_n hx hb dX6_clashesTried_5 rfl (lv_at hl 0 rfl) ?_
    refine va_get (D := D) (ci := 7) (v := .ref a1) (C := RX6) (T := TX6) (N := 20) hx hb hts q1 hown hK hP 0 rfl rfl 0 (by decide) q0 (fun _ h9 => h9) rfl dX6_clashesTried_6 ?_
    refine lv_iconst (v := 1) hx hb dX6_clashesTried_9 (by decide) ?_
    obtain ⟨o1, hg⟩ := hg
    refine va_iald hx hb hK hP 1 0 rfl rfl o1 dX6_clashesTried_10 ?_
    refine lv_icmp_ge (tgt := 28) hx hb dX6_clashesTried_11 (by decide) (fun c_11_1 => ?_) (fun c_11_1 => ?_)
    · rw [if_pos c_11_1] at hg
      exact kx (v.1, v.2) (by rw [lX6_clashesTried_4, if_pos c_11_1]) ls (lv_sub hl [0, 1, 2] rfl)
    · rw [if_neg c_11_1] at hg
      refine lv_iload_n hx hb dX6_clashesTried_14 rfl (lv_at hl 1 rfl) ?_
      refine lv_aload_n hx hb dX6_clashesTried_15 rfl (lv_at hl 0 rfl) ?_
      refine lv_iload_n hx hb dX6_clashesTried_16 rfl (lv_at hl 2 rfl) ?_
      obtain ⟨o2, hg⟩ := hg
      refine fRV (As := [.int v.2]) (rest := [.int v.1]) (st' := [.int (fX6_clashesOf S v.2), .int v.1]) ⟨hx, hb, hml, hown, hts⟩ (kX6_clashesOf l D cI cC cT h a1 a2 a3 a4 a5 a6 a7 a8 S v.2 o2) (cwV 1 hts gX6_clashesTried_X6_clashesOf rfl rfl rfl (by decide +kernel) ⟨Nat.le_of_ble_eq_true rfl, Nat.le_of_ble_eq_true rfl⟩) hP hK [0, 1, 2, 3, 4, 5, 6, 7, 8] rfl 0 (ci := 7) rfl rfl rfl rfl hl.1 rfl rfl (Nat.le_of_ble_eq_true rfl) ⟨Nat.zero_le _, Nat.zero_le _⟩ dX6_clashesTried_17 ?_
      refine lv_iadd hx hb dX6_clashesTried_20 ?_
      refine lv_istore_n (lv' := [(1, .int (v.1 + (fX6_clashesOf S v.2))), (0, .ref h), (2, .int v.2)]) hx hb dX6_clashesTried_21 rfl hl (by decide) rfl (fun ls hl => ?_)
      refine lv_iinc (v := (v.2 + 1)) (lv' := [(2, .int (v.2 + 1)), (1, .int (v.1 + (fX6_clashesOf S v.2))), (0, .ref h)]) hx hb dX6_clashesTried_22 hl (k := 2) rfl rfl (by decide) rfl (fun ls hl => ?_)
      refine lv_goto (tgt := 4) hx hb dX6_clashesTried_25 (by decide) ?_
      exact kb ((v.1 + (fX6_clashesOf S v.2)), (v.2 + 1)) (by rw [lX6_clashesTried_4, if_neg c_11_1]) ls (lv_sub hl [2, 1, 0] rfl)
  · intro ls hl
    refine lv_iload_n hx hb dX6_clashesTried_28 rfl (lv_at hl 1 rfl) ?_
    refine lv_iconst (v := 2) hx hb dX6_clashesTried_29 (by decide) ?_
    refine lv_idiv hx hb dX6_clashesTried_30 (by decide) ?_
    exact rRi hx hb hr hlk hQ (by rw [fX6_clashesTried, ← en1]) rfl dX6_clashesTried_31
def fX6_sit (S : SV) (x1 : Int32) (x2 : Int32) : (Int32 × SV) := (if (fX6_isSitter S x1) = 0 then (0, (fX6_fails S 1).2) else (if (fX6_isStool S x2) = 0 then (0, (fX6_fails S 1).2) else (if (fX6_by (fX6_fails S 0).2 x1 2) = x2 then ((fX6_refuses (fX6_fails S 0).2 2 4 x1).1, (fX6_refuses (fX6_fails S 0).2 2 4 x1).2) else (if (fX6_of (fX6_fails S 0).2 x2 5) < 0 then (if (fX6_maySit (fX6_fails S 0).2 x1 x2) = 0 then ((fX6_refuses (fX6_fails S 0).2 2 3 x2).1, (fX6_refuses (fX6_fails S 0).2 2 3 x2).2) else ((fX6_clashesOf (fX6_takesSeats (sS6 (upd (fX6_laysSeats (fX6_keeps_g (fX6_fails S 0).2)).2.2.2.2.2.2.1 (x1).toNatClampNeg x2) (fX6_laysSeats (fX6_keeps_g (fX6_fails S 0).2)))) x1), (fX6_takesSeats (sS6 (upd (fX6_laysSeats (fX6_keeps_g (fX6_fails S 0).2)).2.2.2.2.2.2.1 (x1).toNatClampNeg x2) (fX6_laysSeats (fX6_keeps_g (fX6_fails S 0).2)))))) else ((fX6_refuses (fX6_fails S 0).2 2 2 (fX6_of (fX6_fails S 0).2 x2 5)).1, (fX6_refuses (fX6_fails S 0).2 2 2 (fX6_of (fX6_fails S 0).2 x2 5)).2)))))
def gX6_sit (S : SV) (x1 : Int32) (x2 : Int32) : Prop := ((gX6_isSitter S x1) ∧ (if (fX6_isSitter S x1) = 0 then True else ((gX6_isStool S x2) ∧ (if (fX6_isStool S x2) = 0 then True else ((gX6_by (fX6_fails S 0).2 x1 2) ∧ (if (fX6_by (fX6_fails S 0).2 x1 2) = x2 then True else ((gX6_of (fX6_fails S 0).2 x2 5) ∧ (if (fX6_of (fX6_fails S 0).2 x2 5) < 0 then ((gX6_maySit (fX6_fails S 0).2 x1 x2) ∧ (if (fX6_maySit (fX6_fails S 0).2 x1 x2) = 0 then True else ((gX6_keeps_g (fX6_fails S 0).2) ∧ (gX6_laysSeats (fX6_keeps_g (fX6_fails S 0).2)) ∧ (vp_in x1 12) ∧ (gX6_takesSeats (sS6 (upd (fX6_laysSeats (fX6_keeps_g (fX6_fails S 0).2)).2.2.2.2.2.2.1 (x1).toNatClampNeg x2) (fX6_laysSeats (fX6_keeps_g (fX6_fails S 0).2)))) ∧ (gX6_clashesOf (fX6_takesSeats (sS6 (upd (fX6_laysSeats (fX6_keeps_g (fX6_fails S 0).2)).2.2.2.2.2.2.1 (x1).toNatClampNeg x2) (fX6_laysSeats (fX6_keeps_g (fX6_fails S 0).2)))) x1) ∧ True))) else ((gX6_of (fX6_fails S 0).2 x2 5) ∧ True)))))))))
abbrev rmX6_sit : Room := { frames := 3, cells := 0, slots := 0, locals := 69 }
set_option maxHeartbeats 4000000 in
set_option maxRecDepth 100000 in
theorem kX6_sit (l : Launch) (D : va_G) (cI cC cT : ClassId) (h a1 a2 a3 a4 a5 a6 a7 a8 : Nat) (S : SV) (x1 : Int32) (x2 : Int32) (hg : gX6_sit S x1 x2) : mU l D (TY cI cC cT) yX6_sit wsX6_sit rmX6_sit [.ref h, .int x1, .int x2] (w6 cI cC h a1 a2 a3 a4 a5 a6 a7 a8 S) (some (.int (fX6_sit S x1 x2).1)) (w6 cI cC h a1 a2 a3 a4 a5 a6 a7 a8 (fX6_sit S x1 x2).2) := by
  refine mU.ofW (cc := cX6_sit) (maxL := 3) (ret := (some .int)) (by decide) rfl (Nat.le_of_ble_eq_true rfl) ?_
  intro p e s m args below meth c Q ls A hx hb hml hr hlk hts hown hP hK hD hS hl hQ
  have hown : s.vm.findClass RX6 = some m.cls := hown
  have hP : va_P D vwCl (w6 cI cC h a1 a2 a3 a4 a5 a6 a7 a8 S) s.heap := hP
  have hD : va_D A (w6 cI cC h a1 a2 a3 a4 a5 a6 a7 a8 S) := hD
  have hl : lv_has ls 3 [(0, .ref h), (1, .int x1), (2, .int x2)] := hl
  have q0 := hts (Cond.fieldLink RX6 7 "TavernStoolsModel" "g" "[I") (by decide +kernel)
  have q1 : ∀ w ∈ u_ws RX6 TX6 20, w ∈ wsX6_sit := by decide +kernel
  have q2 := hts (Cond.fieldLink RX6 33 "TavernStoolsModel" "seats" "[I") (by decide +kernel)
  unfold gX6_sit at hg
  generalize hHe : s.heap = H at hP ⊢
  have hS : va_S A s.heap H [] := hHe ▸ hS
  generalize hLe : ([] : List Loc) = locs at hS ⊢
  refine lv_aload_n hx hb dX6_sit_0 rfl (lv_at hl 0 rfl) ?_
  refine lv_aload_n hx hb dX6_sit_1 rfl (lv_at hl 0 rfl) ?_
  refine lv_iload_n hx hb dX6_sit_2 rfl (lv_at hl 1 rfl) ?_
  obtain ⟨o1, hg⟩ := hg
  refine fRV (As := [.int x1]) (rest := [.ref h]) (st' := [.int (fX6_isSitter S x1), .ref h]) ⟨hx, hb, hml, hown, hts⟩ (kX6_isSitter l D cI cC cT h a1 a2 a3 a4 a5 a6 a7 a8 S x1 o1) (cwV 1 hts gX6_sit_X6_isSitter rfl rfl rfl (by decide +kernel) ⟨Nat.le_of_ble_eq_true rfl, Nat.le_of_ble_eq_true rfl⟩) hP hK [0, 1, 2, 3, 4, 5, 6, 7, 8] rfl 0 (ci := 7) rfl rfl rfl rfl hl.1 rfl rfl (Nat.le_of_ble_eq_true rfl) ⟨Nat.zero_le _, Nat.zero_le _⟩ dX6_sit_3 ?_
  refine lv_if_eq (tgt := 21) hx hb dX6_sit_6 (by decide) (fun c_6_1 => ?_) (fun c_6_1 => ?_)
  · rw [if_pos c_6_1] at hg
    refine lv_iconst (v := 1) hx hb dX6_sit_21 (by decide) ?_
    obtain ⟨n1, en1⟩ : ∃ z9, z9 = (fX6_fails S 1) := ⟨_, rfl⟩
    try rw [← en1] at hg
    have k9 := (kX6_fails l D cI cC cT h a1 a2 a3 a4 a5 a6 a7 a8 S 1)
    rw [← en1] at k9
    refine fUV (As := [.int 1]) (rest := []) (st' := [.int n1.1]) ⟨hx, hb, hml, hown, hts⟩ k9 (cwV 1 hts gX6_sit_X6_fails rfl rfl rfl (by decide +kernel) ⟨Nat.le_of_ble_eq_true rfl, Nat.le_of_ble_eq_true rfl⟩) hP hK hD hS [0, 1, 2, 3, 4, 5, 6, 7, 8] rfl rfl (by decide) rfl (w6 cI cC h a1 a2 a3 a4 a5 a6 a7 a8 n1.2) rfl rfl 0 (ci := 7) rfl rfl rfl rfl hl.1 rfl rfl (Nat.le_of_ble_eq_true rfl) ⟨Nat.zero_le _, Nat.zero_le _⟩ dX6_sit_22 (fun H locs hP hD hS => ?_)
    refine lv_if_eq (tgt := 30) hx hb dX6_sit_25 (by decide) (fun c_25 => absurd c_25 (by rw [en1, fails_1]; decide)) (fun c_25 => ?_)
    refine lv_iconst (v := 0) hx hb dX6_sit_28 (by decide) ?_
    have e9 : fX6_sit S x1 x2 = (0, n1.2) := by rw [fX6_sit, if_pos c_6_1, ← en1]
    exact rUi hx hb hr hlk hQ hP hS (by rw [e9]) (congrArg (fun z9 : (Int32 × SV) => (w6 cI cC h a1 a2 a3 a4 a5 a6 a7 a8 z9.2 : va_W)) e9).symm rfl dX6_sit_29
  · rw [if_neg c_6_1] at hg
    refine lv_aload_n hx hb dX6_sit_9 rfl (lv_at hl 0 rfl) ?_
    refine lv_iload_n hx hb dX6_sit_10 rfl (lv_at hl 2 rfl) ?_
    obtain ⟨o2, hg⟩ := hg
    refine fRV (As := [.int x2]) (rest := [.ref h]) (st' := [.int (fX6_isStool S x2), .ref h]) ⟨hx, hb, hml, hown, hts⟩ (kX6_isStool l D cI cC cT h a1 a2 a3 a4 a5 a6 a7 a8 S x2 o2) (cwV 1 hts gX6_sit_X6_isStool rfl rfl rfl (by decide +kernel) ⟨Nat.le_of_ble_eq_true rfl, Nat.le_of_ble_eq_true rfl⟩) hP hK [0, 1, 2, 3, 4, 5, 6, 7, 8] rfl 0 (ci := 7) rfl rfl rfl rfl hl.1 rfl rfl (Nat.le_of_ble_eq_true rfl) ⟨Nat.zero_le _, Nat.zero_le _⟩ dX6_sit_11 ?_
    refine lv_if_eq (tgt := 21) hx hb dX6_sit_14 (by decide) (fun c_14_2 => ?_) (fun c_14_2 => ?_)
    · rw [if_pos c_14_2] at hg
      refine lv_iconst (v := 1) hx hb dX6_sit_21 (by decide) ?_
      obtain ⟨n2, en2⟩ : ∃ z9, z9 = (fX6_fails S 1) := ⟨_, rfl⟩
      try rw [← en2] at hg
      have k9 := (kX6_fails l D cI cC cT h a1 a2 a3 a4 a5 a6 a7 a8 S 1)
      rw [← en2] at k9
      refine fUV (As := [.int 1]) (rest := []) (st' := [.int n2.1]) ⟨hx, hb, hml, hown, hts⟩ k9 (cwV 1 hts gX6_sit_X6_fails rfl rfl rfl (by decide +kernel) ⟨Nat.le_of_ble_eq_true rfl, Nat.le_of_ble_eq_true rfl⟩) hP hK hD hS [0, 1, 2, 3, 4, 5, 6, 7, 8] rfl rfl (by decide) rfl (w6 cI cC h a1 a2 a3 a4 a5 a6 a7 a8 n2.2) rfl rfl 0 (ci := 7) rfl rfl rfl rfl hl.1 rfl rfl (Nat.le_of_ble_eq_true rfl) ⟨Nat.zero_le _, Nat.zero_le _⟩ dX6_sit_22 (fun H locs hP hD hS => ?_)
      refine lv_if_eq (tgt := 30) hx hb dX6_sit_25 (by decide) (fun c_25 => absurd c_25 (by rw [en2, fails_1]; decide)) (fun c_25 => ?_)
      refine lv_iconst (v := 0) hx hb dX6_sit_28 (by decide) ?_
      have e9 : fX6_sit S x1 x2 = (0, n2.2) := by rw [fX6_sit, if_neg c_6_1, if_pos c_14_2, ← en2]
      exact rUi hx hb hr hlk hQ hP hS (by rw [e9]) (congrArg (fun z9 : (Int32 × SV) => (w6 cI cC h a1 a2 a3 a4 a5 a6 a7 a8 z9.2 : va_W)) e9).symm rfl dX6_sit_29
    · rw [if_neg c_14_2] at hg
      refine lv_iconst (v := 0) hx hb dX6_sit_17 (by decide) ?_
      refine lv_goto (tgt := 22) hx hb dX6_sit_18 (by decide) ?_
      obtain ⟨n3, en3⟩ : ∃ z9, z9 = (fX6_fails S 0) := ⟨_, rfl⟩
      try rw [← en3] at hg
      have k9 := (kX6_fails l D cI cC cT h a1 a2 a3 a4 a5 a6 a7 a8 S 0)
      rw [← en3] at k9
      refine fUV (As := [.int 0]) (rest := []) (st' := [.int n3.1]) ⟨hx, hb, hml, hown, hts⟩ k9 (cwV 1 hts gX6_sit_X6_fails rfl rfl rfl (by decide +kernel) ⟨Nat.le_of_ble_eq_true rfl, Nat.le_of_ble_eq_true rfl⟩) hP hK hD hS [0, 1, 2, 3, 4, 5, 6, 7, 8] rfl rfl (by decide) rfl (w6 cI cC h a1 a2 a3 a4 a5 a6 a7 a8 n3.2) rfl rfl 0 (ci := 7) rfl rfl rfl rfl hl.1 rfl rfl (Nat.le_of_ble_eq_true rfl) ⟨Nat.zero_le _, Nat.zero_le _⟩ dX6_sit_22 (fun H locs hP hD hS => ?_)
      refine lv_if_eq (tgt := 30) hx hb dX6_sit_25 (by decide) (fun c_25 => ?_) (fun c_25 => absurd (by rw [en3]; exact fails_0 _) c_25)
      refine lv_aload_n hx hb dX6_sit_30 rfl (lv_at hl 0 rfl) ?_
      refine lv_iload_n hx hb dX6_sit_31 rfl (lv_at hl 1 rfl) ?_
      refine lv_iconst (v := 2) hx hb dX6_sit_32 (by decide) ?_
      obtain ⟨o3, hg⟩ := hg
      refine fRV (As := [.int x1, .int 2]) (rest := []) (st' := [.int (fX6_by n3.2 x1 2)]) ⟨hx, hb, hml, hown, hts⟩ (kX6_by l D cI cC cT h a1 a2 a3 a4 a5 a6 a7 a8 n3.2 x1 2 o3) (cwV 2 hts gX6_sit_X6_by rfl rfl rfl (by decide +kernel) ⟨Nat.le_of_ble_eq_true rfl, Nat.le_of_ble_eq_true rfl⟩) hP hK [0, 1, 2, 3, 4, 5, 6, 7, 8] rfl 0 (ci := 7) rfl rfl rfl rfl hl.1 rfl rfl (Nat.le_of_ble_eq_true rfl) ⟨Nat.zero_le _, Nat.zero_le _⟩ dX6_sit_33 ?_
      refine lv_iload_n hx hb dX6_sit_36 rfl (lv_at hl 2 rfl) ?_
      refine lv_icmp_ne (tgt := 48) hx hb dX6_sit_37 (by decide) (fun c_37_3 => ?_) (fun c_37_3 => ?_)
      · rw [if_neg c_37_3] at hg
        refine lv_aload_n hx hb dX6_sit_48 rfl (lv_at hl 0 rfl) ?_
        refine lv_iload_n hx hb dX6_sit_49 rfl (lv_at hl 2 rfl) ?_
        refine lv_iconst (v := 5) hx hb dX6_sit_50 (by decide) ?_
        obtain ⟨o4, hg⟩ := hg
        refine fRV (As := [.int x2, .int 5]) (rest := []) (st' := [.int (fX6_of n3.2 x2 5)]) ⟨hx, hb, hml, hown, hts⟩ (kX6_of l D cI cC cT h a1 a2 a3 a4 a5 a6 a7 a8 n3.2 x2 5 o4) (cwV 2 hts gX6_sit_X6_of rfl rfl rfl (by decide +kernel) ⟨Nat.le_of_ble_eq_true rfl, Nat.le_of_ble_eq_true rfl⟩) hP hK [0, 1, 2, 3, 4, 5, 6, 7, 8] rfl 0 (ci := 7) rfl rfl rfl rfl hl.1 rfl rfl (Nat.le_of_ble_eq_true rfl) ⟨Nat.zero_le _, Nat.zero_le _⟩ dX6_sit_51 ?_
        refine lv_if_lt (tgt := 70) hx hb dX6_sit_54 (by decide) (fun c_54_4 => ?_) (fun c_54_4 => ?_)
        · rw [if_pos c_54_4] at hg
          refine lv_aload_n hx hb dX6_sit_70 rfl (lv_at hl 0 rfl) ?_
          refine lv_iload_n hx hb dX6_sit_71 rfl (lv_at hl 1 rfl) ?_
          refine lv_iload_n hx hb dX6_sit_72 rfl (lv_at hl 2 rfl) ?_
          obtain ⟨o5, hg⟩ := hg
          refine fRV (As := [.int x1, .int x2]) (rest := []) (st' := [.int (fX6_maySit n3.2 x1 x2)]) ⟨hx, hb, hml, hown, hts⟩ (kX6_maySit l D cI cC cT h a1 a2 a3 a4 a5 a6 a7 a8 n3.2 x1 x2 o5) (cwV 2 hts gX6_sit_X6_maySit rfl rfl rfl (by decide +kernel) ⟨Nat.le_of_ble_eq_true rfl, Nat.le_of_ble_eq_true rfl⟩) hP hK [0, 1, 2, 3, 4, 5, 6, 7, 8] rfl 0 (ci := 7) rfl rfl rfl rfl hl.1 rfl rfl (Nat.le_of_ble_eq_true rfl) ⟨Nat.zero_le _, Nat.zero_le _⟩ dX6_sit_73 ?_
          refine lv_if_ne (tgt := 87) hx hb dX6_sit_76 (by decide) (fun c_76_5 => ?_) (fun c_76_5 => ?_)
          · rw [if_neg c_76_5] at hg
            refine lv_aload_n hx hb dX6_sit_87 rfl (lv_at hl 0 rfl) ?_
            refine lv_aload_n hx hb dX6_sit_88 rfl (lv_at hl 0 rfl) ?_
            refine va_get (D := D) (ci := 7) (v := .ref a1) (C := RX6) (T := TX6) (N := 20) hx hb hts q1 hown hK hP 0 rfl rfl 0 (by decide) q0 (fun _ h9 => h9) rfl dX6_sit_89 ?_
            obtain ⟨n4, en4⟩ : ∃ z9, z9 = (fX6_keeps_g n3.2) := ⟨_, rfl⟩
            try rw [← en4] at hg
            obtain ⟨o6, hg⟩ := hg
            have k9 := (kX6_keeps_g l D cI cC cT h a1 a2 a3 a4 a5 a6 a7 a8 n3.2 o6)
            rw [← en4] at k9
            refine fUV (As := [.ref a1]) (rest := []) (st' := []) ⟨hx, hb, hml, hown, hts⟩ k9 (cwV 1 hts gX6_sit_X6_keeps rfl rfl rfl (by decide +kernel) ⟨Nat.le_of_ble_eq_true rfl, Nat.le_of_ble_eq_true rfl⟩) hP hK hD hS [0, 1, 2, 3, 4, 5, 6, 7, 8] rfl rfl (by decide) rfl (w6 cI cC h a1 a2 a3 a4 a5 a6 a7 a8 n4) rfl rfl 0 (ci := 7) rfl rfl rfl rfl hl.1 rfl rfl (Nat.le_of_ble_eq_true rfl) ⟨Nat.zero_le _, Nat.zero_le _⟩ dX6_sit_92 (fun H locs hP hD hS => ?_)
            refine lv_aload_n hx hb dX6_sit_95 rfl (lv_at hl 0 rfl) ?_
            obtain ⟨n5, en5⟩ : ∃ z9, z9 = (fX6_laysSeats n4) := ⟨_, rfl⟩
            try rw [← en5] at hg
            obtain ⟨o7, hg⟩ := hg
            have k9 := (kX6_laysSeats l D cI cC cT h a1 a2 a3 a4 a5 a6 a7 a8 n4 o7)
            rw [← en5] at k9
            refine fUV (As := []) (rest := []) (st' := []) ⟨hx, hb, hml, hown, hts⟩ k9 (cwV 0 hts gX6_sit_X6_laysSeats rfl rfl rfl (by decide +kernel) ⟨Nat.le_of_ble_eq_true rfl, Nat.le_of_ble_eq_true rfl⟩) hP hK hD hS [0, 1, 2, 3, 4, 5, 6, 7, 8] rfl rfl (by decide) rfl (w6 cI cC h a1 a2 a3 a4 a5 a6 a7 a8 n5) rfl rfl 0 (ci := 7) rfl rfl rfl rfl hl.1 rfl rfl (Nat.le_of_ble_eq_true rfl) ⟨Nat.zero_le _, Nat.zero_le _⟩ dX6_sit_96 (fun H locs hP hD hS => ?_)
            refine lv_aload_n hx hb dX6_sit_99 rfl (lv_at hl 0 rfl) ?_
            refine va_get (D := D) (ci := 7) (v := .ref a7) (C := RX6) (T := TX6) (N := 20) hx hb hts q1 hown hK hP 0 rfl rfl 16 (by decide) q2 (fun _ h9 => h9) rfl dX6_sit_100 ?_
            refine lv_iload_n hx hb dX6_sit_103 rfl (lv_at hl 1 rfl) ?_
            refine lv_iload_n hx hb dX6_sit_104 rfl (lv_at hl 2 rfl) ?_
            obtain ⟨o8, hg⟩ := hg
            refine va_iast hx hb hK hP hD hS 7 0 rfl rfl o8 dX6_sit_105 (fun H locs hP hD hS => ?_)
            have hP : va_P D vwCl (w6 cI cC h a1 a2 a3 a4 a5 a6 a7 a8 (sS6 (upd n5.2.2.2.2.2.2.1 (x1).toNatClampNeg x2) n5)) H := w6p_6 hP
            have hD : va_D A (w6 cI cC h a1 a2 a3 a4 a5 a6 a7 a8 (sS6 (upd n5.2.2.2.2.2.2.1 (x1).toNatClampNeg x2) n5)) := w6d_6 hD
            refine lv_aload_n hx hb dX6_sit_106 rfl (lv_at hl 0 rfl) ?_
            obtain ⟨n6, en6⟩ : ∃ z9, z9 = (fX6_takesSeats (sS6 (upd n5.2.2.2.2.2.2.1 (x1).toNatClampNeg x2) n5)) := ⟨_, rfl⟩
            try rw [← en6] at hg
            obtain ⟨o9, hg⟩ := hg
            have k9 := (kX6_takesSeats l D cI cC cT h a1 a2 a3 a4 a5 a6 a7 a8 (sS6 (upd n5.2.2.2.2.2.2.1 (x1).toNatClampNeg x2) n5) o9)
            rw [← en6] at k9
            refine fUV (As := []) (rest := []) (st' := []) ⟨hx, hb, hml, hown, hts⟩ k9 (cwV 0 hts gX6_sit_X6_takesSeats rfl rfl rfl (by decide +kernel) ⟨Nat.le_of_ble_eq_true rfl, Nat.le_of_ble_eq_true rfl⟩) hP hK hD hS [0, 1, 2, 3, 4, 5, 6, 7, 8] rfl rfl (by decide) rfl (w6 cI cC h a1 a2 a3 a4 a5 a6 a7 a8 n6) rfl rfl 0 (ci := 7) rfl rfl rfl rfl hl.1 rfl rfl (Nat.le_of_ble_eq_true rfl) ⟨Nat.zero_le _, Nat.zero_le _⟩ dX6_sit_107 (fun H locs hP hD hS => ?_)
            refine lv_aload_n hx hb dX6_sit_110 rfl (lv_at hl 0 rfl) ?_
            refine lv_iload_n hx hb dX6_sit_111 rfl (lv_at hl 1 rfl) ?_
            obtain ⟨o10, hg⟩ := hg
            refine fRV (As := [.int x1]) (rest := []) (st' := [.int (fX6_clashesOf n6 x1)]) ⟨hx, hb, hml, hown, hts⟩ (kX6_clashesOf l D cI cC cT h a1 a2 a3 a4 a5 a6 a7 a8 n6 x1 o10) (cwV 1 hts gX6_sit_X6_clashesOf rfl rfl rfl (by decide +kernel) ⟨Nat.le_of_ble_eq_true rfl, Nat.le_of_ble_eq_true rfl⟩) hP hK [0, 1, 2, 3, 4, 5, 6, 7, 8] rfl 0 (ci := 7) rfl rfl rfl rfl hl.1 rfl rfl (Nat.le_of_ble_eq_true rfl) ⟨Nat.zero_le _, Nat.zero_le _⟩ dX6_sit_112 ?_
            have e9 : fX6_sit S x1 x2 = ((fX6_clashesOf n6 x1), n6) := by rw [fX6_sit, if_neg c_6_1, if_neg c_14_2, ← en3, if_neg c_37_3, if_pos c_54_4, if_neg c_76_5, ← en4, ← en5, ← en6]
            exact rUi hx hb hr hlk hQ hP hS (by rw [e9]) (congrArg (fun z9 : (Int32 × SV) => (w6 cI cC h a1 a2 a3 a4 a5 a6 a7 a8 z9.2 : va_W)) e9).symm rfl dX6_sit_115
          · rw [if_pos c_76_5] at hg
            refine lv_aload_n hx hb dX6_sit_79 rfl (lv_at hl 0 rfl) ?_
            refine lv_iconst (v := 2) hx hb dX6_sit_80 (by decide) ?_
            refine lv_iconst (v := 3) hx hb dX6_sit_81 (by decide) ?_
            refine lv_iload_n hx hb dX6_sit_82 rfl (lv_at hl 2 rfl) ?_
            obtain ⟨n7, en7⟩ : ∃ z9, z9 = (fX6_refuses n3.2 2 3 x2) := ⟨_, rfl⟩
            try rw [← en7] at hg
            have k9 := (kX6_refuses l D cI cC cT h a1 a2 a3 a4 a5 a6 a7 a8 n3.2 2 3 x2)
            rw [← en7] at k9
            refine fUV (As := [.int 2, .int 3, .int x2]) (rest := []) (st' := [.int n7.1]) ⟨hx, hb, hml, hown, hts⟩ k9 (cwV 3 hts gX6_sit_X6_refuses rfl rfl rfl (by decide +kernel) ⟨Nat.le_of_ble_eq_true rfl, Nat.le_of_ble_eq_true rfl⟩) hP hK hD hS [0, 1, 2, 3, 4, 5, 6, 7, 8] rfl rfl (by decide) rfl (w6 cI cC h a1 a2 a3 a4 a5 a6 a7 a8 n7.2) rfl rfl 0 (ci := 7) rfl rfl rfl rfl hl.1 rfl rfl (Nat.le_of_ble_eq_true rfl) ⟨Nat.zero_le _, Nat.zero_le _⟩ dX6_sit_83 (fun H locs hP hD hS => ?_)
            have e9 : fX6_sit S x1 x2 = (n7.1, n7.2) := by rw [fX6_sit, if_neg c_6_1, if_neg c_14_2, ← en3, if_neg c_37_3, if_pos c_54_4, if_pos c_76_5, ← en7]
            exact rUi hx hb hr hlk hQ hP hS (by rw [e9]) (congrArg (fun z9 : (Int32 × SV) => (w6 cI cC h a1 a2 a3 a4 a5 a6 a7 a8 z9.2 : va_W)) e9).symm rfl dX6_sit_86
        · rw [if_neg c_54_4] at hg
          refine lv_aload_n hx hb dX6_sit_57 rfl (lv_at hl 0 rfl) ?_
          refine lv_iconst (v := 2) hx hb dX6_sit_58 (by decide) ?_
          refine lv_iconst (v := 2) hx hb dX6_sit_59 (by decide) ?_
          refine lv_aload_n hx hb dX6_sit_60 rfl (lv_at hl 0 rfl) ?_
          refine lv_iload_n hx hb dX6_sit_61 rfl (lv_at hl 2 rfl) ?_
          refine lv_iconst (v := 5) hx hb dX6_sit_62 (by decide) ?_
          obtain ⟨o11, hg⟩ := hg
          refine fRV (As := [.int x2, .int 5]) (rest := [.int 2, .int 2, .ref h]) (st' := [.int (fX6_of n3.2 x2 5), .int 2, .int 2, .ref h]) ⟨hx, hb, hml, hown, hts⟩ (kX6_of l D cI cC cT h a1 a2 a3 a4 a5 a6 a7 a8 n3.2 x2 5 o11) (cwV 2 hts gX6_sit_X6_of rfl rfl rfl (by decide +kernel) ⟨Nat.le_of_ble_eq_true rfl, Nat.le_of_ble_eq_true rfl⟩) hP hK [0, 1, 2, 3, 4, 5, 6, 7, 8] rfl 0 (ci := 7) rfl rfl rfl rfl hl.1 rfl rfl (Nat.le_of_ble_eq_true rfl) ⟨Nat.zero_le _, Nat.zero_le _⟩ dX6_sit_63 ?_
          obtain ⟨n8, en8⟩ : ∃ z9, z9 = (fX6_refuses n3.2 2 2 (fX6_of n3.2 x2 5)) := ⟨_, rfl⟩
          try rw [← en8] at hg
          have k9 := (kX6_refuses l D cI cC cT h a1 a2 a3 a4 a5 a6 a7 a8 n3.2 2 2 (fX6_of n3.2 x2 5))
          rw [← en8] at k9
          refine fUV (As := [.int 2, .int 2, .int (fX6_of n3.2 x2 5)]) (rest := []) (st' := [.int n8.1]) ⟨hx, hb, hml, hown, hts⟩ k9 (cwV 3 hts gX6_sit_X6_refuses rfl rfl rfl (by decide +kernel) ⟨Nat.le_of_ble_eq_true rfl, Nat.le_of_ble_eq_true rfl⟩) hP hK hD hS [0, 1, 2, 3, 4, 5, 6, 7, 8] rfl rfl (by decide) rfl (w6 cI cC h a1 a2 a3 a4 a5 a6 a7 a8 n8.2) rfl rfl 0 (ci := 7) rfl rfl rfl rfl hl.1 rfl rfl (Nat.le_of_ble_eq_true rfl) ⟨Nat.zero_le _, Nat.zero_le _⟩ dX6_sit_66 (fun H locs hP hD hS => ?_)
          have e9 : fX6_sit S x1 x2 = (n8.1, n8.2) := by rw [fX6_sit, if_neg c_6_1, if_neg c_14_2, ← en3, if_neg c_37_3, if_neg c_54_4, ← en8]
          exact rUi hx hb hr hlk hQ hP hS (by rw [e9]) (congrArg (fun z9 : (Int32 × SV) => (w6 cI cC h a1 a2 a3 a4 a5 a6 a7 a8 z9.2 : va_W)) e9).symm rfl dX6_sit_69
      · rw [if_pos c_37_3] at hg
        refine lv_aload_n hx hb dX6_sit_40 rfl (lv_at hl 0 rfl) ?_
        refine lv_iconst (v := 2) hx hb dX6_sit_41 (by decide) ?_
        refine lv_iconst (v := 4) hx hb dX6_sit_42 (by decide) ?_
        refine lv_iload_n hx hb dX6_sit_43 rfl (lv_at hl 1 rfl) ?_
        obtain ⟨n9, en9⟩ : ∃ z9, z9 = (fX6_refuses n3.2 2 4 x1) := ⟨_, rfl⟩
        try rw [← en9] at hg
        have k9 := (kX6_refuses l D cI cC cT h a1 a2 a3 a4 a5 a6 a7 a8 n3.2 2 4 x1)
        rw [← en9] at k9
        refine fUV (As := [.int 2, .int 4, .int x1]) (rest := []) (st' := [.int n9.1]) ⟨hx, hb, hml, hown, hts⟩ k9 (cwV 3 hts gX6_sit_X6_refuses rfl rfl rfl (by decide +kernel) ⟨Nat.le_of_ble_eq_true rfl, Nat.le_of_ble_eq_true rfl⟩) hP hK hD hS [0, 1, 2, 3, 4, 5, 6, 7, 8] rfl rfl (by decide) rfl (w6 cI cC h a1 a2 a3 a4 a5 a6 a7 a8 n9.2) rfl rfl 0 (ci := 7) rfl rfl rfl rfl hl.1 rfl rfl (Nat.le_of_ble_eq_true rfl) ⟨Nat.zero_le _, Nat.zero_le _⟩ dX6_sit_44 (fun H locs hP hD hS => ?_)
        have e9 : fX6_sit S x1 x2 = (n9.1, n9.2) := by rw [fX6_sit, if_neg c_6_1, if_neg c_14_2, ← en3, if_pos c_37_3, ← en9]
        exact rUi hx hb hr hlk hQ hP hS (by rw [e9]) (congrArg (fun z9 : (Int32 × SV) => (w6 cI cC h a1 a2 a3 a4 a5 a6 a7 a8 z9.2 : va_W)) e9).symm rfl dX6_sit_47
def fX6_getUp (S : SV) (x1 : Int32) : (Int32 × SV) := (if (fX6_isSitter S x1) = 0 then (0, (fX6_fails S 1).2) else (if 0 ≤ (fX6_by (fX6_fails S 0).2 x1 2) then ((fX6_by (fX6_fails S 0).2 x1 2), (fX6_takesSeats (sS6 (upd (fX6_laysSeats (fX6_keeps_g (fX6_fails S 0).2)).2.2.2.2.2.2.1 (x1).toNatClampNeg (-1)) (fX6_laysSeats (fX6_keeps_g (fX6_fails S 0).2))))) else ((fX6_refuses (fX6_fails S 0).2 2 4 x1).1, (fX6_refuses (fX6_fails S 0).2 2 4 x1).2)))
def gX6_getUp (S : SV) (x1 : Int32) : Prop := ((gX6_isSitter S x1) ∧ (if (fX6_isSitter S x1) = 0 then True else ((gX6_by (fX6_fails S 0).2 x1 2) ∧ (if 0 ≤ (fX6_by (fX6_fails S 0).2 x1 2) then ((gX6_keeps_g (fX6_fails S 0).2) ∧ (gX6_laysSeats (fX6_keeps_g (fX6_fails S 0).2)) ∧ (vp_in x1 12) ∧ (gX6_takesSeats (sS6 (upd (fX6_laysSeats (fX6_keeps_g (fX6_fails S 0).2)).2.2.2.2.2.2.1 (x1).toNatClampNeg (-1)) (fX6_laysSeats (fX6_keeps_g (fX6_fails S 0).2)))) ∧ True) else True))))
abbrev rmX6_getUp : Room := { frames := 2, cells := 0, slots := 0, locals := 46 }
set_option maxHeartbeats 4000000 in
set_option maxRecDepth 100000 in
theorem kX6_getUp (l : Launch) (D : va_G) (cI cC cT : ClassId) (h a1 a2 a3 a4 a5 a6 a7 a8 : Nat) (S : SV) (x1 : Int32) (hg : gX6_getUp S x1) : mU l D (TY cI cC cT) yX6_getUp wsX6_getUp rmX6_getUp [.ref h, .int x1] (w6 cI cC h a1 a2 a3 a4 a5 a6 a7 a8 S) (some (.int (fX6_getUp S x1).1)) (w6 cI cC h a1 a2 a3 a4 a5 a6 a7 a8 (fX6_getUp S x1).2) := by
  refine mU.ofW (cc := cX6_getUp) (maxL := 3) (ret := (some .int)) (by decide) rfl (Nat.le_of_ble_eq_true rfl) ?_
  intro p e s m args below meth c Q ls A hx hb hml hr hlk hts hown hP hK hD hS hl hQ
  have hown : s.vm.findClass RX6 = some m.cls := hown
  have hP : va_P D vwCl (w6 cI cC h a1 a2 a3 a4 a5 a6 a7 a8 S) s.heap := hP
  have hD : va_D A (w6 cI cC h a1 a2 a3 a4 a5 a6 a7 a8 S) := hD
  have hl : lv_has ls 3 [(0, .ref h), (1, .int x1)] := hl
  have q0 := hts (Cond.fieldLink RX6 7 "TavernStoolsModel" "g" "[I") (by decide +kernel)
  have q1 : ∀ w ∈ u_ws RX6 TX6 20, w ∈ wsX6_getUp := by decide +kernel
  have q2 := hts (Cond.fieldLink RX6 33 "TavernStoolsModel" "seats" "[I") (by decide +kernel)
  unfold gX6_getUp at hg
  generalize hHe : s.heap = H at hP ⊢
  have hS : va_S A s.heap H [] := hHe ▸ hS
  generalize hLe : ([] : List Loc) = locs at hS ⊢
  refine lv_aload_n hx hb dX6_getUp_0 rfl (lv_at hl 0 rfl) ?_
  refine lv_aload_n hx hb dX6_getUp_1 rfl (lv_at hl 0 rfl) ?_
  refine lv_iload_n hx hb dX6_getUp_2 rfl (lv_at hl 1 rfl) ?_
  obtain ⟨o1, hg⟩ := hg
  refine fRV (As := [.int x1]) (rest := [.ref h]) (st' := [.int (fX6_isSitter S x1), .ref h]) ⟨hx, hb, hml, hown, hts⟩ (kX6_isSitter l D cI cC cT h a1 a2 a3 a4 a5 a6 a7 a8 S x1 o1) (cwV 1 hts gX6_getUp_X6_isSitter rfl rfl rfl (by decide +kernel) ⟨Nat.le_of_ble_eq_true rfl, Nat.le_of_ble_eq_true rfl⟩) hP hK [0, 1, 2, 3, 4, 5, 6, 7, 8] rfl 0 (ci := 7) rfl rfl rfl rfl hl.1 rfl rfl (Nat.le_of_ble_eq_true rfl) ⟨Nat.zero_le _, Nat.zero_le _⟩ dX6_getUp_3 ?_
  refine lv_if_eq (tgt := 13) hx hb dX6_getUp_6 (by decide) (fun c_6_1 => ?_) (fun c_6_1 => ?_)
  · rw [if_pos c_6_1] at hg
    refine lv_iconst (v := 1) hx hb dX6_getUp_13 (by decide) ?_
    obtain ⟨n1, en1⟩ : ∃ z9, z9 = (fX6_fails S 1) := ⟨_, rfl⟩
    try rw [← en1] at hg
    have k9 := (kX6_fails l D cI cC cT h a1 a2 a3 a4 a5 a6 a7 a8 S 1)
    rw [← en1] at k9
    refine fUV (As := [.int 1]) (rest := []) (st' := [.int n1.1]) ⟨hx, hb, hml, hown, hts⟩ k9 (cwV 1 hts gX6_getUp_X6_fails rfl rfl rfl (by decide +kernel) ⟨Nat.le_of_ble_eq_true rfl, Nat.le_of_ble_eq_true rfl⟩) hP hK hD hS [0, 1, 2, 3, 4, 5, 6, 7, 8] rfl rfl (by decide) rfl (w6 cI cC h a1 a2 a3 a4 a5 a6 a7 a8 n1.2) rfl rfl 0 (ci := 7) rfl rfl rfl rfl hl.1 rfl rfl (Nat.le_of_ble_eq_true rfl) ⟨Nat.zero_le _, Nat.zero_le _⟩ dX6_getUp_14 (fun H locs hP hD hS => ?_)
    refine lv_if_eq (tgt := 22) hx hb dX6_getUp_17 (by decide) (fun c_17 => absurd c_17 (by rw [en1, fails_1]; decide)) (fun c_17 => ?_)
    refine lv_iconst (v := 0) hx hb dX6_getUp_20 (by decide) ?_
    have e9 : fX6_getUp S x1 = (0, n1.2) := by rw [fX6_getUp, if_pos c_6_1, ← en1]
    exact rUi hx hb hr hlk hQ hP hS (by rw [e9]) (congrArg (fun z9 : (Int32 × SV) => (w6 cI cC h a1 a2 a3 a4 a5 a6 a7 a8 z9.2 : va_W)) e9).symm rfl dX6_getUp_21
  · rw [if_neg c_6_1] at hg
    refine lv_iconst (v := 0) hx hb dX6_getUp_9 (by decide) ?_
    refine lv_goto (tgt := 14) hx hb dX6_getUp_10 (by decide) ?_
    obtain ⟨n2, en2⟩ : ∃ z9, z9 = (fX6_fails S 0) := ⟨_, rfl⟩
    try rw [← en2] at hg
    have k9 := (kX6_fails l D cI cC cT h a1 a2 a3 a4 a5 a6 a7 a8 S 0)
    rw [← en2] at k9
    refine fUV (As := [.int 0]) (rest := []) (st' := [.int n2.1]) ⟨hx, hb, hml, hown, hts⟩ k9 (cwV 1 hts gX6_getUp_X6_fails rfl rfl rfl (by decide +kernel) ⟨Nat.le_of_ble_eq_true rfl, Nat.le_of_ble_eq_true rfl⟩) hP hK hD hS [0, 1, 2, 3, 4, 5, 6, 7, 8] rfl rfl (by decide) rfl (w6 cI cC h a1 a2 a3 a4 a5 a6 a7 a8 n2.2) rfl rfl 0 (ci := 7) rfl rfl rfl rfl hl.1 rfl rfl (Nat.le_of_ble_eq_true rfl) ⟨Nat.zero_le _, Nat.zero_le _⟩ dX6_getUp_14 (fun H locs hP hD hS => ?_)
    refine lv_if_eq (tgt := 22) hx hb dX6_getUp_17 (by decide) (fun c_17 => ?_) (fun c_17 => absurd (by rw [en2]; exact fails_0 _) c_17)
    refine lv_aload_n hx hb dX6_getUp_22 rfl (lv_at hl 0 rfl) ?_
    refine lv_iload_n hx hb dX6_getUp_23 rfl (lv_at hl 1 rfl) ?_
    refine lv_iconst (v := 2) hx hb dX6_getUp_24 (by decide) ?_
    obtain ⟨o2, hg⟩ := hg
    refine fRV (As := [.int x1, .int 2]) (rest := []) (st' := [.int (fX6_by n2.2 x1 2)]) ⟨hx, hb, hml, hown, hts⟩ (kX6_by l D cI cC cT h a1 a2 a3 a4 a5 a6 a7 a8 n2.2 x1 2 o2) (cwV 2 hts gX6_getUp_X6_by rfl rfl rfl (by decide +kernel) ⟨Nat.le_of_ble_eq_true rfl, Nat.le_of_ble_eq_true rfl⟩) hP hK [0, 1, 2, 3, 4, 5, 6, 7, 8] rfl 0 (ci := 7) rfl rfl rfl rfl hl.1 rfl rfl (Nat.le_of_ble_eq_true rfl) ⟨Nat.zero_le _, Nat.zero_le _⟩ dX6_getUp_25 ?_
    refine lv_istore_n (lv' := [(2, .int (fX6_by n2.2 x1 2)), (0, .ref h), (1, .int x1)]) hx hb dX6_getUp_28 rfl hl (by decide) rfl (fun ls hl => ?_)
    refine lv_iload_n hx hb dX6_getUp_29 rfl (lv_at hl 0 rfl) ?_
    refine lv_if_ge (tgt := 41) hx hb dX6_getUp_30 (by decide) (fun c_30_2 => ?_) (fun c_30_2 => ?_)
    · rw [if_pos c_30_2] at hg
      refine lv_aload_n hx hb dX6_getUp_41 rfl (lv_at hl 1 rfl) ?_
      refine lv_aload_n hx hb dX6_getUp_42 rfl (lv_at hl 1 rfl) ?_
      refine va_get (D := D) (ci := 7) (v := .ref a1) (C := RX6) (T := TX6) (N := 20) hx hb hts q1 hown hK hP 0 rfl rfl 0 (by decide) q0 (fun _ h9 => h9) rfl dX6_getUp_43 ?_
      obtain ⟨n3, en3⟩ : ∃ z9, z9 = (fX6_keeps_g n2.2) := ⟨_, rfl⟩
      try rw [← en3] at hg
      obtain ⟨o3, hg⟩ := hg
      have k9 := (kX6_keeps_g l D cI cC cT h a1 a2 a3 a4 a5 a6 a7 a8 n2.2 o3)
      rw [← en3] at k9
      refine fUV (As := [.ref a1]) (rest := []) (st' := []) ⟨hx, hb, hml, hown, hts⟩ k9 (cwV 1 hts gX6_getUp_X6_keeps rfl rfl rfl (by decide +kernel) ⟨Nat.le_of_ble_eq_true rfl, Nat.le_of_ble_eq_true rfl⟩) hP hK hD hS [0, 1, 2, 3, 4, 5, 6, 7, 8] rfl rfl (by decide) rfl (w6 cI cC h a1 a2 a3 a4 a5 a6 a7 a8 n3) rfl rfl 0 (ci := 7) rfl rfl rfl rfl hl.1 rfl rfl (Nat.le_of_ble_eq_true rfl) ⟨Nat.zero_le _, Nat.zero_le _⟩ dX6_getUp_46 (fun H locs hP hD hS => ?_)
      refine lv_aload_n hx hb dX6_getUp_49 rfl (lv_at hl 1 rfl) ?_
      obtain ⟨n4, en4⟩ : ∃ z9, z9 = (fX6_laysSeats n3) := ⟨_, rfl⟩
      try rw [← en4] at hg
      obtain ⟨o4, hg⟩ := hg
      have k9 := (kX6_laysSeats l D cI cC cT h a1 a2 a3 a4 a5 a6 a7 a8 n3 o4)
      rw [← en4] at k9
      refine fUV (As := []) (rest := []) (st' := []) ⟨hx, hb, hml, hown, hts⟩ k9 (cwV 0 hts gX6_getUp_X6_laysSeats rfl rfl rfl (by decide +kernel) ⟨Nat.le_of_ble_eq_true rfl, Nat.le_of_ble_eq_true rfl⟩) hP hK hD hS [0, 1, 2, 3, 4, 5, 6, 7, 8] rfl rfl (by decide) rfl (w6 cI cC h a1 a2 a3 a4 a5 a6 a7 a8 n4) rfl rfl 0 (ci := 7) rfl rfl rfl rfl hl.1 rfl rfl (Nat.le_of_ble_eq_true rfl) ⟨Nat.zero_le _, Nat.zero_le _⟩ dX6_getUp_50 (fun H locs hP hD hS => ?_)
      refine lv_aload_n hx hb dX6_getUp_53 rfl (lv_at hl 1 rfl) ?_
      refine va_get (D := D) (ci := 7) (v := .ref a7) (C := RX6) (T := TX6) (N := 20) hx hb hts q1 hown hK hP 0 rfl rfl 16 (by decide) q2 (fun _ h9 => h9) rfl dX6_getUp_54 ?_
      refine lv_iload_n hx hb dX6_getUp_57 rfl (lv_at hl 2 rfl) ?_
      refine lv_iconst (v := (-1)) hx hb dX6_getUp_58 (by decide) ?_
      obtain ⟨o5, hg⟩ := hg
      refine va_iast hx hb hK hP hD hS 7 0 rfl rfl o5 dX6_getUp_59 (fun H locs hP hD hS => ?_)
      have hP : va_P D vwCl (w6 cI cC h a1 a2 a3 a4 a5 a6 a7 a8 (sS6 (upd n4.2.2.2.2.2.2.1 (x1).toNatClampNeg (-1)) n4)) H := w6p_6 hP
      have hD : va_D A (w6 cI cC h a1 a2 a3 a4 a5 a6 a7 a8 (sS6 (upd n4.2.2.2.2.2.2.1 (x1).toNatClampNeg (-1)) n4)) := w6d_6 hD
      refine lv_aload_n hx hb dX6_getUp_60 rfl (lv_at hl 1 rfl) ?_
      obtain ⟨n5, en5⟩ : ∃ z9, z9 = (fX6_takesSeats (sS6 (upd n4.2.2.2.2.2.2.1 (x1).toNatClampNeg (-1)) n4)) := ⟨_, rfl⟩
      try rw [← en5] at hg
      obtain ⟨o6, hg⟩ := hg
      have k9 := (kX6_takesSeats l D cI cC cT h a1 a2 a3 a4 a5 a6 a7 a8 (sS6 (upd n4.2.2.2.2.2.2.1 (x1).toNatClampNeg (-1)) n4) o6)
      rw [← en5] at k9
      refine fUV (As := []) (rest := []) (st' := []) ⟨hx, hb, hml, hown, hts⟩ k9 (cwV 0 hts gX6_getUp_X6_takesSeats rfl rfl rfl (by decide +kernel) ⟨Nat.le_of_ble_eq_true rfl, Nat.le_of_ble_eq_true rfl⟩) hP hK hD hS [0, 1, 2, 3, 4, 5, 6, 7, 8] rfl rfl (by decide) rfl (w6 cI cC h a1 a2 a3 a4 a5 a6 a7 a8 n5) rfl rfl 0 (ci := 7) rfl rfl rfl rfl hl.1 rfl rfl (Nat.le_of_ble_eq_true rfl) ⟨Nat.zero_le _, Nat.zero_le _⟩ dX6_getUp_61 (fun H locs hP hD hS => ?_)
      refine lv_iload_n hx hb dX6_getUp_64 rfl (lv_at hl 0 rfl) ?_
      have e9 : fX6_getUp S x1 = ((fX6_by n2.2 x1 2), n5) := by rw [fX6_getUp, if_neg c_6_1, ← en2, if_pos c_30_2, ← en3, ← en4, ← en5]
      exact rUi hx hb hr hlk hQ hP hS (by rw [e9]) (congrArg (fun z9 : (Int32 × SV) => (w6 cI cC h a1 a2 a3 a4 a5 a6 a7 a8 z9.2 : va_W)) e9).symm rfl dX6_getUp_65
    · rw [if_neg c_30_2] at hg
      refine lv_aload_n hx hb dX6_getUp_33 rfl (lv_at hl 1 rfl) ?_
      refine lv_iconst (v := 2) hx hb dX6_getUp_34 (by decide) ?_
      refine lv_iconst (v := 4) hx hb dX6_getUp_35 (by decide) ?_
      refine lv_iload_n hx hb dX6_getUp_36 rfl (lv_at hl 2 rfl) ?_
      obtain ⟨n6, en6⟩ : ∃ z9, z9 = (fX6_refuses n2.2 2 4 x1) := ⟨_, rfl⟩
      try rw [← en6] at hg
      have k9 := (kX6_refuses l D cI cC cT h a1 a2 a3 a4 a5 a6 a7 a8 n2.2 2 4 x1)
      rw [← en6] at k9
      refine fUV (As := [.int 2, .int 4, .int x1]) (rest := []) (st' := [.int n6.1]) ⟨hx, hb, hml, hown, hts⟩ k9 (cwV 3 hts gX6_getUp_X6_refuses rfl rfl rfl (by decide +kernel) ⟨Nat.le_of_ble_eq_true rfl, Nat.le_of_ble_eq_true rfl⟩) hP hK hD hS [0, 1, 2, 3, 4, 5, 6, 7, 8] rfl rfl (by decide) rfl (w6 cI cC h a1 a2 a3 a4 a5 a6 a7 a8 n6.2) rfl rfl 0 (ci := 7) rfl rfl rfl rfl hl.1 rfl rfl (Nat.le_of_ble_eq_true rfl) ⟨Nat.zero_le _, Nat.zero_le _⟩ dX6_getUp_37 (fun H locs hP hD hS => ?_)
      have e9 : fX6_getUp S x1 = (n6.1, n6.2) := by rw [fX6_getUp, if_neg c_6_1, ← en2, if_neg c_30_2, ← en6]
      exact rUi hx hb hr hlk hQ hP hS (by rw [e9]) (congrArg (fun z9 : (Int32 × SV) => (w6 cI cC h a1 a2 a3 a4 a5 a6 a7 a8 z9.2 : va_W)) e9).symm rfl dX6_getUp_40
def fX6_stoolOf (S : SV) (x1 : Int32) (x2 : Int32) : (Int32 × SV) := (if (fX6_isStool S x1) = 0 then (0, (fX6_fails S 1).2) else (if (fX6_in x2 0 5) = 0 then (0, (fX6_fails S 2).2) else ((fX6_of (fX6_fails S 0).2 x1 x2), (fX6_fails S 0).2)))
def gX6_stoolOf (S : SV) (x1 : Int32) (x2 : Int32) : Prop := ((gX6_isStool S x1) ∧ (if (fX6_isStool S x1) = 0 then True else (if (fX6_in x2 0 5) = 0 then True else ((gX6_of (fX6_fails S 0).2 x1 x2) ∧ True))))
abbrev rmX6_stoolOf : Room := { frames := 2, cells := 0, slots := 0, locals := 43 }
set_option maxHeartbeats 4000000 in
set_option maxRecDepth 100000 in
theorem kX6_stoolOf (l : Launch) (D : va_G) (cI cC cT : ClassId) (h a1 a2 a3 a4 a5 a6 a7 a8 : Nat) (S : SV) (x1 : Int32) (x2 : Int32) (hg : gX6_stoolOf S x1 x2) : mU l D (TY cI cC cT) yX6_stoolOf wsX6_stoolOf rmX6_stoolOf [.ref h, .int x1, .int x2] (w6 cI cC h a1 a2 a3 a4 a5 a6 a7 a8 S) (some (.int (fX6_stoolOf S x1 x2).1)) (w6 cI cC h a1 a2 a3 a4 a5 a6 a7 a8 (fX6_stoolOf S x1 x2).2) := by
  refine mU.ofW (cc := cX6_stoolOf) (maxL := 3) (ret := (some .int)) (by decide) rfl (Nat.le_of_ble_eq_true rfl) ?_
  intro p e s m args below meth c Q ls A hx hb hml hr hlk hts hown hP hK hD hS hl hQ
  have hown : s.vm.findClass RX6 = some m.cls := hown
  have hP : va_P D vwCl (w6 cI cC h a1 a2 a3 a4 a5 a6 a7 a8 S) s.heap := hP
  have hD : va_D A (w6 cI cC h a1 a2 a3 a4 a5 a6 a7 a8 S) := hD
  have hl : lv_has ls 3 [(0, .ref h), (1, .int x1), (2, .int x2)] := hl
  unfold gX6_stoolOf at hg
  generalize hHe : s.heap = H at hP ⊢
  have hS : va_S A s.heap H [] := hHe ▸ hS
  generalize hLe : ([] : List Loc) = locs at hS ⊢
  refine lv_aload_n hx hb dX6_stoolOf_0 rfl (lv_at hl 0 rfl) ?_
  refine lv_aload_n hx hb dX6_stoolOf_1 rfl (lv_at hl 0 rfl) ?_
  refine lv_iload_n hx hb dX6_stoolOf_2 rfl (lv_at hl 1 rfl) ?_
  obtain ⟨o1, hg⟩ := hg
  refine fRV (As := [.int x1]) (rest := [.ref h]) (st' := [.int (fX6_isStool S x1), .ref h]) ⟨hx, hb, hml, hown, hts⟩ (kX6_isStool l D cI cC cT h a1 a2 a3 a4 a5 a6 a7 a8 S x1 o1) (cwV 1 hts gX6_stoolOf_X6_isStool rfl rfl rfl (by decide +kernel) ⟨Nat.le_of_ble_eq_true rfl, Nat.le_of_ble_eq_true rfl⟩) hP hK [0, 1, 2, 3, 4, 5, 6, 7, 8] rfl 0 (ci := 7) rfl rfl rfl rfl hl.1 rfl rfl (Nat.le_of_ble_eq_true rfl) ⟨Nat.zero_le _, Nat.zero_le _⟩ dX6_stoolOf_3 ?_
  refine lv_if_ne (tgt := 13) hx hb dX6_stoolOf_6 (by decide) (fun c_6_1 => ?_) (fun c_6_1 => ?_)
  · rw [if_neg c_6_1] at hg
    refine lv_iload_n hx hb dX6_stoolOf_13 rfl (lv_at hl 2 rfl) ?_
    refine lv_iconst (v := 0) hx hb dX6_stoolOf_14 (by decide) ?_
    refine lv_iconst (v := 5) hx hb dX6_stoolOf_15 (by decide) ?_
    refine fRS (As := [.int x2, .int 0, .int 5]) (rest := [.ref h]) (st' := [.int (fX6_in x2 0 5), .ref h]) ⟨hx, hb, hml, hown, hts⟩ (kX6_in l D cI cC cT x2 0 5) (va_cwS 3 hts gX6_stoolOf_X6_in rfl rfl rfl (by decide +kernel) ⟨Nat.le_of_ble_eq_true rfl, Nat.le_of_ble_eq_true rfl⟩) hP hK [] rfl rfl hl.1 rfl rfl (Nat.le_of_ble_eq_true rfl) ⟨Nat.zero_le _, Nat.zero_le _⟩ dX6_stoolOf_16 ?_
    refine lv_if_eq (tgt := 26) hx hb dX6_stoolOf_19 (by decide) (fun c_19_2 => ?_) (fun c_19_2 => ?_)
    · rw [if_pos c_19_2] at hg
      refine lv_iconst (v := 2) hx hb dX6_stoolOf_26 (by decide) ?_
      obtain ⟨n1, en1⟩ : ∃ z9, z9 = (fX6_fails S 2) := ⟨_, rfl⟩
      try rw [← en1] at hg
      have k9 := (kX6_fails l D cI cC cT h a1 a2 a3 a4 a5 a6 a7 a8 S 2)
      rw [← en1] at k9
      refine fUV (As := [.int 2]) (rest := []) (st' := [.int n1.1]) ⟨hx, hb, hml, hown, hts⟩ k9 (cwV 1 hts gX6_stoolOf_X6_fails rfl rfl rfl (by decide +kernel) ⟨Nat.le_of_ble_eq_true rfl, Nat.le_of_ble_eq_true rfl⟩) hP hK hD hS [0, 1, 2, 3, 4, 5, 6, 7, 8] rfl rfl (by decide) rfl (w6 cI cC h a1 a2 a3 a4 a5 a6 a7 a8 n1.2) rfl rfl 0 (ci := 7) rfl rfl rfl rfl hl.1 rfl rfl (Nat.le_of_ble_eq_true rfl) ⟨Nat.zero_le _, Nat.zero_le _⟩ dX6_stoolOf_27 (fun H locs hP hD hS => ?_)
      refine lv_if_eq (tgt := 37) hx hb dX6_stoolOf_30 (by decide) (fun c_30 => absurd c_30 (by rw [en1, fails_2]; decide)) (fun c_30 => ?_)
      refine lv_iconst (v := 0) hx hb dX6_stoolOf_33 (by decide) ?_
      refine lv_goto (tgt := 43) hx hb dX6_stoolOf_34 (by decide) ?_
      have e9 : fX6_stoolOf S x1 x2 = (0, n1.2) := by rw [fX6_stoolOf, if_neg c_6_1, if_pos c_19_2, ← en1]
      exact rUi hx hb hr hlk hQ hP hS (by rw [e9]) (congrArg (fun z9 : (Int32 × SV) => (w6 cI cC h a1 a2 a3 a4 a5 a6 a7 a8 z9.2 : va_W)) e9).symm rfl dX6_stoolOf_43
    · rw [if_neg c_19_2] at hg
      refine lv_iconst (v := 0) hx hb dX6_stoolOf_22 (by decide) ?_
      refine lv_goto (tgt := 27) hx hb dX6_stoolOf_23 (by decide) ?_
      obtain ⟨n2, en2⟩ : ∃ z9, z9 = (fX6_fails S 0) := ⟨_, rfl⟩
      try rw [← en2] at hg
      have k9 := (kX6_fails l D cI cC cT h a1 a2 a3 a4 a5 a6 a7 a8 S 0)
      rw [← en2] at k9
      refine fUV (As := [.int 0]) (rest := []) (st' := [.int n2.1]) ⟨hx, hb, hml, hown, hts⟩ k9 (cwV 1 hts gX6_stoolOf_X6_fails rfl rfl rfl (by decide +kernel) ⟨Nat.le_of_ble_eq_true rfl, Nat.le_of_ble_eq_true rfl⟩) hP hK hD hS [0, 1, 2, 3, 4, 5, 6, 7, 8] rfl rfl (by decide) rfl (w6 cI cC h a1 a2 a3 a4 a5 a6 a7 a8 n2.2) rfl rfl 0 (ci := 7) rfl rfl rfl rfl hl.1 rfl rfl (Nat.le_of_ble_eq_true rfl) ⟨Nat.zero_le _, Nat.zero_le _⟩ dX6_stoolOf_27 (fun H locs hP hD hS => ?_)
      refine lv_if_eq (tgt := 37) hx hb dX6_stoolOf_30 (by decide) (fun c_30 => ?_) (fun c_30 => absurd (by rw [en2]; exact fails_0 _) c_30)
      refine lv_aload_n hx hb dX6_stoolOf_37 rfl (lv_at hl 0 rfl) ?_
      refine lv_iload_n hx hb dX6_stoolOf_38 rfl (lv_at hl 1 rfl) ?_
      refine lv_iload_n hx hb dX6_stoolOf_39 rfl (lv_at hl 2 rfl) ?_
      obtain ⟨o2, hg⟩ := hg
      refine fRV (As := [.int x1, .int x2]) (rest := []) (st' := [.int (fX6_of n2.2 x1 x2)]) ⟨hx, hb, hml, hown, hts⟩ (kX6_of l D cI cC cT h a1 a2 a3 a4 a5 a6 a7 a8 n2.2 x1 x2 o2) (cwV 2 hts gX6_stoolOf_X6_of rfl rfl rfl (by decide +kernel) ⟨Nat.le_of_ble_eq_true rfl, Nat.le_of_ble_eq_true rfl⟩) hP hK [0, 1, 2, 3, 4, 5, 6, 7, 8] rfl 0 (ci := 7) rfl rfl rfl rfl hl.1 rfl rfl (Nat.le_of_ble_eq_true rfl) ⟨Nat.zero_le _, Nat.zero_le _⟩ dX6_stoolOf_40 ?_
      have e9 : fX6_stoolOf S x1 x2 = ((fX6_of n2.2 x1 x2), n2.2) := by rw [fX6_stoolOf, if_neg c_6_1, if_neg c_19_2, ← en2]
      exact rUi hx hb hr hlk hQ hP hS (by rw [e9]) (congrArg (fun z9 : (Int32 × SV) => (w6 cI cC h a1 a2 a3 a4 a5 a6 a7 a8 z9.2 : va_W)) e9).symm rfl dX6_stoolOf_43
  · rw [if_pos c_6_1] at hg
    refine lv_iconst (v := 1) hx hb dX6_stoolOf_9 (by decide) ?_
    refine lv_goto (tgt := 27) hx hb dX6_stoolOf_10 (by decide) ?_
    obtain ⟨n3, en3⟩ : ∃ z9, z9 = (fX6_fails S 1) := ⟨_, rfl⟩
    try rw [← en3] at hg
    have k9 := (kX6_fails l D cI cC cT h a1 a2 a3 a4 a5 a6 a7 a8 S 1)
    rw [← en3] at k9
    refine fUV (As := [.int 1]) (rest := []) (st' := [.int n3.1]) ⟨hx, hb, hml, hown, hts⟩ k9 (cwV 1 hts gX6_stoolOf_X6_fails rfl rfl rfl (by decide +kernel) ⟨Nat.le_of_ble_eq_true rfl, Nat.le_of_ble_eq_true rfl⟩) hP hK hD hS [0, 1, 2, 3, 4, 5, 6, 7, 8] rfl rfl (by decide) rfl (w6 cI cC h a1 a2 a3 a4 a5 a6 a7 a8 n3.2) rfl rfl 0 (ci := 7) rfl rfl rfl rfl hl.1 rfl rfl (Nat.le_of_ble_eq_true rfl) ⟨Nat.zero_le _, Nat.zero_le _⟩ dX6_stoolOf_27 (fun H locs hP hD hS => ?_)
    refine lv_if_eq (tgt := 37) hx hb dX6_stoolOf_30 (by decide) (fun c_30 => absurd c_30 (by rw [en3, fails_1]; decide)) (fun c_30 => ?_)
    refine lv_iconst (v := 0) hx hb dX6_stoolOf_33 (by decide) ?_
    refine lv_goto (tgt := 43) hx hb dX6_stoolOf_34 (by decide) ?_
    have e9 : fX6_stoolOf S x1 x2 = (0, n3.2) := by rw [fX6_stoolOf, if_pos c_6_1, ← en3]
    exact rUi hx hb hr hlk hQ hP hS (by rw [e9]) (congrArg (fun z9 : (Int32 × SV) => (w6 cI cC h a1 a2 a3 a4 a5 a6 a7 a8 z9.2 : va_W)) e9).symm rfl dX6_stoolOf_43
def fX6_sitterOf (S : SV) (x1 : Int32) (x2 : Int32) : (Int32 × SV) := (if (fX6_isSitter S x1) = 0 then (0, (fX6_fails S 1).2) else (if (fX6_in x2 0 4) = 0 then (0, (fX6_fails S 2).2) else (if 3 ≤ x2 then (if x2 = 4 then (if (fX6_isCat (fX6_fails S 0).2 x1) = 0 then (0, (fX6_fails S 0).2) else (1, (fX6_fails S 0).2)) else ((fX6_clashesOf (fX6_laysSeats (fX6_fails S 0).2) x1), (fX6_laysSeats (fX6_fails S 0).2))) else ((fX6_by (fX6_fails S 0).2 x1 x2), (fX6_fails S 0).2))))
def gX6_sitterOf (S : SV) (x1 : Int32) (x2 : Int32) : Prop := ((gX6_isSitter S x1) ∧ (if (fX6_isSitter S x1) = 0 then True else (if (fX6_in x2 0 4) = 0 then True else (if 3 ≤ x2 then (if x2 = 4 then ((gX6_isCat (fX6_fails S 0).2 x1) ∧ True) else ((gX6_laysSeats (fX6_fails S 0).2) ∧ (gX6_clashesOf (fX6_laysSeats (fX6_fails S 0).2) x1) ∧ True)) else ((gX6_by (fX6_fails S 0).2 x1 x2) ∧ True)))))
abbrev rmX6_sitterOf : Room := { frames := 3, cells := 0, slots := 0, locals := 69 }
set_option maxHeartbeats 4000000 in
set_option maxRecDepth 100000 in
theorem kX6_sitterOf (l : Launch) (D : va_G) (cI cC cT : ClassId) (h a1 a2 a3 a4 a5 a6 a7 a8 : Nat) (S : SV) (x1 : Int32) (x2 : Int32) (hg : gX6_sitterOf S x1 x2) : mU l D (TY cI cC cT) yX6_sitterOf wsX6_sitterOf rmX6_sitterOf [.ref h, .int x1, .int x2] (w6 cI cC h a1 a2 a3 a4 a5 a6 a7 a8 S) (some (.int (fX6_sitterOf S x1 x2).1)) (w6 cI cC h a1 a2 a3 a4 a5 a6 a7 a8 (fX6_sitterOf S x1 x2).2) := by
  refine mU.ofW (cc := cX6_sitterOf) (maxL := 3) (ret := (some .int)) (by decide) rfl (Nat.le_of_ble_eq_true rfl) ?_
  intro p e s m args below meth c Q ls A hx hb hml hr hlk hts hown hP hK hD hS hl hQ
  have hown : s.vm.findClass RX6 = some m.cls := hown
  have hP : va_P D vwCl (w6 cI cC h a1 a2 a3 a4 a5 a6 a7 a8 S) s.heap := hP
  have hD : va_D A (w6 cI cC h a1 a2 a3 a4 a5 a6 a7 a8 S) := hD
  have hl : lv_has ls 3 [(0, .ref h), (1, .int x1), (2, .int x2)] := hl
  unfold gX6_sitterOf at hg
  generalize hHe : s.heap = H at hP ⊢
  have hS : va_S A s.heap H [] := hHe ▸ hS
  generalize hLe : ([] : List Loc) = locs at hS ⊢
  refine lv_aload_n hx hb dX6_sitterOf_0 rfl (lv_at hl 0 rfl) ?_
  refine lv_aload_n hx hb dX6_sitterOf_1 rfl (lv_at hl 0 rfl) ?_
  refine lv_iload_n hx hb dX6_sitterOf_2 rfl (lv_at hl 1 rfl) ?_
  obtain ⟨o1, hg⟩ := hg
  refine fRV (As := [.int x1]) (rest := [.ref h]) (st' := [.int (fX6_isSitter S x1), .ref h]) ⟨hx, hb, hml, hown, hts⟩ (kX6_isSitter l D cI cC cT h a1 a2 a3 a4 a5 a6 a7 a8 S x1 o1) (cwV 1 hts gX6_sitterOf_X6_isSitter rfl rfl rfl (by decide +kernel) ⟨Nat.le_of_ble_eq_true rfl, Nat.le_of_ble_eq_true rfl⟩) hP hK [0, 1, 2, 3, 4, 5, 6, 7, 8] rfl 0 (ci := 7) rfl rfl rfl rfl hl.1 rfl rfl (Nat.le_of_ble_eq_true rfl) ⟨Nat.zero_le _, Nat.zero_le _⟩ dX6_sitterOf_3 ?_
  refine lv_if_ne (tgt := 13) hx hb dX6_sitterOf_6 (by decide) (fun c_6_1 => ?_) (fun c_6_1 => ?_)
  · rw [if_neg c_6_1] at hg
    refine lv_iload_n hx hb dX6_sitterOf_13 rfl (lv_at hl 2 rfl) ?_
    refine lv_iconst (v := 0) hx hb dX6_sitterOf_14 (by decide) ?_
    refine lv_iconst (v := 4) hx hb dX6_sitterOf_15 (by decide) ?_
    refine fRS (As := [.int x2, .int 0, .int 4]) (rest := [.ref h]) (st' := [.int (fX6_in x2 0 4), .ref h]) ⟨hx, hb, hml, hown, hts⟩ (kX6_in l D cI cC cT x2 0 4) (va_cwS 3 hts gX6_sitterOf_X6_in rfl rfl rfl (by decide +kernel) ⟨Nat.le_of_ble_eq_true rfl, Nat.le_of_ble_eq_true rfl⟩) hP hK [] rfl rfl hl.1 rfl rfl (Nat.le_of_ble_eq_true rfl) ⟨Nat.zero_le _, Nat.zero_le _⟩ dX6_sitterOf_16 ?_
    refine lv_if_eq (tgt := 26) hx hb dX6_sitterOf_19 (by decide) (fun c_19_2 => ?_) (fun c_19_2 => ?_)
    · rw [if_pos c_19_2] at hg
      refine lv_iconst (v := 2) hx hb dX6_sitterOf_26 (by decide) ?_
      obtain ⟨n1, en1⟩ : ∃ z9, z9 = (fX6_fails S 2) := ⟨_, rfl⟩
      try rw [← en1] at hg
      have k9 := (kX6_fails l D cI cC cT h a1 a2 a3 a4 a5 a6 a7 a8 S 2)
      rw [← en1] at k9
      refine fUV (As := [.int 2]) (rest := []) (st' := [.int n1.1]) ⟨hx, hb, hml, hown, hts⟩ k9 (cwV 1 hts gX6_sitterOf_X6_fails rfl rfl rfl (by decide +kernel) ⟨Nat.le_of_ble_eq_true rfl, Nat.le_of_ble_eq_true rfl⟩) hP hK hD hS [0, 1, 2, 3, 4, 5, 6, 7, 8] rfl rfl (by decide) rfl (w6 cI cC h a1 a2 a3 a4 a5 a6 a7 a8 n1.2) rfl rfl 0 (ci := 7) rfl rfl rfl rfl hl.1 rfl rfl (Nat.le_of_ble_eq_true rfl) ⟨Nat.zero_le _, Nat.zero_le _⟩ dX6_sitterOf_27 (fun H locs hP hD hS => ?_)
      refine lv_if_eq (tgt := 35) hx hb dX6_sitterOf_30 (by decide) (fun c_30 => absurd c_30 (by rw [en1, fails_2]; decide)) (fun c_30 => ?_)
      refine lv_iconst (v := 0) hx hb dX6_sitterOf_33 (by decide) ?_
      have e9 : fX6_sitterOf S x1 x2 = (0, n1.2) := by rw [fX6_sitterOf, if_neg c_6_1, if_pos c_19_2, ← en1]
      exact rUi hx hb hr hlk hQ hP hS (by rw [e9]) (congrArg (fun z9 : (Int32 × SV) => (w6 cI cC h a1 a2 a3 a4 a5 a6 a7 a8 z9.2 : va_W)) e9).symm rfl dX6_sitterOf_34
    · rw [if_neg c_19_2] at hg
      refine lv_iconst (v := 0) hx hb dX6_sitterOf_22 (by decide) ?_
      refine lv_goto (tgt := 27) hx hb dX6_sitterOf_23 (by decide) ?_
      obtain ⟨n2, en2⟩ : ∃ z9, z9 = (fX6_fails S 0) := ⟨_, rfl⟩
      try rw [← en2] at hg
      have k9 := (kX6_fails l D cI cC cT h a1 a2 a3 a4 a5 a6 a7 a8 S 0)
      rw [← en2] at k9
      refine fUV (As := [.int 0]) (rest := []) (st' := [.int n2.1]) ⟨hx, hb, hml, hown, hts⟩ k9 (cwV 1 hts gX6_sitterOf_X6_fails rfl rfl rfl (by decide +kernel) ⟨Nat.le_of_ble_eq_true rfl, Nat.le_of_ble_eq_true rfl⟩) hP hK hD hS [0, 1, 2, 3, 4, 5, 6, 7, 8] rfl rfl (by decide) rfl (w6 cI cC h a1 a2 a3 a4 a5 a6 a7 a8 n2.2) rfl rfl 0 (ci := 7) rfl rfl rfl rfl hl.1 rfl rfl (Nat.le_of_ble_eq_true rfl) ⟨Nat.zero_le _, Nat.zero_le _⟩ dX6_sitterOf_27 (fun H locs hP hD hS => ?_)
      refine lv_if_eq (tgt := 35) hx hb dX6_sitterOf_30 (by decide) (fun c_30 => ?_) (fun c_30 => absurd (by rw [en2]; exact fails_0 _) c_30)
      refine lv_iload_n hx hb dX6_sitterOf_35 rfl (lv_at hl 2 rfl) ?_
      refine lv_iconst (v := 3) hx hb dX6_sitterOf_36 (by decide) ?_
      refine lv_icmp_ge (tgt := 47) hx hb dX6_sitterOf_37 (by decide) (fun c_37_3 => ?_) (fun c_37_3 => ?_)
      · rw [if_pos c_37_3] at hg
        refine lv_iload_n hx hb dX6_sitterOf_47 rfl (lv_at hl 2 rfl) ?_
        refine lv_iconst (v := 4) hx hb dX6_sitterOf_48 (by decide) ?_
        refine lv_icmp_ne (tgt := 66) hx hb dX6_sitterOf_49 (by decide) (fun c_49_4 => ?_) (fun c_49_4 => ?_)
        · rw [if_neg c_49_4] at hg
          refine lv_aload_n hx hb dX6_sitterOf_66 rfl (lv_at hl 0 rfl) ?_
          obtain ⟨n3, en3⟩ : ∃ z9, z9 = (fX6_laysSeats n2.2) := ⟨_, rfl⟩
          try rw [← en3] at hg
          obtain ⟨o2, hg⟩ := hg
          have k9 := (kX6_laysSeats l D cI cC cT h a1 a2 a3 a4 a5 a6 a7 a8 n2.2 o2)
          rw [← en3] at k9
          refine fUV (As := []) (rest := []) (st' := []) ⟨hx, hb, hml, hown, hts⟩ k9 (cwV 0 hts gX6_sitterOf_X6_laysSeats rfl rfl rfl (by decide +kernel) ⟨Nat.le_of_ble_eq_true rfl, Nat.le_of_ble_eq_true rfl⟩) hP hK hD hS [0, 1, 2, 3, 4, 5, 6, 7, 8] rfl rfl (by decide) rfl (w6 cI cC h a1 a2 a3 a4 a5 a6 a7 a8 n3) rfl rfl 0 (ci := 7) rfl rfl rfl rfl hl.1 rfl rfl (Nat.le_of_ble_eq_true rfl) ⟨Nat.zero_le _, Nat.zero_le _⟩ dX6_sitterOf_67 (fun H locs hP hD hS => ?_)
          refine lv_aload_n hx hb dX6_sitterOf_70 rfl (lv_at hl 0 rfl) ?_
          refine lv_iload_n hx hb dX6_sitterOf_71 rfl (lv_at hl 1 rfl) ?_
          obtain ⟨o3, hg⟩ := hg
          refine fRV (As := [.int x1]) (rest := []) (st' := [.int (fX6_clashesOf n3 x1)]) ⟨hx, hb, hml, hown, hts⟩ (kX6_clashesOf l D cI cC cT h a1 a2 a3 a4 a5 a6 a7 a8 n3 x1 o3) (cwV 1 hts gX6_sitterOf_X6_clashesOf rfl rfl rfl (by decide +kernel) ⟨Nat.le_of_ble_eq_true rfl, Nat.le_of_ble_eq_true rfl⟩) hP hK [0, 1, 2, 3, 4, 5, 6, 7, 8] rfl 0 (ci := 7) rfl rfl rfl rfl hl.1 rfl rfl (Nat.le_of_ble_eq_true rfl) ⟨Nat.zero_le _, Nat.zero_le _⟩ dX6_sitterOf_72 ?_
          have e9 : fX6_sitterOf S x1 x2 = ((fX6_clashesOf n3 x1), n3) := by rw [fX6_sitterOf, if_neg c_6_1, if_neg c_19_2, ← en2, if_pos c_37_3, if_neg c_49_4, ← en3]
          exact rUi hx hb hr hlk hQ hP hS (by rw [e9]) (congrArg (fun z9 : (Int32 × SV) => (w6 cI cC h a1 a2 a3 a4 a5 a6 a7 a8 z9.2 : va_W)) e9).symm rfl dX6_sitterOf_75
        · rw [if_pos c_49_4] at hg
          refine lv_aload_n hx hb dX6_sitterOf_52 rfl (lv_at hl 0 rfl) ?_
          refine lv_iload_n hx hb dX6_sitterOf_53 rfl (lv_at hl 1 rfl) ?_
          obtain ⟨o4, hg⟩ := hg
          refine fRV (As := [.int x1]) (rest := []) (st' := [.int (fX6_isCat n2.2 x1)]) ⟨hx, hb, hml, hown, hts⟩ (kX6_isCat l D cI cC cT h a1 a2 a3 a4 a5 a6 a7 a8 n2.2 x1 o4) (cwV 1 hts gX6_sitterOf_X6_isCat rfl rfl rfl (by decide +kernel) ⟨Nat.le_of_ble_eq_true rfl, Nat.le_of_ble_eq_true rfl⟩) hP hK [0, 1, 2, 3, 4, 5, 6, 7, 8] rfl 0 (ci := 7) rfl rfl rfl rfl hl.1 rfl rfl (Nat.le_of_ble_eq_true rfl) ⟨Nat.zero_le _, Nat.zero_le _⟩ dX6_sitterOf_54 ?_
          refine lv_if_eq (tgt := 64) hx hb dX6_sitterOf_57 (by decide) (fun c_57_5 => ?_) (fun c_57_5 => ?_)
          · refine lv_iconst (v := 0) hx hb dX6_sitterOf_64 (by decide) ?_
            have e9 : fX6_sitterOf S x1 x2 = (0, n2.2) := by rw [fX6_sitterOf, if_neg c_6_1, if_neg c_19_2, ← en2, if_pos c_37_3, if_pos c_49_4, if_pos c_57_5]
            exact rUi hx hb hr hlk hQ hP hS (by rw [e9]) (congrArg (fun z9 : (Int32 × SV) => (w6 cI cC h a1 a2 a3 a4 a5 a6 a7 a8 z9.2 : va_W)) e9).symm rfl dX6_sitterOf_65
          · refine lv_iconst (v := 1) hx hb dX6_sitterOf_60 (by decide) ?_
            refine lv_goto (tgt := 65) hx hb dX6_sitterOf_61 (by decide) ?_
            have e9 : fX6_sitterOf S x1 x2 = (1, n2.2) := by rw [fX6_sitterOf, if_neg c_6_1, if_neg c_19_2, ← en2, if_pos c_37_3, if_pos c_49_4, if_neg c_57_5]
            exact rUi hx hb hr hlk hQ hP hS (by rw [e9]) (congrArg (fun z9 : (Int32 × SV) => (w6 cI cC h a1 a2 a3 a4 a5 a6 a7 a8 z9.2 : va_W)) e9).symm rfl dX6_sitterOf_65
      · rw [if_neg c_37_3] at hg
        refine lv_aload_n hx hb dX6_sitterOf_40 rfl (lv_at hl 0 rfl) ?_
        refine lv_iload_n hx hb dX6_sitterOf_41 rfl (lv_at hl 1 rfl) ?_
        refine lv_iload_n hx hb dX6_sitterOf_42 rfl (lv_at hl 2 rfl) ?_
        obtain ⟨o5, hg⟩ := hg
        refine fRV (As := [.int x1, .int x2]) (rest := []) (st' := [.int (fX6_by n2.2 x1 x2)]) ⟨hx, hb, hml, hown, hts⟩ (kX6_by l D cI cC cT h a1 a2 a3 a4 a5 a6 a7 a8 n2.2 x1 x2 o5) (cwV 2 hts gX6_sitterOf_X6_by rfl rfl rfl (by decide +kernel) ⟨Nat.le_of_ble_eq_true rfl, Nat.le_of_ble_eq_true rfl⟩) hP hK [0, 1, 2, 3, 4, 5, 6, 7, 8] rfl 0 (ci := 7) rfl rfl rfl rfl hl.1 rfl rfl (Nat.le_of_ble_eq_true rfl) ⟨Nat.zero_le _, Nat.zero_le _⟩ dX6_sitterOf_43 ?_
        have e9 : fX6_sitterOf S x1 x2 = ((fX6_by n2.2 x1 x2), n2.2) := by rw [fX6_sitterOf, if_neg c_6_1, if_neg c_19_2, ← en2, if_neg c_37_3]
        exact rUi hx hb hr hlk hQ hP hS (by rw [e9]) (congrArg (fun z9 : (Int32 × SV) => (w6 cI cC h a1 a2 a3 a4 a5 a6 a7 a8 z9.2 : va_W)) e9).symm rfl dX6_sitterOf_46
  · rw [if_pos c_6_1] at hg
    refine lv_iconst (v := 1) hx hb dX6_sitterOf_9 (by decide) ?_
    refine lv_goto (tgt := 27) hx hb dX6_sitterOf_10 (by decide) ?_
    obtain ⟨n4, en4⟩ : ∃ z9, z9 = (fX6_fails S 1) := ⟨_, rfl⟩
    try rw [← en4] at hg
    have k9 := (kX6_fails l D cI cC cT h a1 a2 a3 a4 a5 a6 a7 a8 S 1)
    rw [← en4] at k9
    refine fUV (As := [.int 1]) (rest := []) (st' := [.int n4.1]) ⟨hx, hb, hml, hown, hts⟩ k9 (cwV 1 hts gX6_sitterOf_X6_fails rfl rfl rfl (by decide +kernel) ⟨Nat.le_of_ble_eq_true rfl, Nat.le_of_ble_eq_true rfl⟩) hP hK hD hS [0, 1, 2, 3, 4, 5, 6, 7, 8] rfl rfl (by decide) rfl (w6 cI cC h a1 a2 a3 a4 a5 a6 a7 a8 n4.2) rfl rfl 0 (ci := 7) rfl rfl rfl rfl hl.1 rfl rfl (Nat.le_of_ble_eq_true rfl) ⟨Nat.zero_le _, Nat.zero_le _⟩ dX6_sitterOf_27 (fun H locs hP hD hS => ?_)
    refine lv_if_eq (tgt := 35) hx hb dX6_sitterOf_30 (by decide) (fun c_30 => absurd c_30 (by rw [en4, fails_1]; decide)) (fun c_30 => ?_)
    refine lv_iconst (v := 0) hx hb dX6_sitterOf_33 (by decide) ?_
    have e9 : fX6_sitterOf S x1 x2 = (0, n4.2) := by rw [fX6_sitterOf, if_pos c_6_1, ← en4]
    exact rUi hx hb hr hlk hQ hP hS (by rw [e9]) (congrArg (fun z9 : (Int32 × SV) => (w6 cI cC h a1 a2 a3 a4 a5 a6 a7 a8 z9.2 : va_W)) e9).symm rfl dX6_sitterOf_34
def fX6_clashes (S : SV) (x1 : Int32) : (Int32 × SV) := ((fX6_clashesTried (fX6_laysSeats (sS12 0 S))), (fX6_laysSeats (sS12 0 S)))
def gX6_clashes (S : SV) (x1 : Int32) : Prop := ((gX6_laysSeats (sS12 0 S)) ∧ (gX6_clashesTried (fX6_laysSeats (sS12 0 S))) ∧ True)
abbrev rmX6_clashes : Room := { frames := 4, cells := 0, slots := 0, locals := 91 }
set_option maxHeartbeats 4000000 in
set_option maxRecDepth 100000 in
theorem kX6_clashes (l : Launch) (D : va_G) (cI cC cT : ClassId) (h a1 a2 a3 a4 a5 a6 a7 a8 : Nat) (S : SV) (x1 : Int32) (hg : gX6_clashes S x1) : mU l D (TY cI cC cT) yX6_clashes wsX6_clashes rmX6_clashes [.ref h, .int x1] (w6 cI cC h a1 a2 a3 a4 a5 a6 a7 a8 S) (some (.int (fX6_clashes S x1).1)) (w6 cI cC h a1 a2 a3 a4 a5 a6 a7 a8 (fX6_clashes S x1).2) := by
  refine mU.ofW (cc := cX6_clashes) (maxL := 2) (ret := (some .int)) (by decide) rfl (Nat.le_of_ble_eq_true rfl) ?_
  intro p e s m args below meth c Q ls A hx hb hml hr hlk hts hown hP hK hD hS hl hQ
  have hown : s.vm.findClass RX6 = some m.cls := hown
  have hP : va_P D vwCl (w6 cI cC h a1 a2 a3 a4 a5 a6 a7 a8 S) s.heap := hP
  have hD : va_D A (w6 cI cC h a1 a2 a3 a4 a5 a6 a7 a8 S) := hD
  have hl : lv_has ls 2 [(0, .ref h), (1, .int x1)] := hl
  have q0 := hts (Cond.fieldLink RX6 39 "TavernStoolsModel" "code" "I") (by decide +kernel)
  have q1 : ∀ w ∈ u_ws RX6 TX6 20, w ∈ wsX6_clashes := by decide +kernel
  unfold gX6_clashes at hg
  generalize hHe : s.heap = H at hP ⊢
  have hS : va_S A s.heap H [] := hHe ▸ hS
  generalize hLe : ([] : List Loc) = locs at hS ⊢
  refine lv_aload_n hx hb dX6_clashes_0 rfl (lv_at hl 0 rfl) ?_
  refine lv_iconst (v := 0) hx hb dX6_clashes_1 (by decide) ?_
  refine va_put (D := D) (ci := 7) (v := .int 0) (ty := .int) (C := RX6) (T := TX6) (N := 20) hx hb hts q1 tyX6 tyX6_ok nmX6 hown hK hP hD hS 0 rfl rfl 8 (by decide) q0 (fun _ h9 => h9) rfl (by decide +kernel) rfl rfl (Nat.le_of_ble_eq_true rfl) dX6_clashes_2 (fun H locs hP hD hS => ?_)
  have hP : va_P D vwCl (w6 cI cC h a1 a2 a3 a4 a5 a6 a7 a8 (sS12 0 S)) H := w6p_12 hP
  have hD : va_D A (w6 cI cC h a1 a2 a3 a4 a5 a6 a7 a8 (sS12 0 S)) := w6d_12 hD
  refine lv_aload_n hx hb dX6_clashes_5 rfl (lv_at hl 0 rfl) ?_
  obtain ⟨n1, en1⟩ : ∃ z9, z9 = (fX6_laysSeats (sS12 0 S)) := ⟨_, rfl⟩
  try rw [← en1] at hg
  obtain ⟨o1, hg⟩ := hg
  have k9 := (kX6_laysSeats l D cI cC cT h a1 a2 a3 a4 a5 a6 a7 a8 (sS12 0 S) o1)
  rw [← en1] at k9
  refine fUV (As := []) (rest := []) (st' := []) ⟨hx, hb, hml, hown, hts⟩ k9 (cwV 0 hts gX6_clashes_X6_laysSeats rfl rfl rfl (by decide +kernel) ⟨Nat.le_of_ble_eq_true rfl, Nat.le_of_ble_eq_true rfl⟩) hP hK hD hS [0, 1, 2, 3, 4, 5, 6, 7, 8] rfl rfl (by decide) rfl (w6 cI cC h a1 a2 a3 a4 a5 a6 a7 a8 n1) rfl rfl 0 (ci := 7) rfl rfl rfl rfl hl.1 rfl rfl (Nat.le_of_ble_eq_true rfl) ⟨Nat.zero_le _, Nat.zero_le _⟩ dX6_clashes_6 (fun H locs hP hD hS => ?_)
  refine lv_aload_n hx hb dX6_clashes_9 rfl (lv_at hl 0 rfl) ?_
  obtain ⟨o2, hg⟩ := hg
  refine fRV (As := []) (rest := []) (st' := [.int (fX6_clashesTried n1)]) ⟨hx, hb, hml, hown, hts⟩ (kX6_clashesTried l D cI cC cT h a1 a2 a3 a4 a5 a6 a7 a8 n1 o2) (cwV 0 hts gX6_clashes_X6_clashesTried rfl rfl rfl (by decide +kernel) ⟨Nat.le_of_ble_eq_true rfl, Nat.le_of_ble_eq_true rfl⟩) hP hK [0, 1, 2, 3, 4, 5, 6, 7, 8] rfl 0 (ci := 7) rfl rfl rfl rfl hl.1 rfl rfl (Nat.le_of_ble_eq_true rfl) ⟨Nat.zero_le _, Nat.zero_le _⟩ dX6_clashes_10 ?_
  have e9 : fX6_clashes S x1 = ((fX6_clashesTried n1), n1) := by rw [fX6_clashes, ← en1]
  exact rUi hx hb hr hlk hQ hP hS (by rw [e9]) (congrArg (fun z9 : (Int32 × SV) => (w6 cI cC h a1 a2 a3 a4 a5 a6 a7 a8 z9.2 : va_W)) e9).symm rfl dX6_clashes_13
def fX6_clash (S : SV) (x1 : Int32) (x2 : Int32) : (Int32 × SV) := (if (fX6_isSitter S x1) = 0 then (0, (fX6_fails S 1).2) else (if (fX6_isSitter S x2) = 0 then (0, (fX6_fails S 1).2) else ((fX6_areClashing (fX6_laysSeats (fX6_fails S 0).2) x1 x2), (fX6_laysSeats (fX6_fails S 0).2))))
def gX6_clash (S : SV) (x1 : Int32) (x2 : Int32) : Prop := ((gX6_isSitter S x1) ∧ (if (fX6_isSitter S x1) = 0 then True else ((gX6_isSitter S x2) ∧ (if (fX6_isSitter S x2) = 0 then True else ((gX6_laysSeats (fX6_fails S 0).2) ∧ (gX6_areClashing (fX6_laysSeats (fX6_fails S 0).2) x1 x2) ∧ True)))))
abbrev rmX6_clash : Room := { frames := 2, cells := 0, slots := 0, locals := 46 }
set_option maxHeartbeats 4000000 in
set_option maxRecDepth 100000 in
theorem kX6_clash (l : Launch) (D : va_G) (cI cC cT : ClassId) (h a1 a2 a3 a4 a5 a6 a7 a8 : Nat) (S : SV) (x1 : Int32) (x2 : Int32) (hg : gX6_clash S x1 x2) : mU l D (TY cI cC cT) yX6_clash wsX6_clash rmX6_clash [.ref h, .int x1, .int x2] (w6 cI cC h a1 a2 a3 a4 a5 a6 a7 a8 S) (some (.int (fX6_clash S x1 x2).1)) (w6 cI cC h a1 a2 a3 a4 a5 a6 a7 a8 (fX6_clash S x1 x2).2) := by
  refine mU.ofW (cc := cX6_clash) (maxL := 3) (ret := (some .boolean)) (by decide) rfl (Nat.le_of_ble_eq_true rfl) ?_
  intro p e s m args below meth c Q ls A hx hb hml hr hlk hts hown hP hK hD hS hl hQ
  have hown : s.vm.findClass RX6 = some m.cls := hown
  have hP : va_P D vwCl (w6 cI cC h a1 a2 a3 a4 a5 a6 a7 a8 S) s.heap := hP
  have hD : va_D A (w6 cI cC h a1 a2 a3 a4 a5 a6 a7 a8 S) := hD
  have hl : lv_has ls 3 [(0, .ref h), (1, .int x1), (2, .int x2)] := hl
  unfold gX6_clash at hg
  generalize hHe : s.heap = H at hP ⊢
  have hS : va_S A s.heap H [] := hHe ▸ hS
  generalize hLe : ([] : List Loc) = locs at hS ⊢
  refine lv_aload_n hx hb dX6_clash_0 rfl (lv_at hl 0 rfl) ?_
  refine lv_aload_n hx hb dX6_clash_1 rfl (lv_at hl 0 rfl) ?_
  refine lv_iload_n hx hb dX6_clash_2 rfl (lv_at hl 1 rfl) ?_
  obtain ⟨o1, hg⟩ := hg
  refine fRV (As := [.int x1]) (rest := [.ref h]) (st' := [.int (fX6_isSitter S x1), .ref h]) ⟨hx, hb, hml, hown, hts⟩ (kX6_isSitter l D cI cC cT h a1 a2 a3 a4 a5 a6 a7 a8 S x1 o1) (cwV 1 hts gX6_clash_X6_isSitter rfl rfl rfl (by decide +kernel) ⟨Nat.le_of_ble_eq_true rfl, Nat.le_of_ble_eq_true rfl⟩) hP hK [0, 1, 2, 3, 4, 5, 6, 7, 8] rfl 0 (ci := 7) rfl rfl rfl rfl hl.1 rfl rfl (Nat.le_of_ble_eq_true rfl) ⟨Nat.zero_le _, Nat.zero_le _⟩ dX6_clash_3 ?_
  refine lv_if_eq (tgt := 21) hx hb dX6_clash_6 (by decide) (fun c_6_1 => ?_) (fun c_6_1 => ?_)
  · rw [if_pos c_6_1] at hg
    refine lv_iconst (v := 1) hx hb dX6_clash_21 (by decide) ?_
    obtain ⟨n1, en1⟩ : ∃ z9, z9 = (fX6_fails S 1) := ⟨_, rfl⟩
    try rw [← en1] at hg
    have k9 := (kX6_fails l D cI cC cT h a1 a2 a3 a4 a5 a6 a7 a8 S 1)
    rw [← en1] at k9
    refine fUV (As := [.int 1]) (rest := []) (st' := [.int n1.1]) ⟨hx, hb, hml, hown, hts⟩ k9 (cwV 1 hts gX6_clash_X6_fails rfl rfl rfl (by decide +kernel) ⟨Nat.le_of_ble_eq_true rfl, Nat.le_of_ble_eq_true rfl⟩) hP hK hD hS [0, 1, 2, 3, 4, 5, 6, 7, 8] rfl rfl (by decide) rfl (w6 cI cC h a1 a2 a3 a4 a5 a6 a7 a8 n1.2) rfl rfl 0 (ci := 7) rfl rfl rfl rfl hl.1 rfl rfl (Nat.le_of_ble_eq_true rfl) ⟨Nat.zero_le _, Nat.zero_le _⟩ dX6_clash_22 (fun H locs hP hD hS => ?_)
    refine lv_if_eq (tgt := 30) hx hb dX6_clash_25 (by decide) (fun c_25 => absurd c_25 (by rw [en1, fails_1]; decide)) (fun c_25 => ?_)
    refine lv_iconst (v := 0) hx hb dX6_clash_28 (by decide) ?_
    have e9 : fX6_clash S x1 x2 = (0, n1.2) := by rw [fX6_clash, if_pos c_6_1, ← en1]
    exact rUi hx hb hr hlk hQ hP hS (by rw [e9]) (congrArg (fun z9 : (Int32 × SV) => (w6 cI cC h a1 a2 a3 a4 a5 a6 a7 a8 z9.2 : va_W)) e9).symm rfl dX6_clash_29
  · rw [if_neg c_6_1] at hg
    refine lv_aload_n hx hb dX6_clash_9 rfl (lv_at hl 0 rfl) ?_
    refine lv_iload_n hx hb dX6_clash_10 rfl (lv_at hl 2 rfl) ?_
    obtain ⟨o2, hg⟩ := hg
    refine fRV (As := [.int x2]) (rest := [.ref h]) (st' := [.int (fX6_isSitter S x2), .ref h]) ⟨hx, hb, hml, hown, hts⟩ (kX6_isSitter l D cI cC cT h a1 a2 a3 a4 a5 a6 a7 a8 S x2 o2) (cwV 1 hts gX6_clash_X6_isSitter rfl rfl rfl (by decide +kernel) ⟨Nat.le_of_ble_eq_true rfl, Nat.le_of_ble_eq_true rfl⟩) hP hK [0, 1, 2, 3, 4, 5, 6, 7, 8] rfl 0 (ci := 7) rfl rfl rfl rfl hl.1 rfl rfl (Nat.le_of_ble_eq_true rfl) ⟨Nat.zero_le _, Nat.zero_le _⟩ dX6_clash_11 ?_
    refine lv_if_eq (tgt := 21) hx hb dX6_clash_14 (by decide) (fun c_14_2 => ?_) (fun c_14_2 => ?_)
    · rw [if_pos c_14_2] at hg
      refine lv_iconst (v := 1) hx hb dX6_clash_21 (by decide) ?_
      obtain ⟨n2, en2⟩ : ∃ z9, z9 = (fX6_fails S 1) := ⟨_, rfl⟩
      try rw [← en2] at hg
      have k9 := (kX6_fails l D cI cC cT h a1 a2 a3 a4 a5 a6 a7 a8 S 1)
      rw [← en2] at k9
      refine fUV (As := [.int 1]) (rest := []) (st' := [.int n2.1]) ⟨hx, hb, hml, hown, hts⟩ k9 (cwV 1 hts gX6_clash_X6_fails rfl rfl rfl (by decide +kernel) ⟨Nat.le_of_ble_eq_true rfl, Nat.le_of_ble_eq_true rfl⟩) hP hK hD hS [0, 1, 2, 3, 4, 5, 6, 7, 8] rfl rfl (by decide) rfl (w6 cI cC h a1 a2 a3 a4 a5 a6 a7 a8 n2.2) rfl rfl 0 (ci := 7) rfl rfl rfl rfl hl.1 rfl rfl (Nat.le_of_ble_eq_true rfl) ⟨Nat.zero_le _, Nat.zero_le _⟩ dX6_clash_22 (fun H locs hP hD hS => ?_)
      refine lv_if_eq (tgt := 30) hx hb dX6_clash_25 (by decide) (fun c_25 => absurd c_25 (by rw [en2, fails_1]; decide)) (fun c_25 => ?_)
      refine lv_iconst (v := 0) hx hb dX6_clash_28 (by decide) ?_
      have e9 : fX6_clash S x1 x2 = (0, n2.2) := by rw [fX6_clash, if_neg c_6_1, if_pos c_14_2, ← en2]
      exact rUi hx hb hr hlk hQ hP hS (by rw [e9]) (congrArg (fun z9 : (Int32 × SV) => (w6 cI cC h a1 a2 a3 a4 a5 a6 a7 a8 z9.2 : va_W)) e9).symm rfl dX6_clash_29
    · rw [if_neg c_14_2] at hg
      refine lv_iconst (v := 0) hx hb dX6_clash_17 (by decide) ?_
      refine lv_goto (tgt := 22) hx hb dX6_clash_18 (by decide) ?_
      obtain ⟨n3, en3⟩ : ∃ z9, z9 = (fX6_fails S 0) := ⟨_, rfl⟩
      try rw [← en3] at hg
      have k9 := (kX6_fails l D cI cC cT h a1 a2 a3 a4 a5 a6 a7 a8 S 0)
      rw [← en3] at k9
      refine fUV (As := [.int 0]) (rest := []) (st' := [.int n3.1]) ⟨hx, hb, hml, hown, hts⟩ k9 (cwV 1 hts gX6_clash_X6_fails rfl rfl rfl (by decide +kernel) ⟨Nat.le_of_ble_eq_true rfl, Nat.le_of_ble_eq_true rfl⟩) hP hK hD hS [0, 1, 2, 3, 4, 5, 6, 7, 8] rfl rfl (by decide) rfl (w6 cI cC h a1 a2 a3 a4 a5 a6 a7 a8 n3.2) rfl rfl 0 (ci := 7) rfl rfl rfl rfl hl.1 rfl rfl (Nat.le_of_ble_eq_true rfl) ⟨Nat.zero_le _, Nat.zero_le _⟩ dX6_clash_22 (fun H locs hP hD hS => ?_)
      refine lv_if_eq (tgt := 30) hx hb dX6_clash_25 (by decide) (fun c_25 => ?_) (fun c_25 => absurd (by rw [en3]; exact fails_0 _) c_25)
      refine lv_aload_n hx hb dX6_clash_30 rfl (lv_at hl 0 rfl) ?_
      obtain ⟨n4, en4⟩ : ∃ z9, z9 = (fX6_laysSeats n3.2) := ⟨_, rfl⟩
      try rw [← en4] at hg
      obtain ⟨o3, hg⟩ := hg
      have k9 := (kX6_laysSeats l D cI cC cT h a1 a2 a3 a4 a5 a6 a7 a8 n3.2 o3)
      rw [← en4] at k9
      refine fUV (As := []) (rest := []) (st' := []) ⟨hx, hb, hml, hown, hts⟩ k9 (cwV 0 hts gX6_clash_X6_laysSeats rfl rfl rfl (by decide +kernel) ⟨Nat.le_of_ble_eq_true rfl, Nat.le_of_ble_eq_true rfl⟩) hP hK hD hS [0, 1, 2, 3, 4, 5, 6, 7, 8] rfl rfl (by decide) rfl (w6 cI cC h a1 a2 a3 a4 a5 a6 a7 a8 n4) rfl rfl 0 (ci := 7) rfl rfl rfl rfl hl.1 rfl rfl (Nat.le_of_ble_eq_true rfl) ⟨Nat.zero_le _, Nat.zero_le _⟩ dX6_clash_31 (fun H locs hP hD hS => ?_)
      refine lv_aload_n hx hb dX6_clash_34 rfl (lv_at hl 0 rfl) ?_
      refine lv_iload_n hx hb dX6_clash_35 rfl (lv_at hl 1 rfl) ?_
      refine lv_iload_n hx hb dX6_clash_36 rfl (lv_at hl 2 rfl) ?_
      obtain ⟨o4, hg⟩ := hg
      refine fRV (As := [.int x1, .int x2]) (rest := []) (st' := [.int (fX6_areClashing n4 x1 x2)]) ⟨hx, hb, hml, hown, hts⟩ (kX6_areClashing l D cI cC cT h a1 a2 a3 a4 a5 a6 a7 a8 n4 x1 x2 o4) (cwV 2 hts gX6_clash_X6_areClashing rfl rfl rfl (by decide +kernel) ⟨Nat.le_of_ble_eq_true rfl, Nat.le_of_ble_eq_true rfl⟩) hP hK [0, 1, 2, 3, 4, 5, 6, 7, 8] rfl 0 (ci := 7) rfl rfl rfl rfl hl.1 rfl rfl (Nat.le_of_ble_eq_true rfl) ⟨Nat.zero_le _, Nat.zero_le _⟩ dX6_clash_37 ?_
      have e9 : fX6_clash S x1 x2 = ((fX6_areClashing n4 x1 x2), n4) := by rw [fX6_clash, if_neg c_6_1, if_neg c_14_2, ← en3, ← en4]
      exact rUi hx hb hr hlk hQ hP hS (by rw [e9]) (congrArg (fun z9 : (Int32 × SV) => (w6 cI cC h a1 a2 a3 a4 a5 a6 a7 a8 z9.2 : va_W)) e9).symm (nzb (zX6_areClashing n4 x1 x2)) dX6_clash_40
theorem zX6_clash (S : SV) (x1 : Int32) (x2 : Int32) : (fX6_clash S x1 x2).1 = 0 ∨ (fX6_clash S x1 x2).1 = 1 := by
  unfold fX6_clash
  repeat' split
  all_goals first | exact Or.inl rfl | exact Or.inr rfl | exact zX6_areClashing .. | exact zX6_fails .. | exact zX6_isSitter ..
