def fX5_refuse (S : CV) (x1 : Int32) (x2 : Int32) : (Int32 × CV) := ((-3), (S.1, S.2.1, x1, x2))
abbrev rmX5_refuse : Room := { frames := 0, cells := 0, slots := 0, locals := 0 }
set_option maxHeartbeats 4000000 in
set_option maxRecDepth 100000 in
theorem kX5_refuse (l : Launch) (D : va_G) (cI cC cT : ClassId) (x ot ou ov oh ox oy : Nat) (S : CV) (x1 : Int32) (x2 : Int32)  : mU l D (TY cI cC cT) yX5_refuse wsX5_refuse rmX5_refuse [.ref x, .int x1, .int x2] (w5 x ot ou ov oh ox oy S) (some (.int (fX5_refuse S x1 x2).1)) (w5 x ot ou ov oh ox oy (fX5_refuse S x1 x2).2) := by
  refine mU.ofW (cc := cX5_refuse) (maxL := 3) (ret := (some .int)) (by decide) rfl (Nat.le_of_ble_eq_true rfl) ?_
  intro p e s m args below meth c Q ls A hx hb hml hr hlk hts hown hP hK hD hS hl hQ
  have hown : s.vm.findClass RX5 = some m.cls := hown
  have hP : va_P D vwCl [(x, .inr (6, [.ref ot, .ref ou, .ref ov, .ref oh, .ref ox, .ref oy, .int S.1, .int S.2.1, .int S.2.2.1, .int S.2.2.2]))] s.heap := hP
  have hD : va_D A [(x, .inr (6, [.ref ot, .ref ou, .ref ov, .ref oh, .ref ox, .ref oy, .int S.1, .int S.2.1, .int S.2.2.1, .int S.2.2.2]))] := hD
  have hl : lv_has ls 3 [(0, .ref x), (1, .int x1), (2, .int x2)] := hl
  have q0 := hts (Cond.fieldLink RX5 51 "TavernStools" "lastReason" "I") (by decide +kernel)
  have q1 : ∀ w ∈ u_ws RX5 TX5 10, w ∈ wsX5_refuse := by decide +kernel
  have q2 := hts (Cond.fieldLink RX5 54 "TavernStools" "lastDetail" "I") (by decide +kernel)
  generalize hHe : s.heap = H at hP ⊢
  have hS : va_S A s.heap H [] := hHe ▸ hS
  generalize hLe : ([] : List Loc) = locs at hS ⊢
  refine lv_aload_n hx hb dX5_refuse_0 rfl (lv_at hl 0 rfl) ?_
  refine lv_iload_n hx hb dX5_refuse_1 rfl (lv_at hl 1 rfl) ?_
  refine va_put (D := D) (ci := 6) (v := .int x1) (ty := .int) (C := RX5) (T := TX5) (N := 10) hx hb hts q1 tyX5 tyX5_ok nmX5 hown hK hP hD hS 0 rfl rfl 8 (by decide) q0 (fun _ h9 => h9) rfl (by decide +kernel) rfl rfl (Nat.le_of_ble_eq_true rfl) dX5_refuse_2 (fun H locs hP hD hS => ?_)
  have hP : va_P D vwCl [(x, .inr (6, [.ref ot, .ref ou, .ref ov, .ref oh, .ref ox, .ref oy, .int S.1, .int S.2.1, .int x1, .int S.2.2.2]))] H := hP
  have hD : va_D A [(x, .inr (6, [.ref ot, .ref ou, .ref ov, .ref oh, .ref ox, .ref oy, .int S.1, .int S.2.1, .int x1, .int S.2.2.2]))] := hD
  refine lv_aload_n hx hb dX5_refuse_5 rfl (lv_at hl 0 rfl) ?_
  refine lv_iload_n hx hb dX5_refuse_6 rfl (lv_at hl 2 rfl) ?_
  refine va_put (D := D) (ci := 6) (v := .int x2) (ty := .int) (C := RX5) (T := TX5) (N := 10) hx hb hts q1 tyX5 tyX5_ok nmX5 hown hK hP hD hS 0 rfl rfl 9 (by decide) q2 (fun _ h9 => h9) rfl (by decide +kernel) rfl rfl (Nat.le_of_ble_eq_true rfl) dX5_refuse_7 (fun H locs hP hD hS => ?_)
  have hP : va_P D vwCl [(x, .inr (6, [.ref ot, .ref ou, .ref ov, .ref oh, .ref ox, .ref oy, .int S.1, .int S.2.1, .int x1, .int x2]))] H := hP
  have hD : va_D A [(x, .inr (6, [.ref ot, .ref ou, .ref ov, .ref oh, .ref ox, .ref oy, .int S.1, .int S.2.1, .int x1, .int x2]))] := hD
  refine lv_bipush (v := (-3)) hx hb dX5_refuse_10 (by decide) ?_
  have e9 : fX5_refuse S x1 x2 = ((-3), (S.1, S.2.1, x1, x2)) := by rw [fX5_refuse]
  exact rUi hx hb hr hlk hQ hP hS (by rw [e9]) (congrArg (fun z9 : (Int32 × CV) => w5 x ot ou ov oh ox oy z9.2) e9).symm rfl dX5_refuse_12
def fX5_setUpStool (S : CV) (T : TV) (x1 : Int32) (x2 : Int32) (x3 : Int32) (x4 : Int32) : (Int32 × CV × TV) := (if x1 < 1 then ((-2), S, T) else (if 40 < x1 then ((-2), S, T) else (if x2 < 0 then ((-2), S, T) else (if 9 < x2 then ((-2), S, T) else (if x3 < 0 then ((-2), S, T) else (if x3 ≤ 9 then (if T.2.2.1 < 12 then ((fX3_addStool T x1 x2 x3 x4).1, S, (fX3_addStool T x1 x2 x3 x4).2) else ((fX5_refuse S 1 T.2.2.1).1, (fX5_refuse S 1 T.2.2.1).2, T)) else ((-2), S, T)))))))
abbrev rmX5_setUpStool : Room := { frames := 2, cells := 0, slots := 0, locals := 48 }
set_option maxHeartbeats 4000000 in
set_option maxRecDepth 100000 in
theorem kX5_setUpStool (l : Launch) (D : va_G) (cI cC cT : ClassId) (x ot ou ov oh ox oy ot1 ot2 : Nat) (S : CV) (T : TV) (x1 : Int32) (x2 : Int32) (x3 : Int32) (x4 : Int32)  : mU l D (TY cI cC cT) yX5_setUpStool wsX5_setUpStool rmX5_setUpStool [.ref x, .int x1, .int x2, .int x3, .int x4] (w5 x ot ou ov oh ox oy S ++ w3 cI ot ot1 ot2 T) (some (.int (fX5_setUpStool S T x1 x2 x3 x4).1)) (w5 x ot ou ov oh ox oy (fX5_setUpStool S T x1 x2 x3 x4).2.1 ++ w3 cI ot ot1 ot2 (fX5_setUpStool S T x1 x2 x3 x4).2.2) := by
  refine mU.ofW (cc := cX5_setUpStool) (maxL := 5) (ret := (some .int)) (by decide) rfl (Nat.le_of_ble_eq_true rfl) ?_
  intro p e s m args below meth c Q ls A hx hb hml hr hlk hts hown hP hK hD hS hl hQ
  have hown : s.vm.findClass RX5 = some m.cls := hown
  have hP : va_P D vwCl [(x, .inr (6, [.ref ot, .ref ou, .ref ov, .ref oh, .ref ox, .ref oy, .int S.1, .int S.2.1, .int S.2.2.1, .int S.2.2.2])), (ot, .inr (4, [.ref ot1, .ref ot2, .int T.2.2.1, .int T.2.2.2.1, .int T.2.2.2.2.1, .int T.2.2.2.2.2.1, .int T.2.2.2.2.2.2.1, .int T.2.2.2.2.2.2.2])), (ot1, .inl (cI, 72, .inl T.1)), (ot2, .inl (cI, 36, .inl T.2.1))] s.heap := hP
  have hD : va_D A [(x, .inr (6, [.ref ot, .ref ou, .ref ov, .ref oh, .ref ox, .ref oy, .int S.1, .int S.2.1, .int S.2.2.1, .int S.2.2.2])), (ot, .inr (4, [.ref ot1, .ref ot2, .int T.2.2.1, .int T.2.2.2.1, .int T.2.2.2.2.1, .int T.2.2.2.2.2.1, .int T.2.2.2.2.2.2.1, .int T.2.2.2.2.2.2.2])), (ot1, .inl (cI, 72, .inl T.1)), (ot2, .inl (cI, 36, .inl T.2.1))] := hD
  have hl : lv_has ls 5 [(0, .ref x), (1, .int x1), (2, .int x2), (3, .int x3), (4, .int x4)] := hl
  have q0 := hts (Cond.fieldLink RX5 10 "TavernStools" "tavern" "LTavernStools$Tavern;") (by decide +kernel)
  have q1 : ∀ w ∈ u_ws RX5 TX5 10, w ∈ wsX5_setUpStool := by decide +kernel
  have q2 := hts (Cond.fieldLink RX5 124 "TavernStools$Tavern" "stools" "I") (by decide +kernel)
  have q3 : ∀ w ∈ u_ws RX3 TX3 8, w ∈ wsX5_setUpStool := by decide +kernel
  generalize hHe : s.heap = H at hP ⊢
  have hS : va_S A s.heap H [] := hHe ▸ hS
  generalize hLe : ([] : List Loc) = locs at hS ⊢
  refine lv_iload_n hx hb dX5_setUpStool_0 rfl (lv_at hl 1 rfl) ?_
  refine lv_iconst (v := 1) hx hb dX5_setUpStool_1 (by decide) ?_
  refine lv_icmp_lt (tgt := 31) hx hb dX5_setUpStool_2 (by decide) (fun c_2 => ?_) (fun c_2 => ?_)
  · refine lv_bipush (v := (-2)) hx hb dX5_setUpStool_31 (by decide) ?_
    have e9 : fX5_setUpStool S T x1 x2 x3 x4 = ((-2), S, T) := by rw [fX5_setUpStool, if_pos c_2]
    exact rUi hx hb hr hlk hQ hP hS (by rw [e9]) (congrArg (fun z9 : (Int32 × CV × TV) => w5 x ot ou ov oh ox oy z9.2.1 ++ w3 cI ot ot1 ot2 z9.2.2) e9).symm rfl dX5_setUpStool_33
  · refine lv_iload_n hx hb dX5_setUpStool_5 rfl (lv_at hl 1 rfl) ?_
    refine lv_bipush (v := 40) hx hb dX5_setUpStool_6 (by decide) ?_
    refine lv_icmp_gt (tgt := 31) hx hb dX5_setUpStool_8 (by decide) (fun c_8 => ?_) (fun c_8 => ?_)
    · refine lv_bipush (v := (-2)) hx hb dX5_setUpStool_31 (by decide) ?_
      have e9 : fX5_setUpStool S T x1 x2 x3 x4 = ((-2), S, T) := by rw [fX5_setUpStool, if_neg c_2, if_pos c_8]
      exact rUi hx hb hr hlk hQ hP hS (by rw [e9]) (congrArg (fun z9 : (Int32 × CV × TV) => w5 x ot ou ov oh ox oy z9.2.1 ++ w3 cI ot ot1 ot2 z9.2.2) e9).symm rfl dX5_setUpStool_33
    · refine lv_iload_n hx hb dX5_setUpStool_11 rfl (lv_at hl 2 rfl) ?_
      refine lv_if_lt (tgt := 31) hx hb dX5_setUpStool_12 (by decide) (fun c_12 => ?_) (fun c_12 => ?_)
      · refine lv_bipush (v := (-2)) hx hb dX5_setUpStool_31 (by decide) ?_
        have e9 : fX5_setUpStool S T x1 x2 x3 x4 = ((-2), S, T) := by rw [fX5_setUpStool, if_neg c_2, if_neg c_8, if_pos c_12]
        exact rUi hx hb hr hlk hQ hP hS (by rw [e9]) (congrArg (fun z9 : (Int32 × CV × TV) => w5 x ot ou ov oh ox oy z9.2.1 ++ w3 cI ot ot1 ot2 z9.2.2) e9).symm rfl dX5_setUpStool_33
      · refine lv_iload_n hx hb dX5_setUpStool_15 rfl (lv_at hl 2 rfl) ?_
        refine lv_bipush (v := 9) hx hb dX5_setUpStool_16 (by decide) ?_
        refine lv_icmp_gt (tgt := 31) hx hb dX5_setUpStool_18 (by decide) (fun c_18 => ?_) (fun c_18 => ?_)
        · refine lv_bipush (v := (-2)) hx hb dX5_setUpStool_31 (by decide) ?_
          have e9 : fX5_setUpStool S T x1 x2 x3 x4 = ((-2), S, T) := by rw [fX5_setUpStool, if_neg c_2, if_neg c_8, if_neg c_12, if_pos c_18]
          exact rUi hx hb hr hlk hQ hP hS (by rw [e9]) (congrArg (fun z9 : (Int32 × CV × TV) => w5 x ot ou ov oh ox oy z9.2.1 ++ w3 cI ot ot1 ot2 z9.2.2) e9).symm rfl dX5_setUpStool_33
        · refine lv_iload_n hx hb dX5_setUpStool_21 rfl (lv_at hl 3 rfl) ?_
          refine lv_if_lt (tgt := 31) hx hb dX5_setUpStool_22 (by decide) (fun c_22 => ?_) (fun c_22 => ?_)
          · refine lv_bipush (v := (-2)) hx hb dX5_setUpStool_31 (by decide) ?_
            have e9 : fX5_setUpStool S T x1 x2 x3 x4 = ((-2), S, T) := by rw [fX5_setUpStool, if_neg c_2, if_neg c_8, if_neg c_12, if_neg c_18, if_pos c_22]
            exact rUi hx hb hr hlk hQ hP hS (by rw [e9]) (congrArg (fun z9 : (Int32 × CV × TV) => w5 x ot ou ov oh ox oy z9.2.1 ++ w3 cI ot ot1 ot2 z9.2.2) e9).symm rfl dX5_setUpStool_33
          · refine lv_iload_n hx hb dX5_setUpStool_25 rfl (lv_at hl 3 rfl) ?_
            refine lv_bipush (v := 9) hx hb dX5_setUpStool_26 (by decide) ?_
            refine lv_icmp_le (tgt := 34) hx hb dX5_setUpStool_28 (by decide) (fun c_28 => ?_) (fun c_28 => ?_)
            · refine lv_aload_n hx hb dX5_setUpStool_34 rfl (lv_at hl 0 rfl) ?_
              refine va_get (D := D) (ci := 6) (v := .ref ot) (C := RX5) (T := TX5) (N := 10) hx hb hts q1 hown hK hP 0 rfl rfl 0 (by decide) q0 (fun _ h9 => h9) rfl dX5_setUpStool_35 ?_
              refine va_get (D := D) (ci := 4) (v := .int T.2.2.1) (C := RX3) (T := TX3) (N := 8) hx hb hts q3 hown hK hP 1 rfl rfl 2 (by decide) q2 (fun _ h9 => h9) rfl dX5_setUpStool_38 ?_
              refine lv_bipush (v := 12) hx hb dX5_setUpStool_41 (by decide) ?_
              refine lv_icmp_lt (tgt := 59) hx hb dX5_setUpStool_43 (by decide) (fun c_43 => ?_) (fun c_43 => ?_)
              · refine lv_aload_n hx hb dX5_setUpStool_59 rfl (lv_at hl 0 rfl) ?_
                refine va_get (D := D) (ci := 6) (v := .ref ot) (C := RX5) (T := TX5) (N := 10) hx hb hts q1 hown hK hP 0 rfl rfl 0 (by decide) q0 (fun _ h9 => h9) rfl dX5_setUpStool_60 ?_
                refine lv_iload_n hx hb dX5_setUpStool_63 rfl (lv_at hl 1 rfl) ?_
                refine lv_iload_n hx hb dX5_setUpStool_64 rfl (lv_at hl 2 rfl) ?_
                refine lv_iload_n hx hb dX5_setUpStool_65 rfl (lv_at hl 3 rfl) ?_
                refine lv_iload hx hb dX5_setUpStool_66 (lv_at hl 4 rfl) ?_
                obtain ⟨n1, en1⟩ : ∃ z9, z9 = (fX3_addStool T x1 x2 x3 x4) := ⟨_, rfl⟩
                have k9 := (kX3_addStool l D cI cC cT ot ot1 ot2 T x1 x2 x3 x4)
                rw [← en1] at k9
                refine fUV (As := [.int x1, .int x2, .int x3, .int x4]) (rest := []) (st' := [.int n1.1]) ⟨hx, hb, hml, hown, hts⟩ k9 (cwV 4 hts gX5_setUpStool_X3_addStool rfl rfl rfl (by decide +kernel) ⟨Nat.le_of_ble_eq_true rfl, Nat.le_of_ble_eq_true rfl⟩) hP hK hD hS [1, 2, 3] rfl rfl (by decide) rfl [(x, .inr (6, [.ref ot, .ref ou, .ref ov, .ref oh, .ref ox, .ref oy, .int S.1, .int S.2.1, .int S.2.2.1, .int S.2.2.2])), (ot, .inr (4, [.ref ot1, .ref ot2, .int n1.2.2.2.1, .int n1.2.2.2.2.1, .int n1.2.2.2.2.2.1, .int n1.2.2.2.2.2.2.1, .int n1.2.2.2.2.2.2.2.1, .int n1.2.2.2.2.2.2.2.2])), (ot1, .inl (cI, 72, .inl n1.2.1)), (ot2, .inl (cI, 36, .inl n1.2.2.1))] rfl rfl 1 (ci := 4) rfl rfl rfl rfl hl.1 rfl rfl (Nat.le_of_ble_eq_true rfl) ⟨Nat.zero_le _, Nat.zero_le _⟩ dX5_setUpStool_68 (fun H locs hP hD hS => ?_)
                have e9 : fX5_setUpStool S T x1 x2 x3 x4 = (n1.1, S, n1.2) := by rw [fX5_setUpStool, if_neg c_2, if_neg c_8, if_neg c_12, if_neg c_18, if_neg c_22, if_pos c_28, if_pos c_43, ← en1]
                exact rUi hx hb hr hlk hQ hP hS (by rw [e9]) (congrArg (fun z9 : (Int32 × CV × TV) => w5 x ot ou ov oh ox oy z9.2.1 ++ w3 cI ot ot1 ot2 z9.2.2) e9).symm rfl dX5_setUpStool_71
              · refine lv_aload_n hx hb dX5_setUpStool_46 rfl (lv_at hl 0 rfl) ?_
                refine lv_iconst (v := 1) hx hb dX5_setUpStool_47 (by decide) ?_
                refine lv_aload_n hx hb dX5_setUpStool_48 rfl (lv_at hl 0 rfl) ?_
                refine va_get (D := D) (ci := 6) (v := .ref ot) (C := RX5) (T := TX5) (N := 10) hx hb hts q1 hown hK hP 0 rfl rfl 0 (by decide) q0 (fun _ h9 => h9) rfl dX5_setUpStool_49 ?_
                refine va_get (D := D) (ci := 4) (v := .int T.2.2.1) (C := RX3) (T := TX3) (N := 8) hx hb hts q3 hown hK hP 1 rfl rfl 2 (by decide) q2 (fun _ h9 => h9) rfl dX5_setUpStool_52 ?_
                obtain ⟨n2, en2⟩ : ∃ z9, z9 = (fX5_refuse S 1 T.2.2.1) := ⟨_, rfl⟩
                have k9 := (kX5_refuse l D cI cC cT x ot ou ov oh ox oy S 1 T.2.2.1)
                rw [← en2] at k9
                refine fUVp (As := [.int 1, .int T.2.2.1]) (rest := []) (st' := [.int n2.1]) ⟨hx, hb, hml, hown, hts⟩ k9 (cwV 2 hts gX5_setUpStool_X5_refuse rfl rfl rfl (by decide +kernel) ⟨Nat.le_of_ble_eq_true rfl, Nat.le_of_ble_eq_true rfl⟩) hP hK hD hS [(ot, .inr (4, [.ref ot1, .ref ot2, .int T.2.2.1, .int T.2.2.2.1, .int T.2.2.2.2.1, .int T.2.2.2.2.2.1, .int T.2.2.2.2.2.2.1, .int T.2.2.2.2.2.2.2])), (ot1, .inl (cI, 72, .inl T.1)), (ot2, .inl (cI, 36, .inl T.2.1))] rfl [(x, .inr (6, [.ref ot, .ref ou, .ref ov, .ref oh, .ref ox, .ref oy, .int n2.2.1, .int n2.2.2.1, .int n2.2.2.2.1, .int n2.2.2.2.2])), (ot, .inr (4, [.ref ot1, .ref ot2, .int T.2.2.1, .int T.2.2.2.1, .int T.2.2.2.2.1, .int T.2.2.2.2.2.1, .int T.2.2.2.2.2.2.1, .int T.2.2.2.2.2.2.2])), (ot1, .inl (cI, 72, .inl T.1)), (ot2, .inl (cI, 36, .inl T.2.1))] rfl rfl 0 (ci := 6) rfl rfl rfl rfl hl.1 rfl rfl (Nat.le_of_ble_eq_true rfl) ⟨Nat.zero_le _, Nat.zero_le _⟩ dX5_setUpStool_55 (fun H locs hP hD hS => ?_)
                have e9 : fX5_setUpStool S T x1 x2 x3 x4 = (n2.1, n2.2, T) := by rw [fX5_setUpStool, if_neg c_2, if_neg c_8, if_neg c_12, if_neg c_18, if_neg c_22, if_pos c_28, if_neg c_43, ← en2]
                exact rUi hx hb hr hlk hQ hP hS (by rw [e9]) (congrArg (fun z9 : (Int32 × CV × TV) => w5 x ot ou ov oh ox oy z9.2.1 ++ w3 cI ot ot1 ot2 z9.2.2) e9).symm rfl dX5_setUpStool_58
            · refine lv_bipush (v := (-2)) hx hb dX5_setUpStool_31 (by decide) ?_
              have e9 : fX5_setUpStool S T x1 x2 x3 x4 = ((-2), S, T) := by rw [fX5_setUpStool, if_neg c_2, if_neg c_8, if_neg c_12, if_neg c_18, if_neg c_22, if_neg c_28]
              exact rUi hx hb hr hlk hQ hP hS (by rw [e9]) (congrArg (fun z9 : (Int32 × CV × TV) => w5 x ot ou ov oh ox oy z9.2.1 ++ w3 cI ot ot1 ot2 z9.2.2) e9).symm rfl dX5_setUpStool_33
def fX5_letSitterCome (S : CV) (T : TV) (x1 : Int32) (x2 : Int32) : (Int32 × CV × TV) := (if x2 < 1 then ((-2), S, T) else (if x2 ≤ 200 then (if T.2.2.2.1 < 12 then ((fX3_addSitter T x1 x2).1, S, (fX3_addSitter T x1 x2).2) else ((fX5_refuse S 1 T.2.2.2.1).1, (fX5_refuse S 1 T.2.2.2.1).2, T)) else ((-2), S, T)))
abbrev rmX5_letSitterCome : Room := { frames := 2, cells := 0, slots := 0, locals := 46 }
set_option maxHeartbeats 4000000 in
set_option maxRecDepth 100000 in
theorem kX5_letSitterCome (l : Launch) (D : va_G) (cI cC cT : ClassId) (x ot ou ov oh ox oy ot1 ot2 : Nat) (S : CV) (T : TV) (x1 : Int32) (x2 : Int32)  : mU l D (TY cI cC cT) yX5_letSitterCome wsX5_letSitterCome rmX5_letSitterCome [.ref x, .int x1, .int x2] (w5 x ot ou ov oh ox oy S ++ w3 cI ot ot1 ot2 T) (some (.int (fX5_letSitterCome S T x1 x2).1)) (w5 x ot ou ov oh ox oy (fX5_letSitterCome S T x1 x2).2.1 ++ w3 cI ot ot1 ot2 (fX5_letSitterCome S T x1 x2).2.2) := by
  refine mU.ofW (cc := cX5_letSitterCome) (maxL := 3) (ret := (some .int)) (by decide) rfl (Nat.le_of_ble_eq_true rfl) ?_
  intro p e s m args below meth c Q ls A hx hb hml hr hlk hts hown hP hK hD hS hl hQ
  have hown : s.vm.findClass RX5 = some m.cls := hown
  have hP : va_P D vwCl [(x, .inr (6, [.ref ot, .ref ou, .ref ov, .ref oh, .ref ox, .ref oy, .int S.1, .int S.2.1, .int S.2.2.1, .int S.2.2.2])), (ot, .inr (4, [.ref ot1, .ref ot2, .int T.2.2.1, .int T.2.2.2.1, .int T.2.2.2.2.1, .int T.2.2.2.2.2.1, .int T.2.2.2.2.2.2.1, .int T.2.2.2.2.2.2.2])), (ot1, .inl (cI, 72, .inl T.1)), (ot2, .inl (cI, 36, .inl T.2.1))] s.heap := hP
  have hD : va_D A [(x, .inr (6, [.ref ot, .ref ou, .ref ov, .ref oh, .ref ox, .ref oy, .int S.1, .int S.2.1, .int S.2.2.1, .int S.2.2.2])), (ot, .inr (4, [.ref ot1, .ref ot2, .int T.2.2.1, .int T.2.2.2.1, .int T.2.2.2.2.1, .int T.2.2.2.2.2.1, .int T.2.2.2.2.2.2.1, .int T.2.2.2.2.2.2.2])), (ot1, .inl (cI, 72, .inl T.1)), (ot2, .inl (cI, 36, .inl T.2.1))] := hD
  have hl : lv_has ls 3 [(0, .ref x), (1, .int x1), (2, .int x2)] := hl
  have q0 := hts (Cond.fieldLink RX5 10 "TavernStools" "tavern" "LTavernStools$Tavern;") (by decide +kernel)
  have q1 : ∀ w ∈ u_ws RX5 TX5 10, w ∈ wsX5_letSitterCome := by decide +kernel
  have q2 := hts (Cond.fieldLink RX5 249 "TavernStools$Tavern" "sitters" "I") (by decide +kernel)
  have q3 : ∀ w ∈ u_ws RX3 TX3 8, w ∈ wsX5_letSitterCome := by decide +kernel
  generalize hHe : s.heap = H at hP ⊢
  have hS : va_S A s.heap H [] := hHe ▸ hS
  generalize hLe : ([] : List Loc) = locs at hS ⊢
  refine lv_iload_n hx hb dX5_letSitterCome_0 rfl (lv_at hl 2 rfl) ?_
  refine lv_iconst (v := 1) hx hb dX5_letSitterCome_1 (by decide) ?_
  refine lv_icmp_lt (tgt := 12) hx hb dX5_letSitterCome_2 (by decide) (fun c_2 => ?_) (fun c_2 => ?_)
  · refine lv_bipush (v := (-2)) hx hb dX5_letSitterCome_12 (by decide) ?_
    have e9 : fX5_letSitterCome S T x1 x2 = ((-2), S, T) := by rw [fX5_letSitterCome, if_pos c_2]
    exact rUi hx hb hr hlk hQ hP hS (by rw [e9]) (congrArg (fun z9 : (Int32 × CV × TV) => w5 x ot ou ov oh ox oy z9.2.1 ++ w3 cI ot ot1 ot2 z9.2.2) e9).symm rfl dX5_letSitterCome_14
  · refine lv_iload_n hx hb dX5_letSitterCome_5 rfl (lv_at hl 2 rfl) ?_
    refine lv_sipush (v := 200) hx hb dX5_letSitterCome_6 (by decide) ?_
    refine lv_icmp_le (tgt := 15) hx hb dX5_letSitterCome_9 (by decide) (fun c_9 => ?_) (fun c_9 => ?_)
    · refine lv_aload_n hx hb dX5_letSitterCome_15 rfl (lv_at hl 0 rfl) ?_
      refine va_get (D := D) (ci := 6) (v := .ref ot) (C := RX5) (T := TX5) (N := 10) hx hb hts q1 hown hK hP 0 rfl rfl 0 (by decide) q0 (fun _ h9 => h9) rfl dX5_letSitterCome_16 ?_
      refine va_get (D := D) (ci := 4) (v := .int T.2.2.2.1) (C := RX3) (T := TX3) (N := 8) hx hb hts q3 hown hK hP 1 rfl rfl 3 (by decide) q2 (fun _ h9 => h9) rfl dX5_letSitterCome_19 ?_
      refine lv_bipush (v := 12) hx hb dX5_letSitterCome_22 (by decide) ?_
      refine lv_icmp_lt (tgt := 40) hx hb dX5_letSitterCome_24 (by decide) (fun c_24 => ?_) (fun c_24 => ?_)
      · refine lv_aload_n hx hb dX5_letSitterCome_40 rfl (lv_at hl 0 rfl) ?_
        refine va_get (D := D) (ci := 6) (v := .ref ot) (C := RX5) (T := TX5) (N := 10) hx hb hts q1 hown hK hP 0 rfl rfl 0 (by decide) q0 (fun _ h9 => h9) rfl dX5_letSitterCome_41 ?_
        refine lv_iload_n hx hb dX5_letSitterCome_44 rfl (lv_at hl 1 rfl) ?_
        refine lv_iload_n hx hb dX5_letSitterCome_45 rfl (lv_at hl 2 rfl) ?_
        obtain ⟨n1, en1⟩ : ∃ z9, z9 = (fX3_addSitter T x1 x2) := ⟨_, rfl⟩
        have k9 := (kX3_addSitter l D cI cC cT ot ot1 ot2 T x1 x2)
        rw [← en1] at k9
        refine fUV (As := [.int x1, .int x2]) (rest := []) (st' := [.int n1.1]) ⟨hx, hb, hml, hown, hts⟩ k9 (cwV 2 hts gX5_letSitterCome_X3_addSitter rfl rfl rfl (by decide +kernel) ⟨Nat.le_of_ble_eq_true rfl, Nat.le_of_ble_eq_true rfl⟩) hP hK hD hS [1, 2, 3] rfl rfl (by decide) rfl [(x, .inr (6, [.ref ot, .ref ou, .ref ov, .ref oh, .ref ox, .ref oy, .int S.1, .int S.2.1, .int S.2.2.1, .int S.2.2.2])), (ot, .inr (4, [.ref ot1, .ref ot2, .int n1.2.2.2.1, .int n1.2.2.2.2.1, .int n1.2.2.2.2.2.1, .int n1.2.2.2.2.2.2.1, .int n1.2.2.2.2.2.2.2.1, .int n1.2.2.2.2.2.2.2.2])), (ot1, .inl (cI, 72, .inl n1.2.1)), (ot2, .inl (cI, 36, .inl n1.2.2.1))] rfl rfl 1 (ci := 4) rfl rfl rfl rfl hl.1 rfl rfl (Nat.le_of_ble_eq_true rfl) ⟨Nat.zero_le _, Nat.zero_le _⟩ dX5_letSitterCome_46 (fun H locs hP hD hS => ?_)
        have e9 : fX5_letSitterCome S T x1 x2 = (n1.1, S, n1.2) := by rw [fX5_letSitterCome, if_neg c_2, if_pos c_9, if_pos c_24, ← en1]
        exact rUi hx hb hr hlk hQ hP hS (by rw [e9]) (congrArg (fun z9 : (Int32 × CV × TV) => w5 x ot ou ov oh ox oy z9.2.1 ++ w3 cI ot ot1 ot2 z9.2.2) e9).symm rfl dX5_letSitterCome_49
      · refine lv_aload_n hx hb dX5_letSitterCome_27 rfl (lv_at hl 0 rfl) ?_
        refine lv_iconst (v := 1) hx hb dX5_letSitterCome_28 (by decide) ?_
        refine lv_aload_n hx hb dX5_letSitterCome_29 rfl (lv_at hl 0 rfl) ?_
        refine va_get (D := D) (ci := 6) (v := .ref ot) (C := RX5) (T := TX5) (N := 10) hx hb hts q1 hown hK hP 0 rfl rfl 0 (by decide) q0 (fun _ h9 => h9) rfl dX5_letSitterCome_30 ?_
        refine va_get (D := D) (ci := 4) (v := .int T.2.2.2.1) (C := RX3) (T := TX3) (N := 8) hx hb hts q3 hown hK hP 1 rfl rfl 3 (by decide) q2 (fun _ h9 => h9) rfl dX5_letSitterCome_33 ?_
        obtain ⟨n2, en2⟩ : ∃ z9, z9 = (fX5_refuse S 1 T.2.2.2.1) := ⟨_, rfl⟩
        have k9 := (kX5_refuse l D cI cC cT x ot ou ov oh ox oy S 1 T.2.2.2.1)
        rw [← en2] at k9
        refine fUVp (As := [.int 1, .int T.2.2.2.1]) (rest := []) (st' := [.int n2.1]) ⟨hx, hb, hml, hown, hts⟩ k9 (cwV 2 hts gX5_letSitterCome_X5_refuse rfl rfl rfl (by decide +kernel) ⟨Nat.le_of_ble_eq_true rfl, Nat.le_of_ble_eq_true rfl⟩) hP hK hD hS [(ot, .inr (4, [.ref ot1, .ref ot2, .int T.2.2.1, .int T.2.2.2.1, .int T.2.2.2.2.1, .int T.2.2.2.2.2.1, .int T.2.2.2.2.2.2.1, .int T.2.2.2.2.2.2.2])), (ot1, .inl (cI, 72, .inl T.1)), (ot2, .inl (cI, 36, .inl T.2.1))] rfl [(x, .inr (6, [.ref ot, .ref ou, .ref ov, .ref oh, .ref ox, .ref oy, .int n2.2.1, .int n2.2.2.1, .int n2.2.2.2.1, .int n2.2.2.2.2])), (ot, .inr (4, [.ref ot1, .ref ot2, .int T.2.2.1, .int T.2.2.2.1, .int T.2.2.2.2.1, .int T.2.2.2.2.2.1, .int T.2.2.2.2.2.2.1, .int T.2.2.2.2.2.2.2])), (ot1, .inl (cI, 72, .inl T.1)), (ot2, .inl (cI, 36, .inl T.2.1))] rfl rfl 0 (ci := 6) rfl rfl rfl rfl hl.1 rfl rfl (Nat.le_of_ble_eq_true rfl) ⟨Nat.zero_le _, Nat.zero_le _⟩ dX5_letSitterCome_36 (fun H locs hP hD hS => ?_)
        have e9 : fX5_letSitterCome S T x1 x2 = (n2.1, n2.2, T) := by rw [fX5_letSitterCome, if_neg c_2, if_pos c_9, if_neg c_24, ← en2]
        exact rUi hx hb hr hlk hQ hP hS (by rw [e9]) (congrArg (fun z9 : (Int32 × CV × TV) => w5 x ot ou ov oh ox oy z9.2.1 ++ w3 cI ot ot1 ot2 z9.2.2) e9).symm rfl dX5_letSitterCome_39
    · refine lv_bipush (v := (-2)) hx hb dX5_letSitterCome_12 (by decide) ?_
      have e9 : fX5_letSitterCome S T x1 x2 = ((-2), S, T) := by rw [fX5_letSitterCome, if_neg c_2, if_neg c_9]
      exact rUi hx hb hr hlk hQ hP hS (by rw [e9]) (congrArg (fun z9 : (Int32 × CV × TV) => w5 x ot ou ov oh ox oy z9.2.1 ++ w3 cI ot ot1 ot2 z9.2.2) e9).symm rfl dX5_letSitterCome_14
def fX5_letGuestCome (S : CV) (T : TV) (x1 : Int32) (x2 : Int32) : (Int32 × CV × TV) := (if x1 < 1 then ((-2), S, T) else (if x1 ≤ 9 then ((fX5_letSitterCome S T x1 x2).1, (fX5_letSitterCome S T x1 x2).2.1, (fX5_letSitterCome S T x1 x2).2.2) else ((-2), S, T)))
abbrev rmX5_letGuestCome : Room := { frames := 3, cells := 0, slots := 0, locals := 68 }
set_option maxHeartbeats 4000000 in
set_option maxRecDepth 100000 in
theorem kX5_letGuestCome (l : Launch) (D : va_G) (cI cC cT : ClassId) (x ot ou ov oh ox oy ot1 ot2 : Nat) (S : CV) (T : TV) (x1 : Int32) (x2 : Int32)  : mU l D (TY cI cC cT) yX5_letGuestCome wsX5_letGuestCome rmX5_letGuestCome [.ref x, .int x1, .int x2] (w5 x ot ou ov oh ox oy S ++ w3 cI ot ot1 ot2 T) (some (.int (fX5_letGuestCome S T x1 x2).1)) (w5 x ot ou ov oh ox oy (fX5_letGuestCome S T x1 x2).2.1 ++ w3 cI ot ot1 ot2 (fX5_letGuestCome S T x1 x2).2.2) := by
  refine mU.ofW (cc := cX5_letGuestCome) (maxL := 3) (ret := (some .int)) (by decide) rfl (Nat.le_of_ble_eq_true rfl) ?_
  intro p e s m args below meth c Q ls A hx hb hml hr hlk hts hown hP hK hD hS hl hQ
  have hown : s.vm.findClass RX5 = some m.cls := hown
  have hP : va_P D vwCl [(x, .inr (6, [.ref ot, .ref ou, .ref ov, .ref oh, .ref ox, .ref oy, .int S.1, .int S.2.1, .int S.2.2.1, .int S.2.2.2])), (ot, .inr (4, [.ref ot1, .ref ot2, .int T.2.2.1, .int T.2.2.2.1, .int T.2.2.2.2.1, .int T.2.2.2.2.2.1, .int T.2.2.2.2.2.2.1, .int T.2.2.2.2.2.2.2])), (ot1, .inl (cI, 72, .inl T.1)), (ot2, .inl (cI, 36, .inl T.2.1))] s.heap := hP
  have hD : va_D A [(x, .inr (6, [.ref ot, .ref ou, .ref ov, .ref oh, .ref ox, .ref oy, .int S.1, .int S.2.1, .int S.2.2.1, .int S.2.2.2])), (ot, .inr (4, [.ref ot1, .ref ot2, .int T.2.2.1, .int T.2.2.2.1, .int T.2.2.2.2.1, .int T.2.2.2.2.2.1, .int T.2.2.2.2.2.2.1, .int T.2.2.2.2.2.2.2])), (ot1, .inl (cI, 72, .inl T.1)), (ot2, .inl (cI, 36, .inl T.2.1))] := hD
  have hl : lv_has ls 3 [(0, .ref x), (1, .int x1), (2, .int x2)] := hl
  generalize hHe : s.heap = H at hP ⊢
  have hS : va_S A s.heap H [] := hHe ▸ hS
  generalize hLe : ([] : List Loc) = locs at hS ⊢
  refine lv_iload_n hx hb dX5_letGuestCome_0 rfl (lv_at hl 1 rfl) ?_
  refine lv_iconst (v := 1) hx hb dX5_letGuestCome_1 (by decide) ?_
  refine lv_icmp_lt (tgt := 11) hx hb dX5_letGuestCome_2 (by decide) (fun c_2 => ?_) (fun c_2 => ?_)
  · refine lv_bipush (v := (-2)) hx hb dX5_letGuestCome_11 (by decide) ?_
    refine lv_goto (tgt := 22) hx hb dX5_letGuestCome_13 (by decide) ?_
    have e9 : fX5_letGuestCome S T x1 x2 = ((-2), S, T) := by rw [fX5_letGuestCome, if_pos c_2]
    exact rUi hx hb hr hlk hQ hP hS (by rw [e9]) (congrArg (fun z9 : (Int32 × CV × TV) => w5 x ot ou ov oh ox oy z9.2.1 ++ w3 cI ot ot1 ot2 z9.2.2) e9).symm rfl dX5_letGuestCome_22
  · refine lv_iload_n hx hb dX5_letGuestCome_5 rfl (lv_at hl 1 rfl) ?_
    refine lv_bipush (v := 9) hx hb dX5_letGuestCome_6 (by decide) ?_
    refine lv_icmp_le (tgt := 16) hx hb dX5_letGuestCome_8 (by decide) (fun c_8 => ?_) (fun c_8 => ?_)
    · refine lv_aload_n hx hb dX5_letGuestCome_16 rfl (lv_at hl 0 rfl) ?_
      refine lv_iload_n hx hb dX5_letGuestCome_17 rfl (lv_at hl 1 rfl) ?_
      refine lv_iload_n hx hb dX5_letGuestCome_18 rfl (lv_at hl 2 rfl) ?_
      obtain ⟨n1, en1⟩ : ∃ z9, z9 = (fX5_letSitterCome S T x1 x2) := ⟨_, rfl⟩
      have k9 := (kX5_letSitterCome l D cI cC cT x ot ou ov oh ox oy ot1 ot2 S T x1 x2)
      rw [← en1] at k9
      refine fUVp (As := [.int x1, .int x2]) (rest := []) (st' := [.int n1.1]) ⟨hx, hb, hml, hown, hts⟩ k9 (cwV 2 hts gX5_letGuestCome_X5_letSitterCome rfl rfl rfl (by decide +kernel) ⟨Nat.le_of_ble_eq_true rfl, Nat.le_of_ble_eq_true rfl⟩) hP hK hD hS [] rfl [(x, .inr (6, [.ref ot, .ref ou, .ref ov, .ref oh, .ref ox, .ref oy, .int n1.2.1.1, .int n1.2.1.2.1, .int n1.2.1.2.2.1, .int n1.2.1.2.2.2])), (ot, .inr (4, [.ref ot1, .ref ot2, .int n1.2.2.2.2.1, .int n1.2.2.2.2.2.1, .int n1.2.2.2.2.2.2.1, .int n1.2.2.2.2.2.2.2.1, .int n1.2.2.2.2.2.2.2.2.1, .int n1.2.2.2.2.2.2.2.2.2])), (ot1, .inl (cI, 72, .inl n1.2.2.1)), (ot2, .inl (cI, 36, .inl n1.2.2.2.1))] rfl rfl 0 (ci := 6) rfl rfl rfl rfl hl.1 rfl rfl (Nat.le_of_ble_eq_true rfl) ⟨Nat.zero_le _, Nat.zero_le _⟩ dX5_letGuestCome_19 (fun H locs hP hD hS => ?_)
      have e9 : fX5_letGuestCome S T x1 x2 = (n1.1, n1.2.1, n1.2.2) := by rw [fX5_letGuestCome, if_neg c_2, if_pos c_8, ← en1]
      exact rUi hx hb hr hlk hQ hP hS (by rw [e9]) (congrArg (fun z9 : (Int32 × CV × TV) => w5 x ot ou ov oh ox oy z9.2.1 ++ w3 cI ot ot1 ot2 z9.2.2) e9).symm rfl dX5_letGuestCome_22
    · refine lv_bipush (v := (-2)) hx hb dX5_letGuestCome_11 (by decide) ?_
      refine lv_goto (tgt := 22) hx hb dX5_letGuestCome_13 (by decide) ?_
      have e9 : fX5_letGuestCome S T x1 x2 = ((-2), S, T) := by rw [fX5_letGuestCome, if_neg c_2, if_neg c_8]
      exact rUi hx hb hr hlk hQ hP hS (by rw [e9]) (congrArg (fun z9 : (Int32 × CV × TV) => w5 x ot ou ov oh ox oy z9.2.1 ++ w3 cI ot ot1 ot2 z9.2.2) e9).symm rfl dX5_letGuestCome_22
def fX5_seat (S : CV) (T : TV) (x1 : Int32) (x2 : Int32) : (Int32 × CV × TV) := (if (fX3_hasSitter T x1) = 0 then ((-1), S, T) else (if (fX3_hasStool T x2) = 0 then ((-1), S, T) else (if (fX3_ofStool T x2 5) = x1 then ((fX5_refuse S 4 x1).1, (fX5_refuse S 4 x1).2, T) else (if (fX3_ofStool T x2 5) = (-1) then (if (fX3_maySit T x1 x2) = 0 then ((fX5_refuse S 3 x2).1, (fX5_refuse S 3 x2).2, T) else ((fX3_clashesWith (fX3_take (fX3_leave T x1).2 x1 x2) x1), S, (fX3_take (fX3_leave T x1).2 x1 x2))) else ((fX5_refuse S 2 (fX3_ofStool T x2 5)).1, (fX5_refuse S 2 (fX3_ofStool T x2 5)).2, T)))))
abbrev rmX5_seat : Room := { frames := 4, cells := 0, slots := 0, locals := 90 }
set_option maxHeartbeats 4000000 in
set_option maxRecDepth 100000 in
theorem kX5_seat (l : Launch) (D : va_G) (cI cC cT : ClassId) (x ot ou ov oh ox oy ot1 ot2 : Nat) (S : CV) (T : TV) (x1 : Int32) (x2 : Int32)  : mU l D (TY cI cC cT) yX5_seat wsX5_seat rmX5_seat [.ref x, .int x1, .int x2] (w5 x ot ou ov oh ox oy S ++ w3 cI ot ot1 ot2 T) (some (.int (fX5_seat S T x1 x2).1)) (w5 x ot ou ov oh ox oy (fX5_seat S T x1 x2).2.1 ++ w3 cI ot ot1 ot2 (fX5_seat S T x1 x2).2.2) := by
  refine mU.ofW (cc := cX5_seat) (maxL := 4) (ret := (some .int)) (by decide) rfl (Nat.le_of_ble_eq_true rfl) ?_
  intro p e s m args below meth c Q ls A hx hb hml hr hlk hts hown hP hK hD hS hl hQ
  have hown : s.vm.findClass RX5 = some m.cls := hown
  have hP : va_P D vwCl [(x, .inr (6, [.ref ot, .ref ou, .ref ov, .ref oh, .ref ox, .ref oy, .int S.1, .int S.2.1, .int S.2.2.1, .int S.2.2.2])), (ot, .inr (4, [.ref ot1, .ref ot2, .int T.2.2.1, .int T.2.2.2.1, .int T.2.2.2.2.1, .int T.2.2.2.2.2.1, .int T.2.2.2.2.2.2.1, .int T.2.2.2.2.2.2.2])), (ot1, .inl (cI, 72, .inl T.1)), (ot2, .inl (cI, 36, .inl T.2.1))] s.heap := hP
  have hD : va_D A [(x, .inr (6, [.ref ot, .ref ou, .ref ov, .ref oh, .ref ox, .ref oy, .int S.1, .int S.2.1, .int S.2.2.1, .int S.2.2.2])), (ot, .inr (4, [.ref ot1, .ref ot2, .int T.2.2.1, .int T.2.2.2.1, .int T.2.2.2.2.1, .int T.2.2.2.2.2.1, .int T.2.2.2.2.2.2.1, .int T.2.2.2.2.2.2.2])), (ot1, .inl (cI, 72, .inl T.1)), (ot2, .inl (cI, 36, .inl T.2.1))] := hD
  have hl : lv_has ls 4 [(0, .ref x), (1, .int x1), (2, .int x2)] := hl
  have q0 := hts (Cond.fieldLink RX5 10 "TavernStools" "tavern" "LTavernStools$Tavern;") (by decide +kernel)
  have q1 : ∀ w ∈ u_ws RX5 TX5 10, w ∈ wsX5_seat := by decide +kernel
  generalize hHe : s.heap = H at hP ⊢
  have hS : va_S A s.heap H [] := hHe ▸ hS
  generalize hLe : ([] : List Loc) = locs at hS ⊢
  refine lv_aload_n hx hb dX5_seat_0 rfl (lv_at hl 0 rfl) ?_
  refine va_get (D := D) (ci := 6) (v := .ref ot) (C := RX5) (T := TX5) (N := 10) hx hb hts q1 hown hK hP 0 rfl rfl 0 (by decide) q0 (fun _ h9 => h9) rfl dX5_seat_1 ?_
  refine lv_iload_n hx hb dX5_seat_4 rfl (lv_at hl 1 rfl) ?_
  refine fRV (As := [.int x1]) (rest := []) (st' := [.int (fX3_hasSitter T x1)]) ⟨hx, hb, hml, hown, hts⟩ (kX3_hasSitter l D cI cC cT ot ot1 ot2 T x1) (cwV 1 hts gX5_seat_X3_hasSitter rfl rfl rfl (by decide +kernel) ⟨Nat.le_of_ble_eq_true rfl, Nat.le_of_ble_eq_true rfl⟩) hP hK [1, 2, 3] rfl 1 (ci := 4) rfl rfl rfl rfl hl.1 rfl rfl (Nat.le_of_ble_eq_true rfl) ⟨Nat.zero_le _, Nat.zero_le _⟩ dX5_seat_5 ?_
  refine lv_if_eq (tgt := 22) hx hb dX5_seat_8 (by decide) (fun c_8 => ?_) (fun c_8 => ?_)
  · refine lv_iconst (v := (-1)) hx hb dX5_seat_22 (by decide) ?_
    have e9 : fX5_seat S T x1 x2 = ((-1), S, T) := by rw [fX5_seat, if_pos c_8]
    exact rUi hx hb hr hlk hQ hP hS (by rw [e9]) (congrArg (fun z9 : (Int32 × CV × TV) => w5 x ot ou ov oh ox oy z9.2.1 ++ w3 cI ot ot1 ot2 z9.2.2) e9).symm rfl dX5_seat_23
  · refine lv_aload_n hx hb dX5_seat_11 rfl (lv_at hl 0 rfl) ?_
    refine va_get (D := D) (ci := 6) (v := .ref ot) (C := RX5) (T := TX5) (N := 10) hx hb hts q1 hown hK hP 0 rfl rfl 0 (by decide) q0 (fun _ h9 => h9) rfl dX5_seat_12 ?_
    refine lv_iload_n hx hb dX5_seat_15 rfl (lv_at hl 2 rfl) ?_
    refine fRV (As := [.int x2]) (rest := []) (st' := [.int (fX3_hasStool T x2)]) ⟨hx, hb, hml, hown, hts⟩ (kX3_hasStool l D cI cC cT ot ot1 ot2 T x2) (cwV 1 hts gX5_seat_X3_hasStool rfl rfl rfl (by decide +kernel) ⟨Nat.le_of_ble_eq_true rfl, Nat.le_of_ble_eq_true rfl⟩) hP hK [1, 2, 3] rfl 1 (ci := 4) rfl rfl rfl rfl hl.1 rfl rfl (Nat.le_of_ble_eq_true rfl) ⟨Nat.zero_le _, Nat.zero_le _⟩ dX5_seat_16 ?_
    refine lv_if_ne (tgt := 24) hx hb dX5_seat_19 (by decide) (fun c_19 => ?_) (fun c_19 => ?_)
    · refine lv_aload_n hx hb dX5_seat_24 rfl (lv_at hl 0 rfl) ?_
      refine va_get (D := D) (ci := 6) (v := .ref ot) (C := RX5) (T := TX5) (N := 10) hx hb hts q1 hown hK hP 0 rfl rfl 0 (by decide) q0 (fun _ h9 => h9) rfl dX5_seat_25 ?_
      refine lv_iload_n hx hb dX5_seat_28 rfl (lv_at hl 2 rfl) ?_
      refine lv_iconst (v := 5) hx hb dX5_seat_29 (by decide) ?_
      refine fRV (As := [.int x2, .int 5]) (rest := []) (st' := [.int (fX3_ofStool T x2 5)]) ⟨hx, hb, hml, hown, hts⟩ (kX3_ofStool l D cI cC cT ot ot1 ot2 T x2 5) (cwV 2 hts gX5_seat_X3_ofStool rfl rfl rfl (by decide +kernel) ⟨Nat.le_of_ble_eq_true rfl, Nat.le_of_ble_eq_true rfl⟩) hP hK [1, 2, 3] rfl 1 (ci := 4) rfl rfl rfl rfl hl.1 rfl rfl (Nat.le_of_ble_eq_true rfl) ⟨Nat.zero_le _, Nat.zero_le _⟩ dX5_seat_30 ?_
      refine lv_istore_n (lv' := [(3, .int (fX3_ofStool T x2 5)), (0, .ref x), (1, .int x1), (2, .int x2)]) hx hb dX5_seat_33 rfl hl (by decide) rfl (fun ls hl => ?_)
      refine lv_iload_n hx hb dX5_seat_34 rfl (lv_at hl 0 rfl) ?_
      refine lv_iload_n hx hb dX5_seat_35 rfl (lv_at hl 2 rfl) ?_
      refine lv_icmp_ne (tgt := 46) hx hb dX5_seat_36 (by decide) (fun c_36 => ?_) (fun c_36 => ?_)
      · refine lv_iload_n hx hb dX5_seat_46 rfl (lv_at hl 0 rfl) ?_
        refine lv_iconst (v := (-1)) hx hb dX5_seat_47 (by decide) ?_
        refine lv_icmp_eq (tgt := 58) hx hb dX5_seat_48 (by decide) (fun c_48 => ?_) (fun c_48 => ?_)
        · refine lv_aload_n hx hb dX5_seat_58 rfl (lv_at hl 1 rfl) ?_
          refine va_get (D := D) (ci := 6) (v := .ref ot) (C := RX5) (T := TX5) (N := 10) hx hb hts q1 hown hK hP 0 rfl rfl 0 (by decide) q0 (fun _ h9 => h9) rfl dX5_seat_59 ?_
          refine lv_iload_n hx hb dX5_seat_62 rfl (lv_at hl 2 rfl) ?_
          refine lv_iload_n hx hb dX5_seat_63 rfl (lv_at hl 3 rfl) ?_
          refine fRV (As := [.int x1, .int x2]) (rest := []) (st' := [.int (fX3_maySit T x1 x2)]) ⟨hx, hb, hml, hown, hts⟩ (kX3_maySit l D cI cC cT ot ot1 ot2 T x1 x2) (cwV 2 hts gX5_seat_X3_maySit rfl rfl rfl (by decide +kernel) ⟨Nat.le_of_ble_eq_true rfl, Nat.le_of_ble_eq_true rfl⟩) hP hK [1, 2, 3] rfl 1 (ci := 4) rfl rfl rfl rfl hl.1 rfl rfl (Nat.le_of_ble_eq_true rfl) ⟨Nat.zero_le _, Nat.zero_le _⟩ dX5_seat_64 ?_
          refine lv_if_ne (tgt := 77) hx hb dX5_seat_67 (by decide) (fun c_67 => ?_) (fun c_67 => ?_)
          · refine lv_aload_n hx hb dX5_seat_77 rfl (lv_at hl 1 rfl) ?_
            refine va_get (D := D) (ci := 6) (v := .ref ot) (C := RX5) (T := TX5) (N := 10) hx hb hts q1 hown hK hP 0 rfl rfl 0 (by decide) q0 (fun _ h9 => h9) rfl dX5_seat_78 ?_
            refine lv_iload_n hx hb dX5_seat_81 rfl (lv_at hl 2 rfl) ?_
            obtain ⟨n1, en1⟩ : ∃ z9, z9 = (fX3_leave T x1) := ⟨_, rfl⟩
            have k9 := (kX3_leave l D cI cC cT ot ot1 ot2 T x1)
            rw [← en1] at k9
            refine fUV (As := [.int x1]) (rest := []) (st' := [.int n1.1]) ⟨hx, hb, hml, hown, hts⟩ k9 (cwV 1 hts gX5_seat_X3_leave rfl rfl rfl (by decide +kernel) ⟨Nat.le_of_ble_eq_true rfl, Nat.le_of_ble_eq_true rfl⟩) hP hK hD hS [1, 2, 3] rfl rfl (by decide) rfl [(x, .inr (6, [.ref ot, .ref ou, .ref ov, .ref oh, .ref ox, .ref oy, .int S.1, .int S.2.1, .int S.2.2.1, .int S.2.2.2])), (ot, .inr (4, [.ref ot1, .ref ot2, .int n1.2.2.2.1, .int n1.2.2.2.2.1, .int n1.2.2.2.2.2.1, .int n1.2.2.2.2.2.2.1, .int n1.2.2.2.2.2.2.2.1, .int n1.2.2.2.2.2.2.2.2])), (ot1, .inl (cI, 72, .inl n1.2.1)), (ot2, .inl (cI, 36, .inl n1.2.2.1))] rfl rfl 1 (ci := 4) rfl rfl rfl rfl hl.1 rfl rfl (Nat.le_of_ble_eq_true rfl) ⟨Nat.zero_le _, Nat.zero_le _⟩ dX5_seat_82 (fun H locs hP hD hS => ?_)
            refine lv_pop hx hb dX5_seat_85 rfl ?_
            refine lv_aload_n hx hb dX5_seat_86 rfl (lv_at hl 1 rfl) ?_
            refine va_get (D := D) (ci := 6) (v := .ref ot) (C := RX5) (T := TX5) (N := 10) hx hb hts q1 hown hK hP 0 rfl rfl 0 (by decide) q0 (fun _ h9 => h9) rfl dX5_seat_87 ?_
            refine lv_iload_n hx hb dX5_seat_90 rfl (lv_at hl 2 rfl) ?_
            refine lv_iload_n hx hb dX5_seat_91 rfl (lv_at hl 3 rfl) ?_
            obtain ⟨n2, en2⟩ : ∃ z9, z9 = (fX3_take n1.2 x1 x2) := ⟨_, rfl⟩
            have k9 := (kX3_take l D cI cC cT ot ot1 ot2 n1.2 x1 x2)
            rw [← en2] at k9
            refine fUV (As := [.int x1, .int x2]) (rest := []) (st' := []) ⟨hx, hb, hml, hown, hts⟩ k9 (cwV 2 hts gX5_seat_X3_take rfl rfl rfl (by decide +kernel) ⟨Nat.le_of_ble_eq_true rfl, Nat.le_of_ble_eq_true rfl⟩) hP hK hD hS [1, 2, 3] rfl rfl (by decide) rfl [(x, .inr (6, [.ref ot, .ref ou, .ref ov, .ref oh, .ref ox, .ref oy, .int S.1, .int S.2.1, .int S.2.2.1, .int S.2.2.2])), (ot, .inr (4, [.ref ot1, .ref ot2, .int n2.2.2.1, .int n2.2.2.2.1, .int n2.2.2.2.2.1, .int n2.2.2.2.2.2.1, .int n2.2.2.2.2.2.2.1, .int n2.2.2.2.2.2.2.2])), (ot1, .inl (cI, 72, .inl n2.1)), (ot2, .inl (cI, 36, .inl n2.2.1))] rfl rfl 1 (ci := 4) rfl rfl rfl rfl hl.1 rfl rfl (Nat.le_of_ble_eq_true rfl) ⟨Nat.zero_le _, Nat.zero_le _⟩ dX5_seat_92 (fun H locs hP hD hS => ?_)
            refine lv_aload_n hx hb dX5_seat_95 rfl (lv_at hl 1 rfl) ?_
            refine va_get (D := D) (ci := 6) (v := .ref ot) (C := RX5) (T := TX5) (N := 10) hx hb hts q1 hown hK hP 0 rfl rfl 0 (by decide) q0 (fun _ h9 => h9) rfl dX5_seat_96 ?_
            refine lv_iload_n hx hb dX5_seat_99 rfl (lv_at hl 2 rfl) ?_
            refine fRV (As := [.int x1]) (rest := []) (st' := [.int (fX3_clashesWith n2 x1)]) ⟨hx, hb, hml, hown, hts⟩ (kX3_clashesWith l D cI cC cT ot ot1 ot2 n2 x1) (cwV 1 hts gX5_seat_X3_clashesWith rfl rfl rfl (by decide +kernel) ⟨Nat.le_of_ble_eq_true rfl, Nat.le_of_ble_eq_true rfl⟩) hP hK [1, 2, 3] rfl 1 (ci := 4) rfl rfl rfl rfl hl.1 rfl rfl (Nat.le_of_ble_eq_true rfl) ⟨Nat.zero_le _, Nat.zero_le _⟩ dX5_seat_100 ?_
            have e9 : fX5_seat S T x1 x2 = ((fX3_clashesWith n2 x1), S, n2) := by rw [fX5_seat, if_neg c_8, if_neg c_19, if_neg c_36, if_pos c_48, if_neg c_67, ← en1, ← en2]
            exact rUi hx hb hr hlk hQ hP hS (by rw [e9]) (congrArg (fun z9 : (Int32 × CV × TV) => w5 x ot ou ov oh ox oy z9.2.1 ++ w3 cI ot ot1 ot2 z9.2.2) e9).symm rfl dX5_seat_103
          · refine lv_aload_n hx hb dX5_seat_70 rfl (lv_at hl 1 rfl) ?_
            refine lv_iconst (v := 3) hx hb dX5_seat_71 (by decide) ?_
            refine lv_iload_n hx hb dX5_seat_72 rfl (lv_at hl 3 rfl) ?_
            obtain ⟨n3, en3⟩ : ∃ z9, z9 = (fX5_refuse S 3 x2) := ⟨_, rfl⟩
            have k9 := (kX5_refuse l D cI cC cT x ot ou ov oh ox oy S 3 x2)
            rw [← en3] at k9
            refine fUVp (As := [.int 3, .int x2]) (rest := []) (st' := [.int n3.1]) ⟨hx, hb, hml, hown, hts⟩ k9 (cwV 2 hts gX5_seat_X5_refuse rfl rfl rfl (by decide +kernel) ⟨Nat.le_of_ble_eq_true rfl, Nat.le_of_ble_eq_true rfl⟩) hP hK hD hS [(ot, .inr (4, [.ref ot1, .ref ot2, .int T.2.2.1, .int T.2.2.2.1, .int T.2.2.2.2.1, .int T.2.2.2.2.2.1, .int T.2.2.2.2.2.2.1, .int T.2.2.2.2.2.2.2])), (ot1, .inl (cI, 72, .inl T.1)), (ot2, .inl (cI, 36, .inl T.2.1))] rfl [(x, .inr (6, [.ref ot, .ref ou, .ref ov, .ref oh, .ref ox, .ref oy, .int n3.2.1, .int n3.2.2.1, .int n3.2.2.2.1, .int n3.2.2.2.2])), (ot, .inr (4, [.ref ot1, .ref ot2, .int T.2.2.1, .int T.2.2.2.1, .int T.2.2.2.2.1, .int T.2.2.2.2.2.1, .int T.2.2.2.2.2.2.1, .int T.2.2.2.2.2.2.2])), (ot1, .inl (cI, 72, .inl T.1)), (ot2, .inl (cI, 36, .inl T.2.1))] rfl rfl 0 (ci := 6) rfl rfl rfl rfl hl.1 rfl rfl (Nat.le_of_ble_eq_true rfl) ⟨Nat.zero_le _, Nat.zero_le _⟩ dX5_seat_73 (fun H locs hP hD hS => ?_)
            have e9 : fX5_seat S T x1 x2 = (n3.1, n3.2, T) := by rw [fX5_seat, if_neg c_8, if_neg c_19, if_neg c_36, if_pos c_48, if_pos c_67, ← en3]
            exact rUi hx hb hr hlk hQ hP hS (by rw [e9]) (congrArg (fun z9 : (Int32 × CV × TV) => w5 x ot ou ov oh ox oy z9.2.1 ++ w3 cI ot ot1 ot2 z9.2.2) e9).symm rfl dX5_seat_76
        · refine lv_aload_n hx hb dX5_seat_51 rfl (lv_at hl 1 rfl) ?_
          refine lv_iconst (v := 2) hx hb dX5_seat_52 (by decide) ?_
          refine lv_iload_n hx hb dX5_seat_53 rfl (lv_at hl 0 rfl) ?_
          obtain ⟨n4, en4⟩ : ∃ z9, z9 = (fX5_refuse S 2 (fX3_ofStool T x2 5)) := ⟨_, rfl⟩
          have k9 := (kX5_refuse l D cI cC cT x ot ou ov oh ox oy S 2 (fX3_ofStool T x2 5))
          rw [← en4] at k9
          refine fUVp (As := [.int 2, .int (fX3_ofStool T x2 5)]) (rest := []) (st' := [.int n4.1]) ⟨hx, hb, hml, hown, hts⟩ k9 (cwV 2 hts gX5_seat_X5_refuse rfl rfl rfl (by decide +kernel) ⟨Nat.le_of_ble_eq_true rfl, Nat.le_of_ble_eq_true rfl⟩) hP hK hD hS [(ot, .inr (4, [.ref ot1, .ref ot2, .int T.2.2.1, .int T.2.2.2.1, .int T.2.2.2.2.1, .int T.2.2.2.2.2.1, .int T.2.2.2.2.2.2.1, .int T.2.2.2.2.2.2.2])), (ot1, .inl (cI, 72, .inl T.1)), (ot2, .inl (cI, 36, .inl T.2.1))] rfl [(x, .inr (6, [.ref ot, .ref ou, .ref ov, .ref oh, .ref ox, .ref oy, .int n4.2.1, .int n4.2.2.1, .int n4.2.2.2.1, .int n4.2.2.2.2])), (ot, .inr (4, [.ref ot1, .ref ot2, .int T.2.2.1, .int T.2.2.2.1, .int T.2.2.2.2.1, .int T.2.2.2.2.2.1, .int T.2.2.2.2.2.2.1, .int T.2.2.2.2.2.2.2])), (ot1, .inl (cI, 72, .inl T.1)), (ot2, .inl (cI, 36, .inl T.2.1))] rfl rfl 0 (ci := 6) rfl rfl rfl rfl hl.1 rfl rfl (Nat.le_of_ble_eq_true rfl) ⟨Nat.zero_le _, Nat.zero_le _⟩ dX5_seat_54 (fun H locs hP hD hS => ?_)
          have e9 : fX5_seat S T x1 x2 = (n4.1, n4.2, T) := by rw [fX5_seat, if_neg c_8, if_neg c_19, if_neg c_36, if_neg c_48, ← en4]
          exact rUi hx hb hr hlk hQ hP hS (by rw [e9]) (congrArg (fun z9 : (Int32 × CV × TV) => w5 x ot ou ov oh ox oy z9.2.1 ++ w3 cI ot ot1 ot2 z9.2.2) e9).symm rfl dX5_seat_57
      · refine lv_aload_n hx hb dX5_seat_39 rfl (lv_at hl 1 rfl) ?_
        refine lv_iconst (v := 4) hx hb dX5_seat_40 (by decide) ?_
        refine lv_iload_n hx hb dX5_seat_41 rfl (lv_at hl 2 rfl) ?_
        obtain ⟨n5, en5⟩ : ∃ z9, z9 = (fX5_refuse S 4 x1) := ⟨_, rfl⟩
        have k9 := (kX5_refuse l D cI cC cT x ot ou ov oh ox oy S 4 x1)
        rw [← en5] at k9
        refine fUVp (As := [.int 4, .int x1]) (rest := []) (st' := [.int n5.1]) ⟨hx, hb, hml, hown, hts⟩ k9 (cwV 2 hts gX5_seat_X5_refuse rfl rfl rfl (by decide +kernel) ⟨Nat.le_of_ble_eq_true rfl, Nat.le_of_ble_eq_true rfl⟩) hP hK hD hS [(ot, .inr (4, [.ref ot1, .ref ot2, .int T.2.2.1, .int T.2.2.2.1, .int T.2.2.2.2.1, .int T.2.2.2.2.2.1, .int T.2.2.2.2.2.2.1, .int T.2.2.2.2.2.2.2])), (ot1, .inl (cI, 72, .inl T.1)), (ot2, .inl (cI, 36, .inl T.2.1))] rfl [(x, .inr (6, [.ref ot, .ref ou, .ref ov, .ref oh, .ref ox, .ref oy, .int n5.2.1, .int n5.2.2.1, .int n5.2.2.2.1, .int n5.2.2.2.2])), (ot, .inr (4, [.ref ot1, .ref ot2, .int T.2.2.1, .int T.2.2.2.1, .int T.2.2.2.2.1, .int T.2.2.2.2.2.1, .int T.2.2.2.2.2.2.1, .int T.2.2.2.2.2.2.2])), (ot1, .inl (cI, 72, .inl T.1)), (ot2, .inl (cI, 36, .inl T.2.1))] rfl rfl 0 (ci := 6) rfl rfl rfl rfl hl.1 rfl rfl (Nat.le_of_ble_eq_true rfl) ⟨Nat.zero_le _, Nat.zero_le _⟩ dX5_seat_42 (fun H locs hP hD hS => ?_)
        have e9 : fX5_seat S T x1 x2 = (n5.1, n5.2, T) := by rw [fX5_seat, if_neg c_8, if_neg c_19, if_pos c_36, ← en5]
        exact rUi hx hb hr hlk hQ hP hS (by rw [e9]) (congrArg (fun z9 : (Int32 × CV × TV) => w5 x ot ou ov oh ox oy z9.2.1 ++ w3 cI ot ot1 ot2 z9.2.2) e9).symm rfl dX5_seat_45
    · refine lv_iconst (v := (-1)) hx hb dX5_seat_22 (by decide) ?_
      have e9 : fX5_seat S T x1 x2 = ((-1), S, T) := by rw [fX5_seat, if_neg c_8, if_pos c_19]
      exact rUi hx hb hr hlk hQ hP hS (by rw [e9]) (congrArg (fun z9 : (Int32 × CV × TV) => w5 x ot ou ov oh ox oy z9.2.1 ++ w3 cI ot ot1 ot2 z9.2.2) e9).symm rfl dX5_seat_23
def fX5_letGetUp (S : CV) (T : TV) (x1 : Int32) : (Int32 × CV × TV) := (if (fX3_hasSitter T x1) = 0 then ((-1), S, T) else (if (fX3_sits T x1) = 0 then ((fX5_refuse S 4 x1).1, (fX5_refuse S 4 x1).2, T) else ((fX3_leave T x1).1, S, (fX3_leave T x1).2)))
abbrev rmX5_letGetUp : Room := { frames := 2, cells := 0, slots := 0, locals := 45 }
set_option maxHeartbeats 4000000 in
set_option maxRecDepth 100000 in
theorem kX5_letGetUp (l : Launch) (D : va_G) (cI cC cT : ClassId) (x ot ou ov oh ox oy ot1 ot2 : Nat) (S : CV) (T : TV) (x1 : Int32)  : mU l D (TY cI cC cT) yX5_letGetUp wsX5_letGetUp rmX5_letGetUp [.ref x, .int x1] (w5 x ot ou ov oh ox oy S ++ w3 cI ot ot1 ot2 T) (some (.int (fX5_letGetUp S T x1).1)) (w5 x ot ou ov oh ox oy (fX5_letGetUp S T x1).2.1 ++ w3 cI ot ot1 ot2 (fX5_letGetUp S T x1).2.2) := by
  refine mU.ofW (cc := cX5_letGetUp) (maxL := 2) (ret := (some .int)) (by decide) rfl (Nat.le_of_ble_eq_true rfl) ?_
  intro p e s m args below meth c Q ls A hx hb hml hr hlk hts hown hP hK hD hS hl hQ
  have hown : s.vm.findClass RX5 = some m.cls := hown
  have hP : va_P D vwCl [(x, .inr (6, [.ref ot, .ref ou, .ref ov, .ref oh, .ref ox, .ref oy, .int S.1, .int S.2.1, .int S.2.2.1, .int S.2.2.2])), (ot, .inr (4, [.ref ot1, .ref ot2, .int T.2.2.1, .int T.2.2.2.1, .int T.2.2.2.2.1, .int T.2.2.2.2.2.1, .int T.2.2.2.2.2.2.1, .int T.2.2.2.2.2.2.2])), (ot1, .inl (cI, 72, .inl T.1)), (ot2, .inl (cI, 36, .inl T.2.1))] s.heap := hP
  have hD : va_D A [(x, .inr (6, [.ref ot, .ref ou, .ref ov, .ref oh, .ref ox, .ref oy, .int S.1, .int S.2.1, .int S.2.2.1, .int S.2.2.2])), (ot, .inr (4, [.ref ot1, .ref ot2, .int T.2.2.1, .int T.2.2.2.1, .int T.2.2.2.2.1, .int T.2.2.2.2.2.1, .int T.2.2.2.2.2.2.1, .int T.2.2.2.2.2.2.2])), (ot1, .inl (cI, 72, .inl T.1)), (ot2, .inl (cI, 36, .inl T.2.1))] := hD
  have hl : lv_has ls 2 [(0, .ref x), (1, .int x1)] := hl
  have q0 := hts (Cond.fieldLink RX5 10 "TavernStools" "tavern" "LTavernStools$Tavern;") (by decide +kernel)
  have q1 : ∀ w ∈ u_ws RX5 TX5 10, w ∈ wsX5_letGetUp := by decide +kernel
  generalize hHe : s.heap = H at hP ⊢
  have hS : va_S A s.heap H [] := hHe ▸ hS
  generalize hLe : ([] : List Loc) = locs at hS ⊢
  refine lv_aload_n hx hb dX5_letGetUp_0 rfl (lv_at hl 0 rfl) ?_
  refine va_get (D := D) (ci := 6) (v := .ref ot) (C := RX5) (T := TX5) (N := 10) hx hb hts q1 hown hK hP 0 rfl rfl 0 (by decide) q0 (fun _ h9 => h9) rfl dX5_letGetUp_1 ?_
  refine lv_iload_n hx hb dX5_letGetUp_4 rfl (lv_at hl 1 rfl) ?_
  refine fRV (As := [.int x1]) (rest := []) (st' := [.int (fX3_hasSitter T x1)]) ⟨hx, hb, hml, hown, hts⟩ (kX3_hasSitter l D cI cC cT ot ot1 ot2 T x1) (cwV 1 hts gX5_letGetUp_X3_hasSitter rfl rfl rfl (by decide +kernel) ⟨Nat.le_of_ble_eq_true rfl, Nat.le_of_ble_eq_true rfl⟩) hP hK [1, 2, 3] rfl 1 (ci := 4) rfl rfl rfl rfl hl.1 rfl rfl (Nat.le_of_ble_eq_true rfl) ⟨Nat.zero_le _, Nat.zero_le _⟩ dX5_letGetUp_5 ?_
  refine lv_if_ne (tgt := 13) hx hb dX5_letGetUp_8 (by decide) (fun c_8 => ?_) (fun c_8 => ?_)
  · refine lv_aload_n hx hb dX5_letGetUp_13 rfl (lv_at hl 0 rfl) ?_
    refine va_get (D := D) (ci := 6) (v := .ref ot) (C := RX5) (T := TX5) (N := 10) hx hb hts q1 hown hK hP 0 rfl rfl 0 (by decide) q0 (fun _ h9 => h9) rfl dX5_letGetUp_14 ?_
    refine lv_iload_n hx hb dX5_letGetUp_17 rfl (lv_at hl 1 rfl) ?_
    refine fRV (As := [.int x1]) (rest := []) (st' := [.int (fX3_sits T x1)]) ⟨hx, hb, hml, hown, hts⟩ (kX3_sits l D cI cC cT ot ot1 ot2 T x1) (cwV 1 hts gX5_letGetUp_X3_sits rfl rfl rfl (by decide +kernel) ⟨Nat.le_of_ble_eq_true rfl, Nat.le_of_ble_eq_true rfl⟩) hP hK [1, 2, 3] rfl 1 (ci := 4) rfl rfl rfl rfl hl.1 rfl rfl (Nat.le_of_ble_eq_true rfl) ⟨Nat.zero_le _, Nat.zero_le _⟩ dX5_letGetUp_18 ?_
    refine lv_if_ne (tgt := 31) hx hb dX5_letGetUp_21 (by decide) (fun c_21 => ?_) (fun c_21 => ?_)
    · refine lv_aload_n hx hb dX5_letGetUp_31 rfl (lv_at hl 0 rfl) ?_
      refine va_get (D := D) (ci := 6) (v := .ref ot) (C := RX5) (T := TX5) (N := 10) hx hb hts q1 hown hK hP 0 rfl rfl 0 (by decide) q0 (fun _ h9 => h9) rfl dX5_letGetUp_32 ?_
      refine lv_iload_n hx hb dX5_letGetUp_35 rfl (lv_at hl 1 rfl) ?_
      obtain ⟨n1, en1⟩ : ∃ z9, z9 = (fX3_leave T x1) := ⟨_, rfl⟩
      have k9 := (kX3_leave l D cI cC cT ot ot1 ot2 T x1)
      rw [← en1] at k9
      refine fUV (As := [.int x1]) (rest := []) (st' := [.int n1.1]) ⟨hx, hb, hml, hown, hts⟩ k9 (cwV 1 hts gX5_letGetUp_X3_leave rfl rfl rfl (by decide +kernel) ⟨Nat.le_of_ble_eq_true rfl, Nat.le_of_ble_eq_true rfl⟩) hP hK hD hS [1, 2, 3] rfl rfl (by decide) rfl [(x, .inr (6, [.ref ot, .ref ou, .ref ov, .ref oh, .ref ox, .ref oy, .int S.1, .int S.2.1, .int S.2.2.1, .int S.2.2.2])), (ot, .inr (4, [.ref ot1, .ref ot2, .int n1.2.2.2.1, .int n1.2.2.2.2.1, .int n1.2.2.2.2.2.1, .int n1.2.2.2.2.2.2.1, .int n1.2.2.2.2.2.2.2.1, .int n1.2.2.2.2.2.2.2.2])), (ot1, .inl (cI, 72, .inl n1.2.1)), (ot2, .inl (cI, 36, .inl n1.2.2.1))] rfl rfl 1 (ci := 4) rfl rfl rfl rfl hl.1 rfl rfl (Nat.le_of_ble_eq_true rfl) ⟨Nat.zero_le _, Nat.zero_le _⟩ dX5_letGetUp_36 (fun H locs hP hD hS => ?_)
      have e9 : fX5_letGetUp S T x1 = (n1.1, S, n1.2) := by rw [fX5_letGetUp, if_neg c_8, if_neg c_21, ← en1]
      exact rUi hx hb hr hlk hQ hP hS (by rw [e9]) (congrArg (fun z9 : (Int32 × CV × TV) => w5 x ot ou ov oh ox oy z9.2.1 ++ w3 cI ot ot1 ot2 z9.2.2) e9).symm rfl dX5_letGetUp_39
    · refine lv_aload_n hx hb dX5_letGetUp_24 rfl (lv_at hl 0 rfl) ?_
      refine lv_iconst (v := 4) hx hb dX5_letGetUp_25 (by decide) ?_
      refine lv_iload_n hx hb dX5_letGetUp_26 rfl (lv_at hl 1 rfl) ?_
      obtain ⟨n2, en2⟩ : ∃ z9, z9 = (fX5_refuse S 4 x1) := ⟨_, rfl⟩
      have k9 := (kX5_refuse l D cI cC cT x ot ou ov oh ox oy S 4 x1)
      rw [← en2] at k9
      refine fUVp (As := [.int 4, .int x1]) (rest := []) (st' := [.int n2.1]) ⟨hx, hb, hml, hown, hts⟩ k9 (cwV 2 hts gX5_letGetUp_X5_refuse rfl rfl rfl (by decide +kernel) ⟨Nat.le_of_ble_eq_true rfl, Nat.le_of_ble_eq_true rfl⟩) hP hK hD hS [(ot, .inr (4, [.ref ot1, .ref ot2, .int T.2.2.1, .int T.2.2.2.1, .int T.2.2.2.2.1, .int T.2.2.2.2.2.1, .int T.2.2.2.2.2.2.1, .int T.2.2.2.2.2.2.2])), (ot1, .inl (cI, 72, .inl T.1)), (ot2, .inl (cI, 36, .inl T.2.1))] rfl [(x, .inr (6, [.ref ot, .ref ou, .ref ov, .ref oh, .ref ox, .ref oy, .int n2.2.1, .int n2.2.2.1, .int n2.2.2.2.1, .int n2.2.2.2.2])), (ot, .inr (4, [.ref ot1, .ref ot2, .int T.2.2.1, .int T.2.2.2.1, .int T.2.2.2.2.1, .int T.2.2.2.2.2.1, .int T.2.2.2.2.2.2.1, .int T.2.2.2.2.2.2.2])), (ot1, .inl (cI, 72, .inl T.1)), (ot2, .inl (cI, 36, .inl T.2.1))] rfl rfl 0 (ci := 6) rfl rfl rfl rfl hl.1 rfl rfl (Nat.le_of_ble_eq_true rfl) ⟨Nat.zero_le _, Nat.zero_le _⟩ dX5_letGetUp_27 (fun H locs hP hD hS => ?_)
      have e9 : fX5_letGetUp S T x1 = (n2.1, n2.2, T) := by rw [fX5_letGetUp, if_neg c_8, if_pos c_21, ← en2]
      exact rUi hx hb hr hlk hQ hP hS (by rw [e9]) (congrArg (fun z9 : (Int32 × CV × TV) => w5 x ot ou ov oh ox oy z9.2.1 ++ w3 cI ot ot1 ot2 z9.2.2) e9).symm rfl dX5_letGetUp_30
  · refine lv_iconst (v := (-1)) hx hb dX5_letGetUp_11 (by decide) ?_
    have e9 : fX5_letGetUp S T x1 = ((-1), S, T) := by rw [fX5_letGetUp, if_pos c_8]
    exact rUi hx hb hr hlk hQ hP hS (by rw [e9]) (congrArg (fun z9 : (Int32 × CV × TV) => w5 x ot ou ov oh ox oy z9.2.1 ++ w3 cI ot ot1 ot2 z9.2.2) e9).symm rfl dX5_letGetUp_12
def fX5_letBrawl (S : CV) (T : TV) (x1 : Int32) (x2 : Int32) : (Int32 × CV × TV) := (if (fX3_hasStool T x1) = 0 then ((-1), S, T) else (if (fX3_hasStool T x2) = 0 then ((-1), S, T) else (if x1 ≤ x2 then (if (fX3_takenStools T x1 x2) = 0 then ((fX5_refuse S 8 (fX3_takenStools T 0 (T.2.2.1 - 1))).1, (fX5_refuse S 8 (fX3_takenStools T 0 (T.2.2.1 - 1))).2, T) else ((fX3_seatAnew (T.1, T.2.1, T.2.2.1, T.2.2.2.1, T.2.2.2.2.1, T.2.2.2.2.2.1, (T.2.2.2.2.2.2.1 + 1), T.2.2.2.2.2.2.2) x1 x2).1, S, (fX3_seatAnew (T.1, T.2.1, T.2.2.1, T.2.2.2.1, T.2.2.2.2.1, T.2.2.2.2.2.1, (T.2.2.2.2.2.2.1 + 1), T.2.2.2.2.2.2.2) x1 x2).2)) else ((-2), S, T))))
abbrev rmX5_letBrawl : Room := { frames := 4, cells := 0, slots := 0, locals := 97 }
set_option maxHeartbeats 4000000 in
set_option maxRecDepth 100000 in
theorem kX5_letBrawl (l : Launch) (D : va_G) (cI cC cT : ClassId) (x ot ou ov oh ox oy ot1 ot2 : Nat) (S : CV) (T : TV) (x1 : Int32) (x2 : Int32)  : mU l D (TY cI cC cT) yX5_letBrawl wsX5_letBrawl rmX5_letBrawl [.ref x, .int x1, .int x2] (w5 x ot ou ov oh ox oy S ++ w3 cI ot ot1 ot2 T) (some (.int (fX5_letBrawl S T x1 x2).1)) (w5 x ot ou ov oh ox oy (fX5_letBrawl S T x1 x2).2.1 ++ w3 cI ot ot1 ot2 (fX5_letBrawl S T x1 x2).2.2) := by
  refine mU.ofW (cc := cX5_letBrawl) (maxL := 3) (ret := (some .int)) (by decide) rfl (Nat.le_of_ble_eq_true rfl) ?_
  intro p e s m args below meth c Q ls A hx hb hml hr hlk hts hown hP hK hD hS hl hQ
  have hown : s.vm.findClass RX5 = some m.cls := hown
  have hP : va_P D vwCl [(x, .inr (6, [.ref ot, .ref ou, .ref ov, .ref oh, .ref ox, .ref oy, .int S.1, .int S.2.1, .int S.2.2.1, .int S.2.2.2])), (ot, .inr (4, [.ref ot1, .ref ot2, .int T.2.2.1, .int T.2.2.2.1, .int T.2.2.2.2.1, .int T.2.2.2.2.2.1, .int T.2.2.2.2.2.2.1, .int T.2.2.2.2.2.2.2])), (ot1, .inl (cI, 72, .inl T.1)), (ot2, .inl (cI, 36, .inl T.2.1))] s.heap := hP
  have hD : va_D A [(x, .inr (6, [.ref ot, .ref ou, .ref ov, .ref oh, .ref ox, .ref oy, .int S.1, .int S.2.1, .int S.2.2.1, .int S.2.2.2])), (ot, .inr (4, [.ref ot1, .ref ot2, .int T.2.2.1, .int T.2.2.2.1, .int T.2.2.2.2.1, .int T.2.2.2.2.2.1, .int T.2.2.2.2.2.2.1, .int T.2.2.2.2.2.2.2])), (ot1, .inl (cI, 72, .inl T.1)), (ot2, .inl (cI, 36, .inl T.2.1))] := hD
  have hl : lv_has ls 3 [(0, .ref x), (1, .int x1), (2, .int x2)] := hl
  have q0 := hts (Cond.fieldLink RX5 10 "TavernStools" "tavern" "LTavernStools$Tavern;") (by decide +kernel)
  have q1 : ∀ w ∈ u_ws RX5 TX5 10, w ∈ wsX5_letBrawl := by decide +kernel
  have q2 := hts (Cond.fieldLink RX5 264 "TavernStools$Tavern" "brawls" "I") (by decide +kernel)
  have q3 : ∀ w ∈ u_ws RX3 TX3 8, w ∈ wsX5_letBrawl := by decide +kernel
  have q4 := hts (Cond.fieldLink RX5 124 "TavernStools$Tavern" "stools" "I") (by decide +kernel)
  generalize hHe : s.heap = H at hP ⊢
  have hS : va_S A s.heap H [] := hHe ▸ hS
  generalize hLe : ([] : List Loc) = locs at hS ⊢
  refine lv_aload_n hx hb dX5_letBrawl_0 rfl (lv_at hl 0 rfl) ?_
  refine va_get (D := D) (ci := 6) (v := .ref ot) (C := RX5) (T := TX5) (N := 10) hx hb hts q1 hown hK hP 0 rfl rfl 0 (by decide) q0 (fun _ h9 => h9) rfl dX5_letBrawl_1 ?_
  refine lv_iload_n hx hb dX5_letBrawl_4 rfl (lv_at hl 1 rfl) ?_
  refine fRV (As := [.int x1]) (rest := []) (st' := [.int (fX3_hasStool T x1)]) ⟨hx, hb, hml, hown, hts⟩ (kX3_hasStool l D cI cC cT ot ot1 ot2 T x1) (cwV 1 hts gX5_letBrawl_X3_hasStool rfl rfl rfl (by decide +kernel) ⟨Nat.le_of_ble_eq_true rfl, Nat.le_of_ble_eq_true rfl⟩) hP hK [1, 2, 3] rfl 1 (ci := 4) rfl rfl rfl rfl hl.1 rfl rfl (Nat.le_of_ble_eq_true rfl) ⟨Nat.zero_le _, Nat.zero_le _⟩ dX5_letBrawl_5 ?_
  refine lv_if_eq (tgt := 22) hx hb dX5_letBrawl_8 (by decide) (fun c_8 => ?_) (fun c_8 => ?_)
  · refine lv_iconst (v := (-1)) hx hb dX5_letBrawl_22 (by decide) ?_
    have e9 : fX5_letBrawl S T x1 x2 = ((-1), S, T) := by rw [fX5_letBrawl, if_pos c_8]
    exact rUi hx hb hr hlk hQ hP hS (by rw [e9]) (congrArg (fun z9 : (Int32 × CV × TV) => w5 x ot ou ov oh ox oy z9.2.1 ++ w3 cI ot ot1 ot2 z9.2.2) e9).symm rfl dX5_letBrawl_23
  · refine lv_aload_n hx hb dX5_letBrawl_11 rfl (lv_at hl 0 rfl) ?_
    refine va_get (D := D) (ci := 6) (v := .ref ot) (C := RX5) (T := TX5) (N := 10) hx hb hts q1 hown hK hP 0 rfl rfl 0 (by decide) q0 (fun _ h9 => h9) rfl dX5_letBrawl_12 ?_
    refine lv_iload_n hx hb dX5_letBrawl_15 rfl (lv_at hl 2 rfl) ?_
    refine fRV (As := [.int x2]) (rest := []) (st' := [.int (fX3_hasStool T x2)]) ⟨hx, hb, hml, hown, hts⟩ (kX3_hasStool l D cI cC cT ot ot1 ot2 T x2) (cwV 1 hts gX5_letBrawl_X3_hasStool rfl rfl rfl (by decide +kernel) ⟨Nat.le_of_ble_eq_true rfl, Nat.le_of_ble_eq_true rfl⟩) hP hK [1, 2, 3] rfl 1 (ci := 4) rfl rfl rfl rfl hl.1 rfl rfl (Nat.le_of_ble_eq_true rfl) ⟨Nat.zero_le _, Nat.zero_le _⟩ dX5_letBrawl_16 ?_
    refine lv_if_ne (tgt := 24) hx hb dX5_letBrawl_19 (by decide) (fun c_19 => ?_) (fun c_19 => ?_)
    · refine lv_iload_n hx hb dX5_letBrawl_24 rfl (lv_at hl 2 rfl) ?_
      refine lv_iload_n hx hb dX5_letBrawl_25 rfl (lv_at hl 1 rfl) ?_
      refine lv_icmp_ge (tgt := 32) hx hb dX5_letBrawl_26 (by decide) (fun c_26 => ?_) (fun c_26 => ?_)
      · refine lv_aload_n hx hb dX5_letBrawl_32 rfl (lv_at hl 0 rfl) ?_
        refine va_get (D := D) (ci := 6) (v := .ref ot) (C := RX5) (T := TX5) (N := 10) hx hb hts q1 hown hK hP 0 rfl rfl 0 (by decide) q0 (fun _ h9 => h9) rfl dX5_letBrawl_33 ?_
        refine lv_iload_n hx hb dX5_letBrawl_36 rfl (lv_at hl 1 rfl) ?_
        refine lv_iload_n hx hb dX5_letBrawl_37 rfl (lv_at hl 2 rfl) ?_
        refine fRV (As := [.int x1, .int x2]) (rest := []) (st' := [.int (fX3_takenStools T x1 x2)]) ⟨hx, hb, hml, hown, hts⟩ (kX3_takenStools l D cI cC cT ot ot1 ot2 T x1 x2) (cwV 2 hts gX5_letBrawl_X3_takenStools rfl rfl rfl (by decide +kernel) ⟨Nat.le_of_ble_eq_true rfl, Nat.le_of_ble_eq_true rfl⟩) hP hK [1, 2, 3] rfl 1 (ci := 4) rfl rfl rfl rfl hl.1 rfl rfl (Nat.le_of_ble_eq_true rfl) ⟨Nat.zero_le _, Nat.zero_le _⟩ dX5_letBrawl_38 ?_
        refine lv_if_ne (tgt := 68) hx hb dX5_letBrawl_41 (by decide) (fun c_41 => ?_) (fun c_41 => ?_)
        · refine lv_aload_n hx hb dX5_letBrawl_68 rfl (lv_at hl 0 rfl) ?_
          refine va_get (D := D) (ci := 6) (v := .ref ot) (C := RX5) (T := TX5) (N := 10) hx hb hts q1 hown hK hP 0 rfl rfl 0 (by decide) q0 (fun _ h9 => h9) rfl dX5_letBrawl_69 ?_
          refine lv_dup hx hb dX5_letBrawl_72 rfl ?_
          refine va_get (D := D) (ci := 4) (v := .int T.2.2.2.2.2.2.1) (C := RX3) (T := TX3) (N := 8) hx hb hts q3 hown hK hP 1 rfl rfl 6 (by decide) q2 (fun _ h9 => h9) rfl dX5_letBrawl_73 ?_
          refine lv_iconst (v := 1) hx hb dX5_letBrawl_76 (by decide) ?_
          refine lv_iadd hx hb dX5_letBrawl_77 ?_
          refine va_put (D := D) (ci := 4) (v := .int (T.2.2.2.2.2.2.1 + 1)) (ty := .int) (C := RX3) (T := TX3) (N := 8) hx hb hts q3 tyX3 tyX3_ok nmX3 hown hK hP hD hS 1 rfl rfl 6 (by decide) q2 (fun _ h9 => h9) rfl (by decide +kernel) rfl rfl (Nat.le_of_ble_eq_true rfl) dX5_letBrawl_78 (fun H locs hP hD hS => ?_)
          have hP : va_P D vwCl [(x, .inr (6, [.ref ot, .ref ou, .ref ov, .ref oh, .ref ox, .ref oy, .int S.1, .int S.2.1, .int S.2.2.1, .int S.2.2.2])), (ot, .inr (4, [.ref ot1, .ref ot2, .int T.2.2.1, .int T.2.2.2.1, .int T.2.2.2.2.1, .int T.2.2.2.2.2.1, .int (T.2.2.2.2.2.2.1 + 1), .int T.2.2.2.2.2.2.2])), (ot1, .inl (cI, 72, .inl T.1)), (ot2, .inl (cI, 36, .inl T.2.1))] H := hP
          have hD : va_D A [(x, .inr (6, [.ref ot, .ref ou, .ref ov, .ref oh, .ref ox, .ref oy, .int S.1, .int S.2.1, .int S.2.2.1, .int S.2.2.2])), (ot, .inr (4, [.ref ot1, .ref ot2, .int T.2.2.1, .int T.2.2.2.1, .int T.2.2.2.2.1, .int T.2.2.2.2.2.1, .int (T.2.2.2.2.2.2.1 + 1), .int T.2.2.2.2.2.2.2])), (ot1, .inl (cI, 72, .inl T.1)), (ot2, .inl (cI, 36, .inl T.2.1))] := hD
          refine lv_aload_n hx hb dX5_letBrawl_81 rfl (lv_at hl 0 rfl) ?_
          refine va_get (D := D) (ci := 6) (v := .ref ot) (C := RX5) (T := TX5) (N := 10) hx hb hts q1 hown hK hP 0 rfl rfl 0 (by decide) q0 (fun _ h9 => h9) rfl dX5_letBrawl_82 ?_
          refine lv_iload_n hx hb dX5_letBrawl_85 rfl (lv_at hl 1 rfl) ?_
          refine lv_iload_n hx hb dX5_letBrawl_86 rfl (lv_at hl 2 rfl) ?_
          obtain ⟨n1, en1⟩ : ∃ z9, z9 = (fX3_seatAnew (T.1, T.2.1, T.2.2.1, T.2.2.2.1, T.2.2.2.2.1, T.2.2.2.2.2.1, (T.2.2.2.2.2.2.1 + 1), T.2.2.2.2.2.2.2) x1 x2) := ⟨_, rfl⟩
          have k9 := (kX3_seatAnew l D cI cC cT ot ot1 ot2 (T.1, T.2.1, T.2.2.1, T.2.2.2.1, T.2.2.2.2.1, T.2.2.2.2.2.1, (T.2.2.2.2.2.2.1 + 1), T.2.2.2.2.2.2.2) x1 x2)
          rw [← en1] at k9
          refine fUV (As := [.int x1, .int x2]) (rest := []) (st' := [.int n1.1]) ⟨hx, hb, hml, hown, hts⟩ k9 (cwV 2 hts gX5_letBrawl_X3_seatAnew rfl rfl rfl (by decide +kernel) ⟨Nat.le_of_ble_eq_true rfl, Nat.le_of_ble_eq_true rfl⟩) hP hK hD hS [1, 2, 3] rfl rfl (by decide) rfl [(x, .inr (6, [.ref ot, .ref ou, .ref ov, .ref oh, .ref ox, .ref oy, .int S.1, .int S.2.1, .int S.2.2.1, .int S.2.2.2])), (ot, .inr (4, [.ref ot1, .ref ot2, .int n1.2.2.2.1, .int n1.2.2.2.2.1, .int n1.2.2.2.2.2.1, .int n1.2.2.2.2.2.2.1, .int n1.2.2.2.2.2.2.2.1, .int n1.2.2.2.2.2.2.2.2])), (ot1, .inl (cI, 72, .inl n1.2.1)), (ot2, .inl (cI, 36, .inl n1.2.2.1))] rfl rfl 1 (ci := 4) rfl rfl rfl rfl hl.1 rfl rfl (Nat.le_of_ble_eq_true rfl) ⟨Nat.zero_le _, Nat.zero_le _⟩ dX5_letBrawl_87 (fun H locs hP hD hS => ?_)
          have e9 : fX5_letBrawl S T x1 x2 = (n1.1, S, n1.2) := by rw [fX5_letBrawl, if_neg c_8, if_neg c_19, if_pos c_26, if_neg c_41, ← en1]
          exact rUi hx hb hr hlk hQ hP hS (by rw [e9]) (congrArg (fun z9 : (Int32 × CV × TV) => w5 x ot ou ov oh ox oy z9.2.1 ++ w3 cI ot ot1 ot2 z9.2.2) e9).symm rfl dX5_letBrawl_90
        · refine lv_aload_n hx hb dX5_letBrawl_44 rfl (lv_at hl 0 rfl) ?_
          refine lv_bipush (v := 8) hx hb dX5_letBrawl_45 (by decide) ?_
          refine lv_aload_n hx hb dX5_letBrawl_47 rfl (lv_at hl 0 rfl) ?_
          refine va_get (D := D) (ci := 6) (v := .ref ot) (C := RX5) (T := TX5) (N := 10) hx hb hts q1 hown hK hP 0 rfl rfl 0 (by decide) q0 (fun _ h9 => h9) rfl dX5_letBrawl_48 ?_
          refine lv_iconst (v := 0) hx hb dX5_letBrawl_51 (by decide) ?_
          refine lv_aload_n hx hb dX5_letBrawl_52 rfl (lv_at hl 0 rfl) ?_
          refine va_get (D := D) (ci := 6) (v := .ref ot) (C := RX5) (T := TX5) (N := 10) hx hb hts q1 hown hK hP 0 rfl rfl 0 (by decide) q0 (fun _ h9 => h9) rfl dX5_letBrawl_53 ?_
          refine va_get (D := D) (ci := 4) (v := .int T.2.2.1) (C := RX3) (T := TX3) (N := 8) hx hb hts q3 hown hK hP 1 rfl rfl 2 (by decide) q4 (fun _ h9 => h9) rfl dX5_letBrawl_56 ?_
          refine lv_iconst (v := 1) hx hb dX5_letBrawl_59 (by decide) ?_
          refine lv_isub hx hb dX5_letBrawl_60 ?_
          refine fRV (As := [.int 0, .int (T.2.2.1 - 1)]) (rest := [.int 8, .ref x]) (st' := [.int (fX3_takenStools T 0 (T.2.2.1 - 1)), .int 8, .ref x]) ⟨hx, hb, hml, hown, hts⟩ (kX3_takenStools l D cI cC cT ot ot1 ot2 T 0 (T.2.2.1 - 1)) (cwV 2 hts gX5_letBrawl_X3_takenStools rfl rfl rfl (by decide +kernel) ⟨Nat.le_of_ble_eq_true rfl, Nat.le_of_ble_eq_true rfl⟩) hP hK [1, 2, 3] rfl 1 (ci := 4) rfl rfl rfl rfl hl.1 rfl rfl (Nat.le_of_ble_eq_true rfl) ⟨Nat.zero_le _, Nat.zero_le _⟩ dX5_letBrawl_61 ?_
          obtain ⟨n2, en2⟩ : ∃ z9, z9 = (fX5_refuse S 8 (fX3_takenStools T 0 (T.2.2.1 - 1))) := ⟨_, rfl⟩
          have k9 := (kX5_refuse l D cI cC cT x ot ou ov oh ox oy S 8 (fX3_takenStools T 0 (T.2.2.1 - 1)))
          rw [← en2] at k9
          refine fUVp (As := [.int 8, .int (fX3_takenStools T 0 (T.2.2.1 - 1))]) (rest := []) (st' := [.int n2.1]) ⟨hx, hb, hml, hown, hts⟩ k9 (cwV 2 hts gX5_letBrawl_X5_refuse rfl rfl rfl (by decide +kernel) ⟨Nat.le_of_ble_eq_true rfl, Nat.le_of_ble_eq_true rfl⟩) hP hK hD hS [(ot, .inr (4, [.ref ot1, .ref ot2, .int T.2.2.1, .int T.2.2.2.1, .int T.2.2.2.2.1, .int T.2.2.2.2.2.1, .int T.2.2.2.2.2.2.1, .int T.2.2.2.2.2.2.2])), (ot1, .inl (cI, 72, .inl T.1)), (ot2, .inl (cI, 36, .inl T.2.1))] rfl [(x, .inr (6, [.ref ot, .ref ou, .ref ov, .ref oh, .ref ox, .ref oy, .int n2.2.1, .int n2.2.2.1, .int n2.2.2.2.1, .int n2.2.2.2.2])), (ot, .inr (4, [.ref ot1, .ref ot2, .int T.2.2.1, .int T.2.2.2.1, .int T.2.2.2.2.1, .int T.2.2.2.2.2.1, .int T.2.2.2.2.2.2.1, .int T.2.2.2.2.2.2.2])), (ot1, .inl (cI, 72, .inl T.1)), (ot2, .inl (cI, 36, .inl T.2.1))] rfl rfl 0 (ci := 6) rfl rfl rfl rfl hl.1 rfl rfl (Nat.le_of_ble_eq_true rfl) ⟨Nat.zero_le _, Nat.zero_le _⟩ dX5_letBrawl_64 (fun H locs hP hD hS => ?_)
          have e9 : fX5_letBrawl S T x1 x2 = (n2.1, n2.2, T) := by rw [fX5_letBrawl, if_neg c_8, if_neg c_19, if_pos c_26, if_pos c_41, ← en2]
          exact rUi hx hb hr hlk hQ hP hS (by rw [e9]) (congrArg (fun z9 : (Int32 × CV × TV) => w5 x ot ou ov oh ox oy z9.2.1 ++ w3 cI ot ot1 ot2 z9.2.2) e9).symm rfl dX5_letBrawl_67
      · refine lv_bipush (v := (-2)) hx hb dX5_letBrawl_29 (by decide) ?_
        have e9 : fX5_letBrawl S T x1 x2 = ((-2), S, T) := by rw [fX5_letBrawl, if_neg c_8, if_neg c_19, if_neg c_26]
        exact rUi hx hb hr hlk hQ hP hS (by rw [e9]) (congrArg (fun z9 : (Int32 × CV × TV) => w5 x ot ou ov oh ox oy z9.2.1 ++ w3 cI ot ot1 ot2 z9.2.2) e9).symm rfl dX5_letBrawl_31
    · refine lv_iconst (v := (-1)) hx hb dX5_letBrawl_22 (by decide) ?_
      have e9 : fX5_letBrawl S T x1 x2 = ((-1), S, T) := by rw [fX5_letBrawl, if_neg c_8, if_pos c_19]
      exact rUi hx hb hr hlk hQ hP hS (by rw [e9]) (congrArg (fun z9 : (Int32 × CV × TV) => w5 x ot ou ov oh ox oy z9.2.1 ++ w3 cI ot ot1 ot2 z9.2.2) e9).symm rfl dX5_letBrawl_23
def fX5_letSwap (S : CV) (T : TV) (x1 : Int32) (x2 : Int32) : (Int32 × CV × TV) := (if (fX3_hasSitter T x1) = 0 then ((-1), S, T) else (if (fX3_hasSitter T x2) = 0 then ((-1), S, T) else (if x1 = x2 then ((-2), S, T) else (if (fX3_sits T x1) = 0 then ((fX5_refuse S 4 x1).1, (fX5_refuse S 4 x1).2, T) else (if (fX3_sits T x2) = 0 then ((fX5_refuse S 4 x2).1, (fX5_refuse S 4 x2).2, T) else (if (fX3_maySit T x1 (fX3_ofSitter T x2 2)) = 0 then ((fX5_refuse S 3 (fX3_ofSitter T x2 2)).1, (fX5_refuse S 3 (fX3_ofSitter T x2 2)).2, T) else (if (fX3_maySit T x2 (fX3_ofSitter T x1 2)) = 0 then ((fX5_refuse S 3 (fX3_ofSitter T x1 2)).1, (fX5_refuse S 3 (fX3_ofSitter T x1 2)).2, T) else ((fX3_clashesByPairs (fX3_exchange T x1 x2)), S, (fX3_exchange T x1 x2)))))))))
abbrev rmX5_letSwap : Room := { frames := 4, cells := 0, slots := 0, locals := 90 }
set_option maxHeartbeats 4000000 in
set_option maxRecDepth 100000 in
theorem kX5_letSwap (l : Launch) (D : va_G) (cI cC cT : ClassId) (x ot ou ov oh ox oy ot1 ot2 : Nat) (S : CV) (T : TV) (x1 : Int32) (x2 : Int32)  : mU l D (TY cI cC cT) yX5_letSwap wsX5_letSwap rmX5_letSwap [.ref x, .int x1, .int x2] (w5 x ot ou ov oh ox oy S ++ w3 cI ot ot1 ot2 T) (some (.int (fX5_letSwap S T x1 x2).1)) (w5 x ot ou ov oh ox oy (fX5_letSwap S T x1 x2).2.1 ++ w3 cI ot ot1 ot2 (fX5_letSwap S T x1 x2).2.2) := by
  refine mU.ofW (cc := cX5_letSwap) (maxL := 5) (ret := (some .int)) (by decide) rfl (Nat.le_of_ble_eq_true rfl) ?_
  intro p e s m args below meth c Q ls A hx hb hml hr hlk hts hown hP hK hD hS hl hQ
  have hown : s.vm.findClass RX5 = some m.cls := hown
  have hP : va_P D vwCl [(x, .inr (6, [.ref ot, .ref ou, .ref ov, .ref oh, .ref ox, .ref oy, .int S.1, .int S.2.1, .int S.2.2.1, .int S.2.2.2])), (ot, .inr (4, [.ref ot1, .ref ot2, .int T.2.2.1, .int T.2.2.2.1, .int T.2.2.2.2.1, .int T.2.2.2.2.2.1, .int T.2.2.2.2.2.2.1, .int T.2.2.2.2.2.2.2])), (ot1, .inl (cI, 72, .inl T.1)), (ot2, .inl (cI, 36, .inl T.2.1))] s.heap := hP
  have hD : va_D A [(x, .inr (6, [.ref ot, .ref ou, .ref ov, .ref oh, .ref ox, .ref oy, .int S.1, .int S.2.1, .int S.2.2.1, .int S.2.2.2])), (ot, .inr (4, [.ref ot1, .ref ot2, .int T.2.2.1, .int T.2.2.2.1, .int T.2.2.2.2.1, .int T.2.2.2.2.2.1, .int T.2.2.2.2.2.2.1, .int T.2.2.2.2.2.2.2])), (ot1, .inl (cI, 72, .inl T.1)), (ot2, .inl (cI, 36, .inl T.2.1))] := hD
  have hl : lv_has ls 5 [(0, .ref x), (1, .int x1), (2, .int x2)] := hl
  have q0 := hts (Cond.fieldLink RX5 10 "TavernStools" "tavern" "LTavernStools$Tavern;") (by decide +kernel)
  have q1 : ∀ w ∈ u_ws RX5 TX5 10, w ∈ wsX5_letSwap := by decide +kernel
  generalize hHe : s.heap = H at hP ⊢
  have hS : va_S A s.heap H [] := hHe ▸ hS
  generalize hLe : ([] : List Loc) = locs at hS ⊢
  refine lv_aload_n hx hb dX5_letSwap_0 rfl (lv_at hl 0 rfl) ?_
  refine va_get (D := D) (ci := 6) (v := .ref ot) (C := RX5) (T := TX5) (N := 10) hx hb hts q1 hown hK hP 0 rfl rfl 0 (by decide) q0 (fun _ h9 => h9) rfl dX5_letSwap_1 ?_
  refine lv_iload_n hx hb dX5_letSwap_4 rfl (lv_at hl 1 rfl) ?_
  refine fRV (As := [.int x1]) (rest := []) (st' := [.int (fX3_hasSitter T x1)]) ⟨hx, hb, hml, hown, hts⟩ (kX3_hasSitter l D cI cC cT ot ot1 ot2 T x1) (cwV 1 hts gX5_letSwap_X3_hasSitter rfl rfl rfl (by decide +kernel) ⟨Nat.le_of_ble_eq_true rfl, Nat.le_of_ble_eq_true rfl⟩) hP hK [1, 2, 3] rfl 1 (ci := 4) rfl rfl rfl rfl hl.1 rfl rfl (Nat.le_of_ble_eq_true rfl) ⟨Nat.zero_le _, Nat.zero_le _⟩ dX5_letSwap_5 ?_
  refine lv_if_eq (tgt := 22) hx hb dX5_letSwap_8 (by decide) (fun c_8 => ?_) (fun c_8 => ?_)
  · refine lv_iconst (v := (-1)) hx hb dX5_letSwap_22 (by decide) ?_
    have e9 : fX5_letSwap S T x1 x2 = ((-1), S, T) := by rw [fX5_letSwap, if_pos c_8]
    exact rUi hx hb hr hlk hQ hP hS (by rw [e9]) (congrArg (fun z9 : (Int32 × CV × TV) => w5 x ot ou ov oh ox oy z9.2.1 ++ w3 cI ot ot1 ot2 z9.2.2) e9).symm rfl dX5_letSwap_23
  · refine lv_aload_n hx hb dX5_letSwap_11 rfl (lv_at hl 0 rfl) ?_
    refine va_get (D := D) (ci := 6) (v := .ref ot) (C := RX5) (T := TX5) (N := 10) hx hb hts q1 hown hK hP 0 rfl rfl 0 (by decide) q0 (fun _ h9 => h9) rfl dX5_letSwap_12 ?_
    refine lv_iload_n hx hb dX5_letSwap_15 rfl (lv_at hl 2 rfl) ?_
    refine fRV (As := [.int x2]) (rest := []) (st' := [.int (fX3_hasSitter T x2)]) ⟨hx, hb, hml, hown, hts⟩ (kX3_hasSitter l D cI cC cT ot ot1 ot2 T x2) (cwV 1 hts gX5_letSwap_X3_hasSitter rfl rfl rfl (by decide +kernel) ⟨Nat.le_of_ble_eq_true rfl, Nat.le_of_ble_eq_true rfl⟩) hP hK [1, 2, 3] rfl 1 (ci := 4) rfl rfl rfl rfl hl.1 rfl rfl (Nat.le_of_ble_eq_true rfl) ⟨Nat.zero_le _, Nat.zero_le _⟩ dX5_letSwap_16 ?_
    refine lv_if_ne (tgt := 24) hx hb dX5_letSwap_19 (by decide) (fun c_19 => ?_) (fun c_19 => ?_)
    · refine lv_iload_n hx hb dX5_letSwap_24 rfl (lv_at hl 1 rfl) ?_
      refine lv_iload_n hx hb dX5_letSwap_25 rfl (lv_at hl 2 rfl) ?_
      refine lv_icmp_ne (tgt := 32) hx hb dX5_letSwap_26 (by decide) (fun c_26 => ?_) (fun c_26 => ?_)
      · refine lv_aload_n hx hb dX5_letSwap_32 rfl (lv_at hl 0 rfl) ?_
        refine va_get (D := D) (ci := 6) (v := .ref ot) (C := RX5) (T := TX5) (N := 10) hx hb hts q1 hown hK hP 0 rfl rfl 0 (by decide) q0 (fun _ h9 => h9) rfl dX5_letSwap_33 ?_
        refine lv_iload_n hx hb dX5_letSwap_36 rfl (lv_at hl 1 rfl) ?_
        refine fRV (As := [.int x1]) (rest := []) (st' := [.int (fX3_sits T x1)]) ⟨hx, hb, hml, hown, hts⟩ (kX3_sits l D cI cC cT ot ot1 ot2 T x1) (cwV 1 hts gX5_letSwap_X3_sits rfl rfl rfl (by decide +kernel) ⟨Nat.le_of_ble_eq_true rfl, Nat.le_of_ble_eq_true rfl⟩) hP hK [1, 2, 3] rfl 1 (ci := 4) rfl rfl rfl rfl hl.1 rfl rfl (Nat.le_of_ble_eq_true rfl) ⟨Nat.zero_le _, Nat.zero_le _⟩ dX5_letSwap_37 ?_
        refine lv_if_ne (tgt := 50) hx hb dX5_letSwap_40 (by decide) (fun c_40 => ?_) (fun c_40 => ?_)
        · refine lv_aload_n hx hb dX5_letSwap_50 rfl (lv_at hl 0 rfl) ?_
          refine va_get (D := D) (ci := 6) (v := .ref ot) (C := RX5) (T := TX5) (N := 10) hx hb hts q1 hown hK hP 0 rfl rfl 0 (by decide) q0 (fun _ h9 => h9) rfl dX5_letSwap_51 ?_
          refine lv_iload_n hx hb dX5_letSwap_54 rfl (lv_at hl 2 rfl) ?_
          refine fRV (As := [.int x2]) (rest := []) (st' := [.int (fX3_sits T x2)]) ⟨hx, hb, hml, hown, hts⟩ (kX3_sits l D cI cC cT ot ot1 ot2 T x2) (cwV 1 hts gX5_letSwap_X3_sits rfl rfl rfl (by decide +kernel) ⟨Nat.le_of_ble_eq_true rfl, Nat.le_of_ble_eq_true rfl⟩) hP hK [1, 2, 3] rfl 1 (ci := 4) rfl rfl rfl rfl hl.1 rfl rfl (Nat.le_of_ble_eq_true rfl) ⟨Nat.zero_le _, Nat.zero_le _⟩ dX5_letSwap_55 ?_
          refine lv_if_ne (tgt := 68) hx hb dX5_letSwap_58 (by decide) (fun c_58 => ?_) (fun c_58 => ?_)
          · refine lv_aload_n hx hb dX5_letSwap_68 rfl (lv_at hl 0 rfl) ?_
            refine va_get (D := D) (ci := 6) (v := .ref ot) (C := RX5) (T := TX5) (N := 10) hx hb hts q1 hown hK hP 0 rfl rfl 0 (by decide) q0 (fun _ h9 => h9) rfl dX5_letSwap_69 ?_
            refine lv_iload_n hx hb dX5_letSwap_72 rfl (lv_at hl 1 rfl) ?_
            refine lv_iconst (v := 2) hx hb dX5_letSwap_73 (by decide) ?_
            refine fRV (As := [.int x1, .int 2]) (rest := []) (st' := [.int (fX3_ofSitter T x1 2)]) ⟨hx, hb, hml, hown, hts⟩ (kX3_ofSitter l D cI cC cT ot ot1 ot2 T x1 2) (cwV 2 hts gX5_letSwap_X3_ofSitter rfl rfl rfl (by decide +kernel) ⟨Nat.le_of_ble_eq_true rfl, Nat.le_of_ble_eq_true rfl⟩) hP hK [1, 2, 3] rfl 1 (ci := 4) rfl rfl rfl rfl hl.1 rfl rfl (Nat.le_of_ble_eq_true rfl) ⟨Nat.zero_le _, Nat.zero_le _⟩ dX5_letSwap_74 ?_
            refine lv_istore_n (lv' := [(3, .int (fX3_ofSitter T x1 2)), (0, .ref x), (1, .int x1), (2, .int x2)]) hx hb dX5_letSwap_77 rfl hl (by decide) rfl (fun ls hl => ?_)
            refine lv_aload_n hx hb dX5_letSwap_78 rfl (lv_at hl 1 rfl) ?_
            refine va_get (D := D) (ci := 6) (v := .ref ot) (C := RX5) (T := TX5) (N := 10) hx hb hts q1 hown hK hP 0 rfl rfl 0 (by decide) q0 (fun _ h9 => h9) rfl dX5_letSwap_79 ?_
            refine lv_iload_n hx hb dX5_letSwap_82 rfl (lv_at hl 3 rfl) ?_
            refine lv_iconst (v := 2) hx hb dX5_letSwap_83 (by decide) ?_
            refine fRV (As := [.int x2, .int 2]) (rest := []) (st' := [.int (fX3_ofSitter T x2 2)]) ⟨hx, hb, hml, hown, hts⟩ (kX3_ofSitter l D cI cC cT ot ot1 ot2 T x2 2) (cwV 2 hts gX5_letSwap_X3_ofSitter rfl rfl rfl (by decide +kernel) ⟨Nat.le_of_ble_eq_true rfl, Nat.le_of_ble_eq_true rfl⟩) hP hK [1, 2, 3] rfl 1 (ci := 4) rfl rfl rfl rfl hl.1 rfl rfl (Nat.le_of_ble_eq_true rfl) ⟨Nat.zero_le _, Nat.zero_le _⟩ dX5_letSwap_84 ?_
            refine lv_istore (lv' := [(4, .int (fX3_ofSitter T x2 2)), (3, .int (fX3_ofSitter T x1 2)), (0, .ref x), (1, .int x1), (2, .int x2)]) hx hb dX5_letSwap_87 hl (by decide) rfl (fun ls hl => ?_)
            refine lv_aload_n hx hb dX5_letSwap_89 rfl (lv_at hl 2 rfl) ?_
            refine va_get (D := D) (ci := 6) (v := .ref ot) (C := RX5) (T := TX5) (N := 10) hx hb hts q1 hown hK hP 0 rfl rfl 0 (by decide) q0 (fun _ h9 => h9) rfl dX5_letSwap_90 ?_
            refine lv_iload_n hx hb dX5_letSwap_93 rfl (lv_at hl 3 rfl) ?_
            refine lv_iload hx hb dX5_letSwap_94 (lv_at hl 0 rfl) ?_
            refine fRV (As := [.int x1, .int (fX3_ofSitter T x2 2)]) (rest := []) (st' := [.int (fX3_maySit T x1 (fX3_ofSitter T x2 2))]) ⟨hx, hb, hml, hown, hts⟩ (kX3_maySit l D cI cC cT ot ot1 ot2 T x1 (fX3_ofSitter T x2 2)) (cwV 2 hts gX5_letSwap_X3_maySit rfl rfl rfl (by decide +kernel) ⟨Nat.le_of_ble_eq_true rfl, Nat.le_of_ble_eq_true rfl⟩) hP hK [1, 2, 3] rfl 1 (ci := 4) rfl rfl rfl rfl hl.1 rfl rfl (Nat.le_of_ble_eq_true rfl) ⟨Nat.zero_le _, Nat.zero_le _⟩ dX5_letSwap_96 ?_
            refine lv_if_ne (tgt := 110) hx hb dX5_letSwap_99 (by decide) (fun c_99 => ?_) (fun c_99 => ?_)
            · refine lv_aload_n hx hb dX5_letSwap_110 rfl (lv_at hl 2 rfl) ?_
              refine va_get (D := D) (ci := 6) (v := .ref ot) (C := RX5) (T := TX5) (N := 10) hx hb hts q1 hown hK hP 0 rfl rfl 0 (by decide) q0 (fun _ h9 => h9) rfl dX5_letSwap_111 ?_
              refine lv_iload_n hx hb dX5_letSwap_114 rfl (lv_at hl 4 rfl) ?_
              refine lv_iload_n hx hb dX5_letSwap_115 rfl (lv_at hl 1 rfl) ?_
              refine fRV (As := [.int x2, .int (fX3_ofSitter T x1 2)]) (rest := []) (st' := [.int (fX3_maySit T x2 (fX3_ofSitter T x1 2))]) ⟨hx, hb, hml, hown, hts⟩ (kX3_maySit l D cI cC cT ot ot1 ot2 T x2 (fX3_ofSitter T x1 2)) (cwV 2 hts gX5_letSwap_X3_maySit rfl rfl rfl (by decide +kernel) ⟨Nat.le_of_ble_eq_true rfl, Nat.le_of_ble_eq_true rfl⟩) hP hK [1, 2, 3] rfl 1 (ci := 4) rfl rfl rfl rfl hl.1 rfl rfl (Nat.le_of_ble_eq_true rfl) ⟨Nat.zero_le _, Nat.zero_le _⟩ dX5_letSwap_116 ?_
              refine lv_if_ne (tgt := 129) hx hb dX5_letSwap_119 (by decide) (fun c_119 => ?_) (fun c_119 => ?_)
              · refine lv_aload_n hx hb dX5_letSwap_129 rfl (lv_at hl 2 rfl) ?_
                refine va_get (D := D) (ci := 6) (v := .ref ot) (C := RX5) (T := TX5) (N := 10) hx hb hts q1 hown hK hP 0 rfl rfl 0 (by decide) q0 (fun _ h9 => h9) rfl dX5_letSwap_130 ?_
                refine lv_iload_n hx hb dX5_letSwap_133 rfl (lv_at hl 3 rfl) ?_
                refine lv_iload_n hx hb dX5_letSwap_134 rfl (lv_at hl 4 rfl) ?_
                obtain ⟨n1, en1⟩ : ∃ z9, z9 = (fX3_exchange T x1 x2) := ⟨_, rfl⟩
                have k9 := (kX3_exchange l D cI cC cT ot ot1 ot2 T x1 x2)
                rw [← en1] at k9
                refine fUV (As := [.int x1, .int x2]) (rest := []) (st' := []) ⟨hx, hb, hml, hown, hts⟩ k9 (cwV 2 hts gX5_letSwap_X3_exchange rfl rfl rfl (by decide +kernel) ⟨Nat.le_of_ble_eq_true rfl, Nat.le_of_ble_eq_true rfl⟩) hP hK hD hS [1, 2, 3] rfl rfl (by decide) rfl [(x, .inr (6, [.ref ot, .ref ou, .ref ov, .ref oh, .ref ox, .ref oy, .int S.1, .int S.2.1, .int S.2.2.1, .int S.2.2.2])), (ot, .inr (4, [.ref ot1, .ref ot2, .int n1.2.2.1, .int n1.2.2.2.1, .int n1.2.2.2.2.1, .int n1.2.2.2.2.2.1, .int n1.2.2.2.2.2.2.1, .int n1.2.2.2.2.2.2.2])), (ot1, .inl (cI, 72, .inl n1.1)), (ot2, .inl (cI, 36, .inl n1.2.1))] rfl rfl 1 (ci := 4) rfl rfl rfl rfl hl.1 rfl rfl (Nat.le_of_ble_eq_true rfl) ⟨Nat.zero_le _, Nat.zero_le _⟩ dX5_letSwap_135 (fun H locs hP hD hS => ?_)
                refine lv_aload_n hx hb dX5_letSwap_138 rfl (lv_at hl 2 rfl) ?_
                refine va_get (D := D) (ci := 6) (v := .ref ot) (C := RX5) (T := TX5) (N := 10) hx hb hts q1 hown hK hP 0 rfl rfl 0 (by decide) q0 (fun _ h9 => h9) rfl dX5_letSwap_139 ?_
                refine fRV (As := []) (rest := []) (st' := [.int (fX3_clashesByPairs n1)]) ⟨hx, hb, hml, hown, hts⟩ (kX3_clashesByPairs l D cI cC cT ot ot1 ot2 n1) (cwV 0 hts gX5_letSwap_X3_clashesByPairs rfl rfl rfl (by decide +kernel) ⟨Nat.le_of_ble_eq_true rfl, Nat.le_of_ble_eq_true rfl⟩) hP hK [1, 2, 3] rfl 1 (ci := 4) rfl rfl rfl rfl hl.1 rfl rfl (Nat.le_of_ble_eq_true rfl) ⟨Nat.zero_le _, Nat.zero_le _⟩ dX5_letSwap_142 ?_
                have e9 : fX5_letSwap S T x1 x2 = ((fX3_clashesByPairs n1), S, n1) := by rw [fX5_letSwap, if_neg c_8, if_neg c_19, if_neg c_26, if_neg c_40, if_neg c_58, if_neg c_99, if_neg c_119, ← en1]
                exact rUi hx hb hr hlk hQ hP hS (by rw [e9]) (congrArg (fun z9 : (Int32 × CV × TV) => w5 x ot ou ov oh ox oy z9.2.1 ++ w3 cI ot ot1 ot2 z9.2.2) e9).symm rfl dX5_letSwap_145
              · refine lv_aload_n hx hb dX5_letSwap_122 rfl (lv_at hl 2 rfl) ?_
                refine lv_iconst (v := 3) hx hb dX5_letSwap_123 (by decide) ?_
                refine lv_iload_n hx hb dX5_letSwap_124 rfl (lv_at hl 1 rfl) ?_
                obtain ⟨n2, en2⟩ : ∃ z9, z9 = (fX5_refuse S 3 (fX3_ofSitter T x1 2)) := ⟨_, rfl⟩
                have k9 := (kX5_refuse l D cI cC cT x ot ou ov oh ox oy S 3 (fX3_ofSitter T x1 2))
                rw [← en2] at k9
                refine fUVp (As := [.int 3, .int (fX3_ofSitter T x1 2)]) (rest := []) (st' := [.int n2.1]) ⟨hx, hb, hml, hown, hts⟩ k9 (cwV 2 hts gX5_letSwap_X5_refuse rfl rfl rfl (by decide +kernel) ⟨Nat.le_of_ble_eq_true rfl, Nat.le_of_ble_eq_true rfl⟩) hP hK hD hS [(ot, .inr (4, [.ref ot1, .ref ot2, .int T.2.2.1, .int T.2.2.2.1, .int T.2.2.2.2.1, .int T.2.2.2.2.2.1, .int T.2.2.2.2.2.2.1, .int T.2.2.2.2.2.2.2])), (ot1, .inl (cI, 72, .inl T.1)), (ot2, .inl (cI, 36, .inl T.2.1))] rfl [(x, .inr (6, [.ref ot, .ref ou, .ref ov, .ref oh, .ref ox, .ref oy, .int n2.2.1, .int n2.2.2.1, .int n2.2.2.2.1, .int n2.2.2.2.2])), (ot, .inr (4, [.ref ot1, .ref ot2, .int T.2.2.1, .int T.2.2.2.1, .int T.2.2.2.2.1, .int T.2.2.2.2.2.1, .int T.2.2.2.2.2.2.1, .int T.2.2.2.2.2.2.2])), (ot1, .inl (cI, 72, .inl T.1)), (ot2, .inl (cI, 36, .inl T.2.1))] rfl rfl 0 (ci := 6) rfl rfl rfl rfl hl.1 rfl rfl (Nat.le_of_ble_eq_true rfl) ⟨Nat.zero_le _, Nat.zero_le _⟩ dX5_letSwap_125 (fun H locs hP hD hS => ?_)
                have e9 : fX5_letSwap S T x1 x2 = (n2.1, n2.2, T) := by rw [fX5_letSwap, if_neg c_8, if_neg c_19, if_neg c_26, if_neg c_40, if_neg c_58, if_neg c_99, if_pos c_119, ← en2]
                exact rUi hx hb hr hlk hQ hP hS (by rw [e9]) (congrArg (fun z9 : (Int32 × CV × TV) => w5 x ot ou ov oh ox oy z9.2.1 ++ w3 cI ot ot1 ot2 z9.2.2) e9).symm rfl dX5_letSwap_128
            · refine lv_aload_n hx hb dX5_letSwap_102 rfl (lv_at hl 2 rfl) ?_
              refine lv_iconst (v := 3) hx hb dX5_letSwap_103 (by decide) ?_
              refine lv_iload hx hb dX5_letSwap_104 (lv_at hl 0 rfl) ?_
              obtain ⟨n3, en3⟩ : ∃ z9, z9 = (fX5_refuse S 3 (fX3_ofSitter T x2 2)) := ⟨_, rfl⟩
              have k9 := (kX5_refuse l D cI cC cT x ot ou ov oh ox oy S 3 (fX3_ofSitter T x2 2))
              rw [← en3] at k9
              refine fUVp (As := [.int 3, .int (fX3_ofSitter T x2 2)]) (rest := []) (st' := [.int n3.1]) ⟨hx, hb, hml, hown, hts⟩ k9 (cwV 2 hts gX5_letSwap_X5_refuse rfl rfl rfl (by decide +kernel) ⟨Nat.le_of_ble_eq_true rfl, Nat.le_of_ble_eq_true rfl⟩) hP hK hD hS [(ot, .inr (4, [.ref ot1, .ref ot2, .int T.2.2.1, .int T.2.2.2.1, .int T.2.2.2.2.1, .int T.2.2.2.2.2.1, .int T.2.2.2.2.2.2.1, .int T.2.2.2.2.2.2.2])), (ot1, .inl (cI, 72, .inl T.1)), (ot2, .inl (cI, 36, .inl T.2.1))] rfl [(x, .inr (6, [.ref ot, .ref ou, .ref ov, .ref oh, .ref ox, .ref oy, .int n3.2.1, .int n3.2.2.1, .int n3.2.2.2.1, .int n3.2.2.2.2])), (ot, .inr (4, [.ref ot1, .ref ot2, .int T.2.2.1, .int T.2.2.2.1, .int T.2.2.2.2.1, .int T.2.2.2.2.2.1, .int T.2.2.2.2.2.2.1, .int T.2.2.2.2.2.2.2])), (ot1, .inl (cI, 72, .inl T.1)), (ot2, .inl (cI, 36, .inl T.2.1))] rfl rfl 0 (ci := 6) rfl rfl rfl rfl hl.1 rfl rfl (Nat.le_of_ble_eq_true rfl) ⟨Nat.zero_le _, Nat.zero_le _⟩ dX5_letSwap_106 (fun H locs hP hD hS => ?_)
              have e9 : fX5_letSwap S T x1 x2 = (n3.1, n3.2, T) := by rw [fX5_letSwap, if_neg c_8, if_neg c_19, if_neg c_26, if_neg c_40, if_neg c_58, if_pos c_99, ← en3]
              exact rUi hx hb hr hlk hQ hP hS (by rw [e9]) (congrArg (fun z9 : (Int32 × CV × TV) => w5 x ot ou ov oh ox oy z9.2.1 ++ w3 cI ot ot1 ot2 z9.2.2) e9).symm rfl dX5_letSwap_109
          · refine lv_aload_n hx hb dX5_letSwap_61 rfl (lv_at hl 0 rfl) ?_
            refine lv_iconst (v := 4) hx hb dX5_letSwap_62 (by decide) ?_
            refine lv_iload_n hx hb dX5_letSwap_63 rfl (lv_at hl 2 rfl) ?_
            obtain ⟨n4, en4⟩ : ∃ z9, z9 = (fX5_refuse S 4 x2) := ⟨_, rfl⟩
            have k9 := (kX5_refuse l D cI cC cT x ot ou ov oh ox oy S 4 x2)
            rw [← en4] at k9
            refine fUVp (As := [.int 4, .int x2]) (rest := []) (st' := [.int n4.1]) ⟨hx, hb, hml, hown, hts⟩ k9 (cwV 2 hts gX5_letSwap_X5_refuse rfl rfl rfl (by decide +kernel) ⟨Nat.le_of_ble_eq_true rfl, Nat.le_of_ble_eq_true rfl⟩) hP hK hD hS [(ot, .inr (4, [.ref ot1, .ref ot2, .int T.2.2.1, .int T.2.2.2.1, .int T.2.2.2.2.1, .int T.2.2.2.2.2.1, .int T.2.2.2.2.2.2.1, .int T.2.2.2.2.2.2.2])), (ot1, .inl (cI, 72, .inl T.1)), (ot2, .inl (cI, 36, .inl T.2.1))] rfl [(x, .inr (6, [.ref ot, .ref ou, .ref ov, .ref oh, .ref ox, .ref oy, .int n4.2.1, .int n4.2.2.1, .int n4.2.2.2.1, .int n4.2.2.2.2])), (ot, .inr (4, [.ref ot1, .ref ot2, .int T.2.2.1, .int T.2.2.2.1, .int T.2.2.2.2.1, .int T.2.2.2.2.2.1, .int T.2.2.2.2.2.2.1, .int T.2.2.2.2.2.2.2])), (ot1, .inl (cI, 72, .inl T.1)), (ot2, .inl (cI, 36, .inl T.2.1))] rfl rfl 0 (ci := 6) rfl rfl rfl rfl hl.1 rfl rfl (Nat.le_of_ble_eq_true rfl) ⟨Nat.zero_le _, Nat.zero_le _⟩ dX5_letSwap_64 (fun H locs hP hD hS => ?_)
            have e9 : fX5_letSwap S T x1 x2 = (n4.1, n4.2, T) := by rw [fX5_letSwap, if_neg c_8, if_neg c_19, if_neg c_26, if_neg c_40, if_pos c_58, ← en4]
            exact rUi hx hb hr hlk hQ hP hS (by rw [e9]) (congrArg (fun z9 : (Int32 × CV × TV) => w5 x ot ou ov oh ox oy z9.2.1 ++ w3 cI ot ot1 ot2 z9.2.2) e9).symm rfl dX5_letSwap_67
        · refine lv_aload_n hx hb dX5_letSwap_43 rfl (lv_at hl 0 rfl) ?_
          refine lv_iconst (v := 4) hx hb dX5_letSwap_44 (by decide) ?_
          refine lv_iload_n hx hb dX5_letSwap_45 rfl (lv_at hl 1 rfl) ?_
          obtain ⟨n5, en5⟩ : ∃ z9, z9 = (fX5_refuse S 4 x1) := ⟨_, rfl⟩
          have k9 := (kX5_refuse l D cI cC cT x ot ou ov oh ox oy S 4 x1)
          rw [← en5] at k9
          refine fUVp (As := [.int 4, .int x1]) (rest := []) (st' := [.int n5.1]) ⟨hx, hb, hml, hown, hts⟩ k9 (cwV 2 hts gX5_letSwap_X5_refuse rfl rfl rfl (by decide +kernel) ⟨Nat.le_of_ble_eq_true rfl, Nat.le_of_ble_eq_true rfl⟩) hP hK hD hS [(ot, .inr (4, [.ref ot1, .ref ot2, .int T.2.2.1, .int T.2.2.2.1, .int T.2.2.2.2.1, .int T.2.2.2.2.2.1, .int T.2.2.2.2.2.2.1, .int T.2.2.2.2.2.2.2])), (ot1, .inl (cI, 72, .inl T.1)), (ot2, .inl (cI, 36, .inl T.2.1))] rfl [(x, .inr (6, [.ref ot, .ref ou, .ref ov, .ref oh, .ref ox, .ref oy, .int n5.2.1, .int n5.2.2.1, .int n5.2.2.2.1, .int n5.2.2.2.2])), (ot, .inr (4, [.ref ot1, .ref ot2, .int T.2.2.1, .int T.2.2.2.1, .int T.2.2.2.2.1, .int T.2.2.2.2.2.1, .int T.2.2.2.2.2.2.1, .int T.2.2.2.2.2.2.2])), (ot1, .inl (cI, 72, .inl T.1)), (ot2, .inl (cI, 36, .inl T.2.1))] rfl rfl 0 (ci := 6) rfl rfl rfl rfl hl.1 rfl rfl (Nat.le_of_ble_eq_true rfl) ⟨Nat.zero_le _, Nat.zero_le _⟩ dX5_letSwap_46 (fun H locs hP hD hS => ?_)
          have e9 : fX5_letSwap S T x1 x2 = (n5.1, n5.2, T) := by rw [fX5_letSwap, if_neg c_8, if_neg c_19, if_neg c_26, if_pos c_40, ← en5]
          exact rUi hx hb hr hlk hQ hP hS (by rw [e9]) (congrArg (fun z9 : (Int32 × CV × TV) => w5 x ot ou ov oh ox oy z9.2.1 ++ w3 cI ot ot1 ot2 z9.2.2) e9).symm rfl dX5_letSwap_49
      · refine lv_bipush (v := (-2)) hx hb dX5_letSwap_29 (by decide) ?_
        have e9 : fX5_letSwap S T x1 x2 = ((-2), S, T) := by rw [fX5_letSwap, if_neg c_8, if_neg c_19, if_pos c_26]
        exact rUi hx hb hr hlk hQ hP hS (by rw [e9]) (congrArg (fun z9 : (Int32 × CV × TV) => w5 x ot ou ov oh ox oy z9.2.1 ++ w3 cI ot ot1 ot2 z9.2.2) e9).symm rfl dX5_letSwap_31
    · refine lv_iconst (v := (-1)) hx hb dX5_letSwap_22 (by decide) ?_
      have e9 : fX5_letSwap S T x1 x2 = ((-1), S, T) := by rw [fX5_letSwap, if_neg c_8, if_pos c_19]
      exact rUi hx hb hr hlk hQ hP hS (by rw [e9]) (congrArg (fun z9 : (Int32 × CV × TV) => w5 x ot ou ov oh ox oy z9.2.1 ++ w3 cI ot ot1 ot2 z9.2.2) e9).symm rfl dX5_letSwap_23
def fX5_putCoin (S : CV) (T : TV) (x1 : Int32) : (Int32 × CV × TV) := (if (fX3_hasStool T x1) = 0 then ((-1), S, T) else (if 1 ≤ T.2.2.2.2.1 then (if (fX3_ofStool T x1 2) = 0 then ((fX5_refuse S 6 (fX3_ofStool T x1 4)).1, (fX5_refuse S 6 (fX3_ofStool T x1 4)).2, T) else ((fX3_addCoin T x1).1, S, (fX3_addCoin T x1).2)) else ((fX5_refuse S 5 (fX3_sumOfStools T 4)).1, (fX5_refuse S 5 (fX3_sumOfStools T 4)).2, T)))
abbrev rmX5_putCoin : Room := { frames := 2, cells := 0, slots := 0, locals := 45 }
set_option maxHeartbeats 4000000 in
set_option maxRecDepth 100000 in
theorem kX5_putCoin (l : Launch) (D : va_G) (cI cC cT : ClassId) (x ot ou ov oh ox oy ot1 ot2 : Nat) (S : CV) (T : TV) (x1 : Int32)  : mU l D (TY cI cC cT) yX5_putCoin wsX5_putCoin rmX5_putCoin [.ref x, .int x1] (w5 x ot ou ov oh ox oy S ++ w3 cI ot ot1 ot2 T) (some (.int (fX5_putCoin S T x1).1)) (w5 x ot ou ov oh ox oy (fX5_putCoin S T x1).2.1 ++ w3 cI ot ot1 ot2 (fX5_putCoin S T x1).2.2) := by
  refine mU.ofW (cc := cX5_putCoin) (maxL := 2) (ret := (some .int)) (by decide) rfl (Nat.le_of_ble_eq_true rfl) ?_
  intro p e s m args below meth c Q ls A hx hb hml hr hlk hts hown hP hK hD hS hl hQ
  have hown : s.vm.findClass RX5 = some m.cls := hown
  have hP : va_P D vwCl [(x, .inr (6, [.ref ot, .ref ou, .ref ov, .ref oh, .ref ox, .ref oy, .int S.1, .int S.2.1, .int S.2.2.1, .int S.2.2.2])), (ot, .inr (4, [.ref ot1, .ref ot2, .int T.2.2.1, .int T.2.2.2.1, .int T.2.2.2.2.1, .int T.2.2.2.2.2.1, .int T.2.2.2.2.2.2.1, .int T.2.2.2.2.2.2.2])), (ot1, .inl (cI, 72, .inl T.1)), (ot2, .inl (cI, 36, .inl T.2.1))] s.heap := hP
  have hD : va_D A [(x, .inr (6, [.ref ot, .ref ou, .ref ov, .ref oh, .ref ox, .ref oy, .int S.1, .int S.2.1, .int S.2.2.1, .int S.2.2.2])), (ot, .inr (4, [.ref ot1, .ref ot2, .int T.2.2.1, .int T.2.2.2.1, .int T.2.2.2.2.1, .int T.2.2.2.2.2.1, .int T.2.2.2.2.2.2.1, .int T.2.2.2.2.2.2.2])), (ot1, .inl (cI, 72, .inl T.1)), (ot2, .inl (cI, 36, .inl T.2.1))] := hD
  have hl : lv_has ls 2 [(0, .ref x), (1, .int x1)] := hl
  have q0 := hts (Cond.fieldLink RX5 10 "TavernStools" "tavern" "LTavernStools$Tavern;") (by decide +kernel)
  have q1 : ∀ w ∈ u_ws RX5 TX5 10, w ∈ wsX5_putCoin := by decide +kernel
  have q2 := hts (Cond.fieldLink RX5 258 "TavernStools$Tavern" "purse" "I") (by decide +kernel)
  have q3 : ∀ w ∈ u_ws RX3 TX3 8, w ∈ wsX5_putCoin := by decide +kernel
  generalize hHe : s.heap = H at hP ⊢
  have hS : va_S A s.heap H [] := hHe ▸ hS
  generalize hLe : ([] : List Loc) = locs at hS ⊢
  refine lv_aload_n hx hb dX5_putCoin_0 rfl (lv_at hl 0 rfl) ?_
  refine va_get (D := D) (ci := 6) (v := .ref ot) (C := RX5) (T := TX5) (N := 10) hx hb hts q1 hown hK hP 0 rfl rfl 0 (by decide) q0 (fun _ h9 => h9) rfl dX5_putCoin_1 ?_
  refine lv_iload_n hx hb dX5_putCoin_4 rfl (lv_at hl 1 rfl) ?_
  refine fRV (As := [.int x1]) (rest := []) (st' := [.int (fX3_hasStool T x1)]) ⟨hx, hb, hml, hown, hts⟩ (kX3_hasStool l D cI cC cT ot ot1 ot2 T x1) (cwV 1 hts gX5_putCoin_X3_hasStool rfl rfl rfl (by decide +kernel) ⟨Nat.le_of_ble_eq_true rfl, Nat.le_of_ble_eq_true rfl⟩) hP hK [1, 2, 3] rfl 1 (ci := 4) rfl rfl rfl rfl hl.1 rfl rfl (Nat.le_of_ble_eq_true rfl) ⟨Nat.zero_le _, Nat.zero_le _⟩ dX5_putCoin_5 ?_
  refine lv_if_ne (tgt := 13) hx hb dX5_putCoin_8 (by decide) (fun c_8 => ?_) (fun c_8 => ?_)
  · refine lv_aload_n hx hb dX5_putCoin_13 rfl (lv_at hl 0 rfl) ?_
    refine va_get (D := D) (ci := 6) (v := .ref ot) (C := RX5) (T := TX5) (N := 10) hx hb hts q1 hown hK hP 0 rfl rfl 0 (by decide) q0 (fun _ h9 => h9) rfl dX5_putCoin_14 ?_
    refine va_get (D := D) (ci := 4) (v := .int T.2.2.2.2.1) (C := RX3) (T := TX3) (N := 8) hx hb hts q3 hown hK hP 1 rfl rfl 4 (by decide) q2 (fun _ h9 => h9) rfl dX5_putCoin_17 ?_
    refine lv_iconst (v := 1) hx hb dX5_putCoin_20 (by decide) ?_
    refine lv_icmp_ge (tgt := 38) hx hb dX5_putCoin_21 (by decide) (fun c_21 => ?_) (fun c_21 => ?_)
    · refine lv_aload_n hx hb dX5_putCoin_38 rfl (lv_at hl 0 rfl) ?_
      refine va_get (D := D) (ci := 6) (v := .ref ot) (C := RX5) (T := TX5) (N := 10) hx hb hts q1 hown hK hP 0 rfl rfl 0 (by decide) q0 (fun _ h9 => h9) rfl dX5_putCoin_39 ?_
      refine lv_iload_n hx hb dX5_putCoin_42 rfl (lv_at hl 1 rfl) ?_
      refine lv_iconst (v := 2) hx hb dX5_putCoin_43 (by decide) ?_
      refine fRV (As := [.int x1, .int 2]) (rest := []) (st' := [.int (fX3_ofStool T x1 2)]) ⟨hx, hb, hml, hown, hts⟩ (kX3_ofStool l D cI cC cT ot ot1 ot2 T x1 2) (cwV 2 hts gX5_putCoin_X3_ofStool rfl rfl rfl (by decide +kernel) ⟨Nat.le_of_ble_eq_true rfl, Nat.le_of_ble_eq_true rfl⟩) hP hK [1, 2, 3] rfl 1 (ci := 4) rfl rfl rfl rfl hl.1 rfl rfl (Nat.le_of_ble_eq_true rfl) ⟨Nat.zero_le _, Nat.zero_le _⟩ dX5_putCoin_44 ?_
      refine lv_if_ne (tgt := 66) hx hb dX5_putCoin_47 (by decide) (fun c_47 => ?_) (fun c_47 => ?_)
      · refine lv_aload_n hx hb dX5_putCoin_66 rfl (lv_at hl 0 rfl) ?_
        refine va_get (D := D) (ci := 6) (v := .ref ot) (C := RX5) (T := TX5) (N := 10) hx hb hts q1 hown hK hP 0 rfl rfl 0 (by decide) q0 (fun _ h9 => h9) rfl dX5_putCoin_67 ?_
        refine lv_iload_n hx hb dX5_putCoin_70 rfl (lv_at hl 1 rfl) ?_
        obtain ⟨n1, en1⟩ : ∃ z9, z9 = (fX3_addCoin T x1) := ⟨_, rfl⟩
        have k9 := (kX3_addCoin l D cI cC cT ot ot1 ot2 T x1)
        rw [← en1] at k9
        refine fUV (As := [.int x1]) (rest := []) (st' := [.int n1.1]) ⟨hx, hb, hml, hown, hts⟩ k9 (cwV 1 hts gX5_putCoin_X3_addCoin rfl rfl rfl (by decide +kernel) ⟨Nat.le_of_ble_eq_true rfl, Nat.le_of_ble_eq_true rfl⟩) hP hK hD hS [1, 2, 3] rfl rfl (by decide) rfl [(x, .inr (6, [.ref ot, .ref ou, .ref ov, .ref oh, .ref ox, .ref oy, .int S.1, .int S.2.1, .int S.2.2.1, .int S.2.2.2])), (ot, .inr (4, [.ref ot1, .ref ot2, .int n1.2.2.2.1, .int n1.2.2.2.2.1, .int n1.2.2.2.2.2.1, .int n1.2.2.2.2.2.2.1, .int n1.2.2.2.2.2.2.2.1, .int n1.2.2.2.2.2.2.2.2])), (ot1, .inl (cI, 72, .inl n1.2.1)), (ot2, .inl (cI, 36, .inl n1.2.2.1))] rfl rfl 1 (ci := 4) rfl rfl rfl rfl hl.1 rfl rfl (Nat.le_of_ble_eq_true rfl) ⟨Nat.zero_le _, Nat.zero_le _⟩ dX5_putCoin_71 (fun H locs hP hD hS => ?_)
        have e9 : fX5_putCoin S T x1 = (n1.1, S, n1.2) := by rw [fX5_putCoin, if_neg c_8, if_pos c_21, if_neg c_47, ← en1]
        exact rUi hx hb hr hlk hQ hP hS (by rw [e9]) (congrArg (fun z9 : (Int32 × CV × TV) => w5 x ot ou ov oh ox oy z9.2.1 ++ w3 cI ot ot1 ot2 z9.2.2) e9).symm rfl dX5_putCoin_74
      · refine lv_aload_n hx hb dX5_putCoin_50 rfl (lv_at hl 0 rfl) ?_
        refine lv_bipush (v := 6) hx hb dX5_putCoin_51 (by decide) ?_
        refine lv_aload_n hx hb dX5_putCoin_53 rfl (lv_at hl 0 rfl) ?_
        refine va_get (D := D) (ci := 6) (v := .ref ot) (C := RX5) (T := TX5) (N := 10) hx hb hts q1 hown hK hP 0 rfl rfl 0 (by decide) q0 (fun _ h9 => h9) rfl dX5_putCoin_54 ?_
        refine lv_iload_n hx hb dX5_putCoin_57 rfl (lv_at hl 1 rfl) ?_
        refine lv_iconst (v := 4) hx hb dX5_putCoin_58 (by decide) ?_
        refine fRV (As := [.int x1, .int 4]) (rest := [.int 6, .ref x]) (st' := [.int (fX3_ofStool T x1 4), .int 6, .ref x]) ⟨hx, hb, hml, hown, hts⟩ (kX3_ofStool l D cI cC cT ot ot1 ot2 T x1 4) (cwV 2 hts gX5_putCoin_X3_ofStool rfl rfl rfl (by decide +kernel) ⟨Nat.le_of_ble_eq_true rfl, Nat.le_of_ble_eq_true rfl⟩) hP hK [1, 2, 3] rfl 1 (ci := 4) rfl rfl rfl rfl hl.1 rfl rfl (Nat.le_of_ble_eq_true rfl) ⟨Nat.zero_le _, Nat.zero_le _⟩ dX5_putCoin_59 ?_
        obtain ⟨n2, en2⟩ : ∃ z9, z9 = (fX5_refuse S 6 (fX3_ofStool T x1 4)) := ⟨_, rfl⟩
        have k9 := (kX5_refuse l D cI cC cT x ot ou ov oh ox oy S 6 (fX3_ofStool T x1 4))
        rw [← en2] at k9
        refine fUVp (As := [.int 6, .int (fX3_ofStool T x1 4)]) (rest := []) (st' := [.int n2.1]) ⟨hx, hb, hml, hown, hts⟩ k9 (cwV 2 hts gX5_putCoin_X5_refuse rfl rfl rfl (by decide +kernel) ⟨Nat.le_of_ble_eq_true rfl, Nat.le_of_ble_eq_true rfl⟩) hP hK hD hS [(ot, .inr (4, [.ref ot1, .ref ot2, .int T.2.2.1, .int T.2.2.2.1, .int T.2.2.2.2.1, .int T.2.2.2.2.2.1, .int T.2.2.2.2.2.2.1, .int T.2.2.2.2.2.2.2])), (ot1, .inl (cI, 72, .inl T.1)), (ot2, .inl (cI, 36, .inl T.2.1))] rfl [(x, .inr (6, [.ref ot, .ref ou, .ref ov, .ref oh, .ref ox, .ref oy, .int n2.2.1, .int n2.2.2.1, .int n2.2.2.2.1, .int n2.2.2.2.2])), (ot, .inr (4, [.ref ot1, .ref ot2, .int T.2.2.1, .int T.2.2.2.1, .int T.2.2.2.2.1, .int T.2.2.2.2.2.1, .int T.2.2.2.2.2.2.1, .int T.2.2.2.2.2.2.2])), (ot1, .inl (cI, 72, .inl T.1)), (ot2, .inl (cI, 36, .inl T.2.1))] rfl rfl 0 (ci := 6) rfl rfl rfl rfl hl.1 rfl rfl (Nat.le_of_ble_eq_true rfl) ⟨Nat.zero_le _, Nat.zero_le _⟩ dX5_putCoin_62 (fun H locs hP hD hS => ?_)
        have e9 : fX5_putCoin S T x1 = (n2.1, n2.2, T) := by rw [fX5_putCoin, if_neg c_8, if_pos c_21, if_pos c_47, ← en2]
        exact rUi hx hb hr hlk hQ hP hS (by rw [e9]) (congrArg (fun z9 : (Int32 × CV × TV) => w5 x ot ou ov oh ox oy z9.2.1 ++ w3 cI ot ot1 ot2 z9.2.2) e9).symm rfl dX5_putCoin_65
    · refine lv_aload_n hx hb dX5_putCoin_24 rfl (lv_at hl 0 rfl) ?_
      refine lv_iconst (v := 5) hx hb dX5_putCoin_25 (by decide) ?_
      refine lv_aload_n hx hb dX5_putCoin_26 rfl (lv_at hl 0 rfl) ?_
      refine va_get (D := D) (ci := 6) (v := .ref ot) (C := RX5) (T := TX5) (N := 10) hx hb hts q1 hown hK hP 0 rfl rfl 0 (by decide) q0 (fun _ h9 => h9) rfl dX5_putCoin_27 ?_
      refine lv_iconst (v := 4) hx hb dX5_putCoin_30 (by decide) ?_
      refine fRV (As := [.int 4]) (rest := [.int 5, .ref x]) (st' := [.int (fX3_sumOfStools T 4), .int 5, .ref x]) ⟨hx, hb, hml, hown, hts⟩ (kX3_sumOfStools l D cI cC cT ot ot1 ot2 T 4) (cwV 1 hts gX5_putCoin_X3_sumOfStools rfl rfl rfl (by decide +kernel) ⟨Nat.le_of_ble_eq_true rfl, Nat.le_of_ble_eq_true rfl⟩) hP hK [1, 2, 3] rfl 1 (ci := 4) rfl rfl rfl rfl hl.1 rfl rfl (Nat.le_of_ble_eq_true rfl) ⟨Nat.zero_le _, Nat.zero_le _⟩ dX5_putCoin_31 ?_
      obtain ⟨n3, en3⟩ : ∃ z9, z9 = (fX5_refuse S 5 (fX3_sumOfStools T 4)) := ⟨_, rfl⟩
      have k9 := (kX5_refuse l D cI cC cT x ot ou ov oh ox oy S 5 (fX3_sumOfStools T 4))
      rw [← en3] at k9
      refine fUVp (As := [.int 5, .int (fX3_sumOfStools T 4)]) (rest := []) (st' := [.int n3.1]) ⟨hx, hb, hml, hown, hts⟩ k9 (cwV 2 hts gX5_putCoin_X5_refuse rfl rfl rfl (by decide +kernel) ⟨Nat.le_of_ble_eq_true rfl, Nat.le_of_ble_eq_true rfl⟩) hP hK hD hS [(ot, .inr (4, [.ref ot1, .ref ot2, .int T.2.2.1, .int T.2.2.2.1, .int T.2.2.2.2.1, .int T.2.2.2.2.2.1, .int T.2.2.2.2.2.2.1, .int T.2.2.2.2.2.2.2])), (ot1, .inl (cI, 72, .inl T.1)), (ot2, .inl (cI, 36, .inl T.2.1))] rfl [(x, .inr (6, [.ref ot, .ref ou, .ref ov, .ref oh, .ref ox, .ref oy, .int n3.2.1, .int n3.2.2.1, .int n3.2.2.2.1, .int n3.2.2.2.2])), (ot, .inr (4, [.ref ot1, .ref ot2, .int T.2.2.1, .int T.2.2.2.1, .int T.2.2.2.2.1, .int T.2.2.2.2.2.1, .int T.2.2.2.2.2.2.1, .int T.2.2.2.2.2.2.2])), (ot1, .inl (cI, 72, .inl T.1)), (ot2, .inl (cI, 36, .inl T.2.1))] rfl rfl 0 (ci := 6) rfl rfl rfl rfl hl.1 rfl rfl (Nat.le_of_ble_eq_true rfl) ⟨Nat.zero_le _, Nat.zero_le _⟩ dX5_putCoin_34 (fun H locs hP hD hS => ?_)
      have e9 : fX5_putCoin S T x1 = (n3.1, n3.2, T) := by rw [fX5_putCoin, if_neg c_8, if_neg c_21, ← en3]
      exact rUi hx hb hr hlk hQ hP hS (by rw [e9]) (congrArg (fun z9 : (Int32 × CV × TV) => w5 x ot ou ov oh ox oy z9.2.1 ++ w3 cI ot ot1 ot2 z9.2.2) e9).symm rfl dX5_putCoin_37
  · refine lv_iconst (v := (-1)) hx hb dX5_putCoin_11 (by decide) ?_
    have e9 : fX5_putCoin S T x1 = ((-1), S, T) := by rw [fX5_putCoin, if_pos c_8]
    exact rUi hx hb hr hlk hQ hP hS (by rw [e9]) (congrArg (fun z9 : (Int32 × CV × TV) => w5 x ot ou ov oh ox oy z9.2.1 ++ w3 cI ot ot1 ot2 z9.2.2) e9).symm rfl dX5_putCoin_12
def fX5_takeCoinBack (S : CV) (T : TV) (x1 : Int32) : (Int32 × CV × TV) := (if (fX3_hasStool T x1) = 0 then ((-1), S, T) else (if (fX3_ofStool T x1 4) = 0 then ((fX5_refuse S 7 (fX3_ofStool T x1 2)).1, (fX5_refuse S 7 (fX3_ofStool T x1 2)).2, T) else ((fX3_removeCoin T x1).1, S, (fX3_removeCoin T x1).2)))
abbrev rmX5_takeCoinBack : Room := { frames := 2, cells := 0, slots := 0, locals := 45 }
set_option maxHeartbeats 4000000 in
set_option maxRecDepth 100000 in
theorem kX5_takeCoinBack (l : Launch) (D : va_G) (cI cC cT : ClassId) (x ot ou ov oh ox oy ot1 ot2 : Nat) (S : CV) (T : TV) (x1 : Int32)  : mU l D (TY cI cC cT) yX5_takeCoinBack wsX5_takeCoinBack rmX5_takeCoinBack [.ref x, .int x1] (w5 x ot ou ov oh ox oy S ++ w3 cI ot ot1 ot2 T) (some (.int (fX5_takeCoinBack S T x1).1)) (w5 x ot ou ov oh ox oy (fX5_takeCoinBack S T x1).2.1 ++ w3 cI ot ot1 ot2 (fX5_takeCoinBack S T x1).2.2) := by
  refine mU.ofW (cc := cX5_takeCoinBack) (maxL := 2) (ret := (some .int)) (by decide) rfl (Nat.le_of_ble_eq_true rfl) ?_
  intro p e s m args below meth c Q ls A hx hb hml hr hlk hts hown hP hK hD hS hl hQ
  have hown : s.vm.findClass RX5 = some m.cls := hown
  have hP : va_P D vwCl [(x, .inr (6, [.ref ot, .ref ou, .ref ov, .ref oh, .ref ox, .ref oy, .int S.1, .int S.2.1, .int S.2.2.1, .int S.2.2.2])), (ot, .inr (4, [.ref ot1, .ref ot2, .int T.2.2.1, .int T.2.2.2.1, .int T.2.2.2.2.1, .int T.2.2.2.2.2.1, .int T.2.2.2.2.2.2.1, .int T.2.2.2.2.2.2.2])), (ot1, .inl (cI, 72, .inl T.1)), (ot2, .inl (cI, 36, .inl T.2.1))] s.heap := hP
  have hD : va_D A [(x, .inr (6, [.ref ot, .ref ou, .ref ov, .ref oh, .ref ox, .ref oy, .int S.1, .int S.2.1, .int S.2.2.1, .int S.2.2.2])), (ot, .inr (4, [.ref ot1, .ref ot2, .int T.2.2.1, .int T.2.2.2.1, .int T.2.2.2.2.1, .int T.2.2.2.2.2.1, .int T.2.2.2.2.2.2.1, .int T.2.2.2.2.2.2.2])), (ot1, .inl (cI, 72, .inl T.1)), (ot2, .inl (cI, 36, .inl T.2.1))] := hD
  have hl : lv_has ls 2 [(0, .ref x), (1, .int x1)] := hl
  have q0 := hts (Cond.fieldLink RX5 10 "TavernStools" "tavern" "LTavernStools$Tavern;") (by decide +kernel)
  have q1 : ∀ w ∈ u_ws RX5 TX5 10, w ∈ wsX5_takeCoinBack := by decide +kernel
  generalize hHe : s.heap = H at hP ⊢
  have hS : va_S A s.heap H [] := hHe ▸ hS
  generalize hLe : ([] : List Loc) = locs at hS ⊢
  refine lv_aload_n hx hb dX5_takeCoinBack_0 rfl (lv_at hl 0 rfl) ?_
  refine va_get (D := D) (ci := 6) (v := .ref ot) (C := RX5) (T := TX5) (N := 10) hx hb hts q1 hown hK hP 0 rfl rfl 0 (by decide) q0 (fun _ h9 => h9) rfl dX5_takeCoinBack_1 ?_
  refine lv_iload_n hx hb dX5_takeCoinBack_4 rfl (lv_at hl 1 rfl) ?_
  refine fRV (As := [.int x1]) (rest := []) (st' := [.int (fX3_hasStool T x1)]) ⟨hx, hb, hml, hown, hts⟩ (kX3_hasStool l D cI cC cT ot ot1 ot2 T x1) (cwV 1 hts gX5_takeCoinBack_X3_hasStool rfl rfl rfl (by decide +kernel) ⟨Nat.le_of_ble_eq_true rfl, Nat.le_of_ble_eq_true rfl⟩) hP hK [1, 2, 3] rfl 1 (ci := 4) rfl rfl rfl rfl hl.1 rfl rfl (Nat.le_of_ble_eq_true rfl) ⟨Nat.zero_le _, Nat.zero_le _⟩ dX5_takeCoinBack_5 ?_
  refine lv_if_ne (tgt := 13) hx hb dX5_takeCoinBack_8 (by decide) (fun c_8 => ?_) (fun c_8 => ?_)
  · refine lv_aload_n hx hb dX5_takeCoinBack_13 rfl (lv_at hl 0 rfl) ?_
    refine va_get (D := D) (ci := 6) (v := .ref ot) (C := RX5) (T := TX5) (N := 10) hx hb hts q1 hown hK hP 0 rfl rfl 0 (by decide) q0 (fun _ h9 => h9) rfl dX5_takeCoinBack_14 ?_
    refine lv_iload_n hx hb dX5_takeCoinBack_17 rfl (lv_at hl 1 rfl) ?_
    refine lv_iconst (v := 4) hx hb dX5_takeCoinBack_18 (by decide) ?_
    refine fRV (As := [.int x1, .int 4]) (rest := []) (st' := [.int (fX3_ofStool T x1 4)]) ⟨hx, hb, hml, hown, hts⟩ (kX3_ofStool l D cI cC cT ot ot1 ot2 T x1 4) (cwV 2 hts gX5_takeCoinBack_X3_ofStool rfl rfl rfl (by decide +kernel) ⟨Nat.le_of_ble_eq_true rfl, Nat.le_of_ble_eq_true rfl⟩) hP hK [1, 2, 3] rfl 1 (ci := 4) rfl rfl rfl rfl hl.1 rfl rfl (Nat.le_of_ble_eq_true rfl) ⟨Nat.zero_le _, Nat.zero_le _⟩ dX5_takeCoinBack_19 ?_
    refine lv_if_ne (tgt := 41) hx hb dX5_takeCoinBack_22 (by decide) (fun c_22 => ?_) (fun c_22 => ?_)
    · refine lv_aload_n hx hb dX5_takeCoinBack_41 rfl (lv_at hl 0 rfl) ?_
      refine va_get (D := D) (ci := 6) (v := .ref ot) (C := RX5) (T := TX5) (N := 10) hx hb hts q1 hown hK hP 0 rfl rfl 0 (by decide) q0 (fun _ h9 => h9) rfl dX5_takeCoinBack_42 ?_
      refine lv_iload_n hx hb dX5_takeCoinBack_45 rfl (lv_at hl 1 rfl) ?_
      obtain ⟨n1, en1⟩ : ∃ z9, z9 = (fX3_removeCoin T x1) := ⟨_, rfl⟩
      have k9 := (kX3_removeCoin l D cI cC cT ot ot1 ot2 T x1)
      rw [← en1] at k9
      refine fUV (As := [.int x1]) (rest := []) (st' := [.int n1.1]) ⟨hx, hb, hml, hown, hts⟩ k9 (cwV 1 hts gX5_takeCoinBack_X3_removeCoin rfl rfl rfl (by decide +kernel) ⟨Nat.le_of_ble_eq_true rfl, Nat.le_of_ble_eq_true rfl⟩) hP hK hD hS [1, 2, 3] rfl rfl (by decide) rfl [(x, .inr (6, [.ref ot, .ref ou, .ref ov, .ref oh, .ref ox, .ref oy, .int S.1, .int S.2.1, .int S.2.2.1, .int S.2.2.2])), (ot, .inr (4, [.ref ot1, .ref ot2, .int n1.2.2.2.1, .int n1.2.2.2.2.1, .int n1.2.2.2.2.2.1, .int n1.2.2.2.2.2.2.1, .int n1.2.2.2.2.2.2.2.1, .int n1.2.2.2.2.2.2.2.2])), (ot1, .inl (cI, 72, .inl n1.2.1)), (ot2, .inl (cI, 36, .inl n1.2.2.1))] rfl rfl 1 (ci := 4) rfl rfl rfl rfl hl.1 rfl rfl (Nat.le_of_ble_eq_true rfl) ⟨Nat.zero_le _, Nat.zero_le _⟩ dX5_takeCoinBack_46 (fun H locs hP hD hS => ?_)
      have e9 : fX5_takeCoinBack S T x1 = (n1.1, S, n1.2) := by rw [fX5_takeCoinBack, if_neg c_8, if_neg c_22, ← en1]
      exact rUi hx hb hr hlk hQ hP hS (by rw [e9]) (congrArg (fun z9 : (Int32 × CV × TV) => w5 x ot ou ov oh ox oy z9.2.1 ++ w3 cI ot ot1 ot2 z9.2.2) e9).symm rfl dX5_takeCoinBack_49
    · refine lv_aload_n hx hb dX5_takeCoinBack_25 rfl (lv_at hl 0 rfl) ?_
      refine lv_bipush (v := 7) hx hb dX5_takeCoinBack_26 (by decide) ?_
      refine lv_aload_n hx hb dX5_takeCoinBack_28 rfl (lv_at hl 0 rfl) ?_
      refine va_get (D := D) (ci := 6) (v := .ref ot) (C := RX5) (T := TX5) (N := 10) hx hb hts q1 hown hK hP 0 rfl rfl 0 (by decide) q0 (fun _ h9 => h9) rfl dX5_takeCoinBack_29 ?_
      refine lv_iload_n hx hb dX5_takeCoinBack_32 rfl (lv_at hl 1 rfl) ?_
      refine lv_iconst (v := 2) hx hb dX5_takeCoinBack_33 (by decide) ?_
      refine fRV (As := [.int x1, .int 2]) (rest := [.int 7, .ref x]) (st' := [.int (fX3_ofStool T x1 2), .int 7, .ref x]) ⟨hx, hb, hml, hown, hts⟩ (kX3_ofStool l D cI cC cT ot ot1 ot2 T x1 2) (cwV 2 hts gX5_takeCoinBack_X3_ofStool rfl rfl rfl (by decide +kernel) ⟨Nat.le_of_ble_eq_true rfl, Nat.le_of_ble_eq_true rfl⟩) hP hK [1, 2, 3] rfl 1 (ci := 4) rfl rfl rfl rfl hl.1 rfl rfl (Nat.le_of_ble_eq_true rfl) ⟨Nat.zero_le _, Nat.zero_le _⟩ dX5_takeCoinBack_34 ?_
      obtain ⟨n2, en2⟩ : ∃ z9, z9 = (fX5_refuse S 7 (fX3_ofStool T x1 2)) := ⟨_, rfl⟩
      have k9 := (kX5_refuse l D cI cC cT x ot ou ov oh ox oy S 7 (fX3_ofStool T x1 2))
      rw [← en2] at k9
      refine fUVp (As := [.int 7, .int (fX3_ofStool T x1 2)]) (rest := []) (st' := [.int n2.1]) ⟨hx, hb, hml, hown, hts⟩ k9 (cwV 2 hts gX5_takeCoinBack_X5_refuse rfl rfl rfl (by decide +kernel) ⟨Nat.le_of_ble_eq_true rfl, Nat.le_of_ble_eq_true rfl⟩) hP hK hD hS [(ot, .inr (4, [.ref ot1, .ref ot2, .int T.2.2.1, .int T.2.2.2.1, .int T.2.2.2.2.1, .int T.2.2.2.2.2.1, .int T.2.2.2.2.2.2.1, .int T.2.2.2.2.2.2.2])), (ot1, .inl (cI, 72, .inl T.1)), (ot2, .inl (cI, 36, .inl T.2.1))] rfl [(x, .inr (6, [.ref ot, .ref ou, .ref ov, .ref oh, .ref ox, .ref oy, .int n2.2.1, .int n2.2.2.1, .int n2.2.2.2.1, .int n2.2.2.2.2])), (ot, .inr (4, [.ref ot1, .ref ot2, .int T.2.2.1, .int T.2.2.2.1, .int T.2.2.2.2.1, .int T.2.2.2.2.2.1, .int T.2.2.2.2.2.2.1, .int T.2.2.2.2.2.2.2])), (ot1, .inl (cI, 72, .inl T.1)), (ot2, .inl (cI, 36, .inl T.2.1))] rfl rfl 0 (ci := 6) rfl rfl rfl rfl hl.1 rfl rfl (Nat.le_of_ble_eq_true rfl) ⟨Nat.zero_le _, Nat.zero_le _⟩ dX5_takeCoinBack_37 (fun H locs hP hD hS => ?_)
      have e9 : fX5_takeCoinBack S T x1 = (n2.1, n2.2, T) := by rw [fX5_takeCoinBack, if_neg c_8, if_pos c_22, ← en2]
      exact rUi hx hb hr hlk hQ hP hS (by rw [e9]) (congrArg (fun z9 : (Int32 × CV × TV) => w5 x ot ou ov oh ox oy z9.2.1 ++ w3 cI ot ot1 ot2 z9.2.2) e9).symm rfl dX5_takeCoinBack_40
  · refine lv_iconst (v := (-1)) hx hb dX5_takeCoinBack_11 (by decide) ?_
    have e9 : fX5_takeCoinBack S T x1 = ((-1), S, T) := by rw [fX5_takeCoinBack, if_pos c_8]
    exact rUi hx hb hr hlk hQ hP hS (by rw [e9]) (congrArg (fun z9 : (Int32 × CV × TV) => w5 x ot ou ov oh ox oy z9.2.1 ++ w3 cI ot ot1 ot2 z9.2.2) e9).symm rfl dX5_takeCoinBack_12
def fX5_carryOut (S : CV) (T : TV) (Xt : XV) (x1 : Int32) : (Int32 × CV × TV) := (if (fX4_number Xt x1 0) = 98 then ((fX5_letBrawl S T (fX4_number Xt x1 1) (fX4_number Xt x1 2)).1, (fX5_letBrawl S T (fX4_number Xt x1 1) (fX4_number Xt x1 2)).2.1, (fX5_letBrawl S T (fX4_number Xt x1 1) (fX4_number Xt x1 2)).2.2) else (if (fX4_number Xt x1 0) = 99 then ((fX5_putCoin S T (fX4_number Xt x1 1)).1, (fX5_putCoin S T (fX4_number Xt x1 1)).2.1, (fX5_putCoin S T (fX4_number Xt x1 1)).2.2) else (if (fX4_number Xt x1 0) = 103 then ((fX5_letGuestCome S T (fX4_number Xt x1 1) (fX4_number Xt x1 2)).1, (fX5_letGuestCome S T (fX4_number Xt x1 1) (fX4_number Xt x1 2)).2.1, (fX5_letGuestCome S T (fX4_number Xt x1 1) (fX4_number Xt x1 2)).2.2) else (if (fX4_number Xt x1 0) = 107 then ((fX5_letSitterCome S T 0 (fX4_number Xt x1 1)).1, (fX5_letSitterCome S T 0 (fX4_number Xt x1 1)).2.1, (fX5_letSitterCome S T 0 (fX4_number Xt x1 1)).2.2) else (if (fX4_number Xt x1 0) = 110 then ((fX3_passNight T).1, S, (fX3_passNight T).2) else (if (fX4_number Xt x1 0) = 112 then ((fX5_seat S T (fX4_number Xt x1 1) (fX4_number Xt x1 2)).1, (fX5_seat S T (fX4_number Xt x1 1) (fX4_number Xt x1 2)).2.1, (fX5_seat S T (fX4_number Xt x1 1) (fX4_number Xt x1 2)).2.2) else (if (fX4_number Xt x1 0) = 115 then (if (fX4_number Xt x1 4) = 1 then ((fX5_setUpStool S T (fX4_number Xt x1 1) (fX4_number Xt x1 2) (fX4_number Xt x1 3) 1).1, (fX5_setUpStool S T (fX4_number Xt x1 1) (fX4_number Xt x1 2) (fX4_number Xt x1 3) 1).2.1, (fX5_setUpStool S T (fX4_number Xt x1 1) (fX4_number Xt x1 2) (fX4_number Xt x1 3) 1).2.2) else ((fX5_setUpStool S T (fX4_number Xt x1 1) (fX4_number Xt x1 2) (fX4_number Xt x1 3) 0).1, (fX5_setUpStool S T (fX4_number Xt x1 1) (fX4_number Xt x1 2) (fX4_number Xt x1 3) 0).2.1, (fX5_setUpStool S T (fX4_number Xt x1 1) (fX4_number Xt x1 2) (fX4_number Xt x1 3) 0).2.2)) else (if (fX4_number Xt x1 0) = 117 then ((fX5_letGetUp S T (fX4_number Xt x1 1)).1, (fX5_letGetUp S T (fX4_number Xt x1 1)).2.1, (fX5_letGetUp S T (fX4_number Xt x1 1)).2.2) else ((-2), S, T)))))))))
abbrev rmX5_carryOut : Room := { frames := 5, cells := 0, slots := 0, locals := 119 }
set_option maxHeartbeats 4000000 in
set_option maxRecDepth 100000 in
theorem kX5_carryOut (l : Launch) (D : va_G) (cI cC cT : ClassId) (x ot ou ov oh ox oy ot1 ot2 ox1 ox2 : Nat) (S : CV) (T : TV) (Xt : XV) (x1 : Int32)  : mU l D (TY cI cC cT) yX5_carryOut wsX5_carryOut rmX5_carryOut [.ref x, .int x1] (w5 x ot ou ov oh ox oy S ++ w3 cI ot ot1 ot2 T ++ w4 cI cC ox ox1 ox2 Xt) (some (.int (fX5_carryOut S T Xt x1).1)) (w5 x ot ou ov oh ox oy (fX5_carryOut S T Xt x1).2.1 ++ w3 cI ot ot1 ot2 (fX5_carryOut S T Xt x1).2.2 ++ w4 cI cC ox ox1 ox2 Xt) := by
  refine mU.ofW (cc := cX5_carryOut) (maxL := 4) (ret := (some .int)) (by decide) rfl (Nat.le_of_ble_eq_true rfl) ?_
  intro p e s m args below meth c Q ls A hx hb hml hr hlk hts hown hP hK hD hS hl hQ
  have hown : s.vm.findClass RX5 = some m.cls := hown
  have hP : va_P D vwCl [(x, .inr (6, [.ref ot, .ref ou, .ref ov, .ref oh, .ref ox, .ref oy, .int S.1, .int S.2.1, .int S.2.2.1, .int S.2.2.2])), (ot, .inr (4, [.ref ot1, .ref ot2, .int T.2.2.1, .int T.2.2.2.1, .int T.2.2.2.2.1, .int T.2.2.2.2.2.1, .int T.2.2.2.2.2.2.1, .int T.2.2.2.2.2.2.2])), (ot1, .inl (cI, 72, .inl T.1)), (ot2, .inl (cI, 36, .inl T.2.1)), (ox, .inr (5, [.ref ox1, .ref ox2, .int Xt.2.2.1, .int Xt.2.2.2.1, .int Xt.2.2.2.2])), (ox1, .inl (cC, 60, .inl Xt.1)), (ox2, .inl (cI, 150, .inl Xt.2.1))] s.heap := hP
  have hD : va_D A [(x, .inr (6, [.ref ot, .ref ou, .ref ov, .ref oh, .ref ox, .ref oy, .int S.1, .int S.2.1, .int S.2.2.1, .int S.2.2.2])), (ot, .inr (4, [.ref ot1, .ref ot2, .int T.2.2.1, .int T.2.2.2.1, .int T.2.2.2.2.1, .int T.2.2.2.2.2.1, .int T.2.2.2.2.2.2.1, .int T.2.2.2.2.2.2.2])), (ot1, .inl (cI, 72, .inl T.1)), (ot2, .inl (cI, 36, .inl T.2.1)), (ox, .inr (5, [.ref ox1, .ref ox2, .int Xt.2.2.1, .int Xt.2.2.2.1, .int Xt.2.2.2.2])), (ox1, .inl (cC, 60, .inl Xt.1)), (ox2, .inl (cI, 150, .inl Xt.2.1))] := hD
  have hl : lv_has ls 4 [(0, .ref x), (1, .int x1)] := hl
  have q0 := hts (Cond.fieldLink RX5 32 "TavernStools" "text" "LTavernStools$Text;") (by decide +kernel)
  have q1 : ∀ w ∈ u_ws RX5 TX5 10, w ∈ wsX5_carryOut := by decide +kernel
  have q2 := hts (Cond.fieldLink RX5 10 "TavernStools" "tavern" "LTavernStools$Tavern;") (by decide +kernel)
  generalize hHe : s.heap = H at hP ⊢
  have hS : va_S A s.heap H [] := hHe ▸ hS
  generalize hLe : ([] : List Loc) = locs at hS ⊢
  refine lv_aload_n hx hb dX5_carryOut_0 rfl (lv_at hl 0 rfl) ?_
  refine va_get (D := D) (ci := 6) (v := .ref ox) (C := RX5) (T := TX5) (N := 10) hx hb hts q1 hown hK hP 0 rfl rfl 4 (by decide) q0 (fun _ h9 => h9) rfl dX5_carryOut_1 ?_
  refine lv_iload_n hx hb dX5_carryOut_4 rfl (lv_at hl 1 rfl) ?_
  refine lv_iconst (v := 1) hx hb dX5_carryOut_5 (by decide) ?_
  refine fRV (As := [.int x1, .int 1]) (rest := []) (st' := [.int (fX4_number Xt x1 1)]) ⟨hx, hb, hml, hown, hts⟩ (kX4_number l D cI cC cT ox ox1 ox2 Xt x1 1) (cwV 2 hts gX5_carryOut_X4_number rfl rfl rfl (by decide +kernel) ⟨Nat.le_of_ble_eq_true rfl, Nat.le_of_ble_eq_true rfl⟩) hP hK [4, 5, 6] rfl 4 (ci := 5) rfl rfl rfl rfl hl.1 rfl rfl (Nat.le_of_ble_eq_true rfl) ⟨Nat.zero_le _, Nat.zero_le _⟩ dX5_carryOut_6 ?_
  refine lv_istore_n (lv' := [(2, .int (fX4_number Xt x1 1)), (0, .ref x), (1, .int x1)]) hx hb dX5_carryOut_9 rfl hl (by decide) rfl (fun ls hl => ?_)
  refine lv_aload_n hx hb dX5_carryOut_10 rfl (lv_at hl 1 rfl) ?_
  refine va_get (D := D) (ci := 6) (v := .ref ox) (C := RX5) (T := TX5) (N := 10) hx hb hts q1 hown hK hP 0 rfl rfl 4 (by decide) q0 (fun _ h9 => h9) rfl dX5_carryOut_11 ?_
  refine lv_iload_n hx hb dX5_carryOut_14 rfl (lv_at hl 2 rfl) ?_
  refine lv_iconst (v := 2) hx hb dX5_carryOut_15 (by decide) ?_
  refine fRV (As := [.int x1, .int 2]) (rest := []) (st' := [.int (fX4_number Xt x1 2)]) ⟨hx, hb, hml, hown, hts⟩ (kX4_number l D cI cC cT ox ox1 ox2 Xt x1 2) (cwV 2 hts gX5_carryOut_X4_number rfl rfl rfl (by decide +kernel) ⟨Nat.le_of_ble_eq_true rfl, Nat.le_of_ble_eq_true rfl⟩) hP hK [4, 5, 6] rfl 4 (ci := 5) rfl rfl rfl rfl hl.1 rfl rfl (Nat.le_of_ble_eq_true rfl) ⟨Nat.zero_le _, Nat.zero_le _⟩ dX5_carryOut_16 ?_
  refine lv_istore_n (lv' := [(3, .int (fX4_number Xt x1 2)), (2, .int (fX4_number Xt x1 1)), (0, .ref x), (1, .int x1)]) hx hb dX5_carryOut_19 rfl hl (by decide) rfl (fun ls hl => ?_)
  refine lv_aload_n hx hb dX5_carryOut_20 rfl (lv_at hl 2 rfl) ?_
  refine va_get (D := D) (ci := 6) (v := .ref ox) (C := RX5) (T := TX5) (N := 10) hx hb hts q1 hown hK hP 0 rfl rfl 4 (by decide) q0 (fun _ h9 => h9) rfl dX5_carryOut_21 ?_
  refine lv_iload_n hx hb dX5_carryOut_24 rfl (lv_at hl 3 rfl) ?_
  refine lv_iconst (v := 0) hx hb dX5_carryOut_25 (by decide) ?_
  refine fRV (As := [.int x1, .int 0]) (rest := []) (st' := [.int (fX4_number Xt x1 0)]) ⟨hx, hb, hml, hown, hts⟩ (kX4_number l D cI cC cT ox ox1 ox2 Xt x1 0) (cwV 2 hts gX5_carryOut_X4_number rfl rfl rfl (by decide +kernel) ⟨Nat.le_of_ble_eq_true rfl, Nat.le_of_ble_eq_true rfl⟩) hP hK [4, 5, 6] rfl 4 (ci := 5) rfl rfl rfl rfl hl.1 rfl rfl (Nat.le_of_ble_eq_true rfl) ⟨Nat.zero_le _, Nat.zero_le _⟩ dX5_carryOut_26 ?_
  by_cases c_29_98 : (fX4_number Xt x1 0) = 98
  · refine lv_tableIn (off := 162) (tgt := 191) hx hb dX5_carryOut_29 (by rw [c_29_98]; decide) (by rw [c_29_98]; decide) (by rw [c_29_98]; rfl) (by decide) ?_
    refine lv_aload_n hx hb dX5_carryOut_191 rfl (lv_at hl 2 rfl) ?_
    refine lv_iload_n hx hb dX5_carryOut_192 rfl (lv_at hl 1 rfl) ?_
    refine lv_iload_n hx hb dX5_carryOut_193 rfl (lv_at hl 0 rfl) ?_
    obtain ⟨n1, en1⟩ : ∃ z9, z9 = (fX5_letBrawl S T (fX4_number Xt x1 1) (fX4_number Xt x1 2)) := ⟨_, rfl⟩
    have k9 := (kX5_letBrawl l D cI cC cT x ot ou ov oh ox oy ot1 ot2 S T (fX4_number Xt x1 1) (fX4_number Xt x1 2))
    rw [← en1] at k9
    refine fUVp (As := [.int (fX4_number Xt x1 1), .int (fX4_number Xt x1 2)]) (rest := []) (st' := [.int n1.1]) ⟨hx, hb, hml, hown, hts⟩ k9 (cwV 2 hts gX5_carryOut_X5_letBrawl rfl rfl rfl (by decide +kernel) ⟨Nat.le_of_ble_eq_true rfl, Nat.le_of_ble_eq_true rfl⟩) hP hK hD hS [(ox, .inr (5, [.ref ox1, .ref ox2, .int Xt.2.2.1, .int Xt.2.2.2.1, .int Xt.2.2.2.2])), (ox1, .inl (cC, 60, .inl Xt.1)), (ox2, .inl (cI, 150, .inl Xt.2.1))] rfl [(x, .inr (6, [.ref ot, .ref ou, .ref ov, .ref oh, .ref ox, .ref oy, .int n1.2.1.1, .int n1.2.1.2.1, .int n1.2.1.2.2.1, .int n1.2.1.2.2.2])), (ot, .inr (4, [.ref ot1, .ref ot2, .int n1.2.2.2.2.1, .int n1.2.2.2.2.2.1, .int n1.2.2.2.2.2.2.1, .int n1.2.2.2.2.2.2.2.1, .int n1.2.2.2.2.2.2.2.2.1, .int n1.2.2.2.2.2.2.2.2.2])), (ot1, .inl (cI, 72, .inl n1.2.2.1)), (ot2, .inl (cI, 36, .inl n1.2.2.2.1)), (ox, .inr (5, [.ref ox1, .ref ox2, .int Xt.2.2.1, .int Xt.2.2.2.1, .int Xt.2.2.2.2])), (ox1, .inl (cC, 60, .inl Xt.1)), (ox2, .inl (cI, 150, .inl Xt.2.1))] rfl rfl 0 (ci := 6) rfl rfl rfl rfl hl.1 rfl rfl (Nat.le_of_ble_eq_true rfl) ⟨Nat.zero_le _, Nat.zero_le _⟩ dX5_carryOut_194 (fun H locs hP hD hS => ?_)
    have e9 : fX5_carryOut S T Xt x1 = (n1.1, n1.2.1, n1.2.2) := by rw [fX5_carryOut, if_pos c_29_98, ← en1]
    exact rUi hx hb hr hlk hQ hP hS (by rw [e9]) (congrArg (fun z9 : (Int32 × CV × TV) => w5 x ot ou ov oh ox oy z9.2.1 ++ w3 cI ot ot1 ot2 z9.2.2 ++ w4 cI cC ox ox1 ox2 Xt) e9).symm rfl dX5_carryOut_197
  · skip
    by_cases c_29_99 : (fX4_number Xt x1 0) = 99
    · refine lv_tableIn (off := 156) (tgt := 185) hx hb dX5_carryOut_29 (by rw [c_29_99]; decide) (by rw [c_29_99]; decide) (by rw [c_29_99]; rfl) (by decide) ?_
      refine lv_aload_n hx hb dX5_carryOut_185 rfl (lv_at hl 2 rfl) ?_
      refine lv_iload_n hx hb dX5_carryOut_186 rfl (lv_at hl 1 rfl) ?_
      obtain ⟨n2, en2⟩ : ∃ z9, z9 = (fX5_putCoin S T (fX4_number Xt x1 1)) := ⟨_, rfl⟩
      have k9 := (kX5_putCoin l D cI cC cT x ot ou ov oh ox oy ot1 ot2 S T (fX4_number Xt x1 1))
      rw [← en2] at k9
      refine fUVp (As := [.int (fX4_number Xt x1 1)]) (rest := []) (st' := [.int n2.1]) ⟨hx, hb, hml, hown, hts⟩ k9 (cwV 1 hts gX5_carryOut_X5_putCoin rfl rfl rfl (by decide +kernel) ⟨Nat.le_of_ble_eq_true rfl, Nat.le_of_ble_eq_true rfl⟩) hP hK hD hS [(ox, .inr (5, [.ref ox1, .ref ox2, .int Xt.2.2.1, .int Xt.2.2.2.1, .int Xt.2.2.2.2])), (ox1, .inl (cC, 60, .inl Xt.1)), (ox2, .inl (cI, 150, .inl Xt.2.1))] rfl [(x, .inr (6, [.ref ot, .ref ou, .ref ov, .ref oh, .ref ox, .ref oy, .int n2.2.1.1, .int n2.2.1.2.1, .int n2.2.1.2.2.1, .int n2.2.1.2.2.2])), (ot, .inr (4, [.ref ot1, .ref ot2, .int n2.2.2.2.2.1, .int n2.2.2.2.2.2.1, .int n2.2.2.2.2.2.2.1, .int n2.2.2.2.2.2.2.2.1, .int n2.2.2.2.2.2.2.2.2.1, .int n2.2.2.2.2.2.2.2.2.2])), (ot1, .inl (cI, 72, .inl n2.2.2.1)), (ot2, .inl (cI, 36, .inl n2.2.2.2.1)), (ox, .inr (5, [.ref ox1, .ref ox2, .int Xt.2.2.1, .int Xt.2.2.2.1, .int Xt.2.2.2.2])), (ox1, .inl (cC, 60, .inl Xt.1)), (ox2, .inl (cI, 150, .inl Xt.2.1))] rfl rfl 0 (ci := 6) rfl rfl rfl rfl hl.1 rfl rfl (Nat.le_of_ble_eq_true rfl) ⟨Nat.zero_le _, Nat.zero_le _⟩ dX5_carryOut_187 (fun H locs hP hD hS => ?_)
      have e9 : fX5_carryOut S T Xt x1 = (n2.1, n2.2.1, n2.2.2) := by rw [fX5_carryOut, if_neg c_29_98, if_pos c_29_99, ← en2]
      exact rUi hx hb hr hlk hQ hP hS (by rw [e9]) (congrArg (fun z9 : (Int32 × CV × TV) => w5 x ot ou ov oh ox oy z9.2.1 ++ w3 cI ot ot1 ot2 z9.2.2 ++ w4 cI cC ox ox1 ox2 Xt) e9).symm rfl dX5_carryOut_190
    · skip
      by_cases c_29_103 : (fX4_number Xt x1 0) = 103
      · refine lv_tableIn (off := 129) (tgt := 158) hx hb dX5_carryOut_29 (by rw [c_29_103]; decide) (by rw [c_29_103]; decide) (by rw [c_29_103]; rfl) (by decide) ?_
        refine lv_aload_n hx hb dX5_carryOut_158 rfl (lv_at hl 2 rfl) ?_
        refine lv_iload_n hx hb dX5_carryOut_159 rfl (lv_at hl 1 rfl) ?_
        refine lv_iload_n hx hb dX5_carryOut_160 rfl (lv_at hl 0 rfl) ?_
        obtain ⟨n3, en3⟩ : ∃ z9, z9 = (fX5_letGuestCome S T (fX4_number Xt x1 1) (fX4_number Xt x1 2)) := ⟨_, rfl⟩
        have k9 := (kX5_letGuestCome l D cI cC cT x ot ou ov oh ox oy ot1 ot2 S T (fX4_number Xt x1 1) (fX4_number Xt x1 2))
        rw [← en3] at k9
        refine fUVp (As := [.int (fX4_number Xt x1 1), .int (fX4_number Xt x1 2)]) (rest := []) (st' := [.int n3.1]) ⟨hx, hb, hml, hown, hts⟩ k9 (cwV 2 hts gX5_carryOut_X5_letGuestCome rfl rfl rfl (by decide +kernel) ⟨Nat.le_of_ble_eq_true rfl, Nat.le_of_ble_eq_true rfl⟩) hP hK hD hS [(ox, .inr (5, [.ref ox1, .ref ox2, .int Xt.2.2.1, .int Xt.2.2.2.1, .int Xt.2.2.2.2])), (ox1, .inl (cC, 60, .inl Xt.1)), (ox2, .inl (cI, 150, .inl Xt.2.1))] rfl [(x, .inr (6, [.ref ot, .ref ou, .ref ov, .ref oh, .ref ox, .ref oy, .int n3.2.1.1, .int n3.2.1.2.1, .int n3.2.1.2.2.1, .int n3.2.1.2.2.2])), (ot, .inr (4, [.ref ot1, .ref ot2, .int n3.2.2.2.2.1, .int n3.2.2.2.2.2.1, .int n3.2.2.2.2.2.2.1, .int n3.2.2.2.2.2.2.2.1, .int n3.2.2.2.2.2.2.2.2.1, .int n3.2.2.2.2.2.2.2.2.2])), (ot1, .inl (cI, 72, .inl n3.2.2.1)), (ot2, .inl (cI, 36, .inl n3.2.2.2.1)), (ox, .inr (5, [.ref ox1, .ref ox2, .int Xt.2.2.1, .int Xt.2.2.2.1, .int Xt.2.2.2.2])), (ox1, .inl (cC, 60, .inl Xt.1)), (ox2, .inl (cI, 150, .inl Xt.2.1))] rfl rfl 0 (ci := 6) rfl rfl rfl rfl hl.1 rfl rfl (Nat.le_of_ble_eq_true rfl) ⟨Nat.zero_le _, Nat.zero_le _⟩ dX5_carryOut_161 (fun H locs hP hD hS => ?_)
        have e9 : fX5_carryOut S T Xt x1 = (n3.1, n3.2.1, n3.2.2) := by rw [fX5_carryOut, if_neg c_29_98, if_neg c_29_99, if_pos c_29_103, ← en3]
        exact rUi hx hb hr hlk hQ hP hS (by rw [e9]) (congrArg (fun z9 : (Int32 × CV × TV) => w5 x ot ou ov oh ox oy z9.2.1 ++ w3 cI ot ot1 ot2 z9.2.2 ++ w4 cI cC ox ox1 ox2 Xt) e9).symm rfl dX5_carryOut_164
      · skip
        by_cases c_29_107 : (fX4_number Xt x1 0) = 107
        · refine lv_tableIn (off := 136) (tgt := 165) hx hb dX5_carryOut_29 (by rw [c_29_107]; decide) (by rw [c_29_107]; decide) (by rw [c_29_107]; rfl) (by decide) ?_
          refine lv_aload_n hx hb dX5_carryOut_165 rfl (lv_at hl 2 rfl) ?_
          refine lv_iconst (v := 0) hx hb dX5_carryOut_166 (by decide) ?_
          refine lv_iload_n hx hb dX5_carryOut_167 rfl (lv_at hl 1 rfl) ?_
          obtain ⟨n4, en4⟩ : ∃ z9, z9 = (fX5_letSitterCome S T 0 (fX4_number Xt x1 1)) := ⟨_, rfl⟩
          have k9 := (kX5_letSitterCome l D cI cC cT x ot ou ov oh ox oy ot1 ot2 S T 0 (fX4_number Xt x1 1))
          rw [← en4] at k9
          refine fUVp (As := [.int 0, .int (fX4_number Xt x1 1)]) (rest := []) (st' := [.int n4.1]) ⟨hx, hb, hml, hown, hts⟩ k9 (cwV 2 hts gX5_carryOut_X5_letSitterCome rfl rfl rfl (by decide +kernel) ⟨Nat.le_of_ble_eq_true rfl, Nat.le_of_ble_eq_true rfl⟩) hP hK hD hS [(ox, .inr (5, [.ref ox1, .ref ox2, .int Xt.2.2.1, .int Xt.2.2.2.1, .int Xt.2.2.2.2])), (ox1, .inl (cC, 60, .inl Xt.1)), (ox2, .inl (cI, 150, .inl Xt.2.1))] rfl [(x, .inr (6, [.ref ot, .ref ou, .ref ov, .ref oh, .ref ox, .ref oy, .int n4.2.1.1, .int n4.2.1.2.1, .int n4.2.1.2.2.1, .int n4.2.1.2.2.2])), (ot, .inr (4, [.ref ot1, .ref ot2, .int n4.2.2.2.2.1, .int n4.2.2.2.2.2.1, .int n4.2.2.2.2.2.2.1, .int n4.2.2.2.2.2.2.2.1, .int n4.2.2.2.2.2.2.2.2.1, .int n4.2.2.2.2.2.2.2.2.2])), (ot1, .inl (cI, 72, .inl n4.2.2.1)), (ot2, .inl (cI, 36, .inl n4.2.2.2.1)), (ox, .inr (5, [.ref ox1, .ref ox2, .int Xt.2.2.1, .int Xt.2.2.2.1, .int Xt.2.2.2.2])), (ox1, .inl (cC, 60, .inl Xt.1)), (ox2, .inl (cI, 150, .inl Xt.2.1))] rfl rfl 0 (ci := 6) rfl rfl rfl rfl hl.1 rfl rfl (Nat.le_of_ble_eq_true rfl) ⟨Nat.zero_le _, Nat.zero_le _⟩ dX5_carryOut_168 (fun H locs hP hD hS => ?_)
          have e9 : fX5_carryOut S T Xt x1 = (n4.1, n4.2.1, n4.2.2) := by rw [fX5_carryOut, if_neg c_29_98, if_neg c_29_99, if_neg c_29_103, if_pos c_29_107, ← en4]
          exact rUi hx hb hr hlk hQ hP hS (by rw [e9]) (congrArg (fun z9 : (Int32 × CV × TV) => w5 x ot ou ov oh ox oy z9.2.1 ++ w3 cI ot ot1 ot2 z9.2.2 ++ w4 cI cC ox ox1 ox2 Xt) e9).symm rfl dX5_carryOut_171
        · skip
          by_cases c_29_110 : (fX4_number Xt x1 0) = 110
          · refine lv_tableIn (off := 169) (tgt := 198) hx hb dX5_carryOut_29 (by rw [c_29_110]; decide) (by rw [c_29_110]; decide) (by rw [c_29_110]; rfl) (by decide) ?_
            refine lv_aload_n hx hb dX5_carryOut_198 rfl (lv_at hl 2 rfl) ?_
            refine va_get (D := D) (ci := 6) (v := .ref ot) (C := RX5) (T := TX5) (N := 10) hx hb hts q1 hown hK hP 0 rfl rfl 0 (by decide) q2 (fun _ h9 => h9) rfl dX5_carryOut_199 ?_
            obtain ⟨n5, en5⟩ : ∃ z9, z9 = (fX3_passNight T) := ⟨_, rfl⟩
            have k9 := (kX3_passNight l D cI cC cT ot ot1 ot2 T)
            rw [← en5] at k9
            refine fUV (As := []) (rest := []) (st' := [.int n5.1]) ⟨hx, hb, hml, hown, hts⟩ k9 (cwV 0 hts gX5_carryOut_X3_passNight rfl rfl rfl (by decide +kernel) ⟨Nat.le_of_ble_eq_true rfl, Nat.le_of_ble_eq_true rfl⟩) hP hK hD hS [1, 2, 3] rfl rfl (by decide) rfl [(x, .inr (6, [.ref ot, .ref ou, .ref ov, .ref oh, .ref ox, .ref oy, .int S.1, .int S.2.1, .int S.2.2.1, .int S.2.2.2])), (ot, .inr (4, [.ref ot1, .ref ot2, .int n5.2.2.2.1, .int n5.2.2.2.2.1, .int n5.2.2.2.2.2.1, .int n5.2.2.2.2.2.2.1, .int n5.2.2.2.2.2.2.2.1, .int n5.2.2.2.2.2.2.2.2])), (ot1, .inl (cI, 72, .inl n5.2.1)), (ot2, .inl (cI, 36, .inl n5.2.2.1)), (ox, .inr (5, [.ref ox1, .ref ox2, .int Xt.2.2.1, .int Xt.2.2.2.1, .int Xt.2.2.2.2])), (ox1, .inl (cC, 60, .inl Xt.1)), (ox2, .inl (cI, 150, .inl Xt.2.1))] rfl rfl 1 (ci := 4) rfl rfl rfl rfl hl.1 rfl rfl (Nat.le_of_ble_eq_true rfl) ⟨Nat.zero_le _, Nat.zero_le _⟩ dX5_carryOut_202 (fun H locs hP hD hS => ?_)
            have e9 : fX5_carryOut S T Xt x1 = (n5.1, S, n5.2) := by rw [fX5_carryOut, if_neg c_29_98, if_neg c_29_99, if_neg c_29_103, if_neg c_29_107, if_pos c_29_110, ← en5]
            exact rUi hx hb hr hlk hQ hP hS (by rw [e9]) (congrArg (fun z9 : (Int32 × CV × TV) => w5 x ot ou ov oh ox oy z9.2.1 ++ w3 cI ot ot1 ot2 z9.2.2 ++ w4 cI cC ox ox1 ox2 Xt) e9).symm rfl dX5_carryOut_205
          · skip
            by_cases c_29_112 : (fX4_number Xt x1 0) = 112
            · refine lv_tableIn (off := 143) (tgt := 172) hx hb dX5_carryOut_29 (by rw [c_29_112]; decide) (by rw [c_29_112]; decide) (by rw [c_29_112]; rfl) (by decide) ?_
              refine lv_aload_n hx hb dX5_carryOut_172 rfl (lv_at hl 2 rfl) ?_
              refine lv_iload_n hx hb dX5_carryOut_173 rfl (lv_at hl 1 rfl) ?_
              refine lv_iload_n hx hb dX5_carryOut_174 rfl (lv_at hl 0 rfl) ?_
              obtain ⟨n6, en6⟩ : ∃ z9, z9 = (fX5_seat S T (fX4_number Xt x1 1) (fX4_number Xt x1 2)) := ⟨_, rfl⟩
              have k9 := (kX5_seat l D cI cC cT x ot ou ov oh ox oy ot1 ot2 S T (fX4_number Xt x1 1) (fX4_number Xt x1 2))
              rw [← en6] at k9
              refine fUVp (As := [.int (fX4_number Xt x1 1), .int (fX4_number Xt x1 2)]) (rest := []) (st' := [.int n6.1]) ⟨hx, hb, hml, hown, hts⟩ k9 (cwV 2 hts gX5_carryOut_X5_seat rfl rfl rfl (by decide +kernel) ⟨Nat.le_of_ble_eq_true rfl, Nat.le_of_ble_eq_true rfl⟩) hP hK hD hS [(ox, .inr (5, [.ref ox1, .ref ox2, .int Xt.2.2.1, .int Xt.2.2.2.1, .int Xt.2.2.2.2])), (ox1, .inl (cC, 60, .inl Xt.1)), (ox2, .inl (cI, 150, .inl Xt.2.1))] rfl [(x, .inr (6, [.ref ot, .ref ou, .ref ov, .ref oh, .ref ox, .ref oy, .int n6.2.1.1, .int n6.2.1.2.1, .int n6.2.1.2.2.1, .int n6.2.1.2.2.2])), (ot, .inr (4, [.ref ot1, .ref ot2, .int n6.2.2.2.2.1, .int n6.2.2.2.2.2.1, .int n6.2.2.2.2.2.2.1, .int n6.2.2.2.2.2.2.2.1, .int n6.2.2.2.2.2.2.2.2.1, .int n6.2.2.2.2.2.2.2.2.2])), (ot1, .inl (cI, 72, .inl n6.2.2.1)), (ot2, .inl (cI, 36, .inl n6.2.2.2.1)), (ox, .inr (5, [.ref ox1, .ref ox2, .int Xt.2.2.1, .int Xt.2.2.2.1, .int Xt.2.2.2.2])), (ox1, .inl (cC, 60, .inl Xt.1)), (ox2, .inl (cI, 150, .inl Xt.2.1))] rfl rfl 0 (ci := 6) rfl rfl rfl rfl hl.1 rfl rfl (Nat.le_of_ble_eq_true rfl) ⟨Nat.zero_le _, Nat.zero_le _⟩ dX5_carryOut_175 (fun H locs hP hD hS => ?_)
              have e9 : fX5_carryOut S T Xt x1 = (n6.1, n6.2.1, n6.2.2) := by rw [fX5_carryOut, if_neg c_29_98, if_neg c_29_99, if_neg c_29_103, if_neg c_29_107, if_neg c_29_110, if_pos c_29_112, ← en6]
              exact rUi hx hb hr hlk hQ hP hS (by rw [e9]) (congrArg (fun z9 : (Int32 × CV × TV) => w5 x ot ou ov oh ox oy z9.2.1 ++ w3 cI ot ot1 ot2 z9.2.2 ++ w4 cI cC ox ox1 ox2 Xt) e9).symm rfl dX5_carryOut_178
            · skip
              by_cases c_29_115 : (fX4_number Xt x1 0) = 115
              · refine lv_tableIn (off := 95) (tgt := 124) hx hb dX5_carryOut_29 (by rw [c_29_115]; decide) (by rw [c_29_115]; decide) (by rw [c_29_115]; rfl) (by decide) ?_
                refine lv_aload_n hx hb dX5_carryOut_124 rfl (lv_at hl 2 rfl) ?_
                refine lv_iload_n hx hb dX5_carryOut_125 rfl (lv_at hl 1 rfl) ?_
                refine lv_iload_n hx hb dX5_carryOut_126 rfl (lv_at hl 0 rfl) ?_
                refine lv_aload_n hx hb dX5_carryOut_127 rfl (lv_at hl 2 rfl) ?_
                refine va_get (D := D) (ci := 6) (v := .ref ox) (C := RX5) (T := TX5) (N := 10) hx hb hts q1 hown hK hP 0 rfl rfl 4 (by decide) q0 (fun _ h9 => h9) rfl dX5_carryOut_128 ?_
                refine lv_iload_n hx hb dX5_carryOut_131 rfl (lv_at hl 3 rfl) ?_
                refine lv_iconst (v := 3) hx hb dX5_carryOut_132 (by decide) ?_
                refine fRV (As := [.int x1, .int 3]) (rest := [.int (fX4_number Xt x1 2), .int (fX4_number Xt x1 1), .ref x]) (st' := [.int (fX4_number Xt x1 3), .int (fX4_number Xt x1 2), .int (fX4_number Xt x1 1), .ref x]) ⟨hx, hb, hml, hown, hts⟩ (kX4_number l D cI cC cT ox ox1 ox2 Xt x1 3) (cwV 2 hts gX5_carryOut_X4_number rfl rfl rfl (by decide +kernel) ⟨Nat.le_of_ble_eq_true rfl, Nat.le_of_ble_eq_true rfl⟩) hP hK [4, 5, 6] rfl 4 (ci := 5) rfl rfl rfl rfl hl.1 rfl rfl (Nat.le_of_ble_eq_true rfl) ⟨Nat.zero_le _, Nat.zero_le _⟩ dX5_carryOut_133 ?_
                refine lv_aload_n hx hb dX5_carryOut_136 rfl (lv_at hl 2 rfl) ?_
                refine va_get (D := D) (ci := 6) (v := .ref ox) (C := RX5) (T := TX5) (N := 10) hx hb hts q1 hown hK hP 0 rfl rfl 4 (by decide) q0 (fun _ h9 => h9) rfl dX5_carryOut_137 ?_
                refine lv_iload_n hx hb dX5_carryOut_140 rfl (lv_at hl 3 rfl) ?_
                refine lv_iconst (v := 4) hx hb dX5_carryOut_141 (by decide) ?_
                refine fRV (As := [.int x1, .int 4]) (rest := [.int (fX4_number Xt x1 3), .int (fX4_number Xt x1 2), .int (fX4_number Xt x1 1), .ref x]) (st' := [.int (fX4_number Xt x1 4), .int (fX4_number Xt x1 3), .int (fX4_number Xt x1 2), .int (fX4_number Xt x1 1), .ref x]) ⟨hx, hb, hml, hown, hts⟩ (kX4_number l D cI cC cT ox ox1 ox2 Xt x1 4) (cwV 2 hts gX5_carryOut_X4_number rfl rfl rfl (by decide +kernel) ⟨Nat.le_of_ble_eq_true rfl, Nat.le_of_ble_eq_true rfl⟩) hP hK [4, 5, 6] rfl 4 (ci := 5) rfl rfl rfl rfl hl.1 rfl rfl (Nat.le_of_ble_eq_true rfl) ⟨Nat.zero_le _, Nat.zero_le _⟩ dX5_carryOut_142 ?_
                refine lv_iconst (v := 1) hx hb dX5_carryOut_145 (by decide) ?_
                refine lv_icmp_ne (tgt := 153) hx hb dX5_carryOut_146 (by decide) (fun c_146 => ?_) (fun c_146 => ?_)
                · refine lv_iconst (v := 0) hx hb dX5_carryOut_153 (by decide) ?_
                  obtain ⟨n7, en7⟩ : ∃ z9, z9 = (fX5_setUpStool S T (fX4_number Xt x1 1) (fX4_number Xt x1 2) (fX4_number Xt x1 3) 0) := ⟨_, rfl⟩
                  have k9 := (kX5_setUpStool l D cI cC cT x ot ou ov oh ox oy ot1 ot2 S T (fX4_number Xt x1 1) (fX4_number Xt x1 2) (fX4_number Xt x1 3) 0)
                  rw [← en7] at k9
                  refine fUVp (As := [.int (fX4_number Xt x1 1), .int (fX4_number Xt x1 2), .int (fX4_number Xt x1 3), .int 0]) (rest := []) (st' := [.int n7.1]) ⟨hx, hb, hml, hown, hts⟩ k9 (cwV 4 hts gX5_carryOut_X5_setUpStool rfl rfl rfl (by decide +kernel) ⟨Nat.le_of_ble_eq_true rfl, Nat.le_of_ble_eq_true rfl⟩) hP hK hD hS [(ox, .inr (5, [.ref ox1, .ref ox2, .int Xt.2.2.1, .int Xt.2.2.2.1, .int Xt.2.2.2.2])), (ox1, .inl (cC, 60, .inl Xt.1)), (ox2, .inl (cI, 150, .inl Xt.2.1))] rfl [(x, .inr (6, [.ref ot, .ref ou, .ref ov, .ref oh, .ref ox, .ref oy, .int n7.2.1.1, .int n7.2.1.2.1, .int n7.2.1.2.2.1, .int n7.2.1.2.2.2])), (ot, .inr (4, [.ref ot1, .ref ot2, .int n7.2.2.2.2.1, .int n7.2.2.2.2.2.1, .int n7.2.2.2.2.2.2.1, .int n7.2.2.2.2.2.2.2.1, .int n7.2.2.2.2.2.2.2.2.1, .int n7.2.2.2.2.2.2.2.2.2])), (ot1, .inl (cI, 72, .inl n7.2.2.1)), (ot2, .inl (cI, 36, .inl n7.2.2.2.1)), (ox, .inr (5, [.ref ox1, .ref ox2, .int Xt.2.2.1, .int Xt.2.2.2.1, .int Xt.2.2.2.2])), (ox1, .inl (cC, 60, .inl Xt.1)), (ox2, .inl (cI, 150, .inl Xt.2.1))] rfl rfl 0 (ci := 6) rfl rfl rfl rfl hl.1 rfl rfl (Nat.le_of_ble_eq_true rfl) ⟨Nat.zero_le _, Nat.zero_le _⟩ dX5_carryOut_154 (fun H locs hP hD hS => ?_)
                  have e9 : fX5_carryOut S T Xt x1 = (n7.1, n7.2.1, n7.2.2) := by rw [fX5_carryOut, if_neg c_29_98, if_neg c_29_99, if_neg c_29_103, if_neg c_29_107, if_neg c_29_110, if_neg c_29_112, if_pos c_29_115, if_neg c_146, ← en7]
                  exact rUi hx hb hr hlk hQ hP hS (by rw [e9]) (congrArg (fun z9 : (Int32 × CV × TV) => w5 x ot ou ov oh ox oy z9.2.1 ++ w3 cI ot ot1 ot2 z9.2.2 ++ w4 cI cC ox ox1 ox2 Xt) e9).symm rfl dX5_carryOut_157
                · refine lv_iconst (v := 1) hx hb dX5_carryOut_149 (by decide) ?_
                  refine lv_goto (tgt := 154) hx hb dX5_carryOut_150 (by decide) ?_
                  obtain ⟨n8, en8⟩ : ∃ z9, z9 = (fX5_setUpStool S T (fX4_number Xt x1 1) (fX4_number Xt x1 2) (fX4_number Xt x1 3) 1) := ⟨_, rfl⟩
                  have k9 := (kX5_setUpStool l D cI cC cT x ot ou ov oh ox oy ot1 ot2 S T (fX4_number Xt x1 1) (fX4_number Xt x1 2) (fX4_number Xt x1 3) 1)
                  rw [← en8] at k9
                  refine fUVp (As := [.int (fX4_number Xt x1 1), .int (fX4_number Xt x1 2), .int (fX4_number Xt x1 3), .int 1]) (rest := []) (st' := [.int n8.1]) ⟨hx, hb, hml, hown, hts⟩ k9 (cwV 4 hts gX5_carryOut_X5_setUpStool rfl rfl rfl (by decide +kernel) ⟨Nat.le_of_ble_eq_true rfl, Nat.le_of_ble_eq_true rfl⟩) hP hK hD hS [(ox, .inr (5, [.ref ox1, .ref ox2, .int Xt.2.2.1, .int Xt.2.2.2.1, .int Xt.2.2.2.2])), (ox1, .inl (cC, 60, .inl Xt.1)), (ox2, .inl (cI, 150, .inl Xt.2.1))] rfl [(x, .inr (6, [.ref ot, .ref ou, .ref ov, .ref oh, .ref ox, .ref oy, .int n8.2.1.1, .int n8.2.1.2.1, .int n8.2.1.2.2.1, .int n8.2.1.2.2.2])), (ot, .inr (4, [.ref ot1, .ref ot2, .int n8.2.2.2.2.1, .int n8.2.2.2.2.2.1, .int n8.2.2.2.2.2.2.1, .int n8.2.2.2.2.2.2.2.1, .int n8.2.2.2.2.2.2.2.2.1, .int n8.2.2.2.2.2.2.2.2.2])), (ot1, .inl (cI, 72, .inl n8.2.2.1)), (ot2, .inl (cI, 36, .inl n8.2.2.2.1)), (ox, .inr (5, [.ref ox1, .ref ox2, .int Xt.2.2.1, .int Xt.2.2.2.1, .int Xt.2.2.2.2])), (ox1, .inl (cC, 60, .inl Xt.1)), (ox2, .inl (cI, 150, .inl Xt.2.1))] rfl rfl 0 (ci := 6) rfl rfl rfl rfl hl.1 rfl rfl (Nat.le_of_ble_eq_true rfl) ⟨Nat.zero_le _, Nat.zero_le _⟩ dX5_carryOut_154 (fun H locs hP hD hS => ?_)
                  have e9 : fX5_carryOut S T Xt x1 = (n8.1, n8.2.1, n8.2.2) := by rw [fX5_carryOut, if_neg c_29_98, if_neg c_29_99, if_neg c_29_103, if_neg c_29_107, if_neg c_29_110, if_neg c_29_112, if_pos c_29_115, if_pos c_146, ← en8]
                  exact rUi hx hb hr hlk hQ hP hS (by rw [e9]) (congrArg (fun z9 : (Int32 × CV × TV) => w5 x ot ou ov oh ox oy z9.2.1 ++ w3 cI ot ot1 ot2 z9.2.2 ++ w4 cI cC ox ox1 ox2 Xt) e9).symm rfl dX5_carryOut_157
              · skip
                by_cases c_29_117 : (fX4_number Xt x1 0) = 117
                · refine lv_tableIn (off := 150) (tgt := 179) hx hb dX5_carryOut_29 (by rw [c_29_117]; decide) (by rw [c_29_117]; decide) (by rw [c_29_117]; rfl) (by decide) ?_
                  refine lv_aload_n hx hb dX5_carryOut_179 rfl (lv_at hl 2 rfl) ?_
                  refine lv_iload_n hx hb dX5_carryOut_180 rfl (lv_at hl 1 rfl) ?_
                  obtain ⟨n9, en9⟩ : ∃ z9, z9 = (fX5_letGetUp S T (fX4_number Xt x1 1)) := ⟨_, rfl⟩
                  have k9 := (kX5_letGetUp l D cI cC cT x ot ou ov oh ox oy ot1 ot2 S T (fX4_number Xt x1 1))
                  rw [← en9] at k9
                  refine fUVp (As := [.int (fX4_number Xt x1 1)]) (rest := []) (st' := [.int n9.1]) ⟨hx, hb, hml, hown, hts⟩ k9 (cwV 1 hts gX5_carryOut_X5_letGetUp rfl rfl rfl (by decide +kernel) ⟨Nat.le_of_ble_eq_true rfl, Nat.le_of_ble_eq_true rfl⟩) hP hK hD hS [(ox, .inr (5, [.ref ox1, .ref ox2, .int Xt.2.2.1, .int Xt.2.2.2.1, .int Xt.2.2.2.2])), (ox1, .inl (cC, 60, .inl Xt.1)), (ox2, .inl (cI, 150, .inl Xt.2.1))] rfl [(x, .inr (6, [.ref ot, .ref ou, .ref ov, .ref oh, .ref ox, .ref oy, .int n9.2.1.1, .int n9.2.1.2.1, .int n9.2.1.2.2.1, .int n9.2.1.2.2.2])), (ot, .inr (4, [.ref ot1, .ref ot2, .int n9.2.2.2.2.1, .int n9.2.2.2.2.2.1, .int n9.2.2.2.2.2.2.1, .int n9.2.2.2.2.2.2.2.1, .int n9.2.2.2.2.2.2.2.2.1, .int n9.2.2.2.2.2.2.2.2.2])), (ot1, .inl (cI, 72, .inl n9.2.2.1)), (ot2, .inl (cI, 36, .inl n9.2.2.2.1)), (ox, .inr (5, [.ref ox1, .ref ox2, .int Xt.2.2.1, .int Xt.2.2.2.1, .int Xt.2.2.2.2])), (ox1, .inl (cC, 60, .inl Xt.1)), (ox2, .inl (cI, 150, .inl Xt.2.1))] rfl rfl 0 (ci := 6) rfl rfl rfl rfl hl.1 rfl rfl (Nat.le_of_ble_eq_true rfl) ⟨Nat.zero_le _, Nat.zero_le _⟩ dX5_carryOut_181 (fun H locs hP hD hS => ?_)
                  have e9 : fX5_carryOut S T Xt x1 = (n9.1, n9.2.1, n9.2.2) := by rw [fX5_carryOut, if_neg c_29_98, if_neg c_29_99, if_neg c_29_103, if_neg c_29_107, if_neg c_29_110, if_neg c_29_112, if_neg c_29_115, if_pos c_29_117, ← en9]
                  exact rUi hx hb hr hlk hQ hP hS (by rw [e9]) (congrArg (fun z9 : (Int32 × CV × TV) => w5 x ot ou ov oh ox oy z9.2.1 ++ w3 cI ot ot1 ot2 z9.2.2 ++ w4 cI cC ox ox1 ox2 Xt) e9).symm rfl dX5_carryOut_184
                · skip
                  refine lv_tableDef (tgt := 206) [0, 1, 5, 9, 12, 14, 17, 19] hx hb dX5_carryOut_29 (by decide) (by decide) (List.forall_mem_cons.mpr ⟨tn c_29_98 (by decide), List.forall_mem_cons.mpr ⟨tn c_29_99 (by decide), List.forall_mem_cons.mpr ⟨tn c_29_103 (by decide), List.forall_mem_cons.mpr ⟨tn c_29_107 (by decide), List.forall_mem_cons.mpr ⟨tn c_29_110 (by decide), List.forall_mem_cons.mpr ⟨tn c_29_112 (by decide), List.forall_mem_cons.mpr ⟨tn c_29_115 (by decide), List.forall_mem_cons.mpr ⟨tn c_29_117 (by decide), List.forall_mem_nil _⟩⟩⟩⟩⟩⟩⟩⟩) (by decide) ?_
                  refine lv_bipush (v := (-2)) hx hb dX5_carryOut_206 (by decide) ?_
                  have e9 : fX5_carryOut S T Xt x1 = ((-2), S, T) := by rw [fX5_carryOut, if_neg c_29_98, if_neg c_29_99, if_neg c_29_103, if_neg c_29_107, if_neg c_29_110, if_neg c_29_112, if_neg c_29_115, if_neg c_29_117]
                  exact rUi hx hb hr hlk hQ hP hS (by rw [e9]) (congrArg (fun z9 : (Int32 × CV × TV) => w5 x ot ou ov oh ox oy z9.2.1 ++ w3 cI ot ot1 ot2 z9.2.2 ++ w4 cI cC ox ox1 ox2 Xt) e9).symm rfl dX5_carryOut_208
def fX5_clashes (S : CV) (T : TV) (x1 : Int32) : Int32 := (if x1 = 0 then (fX3_clashesByPairs T) else (fX3_clashesByStools T))
abbrev rmX5_clashes : Room := { frames := 4, cells := 0, slots := 0, locals := 90 }
set_option maxHeartbeats 4000000 in
set_option maxRecDepth 100000 in
theorem kX5_clashes (l : Launch) (D : va_G) (cI cC cT : ClassId) (x ot ou ov oh ox oy ot1 ot2 : Nat) (S : CV) (T : TV) (x1 : Int32)  : mR l D (TY cI cC cT) yX5_clashes wsX5_clashes rmX5_clashes [.ref x, .int x1] (w5 x ot ou ov oh ox oy S ++ w3 cI ot ot1 ot2 T) (some (.int (fX5_clashes S T x1))) := by
  refine mR.ofW (cc := cX5_clashes) (maxL := 2) (ret := (some .int)) (by decide) rfl (Nat.le_of_ble_eq_true rfl) ?_
  intro p e s m args below meth c Q ls hx hb hml hr hlk hts hown hP hK hl hQ
  have hown : s.vm.findClass RX5 = some m.cls := hown
  have hP : va_P D vwCl [(x, .inr (6, [.ref ot, .ref ou, .ref ov, .ref oh, .ref ox, .ref oy, .int S.1, .int S.2.1, .int S.2.2.1, .int S.2.2.2])), (ot, .inr (4, [.ref ot1, .ref ot2, .int T.2.2.1, .int T.2.2.2.1, .int T.2.2.2.2.1, .int T.2.2.2.2.2.1, .int T.2.2.2.2.2.2.1, .int T.2.2.2.2.2.2.2])), (ot1, .inl (cI, 72, .inl T.1)), (ot2, .inl (cI, 36, .inl T.2.1))] s.heap := hP
  have hl : lv_has ls 2 [(0, .ref x), (1, .int x1)] := hl
  have q0 := hts (Cond.fieldLink RX5 10 "TavernStools" "tavern" "LTavernStools$Tavern;") (by decide +kernel)
  have q1 : ∀ w ∈ u_ws RX5 TX5 10, w ∈ wsX5_clashes := by decide +kernel
  refine lv_iload_n hx hb dX5_clashes_0 rfl (lv_at hl 1 rfl) ?_
  refine lv_if_eq (tgt := 14) hx hb dX5_clashes_1 (by decide) (fun c_1 => ?_) (fun c_1 => ?_)
  · refine lv_aload_n hx hb dX5_clashes_14 rfl (lv_at hl 0 rfl) ?_
    refine va_get (D := D) (ci := 6) (v := .ref ot) (C := RX5) (T := TX5) (N := 10) hx hb hts q1 hown hK hP 0 rfl rfl 0 (by decide) q0 (fun _ h9 => h9) rfl dX5_clashes_15 ?_
    refine fRV (As := []) (rest := []) (st' := [.int (fX3_clashesByPairs T)]) ⟨hx, hb, hml, hown, hts⟩ (kX3_clashesByPairs l D cI cC cT ot ot1 ot2 T) (cwV 0 hts gX5_clashes_X3_clashesByPairs rfl rfl rfl (by decide +kernel) ⟨Nat.le_of_ble_eq_true rfl, Nat.le_of_ble_eq_true rfl⟩) hP hK [1, 2, 3] rfl 1 (ci := 4) rfl rfl rfl rfl hl.1 rfl rfl (Nat.le_of_ble_eq_true rfl) ⟨Nat.zero_le _, Nat.zero_le _⟩ dX5_clashes_18 ?_
    exact rRi hx hb hr hlk hQ (by rw [fX5_clashes, if_pos c_1]) rfl dX5_clashes_21
  · refine lv_aload_n hx hb dX5_clashes_4 rfl (lv_at hl 0 rfl) ?_
    refine va_get (D := D) (ci := 6) (v := .ref ot) (C := RX5) (T := TX5) (N := 10) hx hb hts q1 hown hK hP 0 rfl rfl 0 (by decide) q0 (fun _ h9 => h9) rfl dX5_clashes_5 ?_
    refine fRV (As := []) (rest := []) (st' := [.int (fX3_clashesByStools T)]) ⟨hx, hb, hml, hown, hts⟩ (kX3_clashesByStools l D cI cC cT ot ot1 ot2 T) (cwV 0 hts gX5_clashes_X3_clashesByStools rfl rfl rfl (by decide +kernel) ⟨Nat.le_of_ble_eq_true rfl, Nat.le_of_ble_eq_true rfl⟩) hP hK [1, 2, 3] rfl 1 (ci := 4) rfl rfl rfl rfl hl.1 rfl rfl (Nat.le_of_ble_eq_true rfl) ⟨Nat.zero_le _, Nat.zero_le _⟩ dX5_clashes_8 ?_
    refine lv_goto (tgt := 21) hx hb dX5_clashes_11 (by decide) ?_
    exact rRi hx hb hr hlk hQ (by rw [fX5_clashes, if_neg c_1]) rfl dX5_clashes_21
def fX5_wouldMove (S : CV) (T : TV) (Tr : TV)  : (Int32 × TV) := ((fX3_seatAnew (fX3_copy Tr T) 0 (T.2.2.1 - 1)).1, (fX3_seatAnew (fX3_copy Tr T) 0 (T.2.2.1 - 1)).2)
abbrev rmX5_wouldMove : Room := { frames := 4, cells := 0, slots := 0, locals := 97 }
set_option maxHeartbeats 4000000 in
set_option maxRecDepth 100000 in
theorem kX5_wouldMove (l : Launch) (D : va_G) (cI cC cT : ClassId) (x ot ou ov oh ox oy ot1 ot2 ou1 ou2 : Nat) (S : CV) (T : TV) (Tr : TV)   : mU l D (TY cI cC cT) yX5_wouldMove wsX5_wouldMove rmX5_wouldMove [.ref x] (w5 x ot ou ov oh ox oy S ++ w3 cI ot ot1 ot2 T ++ w3 cI ou ou1 ou2 Tr) (some (.int (fX5_wouldMove S T Tr).1)) (w5 x ot ou ov oh ox oy S ++ w3 cI ot ot1 ot2 T ++ w3 cI ou ou1 ou2 (fX5_wouldMove S T Tr).2) := by
  refine mU.ofW (cc := cX5_wouldMove) (maxL := 1) (ret := (some .int)) (by decide) rfl (Nat.le_of_ble_eq_true rfl) ?_
  intro p e s m args below meth c Q ls A hx hb hml hr hlk hts hown hP hK hD hS hl hQ
  have hown : s.vm.findClass RX5 = some m.cls := hown
  have hP : va_P D vwCl [(x, .inr (6, [.ref ot, .ref ou, .ref ov, .ref oh, .ref ox, .ref oy, .int S.1, .int S.2.1, .int S.2.2.1, .int S.2.2.2])), (ot, .inr (4, [.ref ot1, .ref ot2, .int T.2.2.1, .int T.2.2.2.1, .int T.2.2.2.2.1, .int T.2.2.2.2.2.1, .int T.2.2.2.2.2.2.1, .int T.2.2.2.2.2.2.2])), (ot1, .inl (cI, 72, .inl T.1)), (ot2, .inl (cI, 36, .inl T.2.1)), (ou, .inr (4, [.ref ou1, .ref ou2, .int Tr.2.2.1, .int Tr.2.2.2.1, .int Tr.2.2.2.2.1, .int Tr.2.2.2.2.2.1, .int Tr.2.2.2.2.2.2.1, .int Tr.2.2.2.2.2.2.2])), (ou1, .inl (cI, 72, .inl Tr.1)), (ou2, .inl (cI, 36, .inl Tr.2.1))] s.heap := hP
  have hD : va_D A [(x, .inr (6, [.ref ot, .ref ou, .ref ov, .ref oh, .ref ox, .ref oy, .int S.1, .int S.2.1, .int S.2.2.1, .int S.2.2.2])), (ot, .inr (4, [.ref ot1, .ref ot2, .int T.2.2.1, .int T.2.2.2.1, .int T.2.2.2.2.1, .int T.2.2.2.2.2.1, .int T.2.2.2.2.2.2.1, .int T.2.2.2.2.2.2.2])), (ot1, .inl (cI, 72, .inl T.1)), (ot2, .inl (cI, 36, .inl T.2.1)), (ou, .inr (4, [.ref ou1, .ref ou2, .int Tr.2.2.1, .int Tr.2.2.2.1, .int Tr.2.2.2.2.1, .int Tr.2.2.2.2.2.1, .int Tr.2.2.2.2.2.2.1, .int Tr.2.2.2.2.2.2.2])), (ou1, .inl (cI, 72, .inl Tr.1)), (ou2, .inl (cI, 36, .inl Tr.2.1))] := hD
  have hl : lv_has ls 1 [(0, .ref x)] := hl
  have q0 := hts (Cond.fieldLink RX5 16 "TavernStools" "trial" "LTavernStools$Tavern;") (by decide +kernel)
  have q1 : ∀ w ∈ u_ws RX5 TX5 10, w ∈ wsX5_wouldMove := by decide +kernel
  have q2 := hts (Cond.fieldLink RX5 10 "TavernStools" "tavern" "LTavernStools$Tavern;") (by decide +kernel)
  have q3 := hts (Cond.fieldLink RX5 124 "TavernStools$Tavern" "stools" "I") (by decide +kernel)
  have q4 : ∀ w ∈ u_ws RX3 TX3 8, w ∈ wsX5_wouldMove := by decide +kernel
  generalize hHe : s.heap = H at hP ⊢
  have hS : va_S A s.heap H [] := hHe ▸ hS
  generalize hLe : ([] : List Loc) = locs at hS ⊢
  refine lv_aload_n hx hb dX5_wouldMove_0 rfl (lv_at hl 0 rfl) ?_
  refine va_get (D := D) (ci := 6) (v := .ref ou) (C := RX5) (T := TX5) (N := 10) hx hb hts q1 hown hK hP 0 rfl rfl 1 (by decide) q0 (fun _ h9 => h9) rfl dX5_wouldMove_1 ?_
  refine lv_aload_n hx hb dX5_wouldMove_4 rfl (lv_at hl 0 rfl) ?_
  refine va_get (D := D) (ci := 6) (v := .ref ot) (C := RX5) (T := TX5) (N := 10) hx hb hts q1 hown hK hP 0 rfl rfl 0 (by decide) q2 (fun _ h9 => h9) rfl dX5_wouldMove_5 ?_
  obtain ⟨n1, en1⟩ : ∃ z9, z9 = (fX3_copy Tr T) := ⟨_, rfl⟩
  have k9 := (kX3_copy l D cI cC cT ou ou1 ou2 ot ot1 ot2 Tr T)
  rw [← en1] at k9
  refine fUV (As := [.ref ot]) (rest := []) (st' := []) ⟨hx, hb, hml, hown, hts⟩ k9 (cwV 1 hts gX5_wouldMove_X3_copy rfl rfl rfl (by decide +kernel) ⟨Nat.le_of_ble_eq_true rfl, Nat.le_of_ble_eq_true rfl⟩) hP hK hD hS [4, 5, 6, 1, 2, 3] rfl rfl (by decide) rfl [(x, .inr (6, [.ref ot, .ref ou, .ref ov, .ref oh, .ref ox, .ref oy, .int S.1, .int S.2.1, .int S.2.2.1, .int S.2.2.2])), (ot, .inr (4, [.ref ot1, .ref ot2, .int T.2.2.1, .int T.2.2.2.1, .int T.2.2.2.2.1, .int T.2.2.2.2.2.1, .int T.2.2.2.2.2.2.1, .int T.2.2.2.2.2.2.2])), (ot1, .inl (cI, 72, .inl T.1)), (ot2, .inl (cI, 36, .inl T.2.1)), (ou, .inr (4, [.ref ou1, .ref ou2, .int n1.2.2.1, .int n1.2.2.2.1, .int n1.2.2.2.2.1, .int n1.2.2.2.2.2.1, .int n1.2.2.2.2.2.2.1, .int n1.2.2.2.2.2.2.2])), (ou1, .inl (cI, 72, .inl n1.1)), (ou2, .inl (cI, 36, .inl n1.2.1))] rfl rfl 4 (ci := 4) rfl rfl rfl rfl hl.1 rfl rfl (Nat.le_of_ble_eq_true rfl) ⟨Nat.zero_le _, Nat.zero_le _⟩ dX5_wouldMove_8 (fun H locs hP hD hS => ?_)
  refine lv_aload_n hx hb dX5_wouldMove_11 rfl (lv_at hl 0 rfl) ?_
  refine va_get (D := D) (ci := 6) (v := .ref ou) (C := RX5) (T := TX5) (N := 10) hx hb hts q1 hown hK hP 0 rfl rfl 1 (by decide) q0 (fun _ h9 => h9) rfl dX5_wouldMove_12 ?_
  refine lv_iconst (v := 0) hx hb dX5_wouldMove_15 (by decide) ?_
  refine lv_aload_n hx hb dX5_wouldMove_16 rfl (lv_at hl 0 rfl) ?_
  refine va_get (D := D) (ci := 6) (v := .ref ot) (C := RX5) (T := TX5) (N := 10) hx hb hts q1 hown hK hP 0 rfl rfl 0 (by decide) q2 (fun _ h9 => h9) rfl dX5_wouldMove_17 ?_
  refine va_get (D := D) (ci := 4) (v := .int T.2.2.1) (C := RX3) (T := TX3) (N := 8) hx hb hts q4 hown hK hP 1 rfl rfl 2 (by decide) q3 (fun _ h9 => h9) rfl dX5_wouldMove_20 ?_
  refine lv_iconst (v := 1) hx hb dX5_wouldMove_23 (by decide) ?_
  refine lv_isub hx hb dX5_wouldMove_24 ?_
  obtain ⟨n2, en2⟩ : ∃ z9, z9 = (fX3_seatAnew n1 0 (T.2.2.1 - 1)) := ⟨_, rfl⟩
  have k9 := (kX3_seatAnew l D cI cC cT ou ou1 ou2 n1 0 (T.2.2.1 - 1))
  rw [← en2] at k9
  refine fUV (As := [.int 0, .int (T.2.2.1 - 1)]) (rest := []) (st' := [.int n2.1]) ⟨hx, hb, hml, hown, hts⟩ k9 (cwV 2 hts gX5_wouldMove_X3_seatAnew rfl rfl rfl (by decide +kernel) ⟨Nat.le_of_ble_eq_true rfl, Nat.le_of_ble_eq_true rfl⟩) hP hK hD hS [4, 5, 6] rfl rfl (by decide) rfl [(x, .inr (6, [.ref ot, .ref ou, .ref ov, .ref oh, .ref ox, .ref oy, .int S.1, .int S.2.1, .int S.2.2.1, .int S.2.2.2])), (ot, .inr (4, [.ref ot1, .ref ot2, .int T.2.2.1, .int T.2.2.2.1, .int T.2.2.2.2.1, .int T.2.2.2.2.2.1, .int T.2.2.2.2.2.2.1, .int T.2.2.2.2.2.2.2])), (ot1, .inl (cI, 72, .inl T.1)), (ot2, .inl (cI, 36, .inl T.2.1)), (ou, .inr (4, [.ref ou1, .ref ou2, .int n2.2.2.2.1, .int n2.2.2.2.2.1, .int n2.2.2.2.2.2.1, .int n2.2.2.2.2.2.2.1, .int n2.2.2.2.2.2.2.2.1, .int n2.2.2.2.2.2.2.2.2])), (ou1, .inl (cI, 72, .inl n2.2.1)), (ou2, .inl (cI, 36, .inl n2.2.2.1))] rfl rfl 4 (ci := 4) rfl rfl rfl rfl hl.1 rfl rfl (Nat.le_of_ble_eq_true rfl) ⟨Nat.zero_le _, Nat.zero_le _⟩ dX5_wouldMove_25 (fun H locs hP hD hS => ?_)
  have e9 : fX5_wouldMove S T Tr = (n2.1, n2.2) := by rw [fX5_wouldMove, ← en1, ← en2]
  exact rUi hx hb hr hlk hQ hP hS (by rw [e9]) (congrArg (fun z9 : (Int32 × TV) => w5 x ot ou ov oh ox oy S ++ w3 cI ot ot1 ot2 T ++ w3 cI ou ou1 ou2 z9.2) e9).symm rfl dX5_wouldMove_28
def fX5_errorPosition (S : CV)  : Int32 := S.2.1
abbrev rmX5_errorPosition : Room := { frames := 0, cells := 0, slots := 0, locals := 0 }
set_option maxHeartbeats 4000000 in
set_option maxRecDepth 100000 in
theorem kX5_errorPosition (l : Launch) (D : va_G) (cI cC cT : ClassId) (x ot ou ov oh ox oy : Nat) (S : CV)   : mR l D (TY cI cC cT) yX5_errorPosition wsX5_errorPosition rmX5_errorPosition [.ref x] (w5 x ot ou ov oh ox oy S) (some (.int (fX5_errorPosition S))) := by
  refine mR.ofW (cc := cX5_errorPosition) (maxL := 1) (ret := (some .int)) (by decide) rfl (Nat.le_of_ble_eq_true rfl) ?_
  intro p e s m args below meth c Q ls hx hb hml hr hlk hts hown hP hK hl hQ
  have hown : s.vm.findClass RX5 = some m.cls := hown
  have hP : va_P D vwCl [(x, .inr (6, [.ref ot, .ref ou, .ref ov, .ref oh, .ref ox, .ref oy, .int S.1, .int S.2.1, .int S.2.2.1, .int S.2.2.2]))] s.heap := hP
  have hl : lv_has ls 1 [(0, .ref x)] := hl
  have q0 := hts (Cond.fieldLink RX5 47 "TavernStools" "errorAt" "I") (by decide +kernel)
  have q1 : ∀ w ∈ u_ws RX5 TX5 10, w ∈ wsX5_errorPosition := by decide +kernel
  refine lv_aload_n hx hb dX5_errorPosition_0 rfl (lv_at hl 0 rfl) ?_
  refine va_get (D := D) (ci := 6) (v := .int S.2.1) (C := RX5) (T := TX5) (N := 10) hx hb hts q1 hown hK hP 0 rfl rfl 7 (by decide) q0 (fun _ h9 => h9) rfl dX5_errorPosition_1 ?_
  exact rRi hx hb hr hlk hQ (by rw [fX5_errorPosition]) rfl dX5_errorPosition_4
def fX5_writeSeat (S : CV) (T : TV) (Ln : LV) (x1 : Int32) : LV := (if (fX3_ofStool T x1 3) = 1 then (if (fX3_ofStool T x1 5) = (-1) then (fX2_add (fX2_add Ln 124) 46) else (if (fX3_ofSitter T (fX3_ofStool T x1 5) 0) = 0 then (fX2_add (fX2_add Ln 124) ((65 + (fX3_ofStool T x1 5)).toUInt32 % 65536).toInt32) else (fX2_add (fX2_add Ln 124) ((97 + (fX3_ofStool T x1 5)).toUInt32 % 65536).toInt32))) else (if (fX3_ofStool T x1 5) = (-1) then (fX2_add Ln 46) else (if (fX3_ofSitter T (fX3_ofStool T x1 5) 0) = 0 then (fX2_add Ln ((65 + (fX3_ofStool T x1 5)).toUInt32 % 65536).toInt32) else (fX2_add Ln ((97 + (fX3_ofStool T x1 5)).toUInt32 % 65536).toInt32))))
abbrev rmX5_writeSeat : Room := { frames := 1, cells := 0, slots := 0, locals := 22 }
set_option maxHeartbeats 4000000 in
set_option maxRecDepth 100000 in
theorem kX5_writeSeat (l : Launch) (D : va_G) (cI cC cT : ClassId) (x ot ou ov oh ox oy ot1 ot2 oy1 : Nat) (S : CV) (T : TV) (Ln : LV) (x1 : Int32)  : mU l D (TY cI cC cT) yX5_writeSeat wsX5_writeSeat rmX5_writeSeat [.ref x, .int x1] (w5 x ot ou ov oh ox oy S ++ w3 cI ot ot1 ot2 T ++ w2 cC oy oy1 Ln) none (w5 x ot ou ov oh ox oy S ++ w3 cI ot ot1 ot2 T ++ w2 cC oy oy1 (fX5_writeSeat S T Ln x1)) := by
  refine mU.ofW (cc := cX5_writeSeat) (maxL := 4) (ret := none) (by decide) rfl (Nat.le_of_ble_eq_true rfl) ?_
  intro p e s m args below meth c Q ls A hx hb hml hr hlk hts hown hP hK hD hS hl hQ
  have hown : s.vm.findClass RX5 = some m.cls := hown
  have hP : va_P D vwCl [(x, .inr (6, [.ref ot, .ref ou, .ref ov, .ref oh, .ref ox, .ref oy, .int S.1, .int S.2.1, .int S.2.2.1, .int S.2.2.2])), (ot, .inr (4, [.ref ot1, .ref ot2, .int T.2.2.1, .int T.2.2.2.1, .int T.2.2.2.2.1, .int T.2.2.2.2.2.1, .int T.2.2.2.2.2.2.1, .int T.2.2.2.2.2.2.2])), (ot1, .inl (cI, 72, .inl T.1)), (ot2, .inl (cI, 36, .inl T.2.1)), (oy, .inr (3, [.ref oy1, .int Ln.2])), (oy1, .inl (cC, 600, .inl Ln.1))] s.heap := hP
  have hD : va_D A [(x, .inr (6, [.ref ot, .ref ou, .ref ov, .ref oh, .ref ox, .ref oy, .int S.1, .int S.2.1, .int S.2.2.1, .int S.2.2.2])), (ot, .inr (4, [.ref ot1, .ref ot2, .int T.2.2.1, .int T.2.2.2.1, .int T.2.2.2.2.1, .int T.2.2.2.2.2.1, .int T.2.2.2.2.2.2.1, .int T.2.2.2.2.2.2.2])), (ot1, .inl (cI, 72, .inl T.1)), (ot2, .inl (cI, 36, .inl T.2.1)), (oy, .inr (3, [.ref oy1, .int Ln.2])), (oy1, .inl (cC, 600, .inl Ln.1))] := hD
  have hl : lv_has ls 4 [(0, .ref x), (1, .int x1)] := hl
  have q0 := hts (Cond.fieldLink RX5 10 "TavernStools" "tavern" "LTavernStools$Tavern;") (by decide +kernel)
  have q1 : ∀ w ∈ u_ws RX5 TX5 10, w ∈ wsX5_writeSeat := by decide +kernel
  have q2 := hts (Cond.fieldLink RX5 39 "TavernStools" "written" "LTavernStools$Line;") (by decide +kernel)
  generalize hHe : s.heap = H at hP ⊢
  have hS : va_S A s.heap H [] := hHe ▸ hS
  generalize hLe : ([] : List Loc) = locs at hS ⊢
  refine lv_aload_n hx hb dX5_writeSeat_0 rfl (lv_at hl 0 rfl) ?_
  refine va_get (D := D) (ci := 6) (v := .ref ot) (C := RX5) (T := TX5) (N := 10) hx hb hts q1 hown hK hP 0 rfl rfl 0 (by decide) q0 (fun _ h9 => h9) rfl dX5_writeSeat_1 ?_
  refine lv_iload_n hx hb dX5_writeSeat_4 rfl (lv_at hl 1 rfl) ?_
  refine lv_iconst (v := 3) hx hb dX5_writeSeat_5 (by decide) ?_
  refine fRV (As := [.int x1, .int 3]) (rest := []) (st' := [.int (fX3_ofStool T x1 3)]) ⟨hx, hb, hml, hown, hts⟩ (kX3_ofStool l D cI cC cT ot ot1 ot2 T x1 3) (cwV 2 hts gX5_writeSeat_X3_ofStool rfl rfl rfl (by decide +kernel) ⟨Nat.le_of_ble_eq_true rfl, Nat.le_of_ble_eq_true rfl⟩) hP hK [1, 2, 3] rfl 1 (ci := 4) rfl rfl rfl rfl hl.1 rfl rfl (Nat.le_of_ble_eq_true rfl) ⟨Nat.zero_le _, Nat.zero_le _⟩ dX5_writeSeat_6 ?_
  refine lv_iconst (v := 1) hx hb dX5_writeSeat_9 (by decide) ?_
  refine lv_icmp_ne (tgt := 22) hx hb dX5_writeSeat_10 (by decide) (fun c_10 => ?_) (fun c_10 => ?_)
  · refine lv_aload_n hx hb dX5_writeSeat_22 rfl (lv_at hl 0 rfl) ?_
    refine va_get (D := D) (ci := 6) (v := .ref ot) (C := RX5) (T := TX5) (N := 10) hx hb hts q1 hown hK hP 0 rfl rfl 0 (by decide) q0 (fun _ h9 => h9) rfl dX5_writeSeat_23 ?_
    refine lv_iload_n hx hb dX5_writeSeat_26 rfl (lv_at hl 1 rfl) ?_
    refine lv_iconst (v := 5) hx hb dX5_writeSeat_27 (by decide) ?_
    refine fRV (As := [.int x1, .int 5]) (rest := []) (st' := [.int (fX3_ofStool T x1 5)]) ⟨hx, hb, hml, hown, hts⟩ (kX3_ofStool l D cI cC cT ot ot1 ot2 T x1 5) (cwV 2 hts gX5_writeSeat_X3_ofStool rfl rfl rfl (by decide +kernel) ⟨Nat.le_of_ble_eq_true rfl, Nat.le_of_ble_eq_true rfl⟩) hP hK [1, 2, 3] rfl 1 (ci := 4) rfl rfl rfl rfl hl.1 rfl rfl (Nat.le_of_ble_eq_true rfl) ⟨Nat.zero_le _, Nat.zero_le _⟩ dX5_writeSeat_28 ?_
    refine lv_istore_n (lv' := [(2, .int (fX3_ofStool T x1 5)), (0, .ref x), (1, .int x1)]) hx hb dX5_writeSeat_31 rfl hl (by decide) rfl (fun ls hl => ?_)
    refine lv_iload_n hx hb dX5_writeSeat_32 rfl (lv_at hl 0 rfl) ?_
    refine lv_iconst (v := (-1)) hx hb dX5_writeSeat_33 (by decide) ?_
    refine lv_icmp_ne (tgt := 49) hx hb dX5_writeSeat_34 (by decide) (fun c_34 => ?_) (fun c_34 => ?_)
    · refine lv_aload_n hx hb dX5_writeSeat_49 rfl (lv_at hl 1 rfl) ?_
      refine va_get (D := D) (ci := 6) (v := .ref ot) (C := RX5) (T := TX5) (N := 10) hx hb hts q1 hown hK hP 0 rfl rfl 0 (by decide) q0 (fun _ h9 => h9) rfl dX5_writeSeat_50 ?_
      refine lv_iload_n hx hb dX5_writeSeat_53 rfl (lv_at hl 0 rfl) ?_
      refine lv_iconst (v := 0) hx hb dX5_writeSeat_54 (by decide) ?_
      refine fRV (As := [.int (fX3_ofStool T x1 5), .int 0]) (rest := []) (st' := [.int (fX3_ofSitter T (fX3_ofStool T x1 5) 0)]) ⟨hx, hb, hml, hown, hts⟩ (kX3_ofSitter l D cI cC cT ot ot1 ot2 T (fX3_ofStool T x1 5) 0) (cwV 2 hts gX5_writeSeat_X3_ofSitter rfl rfl rfl (by decide +kernel) ⟨Nat.le_of_ble_eq_true rfl, Nat.le_of_ble_eq_true rfl⟩) hP hK [1, 2, 3] rfl 1 (ci := 4) rfl rfl rfl rfl hl.1 rfl rfl (Nat.le_of_ble_eq_true rfl) ⟨Nat.zero_le _, Nat.zero_le _⟩ dX5_writeSeat_55 ?_
      refine lv_if_ne (tgt := 66) hx hb dX5_writeSeat_58 (by decide) (fun c_58 => ?_) (fun c_58 => ?_)
      · refine lv_bipush (v := 97) hx hb dX5_writeSeat_66 (by decide) ?_
        refine lv_istore_n (lv' := [(3, .int 97), (2, .int (fX3_ofStool T x1 5)), (0, .ref x), (1, .int x1)]) hx hb dX5_writeSeat_68 rfl hl (by decide) rfl (fun ls hl => ?_)
        refine lv_aload_n hx hb dX5_writeSeat_69 rfl (lv_at hl 2 rfl) ?_
        refine va_get (D := D) (ci := 6) (v := .ref oy) (C := RX5) (T := TX5) (N := 10) hx hb hts q1 hown hK hP 0 rfl rfl 5 (by decide) q2 (fun _ h9 => h9) rfl dX5_writeSeat_70 ?_
        refine lv_iload_n hx hb dX5_writeSeat_73 rfl (lv_at hl 0 rfl) ?_
        refine lv_iload_n hx hb dX5_writeSeat_74 rfl (lv_at hl 1 rfl) ?_
        refine lv_iadd hx hb dX5_writeSeat_75 ?_
        refine lv_i2c (v := ((97 + (fX3_ofStool T x1 5)).toUInt32 % 65536).toInt32) hx hb dX5_writeSeat_76 rfl ?_
        obtain ⟨n1, en1⟩ : ∃ z9, z9 = (fX2_add Ln ((97 + (fX3_ofStool T x1 5)).toUInt32 % 65536).toInt32) := ⟨_, rfl⟩
        have k9 := (kX2_add l D cI cC cT oy oy1 Ln ((97 + (fX3_ofStool T x1 5)).toUInt32 % 65536).toInt32)
        rw [← en1] at k9
        refine fUV (As := [.int ((97 + (fX3_ofStool T x1 5)).toUInt32 % 65536).toInt32]) (rest := []) (st' := []) ⟨hx, hb, hml, hown, hts⟩ k9 (cwV 1 hts gX5_writeSeat_X2_add rfl rfl rfl (by decide +kernel) ⟨Nat.le_of_ble_eq_true rfl, Nat.le_of_ble_eq_true rfl⟩) hP hK hD hS [4, 5] rfl rfl (by decide) rfl [(x, .inr (6, [.ref ot, .ref ou, .ref ov, .ref oh, .ref ox, .ref oy, .int S.1, .int S.2.1, .int S.2.2.1, .int S.2.2.2])), (ot, .inr (4, [.ref ot1, .ref ot2, .int T.2.2.1, .int T.2.2.2.1, .int T.2.2.2.2.1, .int T.2.2.2.2.2.1, .int T.2.2.2.2.2.2.1, .int T.2.2.2.2.2.2.2])), (ot1, .inl (cI, 72, .inl T.1)), (ot2, .inl (cI, 36, .inl T.2.1)), (oy, .inr (3, [.ref oy1, .int n1.2])), (oy1, .inl (cC, 600, .inl n1.1))] rfl rfl 4 (ci := 3) rfl rfl rfl rfl hl.1 rfl rfl (Nat.le_of_ble_eq_true rfl) ⟨Nat.zero_le _, Nat.zero_le _⟩ dX5_writeSeat_77 (fun H locs hP hD hS => ?_)
        have e9 : fX5_writeSeat S T Ln x1 = n1 := by rw [fX5_writeSeat, if_neg c_10, if_neg c_34, if_neg c_58, ← en1]
        exact rUv hx hb hr hlk hQ hP hS (congrArg (fun z9 : LV => w5 x ot ou ov oh ox oy S ++ w3 cI ot ot1 ot2 T ++ w2 cC oy oy1 z9) e9).symm dX5_writeSeat_80
      · refine lv_bipush (v := 65) hx hb dX5_writeSeat_61 (by decide) ?_
        refine lv_goto (tgt := 68) hx hb dX5_writeSeat_63 (by decide) ?_
        refine lv_istore_n (lv' := [(3, .int 65), (2, .int (fX3_ofStool T x1 5)), (0, .ref x), (1, .int x1)]) hx hb dX5_writeSeat_68 rfl hl (by decide) rfl (fun ls hl => ?_)
        refine lv_aload_n hx hb dX5_writeSeat_69 rfl (lv_at hl 2 rfl) ?_
        refine va_get (D := D) (ci := 6) (v := .ref oy) (C := RX5) (T := TX5) (N := 10) hx hb hts q1 hown hK hP 0 rfl rfl 5 (by decide) q2 (fun _ h9 => h9) rfl dX5_writeSeat_70 ?_
        refine lv_iload_n hx hb dX5_writeSeat_73 rfl (lv_at hl 0 rfl) ?_
        refine lv_iload_n hx hb dX5_writeSeat_74 rfl (lv_at hl 1 rfl) ?_
        refine lv_iadd hx hb dX5_writeSeat_75 ?_
        refine lv_i2c (v := ((65 + (fX3_ofStool T x1 5)).toUInt32 % 65536).toInt32) hx hb dX5_writeSeat_76 rfl ?_
        obtain ⟨n2, en2⟩ : ∃ z9, z9 = (fX2_add Ln ((65 + (fX3_ofStool T x1 5)).toUInt32 % 65536).toInt32) := ⟨_, rfl⟩
        have k9 := (kX2_add l D cI cC cT oy oy1 Ln ((65 + (fX3_ofStool T x1 5)).toUInt32 % 65536).toInt32)
        rw [← en2] at k9
        refine fUV (As := [.int ((65 + (fX3_ofStool T x1 5)).toUInt32 % 65536).toInt32]) (rest := []) (st' := []) ⟨hx, hb, hml, hown, hts⟩ k9 (cwV 1 hts gX5_writeSeat_X2_add rfl rfl rfl (by decide +kernel) ⟨Nat.le_of_ble_eq_true rfl, Nat.le_of_ble_eq_true rfl⟩) hP hK hD hS [4, 5] rfl rfl (by decide) rfl [(x, .inr (6, [.ref ot, .ref ou, .ref ov, .ref oh, .ref ox, .ref oy, .int S.1, .int S.2.1, .int S.2.2.1, .int S.2.2.2])), (ot, .inr (4, [.ref ot1, .ref ot2, .int T.2.2.1, .int T.2.2.2.1, .int T.2.2.2.2.1, .int T.2.2.2.2.2.1, .int T.2.2.2.2.2.2.1, .int T.2.2.2.2.2.2.2])), (ot1, .inl (cI, 72, .inl T.1)), (ot2, .inl (cI, 36, .inl T.2.1)), (oy, .inr (3, [.ref oy1, .int n2.2])), (oy1, .inl (cC, 600, .inl n2.1))] rfl rfl 4 (ci := 3) rfl rfl rfl rfl hl.1 rfl rfl (Nat.le_of_ble_eq_true rfl) ⟨Nat.zero_le _, Nat.zero_le _⟩ dX5_writeSeat_77 (fun H locs hP hD hS => ?_)
        have e9 : fX5_writeSeat S T Ln x1 = n2 := by rw [fX5_writeSeat, if_neg c_10, if_neg c_34, if_pos c_58, ← en2]
        exact rUv hx hb hr hlk hQ hP hS (congrArg (fun z9 : LV => w5 x ot ou ov oh ox oy S ++ w3 cI ot ot1 ot2 T ++ w2 cC oy oy1 z9) e9).symm dX5_writeSeat_80
    · refine lv_aload_n hx hb dX5_writeSeat_37 rfl (lv_at hl 1 rfl) ?_
      refine va_get (D := D) (ci := 6) (v := .ref oy) (C := RX5) (T := TX5) (N := 10) hx hb hts q1 hown hK hP 0 rfl rfl 5 (by decide) q2 (fun _ h9 => h9) rfl dX5_writeSeat_38 ?_
      refine lv_bipush (v := 46) hx hb dX5_writeSeat_41 (by decide) ?_
      obtain ⟨n3, en3⟩ : ∃ z9, z9 = (fX2_add Ln 46) := ⟨_, rfl⟩
      have k9 := (kX2_add l D cI cC cT oy oy1 Ln 46)
      rw [← en3] at k9
      refine fUV (As := [.int 46]) (rest := []) (st' := []) ⟨hx, hb, hml, hown, hts⟩ k9 (cwV 1 hts gX5_writeSeat_X2_add rfl rfl rfl (by decide +kernel) ⟨Nat.le_of_ble_eq_true rfl, Nat.le_of_ble_eq_true rfl⟩) hP hK hD hS [4, 5] rfl rfl (by decide) rfl [(x, .inr (6, [.ref ot, .ref ou, .ref ov, .ref oh, .ref ox, .ref oy, .int S.1, .int S.2.1, .int S.2.2.1, .int S.2.2.2])), (ot, .inr (4, [.ref ot1, .ref ot2, .int T.2.2.1, .int T.2.2.2.1, .int T.2.2.2.2.1, .int T.2.2.2.2.2.1, .int T.2.2.2.2.2.2.1, .int T.2.2.2.2.2.2.2])), (ot1, .inl (cI, 72, .inl T.1)), (ot2, .inl (cI, 36, .inl T.2.1)), (oy, .inr (3, [.ref oy1, .int n3.2])), (oy1, .inl (cC, 600, .inl n3.1))] rfl rfl 4 (ci := 3) rfl rfl rfl rfl hl.1 rfl rfl (Nat.le_of_ble_eq_true rfl) ⟨Nat.zero_le _, Nat.zero_le _⟩ dX5_writeSeat_43 (fun H locs hP hD hS => ?_)
      refine lv_goto (tgt := 80) hx hb dX5_writeSeat_46 (by decide) ?_
      have e9 : fX5_writeSeat S T Ln x1 = n3 := by rw [fX5_writeSeat, if_neg c_10, if_pos c_34, ← en3]
      exact rUv hx hb hr hlk hQ hP hS (congrArg (fun z9 : LV => w5 x ot ou ov oh ox oy S ++ w3 cI ot ot1 ot2 T ++ w2 cC oy oy1 z9) e9).symm dX5_writeSeat_80
  · refine lv_aload_n hx hb dX5_writeSeat_13 rfl (lv_at hl 0 rfl) ?_
    refine va_get (D := D) (ci := 6) (v := .ref oy) (C := RX5) (T := TX5) (N := 10) hx hb hts q1 hown hK hP 0 rfl rfl 5 (by decide) q2 (fun _ h9 => h9) rfl dX5_writeSeat_14 ?_
    refine lv_bipush (v := 124) hx hb dX5_writeSeat_17 (by decide) ?_
    obtain ⟨n4, en4⟩ : ∃ z9, z9 = (fX2_add Ln 124) := ⟨_, rfl⟩
    have k9 := (kX2_add l D cI cC cT oy oy1 Ln 124)
    rw [← en4] at k9
    refine fUV (As := [.int 124]) (rest := []) (st' := []) ⟨hx, hb, hml, hown, hts⟩ k9 (cwV 1 hts gX5_writeSeat_X2_add rfl rfl rfl (by decide +kernel) ⟨Nat.le_of_ble_eq_true rfl, Nat.le_of_ble_eq_true rfl⟩) hP hK hD hS [4, 5] rfl rfl (by decide) rfl [(x, .inr (6, [.ref ot, .ref ou, .ref ov, .ref oh, .ref ox, .ref oy, .int S.1, .int S.2.1, .int S.2.2.1, .int S.2.2.2])), (ot, .inr (4, [.ref ot1, .ref ot2, .int T.2.2.1, .int T.2.2.2.1, .int T.2.2.2.2.1, .int T.2.2.2.2.2.1, .int T.2.2.2.2.2.2.1, .int T.2.2.2.2.2.2.2])), (ot1, .inl (cI, 72, .inl T.1)), (ot2, .inl (cI, 36, .inl T.2.1)), (oy, .inr (3, [.ref oy1, .int n4.2])), (oy1, .inl (cC, 600, .inl n4.1))] rfl rfl 4 (ci := 3) rfl rfl rfl rfl hl.1 rfl rfl (Nat.le_of_ble_eq_true rfl) ⟨Nat.zero_le _, Nat.zero_le _⟩ dX5_writeSeat_19 (fun H locs hP hD hS => ?_)
    refine lv_aload_n hx hb dX5_writeSeat_22 rfl (lv_at hl 0 rfl) ?_
    refine va_get (D := D) (ci := 6) (v := .ref ot) (C := RX5) (T := TX5) (N := 10) hx hb hts q1 hown hK hP 0 rfl rfl 0 (by decide) q0 (fun _ h9 => h9) rfl dX5_writeSeat_23 ?_
    refine lv_iload_n hx hb dX5_writeSeat_26 rfl (lv_at hl 1 rfl) ?_
    refine lv_iconst (v := 5) hx hb dX5_writeSeat_27 (by decide) ?_
    refine fRV (As := [.int x1, .int 5]) (rest := []) (st' := [.int (fX3_ofStool T x1 5)]) ⟨hx, hb, hml, hown, hts⟩ (kX3_ofStool l D cI cC cT ot ot1 ot2 T x1 5) (cwV 2 hts gX5_writeSeat_X3_ofStool rfl rfl rfl (by decide +kernel) ⟨Nat.le_of_ble_eq_true rfl, Nat.le_of_ble_eq_true rfl⟩) hP hK [1, 2, 3] rfl 1 (ci := 4) rfl rfl rfl rfl hl.1 rfl rfl (Nat.le_of_ble_eq_true rfl) ⟨Nat.zero_le _, Nat.zero_le _⟩ dX5_writeSeat_28 ?_
    refine lv_istore_n (lv' := [(2, .int (fX3_ofStool T x1 5)), (0, .ref x), (1, .int x1)]) hx hb dX5_writeSeat_31 rfl hl (by decide) rfl (fun ls hl => ?_)
    refine lv_iload_n hx hb dX5_writeSeat_32 rfl (lv_at hl 0 rfl) ?_
    refine lv_iconst (v := (-1)) hx hb dX5_writeSeat_33 (by decide) ?_
    refine lv_icmp_ne (tgt := 49) hx hb dX5_writeSeat_34 (by decide) (fun c_34 => ?_) (fun c_34 => ?_)
    · refine lv_aload_n hx hb dX5_writeSeat_49 rfl (lv_at hl 1 rfl) ?_
      refine va_get (D := D) (ci := 6) (v := .ref ot) (C := RX5) (T := TX5) (N := 10) hx hb hts q1 hown hK hP 0 rfl rfl 0 (by decide) q0 (fun _ h9 => h9) rfl dX5_writeSeat_50 ?_
      refine lv_iload_n hx hb dX5_writeSeat_53 rfl (lv_at hl 0 rfl) ?_
      refine lv_iconst (v := 0) hx hb dX5_writeSeat_54 (by decide) ?_
      refine fRV (As := [.int (fX3_ofStool T x1 5), .int 0]) (rest := []) (st' := [.int (fX3_ofSitter T (fX3_ofStool T x1 5) 0)]) ⟨hx, hb, hml, hown, hts⟩ (kX3_ofSitter l D cI cC cT ot ot1 ot2 T (fX3_ofStool T x1 5) 0) (cwV 2 hts gX5_writeSeat_X3_ofSitter rfl rfl rfl (by decide +kernel) ⟨Nat.le_of_ble_eq_true rfl, Nat.le_of_ble_eq_true rfl⟩) hP hK [1, 2, 3] rfl 1 (ci := 4) rfl rfl rfl rfl hl.1 rfl rfl (Nat.le_of_ble_eq_true rfl) ⟨Nat.zero_le _, Nat.zero_le _⟩ dX5_writeSeat_55 ?_
      refine lv_if_ne (tgt := 66) hx hb dX5_writeSeat_58 (by decide) (fun c_58 => ?_) (fun c_58 => ?_)
      · refine lv_bipush (v := 97) hx hb dX5_writeSeat_66 (by decide) ?_
        refine lv_istore_n (lv' := [(3, .int 97), (2, .int (fX3_ofStool T x1 5)), (0, .ref x), (1, .int x1)]) hx hb dX5_writeSeat_68 rfl hl (by decide) rfl (fun ls hl => ?_)
        refine lv_aload_n hx hb dX5_writeSeat_69 rfl (lv_at hl 2 rfl) ?_
        refine va_get (D := D) (ci := 6) (v := .ref oy) (C := RX5) (T := TX5) (N := 10) hx hb hts q1 hown hK hP 0 rfl rfl 5 (by decide) q2 (fun _ h9 => h9) rfl dX5_writeSeat_70 ?_
        refine lv_iload_n hx hb dX5_writeSeat_73 rfl (lv_at hl 0 rfl) ?_
        refine lv_iload_n hx hb dX5_writeSeat_74 rfl (lv_at hl 1 rfl) ?_
        refine lv_iadd hx hb dX5_writeSeat_75 ?_
        refine lv_i2c (v := ((97 + (fX3_ofStool T x1 5)).toUInt32 % 65536).toInt32) hx hb dX5_writeSeat_76 rfl ?_
        obtain ⟨n5, en5⟩ : ∃ z9, z9 = (fX2_add n4 ((97 + (fX3_ofStool T x1 5)).toUInt32 % 65536).toInt32) := ⟨_, rfl⟩
        have k9 := (kX2_add l D cI cC cT oy oy1 n4 ((97 + (fX3_ofStool T x1 5)).toUInt32 % 65536).toInt32)
        rw [← en5] at k9
        refine fUV (As := [.int ((97 + (fX3_ofStool T x1 5)).toUInt32 % 65536).toInt32]) (rest := []) (st' := []) ⟨hx, hb, hml, hown, hts⟩ k9 (cwV 1 hts gX5_writeSeat_X2_add rfl rfl rfl (by decide +kernel) ⟨Nat.le_of_ble_eq_true rfl, Nat.le_of_ble_eq_true rfl⟩) hP hK hD hS [4, 5] rfl rfl (by decide) rfl [(x, .inr (6, [.ref ot, .ref ou, .ref ov, .ref oh, .ref ox, .ref oy, .int S.1, .int S.2.1, .int S.2.2.1, .int S.2.2.2])), (ot, .inr (4, [.ref ot1, .ref ot2, .int T.2.2.1, .int T.2.2.2.1, .int T.2.2.2.2.1, .int T.2.2.2.2.2.1, .int T.2.2.2.2.2.2.1, .int T.2.2.2.2.2.2.2])), (ot1, .inl (cI, 72, .inl T.1)), (ot2, .inl (cI, 36, .inl T.2.1)), (oy, .inr (3, [.ref oy1, .int n5.2])), (oy1, .inl (cC, 600, .inl n5.1))] rfl rfl 4 (ci := 3) rfl rfl rfl rfl hl.1 rfl rfl (Nat.le_of_ble_eq_true rfl) ⟨Nat.zero_le _, Nat.zero_le _⟩ dX5_writeSeat_77 (fun H locs hP hD hS => ?_)
        have e9 : fX5_writeSeat S T Ln x1 = n5 := by rw [fX5_writeSeat, if_pos c_10, ← en4, if_neg c_34, if_neg c_58, ← en5]
        exact rUv hx hb hr hlk hQ hP hS (congrArg (fun z9 : LV => w5 x ot ou ov oh ox oy S ++ w3 cI ot ot1 ot2 T ++ w2 cC oy oy1 z9) e9).symm dX5_writeSeat_80
      · refine lv_bipush (v := 65) hx hb dX5_writeSeat_61 (by decide) ?_
        refine lv_goto (tgt := 68) hx hb dX5_writeSeat_63 (by decide) ?_
        refine lv_istore_n (lv' := [(3, .int 65), (2, .int (fX3_ofStool T x1 5)), (0, .ref x), (1, .int x1)]) hx hb dX5_writeSeat_68 rfl hl (by decide) rfl (fun ls hl => ?_)
        refine lv_aload_n hx hb dX5_writeSeat_69 rfl (lv_at hl 2 rfl) ?_
        refine va_get (D := D) (ci := 6) (v := .ref oy) (C := RX5) (T := TX5) (N := 10) hx hb hts q1 hown hK hP 0 rfl rfl 5 (by decide) q2 (fun _ h9 => h9) rfl dX5_writeSeat_70 ?_
        refine lv_iload_n hx hb dX5_writeSeat_73 rfl (lv_at hl 0 rfl) ?_
        refine lv_iload_n hx hb dX5_writeSeat_74 rfl (lv_at hl 1 rfl) ?_
        refine lv_iadd hx hb dX5_writeSeat_75 ?_
        refine lv_i2c (v := ((65 + (fX3_ofStool T x1 5)).toUInt32 % 65536).toInt32) hx hb dX5_writeSeat_76 rfl ?_
        obtain ⟨n6, en6⟩ : ∃ z9, z9 = (fX2_add n4 ((65 + (fX3_ofStool T x1 5)).toUInt32 % 65536).toInt32) := ⟨_, rfl⟩
        have k9 := (kX2_add l D cI cC cT oy oy1 n4 ((65 + (fX3_ofStool T x1 5)).toUInt32 % 65536).toInt32)
        rw [← en6] at k9
        refine fUV (As := [.int ((65 + (fX3_ofStool T x1 5)).toUInt32 % 65536).toInt32]) (rest := []) (st' := []) ⟨hx, hb, hml, hown, hts⟩ k9 (cwV 1 hts gX5_writeSeat_X2_add rfl rfl rfl (by decide +kernel) ⟨Nat.le_of_ble_eq_true rfl, Nat.le_of_ble_eq_true rfl⟩) hP hK hD hS [4, 5] rfl rfl (by decide) rfl [(x, .inr (6, [.ref ot, .ref ou, .ref ov, .ref oh, .ref ox, .ref oy, .int S.1, .int S.2.1, .int S.2.2.1, .int S.2.2.2])), (ot, .inr (4, [.ref ot1, .ref ot2, .int T.2.2.1, .int T.2.2.2.1, .int T.2.2.2.2.1, .int T.2.2.2.2.2.1, .int T.2.2.2.2.2.2.1, .int T.2.2.2.2.2.2.2])), (ot1, .inl (cI, 72, .inl T.1)), (ot2, .inl (cI, 36, .inl T.2.1)), (oy, .inr (3, [.ref oy1, .int n6.2])), (oy1, .inl (cC, 600, .inl n6.1))] rfl rfl 4 (ci := 3) rfl rfl rfl rfl hl.1 rfl rfl (Nat.le_of_ble_eq_true rfl) ⟨Nat.zero_le _, Nat.zero_le _⟩ dX5_writeSeat_77 (fun H locs hP hD hS => ?_)
        have e9 : fX5_writeSeat S T Ln x1 = n6 := by rw [fX5_writeSeat, if_pos c_10, ← en4, if_neg c_34, if_pos c_58, ← en6]
        exact rUv hx hb hr hlk hQ hP hS (congrArg (fun z9 : LV => w5 x ot ou ov oh ox oy S ++ w3 cI ot ot1 ot2 T ++ w2 cC oy oy1 z9) e9).symm dX5_writeSeat_80
    · refine lv_aload_n hx hb dX5_writeSeat_37 rfl (lv_at hl 1 rfl) ?_
      refine va_get (D := D) (ci := 6) (v := .ref oy) (C := RX5) (T := TX5) (N := 10) hx hb hts q1 hown hK hP 0 rfl rfl 5 (by decide) q2 (fun _ h9 => h9) rfl dX5_writeSeat_38 ?_
      refine lv_bipush (v := 46) hx hb dX5_writeSeat_41 (by decide) ?_
      obtain ⟨n7, en7⟩ : ∃ z9, z9 = (fX2_add n4 46) := ⟨_, rfl⟩
      have k9 := (kX2_add l D cI cC cT oy oy1 n4 46)
      rw [← en7] at k9
      refine fUV (As := [.int 46]) (rest := []) (st' := []) ⟨hx, hb, hml, hown, hts⟩ k9 (cwV 1 hts gX5_writeSeat_X2_add rfl rfl rfl (by decide +kernel) ⟨Nat.le_of_ble_eq_true rfl, Nat.le_of_ble_eq_true rfl⟩) hP hK hD hS [4, 5] rfl rfl (by decide) rfl [(x, .inr (6, [.ref ot, .ref ou, .ref ov, .ref oh, .ref ox, .ref oy, .int S.1, .int S.2.1, .int S.2.2.1, .int S.2.2.2])), (ot, .inr (4, [.ref ot1, .ref ot2, .int T.2.2.1, .int T.2.2.2.1, .int T.2.2.2.2.1, .int T.2.2.2.2.2.1, .int T.2.2.2.2.2.2.1, .int T.2.2.2.2.2.2.2])), (ot1, .inl (cI, 72, .inl T.1)), (ot2, .inl (cI, 36, .inl T.2.1)), (oy, .inr (3, [.ref oy1, .int n7.2])), (oy1, .inl (cC, 600, .inl n7.1))] rfl rfl 4 (ci := 3) rfl rfl rfl rfl hl.1 rfl rfl (Nat.le_of_ble_eq_true rfl) ⟨Nat.zero_le _, Nat.zero_le _⟩ dX5_writeSeat_43 (fun H locs hP hD hS => ?_)
      refine lv_goto (tgt := 80) hx hb dX5_writeSeat_46 (by decide) ?_
      have e9 : fX5_writeSeat S T Ln x1 = n7 := by rw [fX5_writeSeat, if_pos c_10, ← en4, if_pos c_34, ← en7]
      exact rUv hx hb hr hlk hQ hP hS (congrArg (fun z9 : LV => w5 x ot ou ov oh ox oy S ++ w3 cI ot ot1 ot2 T ++ w2 cC oy oy1 z9) e9).symm dX5_writeSeat_80
