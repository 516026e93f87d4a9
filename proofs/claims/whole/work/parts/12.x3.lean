def fX3_hasStool (T : TV) (x1 : Int32) : Int32 := (if x1 < 0 then 0 else (if T.2.2.1 ≤ x1 then 0 else 1))
abbrev rmX3_hasStool : Room := { frames := 0, cells := 0, slots := 0, locals := 0 }
set_option maxHeartbeats 4000000 in
set_option maxRecDepth 100000 in
theorem kX3_hasStool (l : Launch) (D : va_G) (cI cC cT : ClassId) (h a b : Nat) (T : TV) (x1 : Int32)  : mR l D (TY cI cC cT) yX3_hasStool wsX3_hasStool rmX3_hasStool [.ref h, .int x1] (w3 cI h a b T) (some (.int (fX3_hasStool T x1))) := by
  refine mR.ofW (cc := cX3_hasStool) (maxL := 2) (ret := (some .boolean)) (by decide) rfl (Nat.le_of_ble_eq_true rfl) ?_
  intro p e s m args below meth c Q ls hx hb hml hr hlk hts hown hP hK hl hQ
  have hown : s.vm.findClass RX3 = some m.cls := hown
  have hP : va_P D vwCl [(h, .inr (4, [.ref a, .ref b, .int T.2.2.1, .int T.2.2.2.1, .int T.2.2.2.2.1, .int T.2.2.2.2.2.1, .int T.2.2.2.2.2.2.1, .int T.2.2.2.2.2.2.2])), (a, .inl (cI, 72, .inl T.1)), (b, .inl (cI, 36, .inl T.2.1))] s.heap := hP
  have hl : lv_has ls 2 [(0, .ref h), (1, .int x1)] := hl
  have q0 := hts (Cond.fieldLink RX3 18 "TavernStools$Tavern" "stools" "I") (by decide +kernel)
  have q1 : ∀ w ∈ u_ws RX3 TX3 8, w ∈ wsX3_hasStool := by decide +kernel
  refine lv_iload_n hx hb dX3_hasStool_0 rfl (lv_at hl 1 rfl) ?_
  refine lv_if_lt (tgt := 16) hx hb dX3_hasStool_1 (by decide) (fun c_1 => ?_) (fun c_1 => ?_)
  · refine lv_iconst (v := 0) hx hb dX3_hasStool_16 (by decide) ?_
    exact rRi hx hb hr hlk hQ (by rw [fX3_hasStool, if_pos c_1]) rfl dX3_hasStool_17
  · refine lv_iload_n hx hb dX3_hasStool_4 rfl (lv_at hl 1 rfl) ?_
    refine lv_aload_n hx hb dX3_hasStool_5 rfl (lv_at hl 0 rfl) ?_
    refine va_get (D := D) (ci := 4) (v := .int T.2.2.1) (C := RX3) (T := TX3) (N := 8) hx hb hts q1 hown hK hP 0 rfl rfl 2 (by decide) q0 (fun _ h9 => h9) rfl dX3_hasStool_6 ?_
    refine lv_icmp_ge (tgt := 16) hx hb dX3_hasStool_9 (by decide) (fun c_9 => ?_) (fun c_9 => ?_)
    · refine lv_iconst (v := 0) hx hb dX3_hasStool_16 (by decide) ?_
      exact rRi hx hb hr hlk hQ (by rw [fX3_hasStool, if_neg c_1, if_pos c_9]) rfl dX3_hasStool_17
    · refine lv_iconst (v := 1) hx hb dX3_hasStool_12 (by decide) ?_
      refine lv_goto (tgt := 17) hx hb dX3_hasStool_13 (by decide) ?_
      exact rRi hx hb hr hlk hQ (by rw [fX3_hasStool, if_neg c_1, if_neg c_9]) rfl dX3_hasStool_17
theorem zX3_hasStool (T : TV) (x1 : Int32) : (fX3_hasStool T x1) = 0 ∨ (fX3_hasStool T x1) = 1 := by
  unfold fX3_hasStool
  repeat' split
  all_goals first | exact Or.inl rfl | exact Or.inr rfl
def fX3_hasSitter (T : TV) (x1 : Int32) : Int32 := (if x1 < 0 then 0 else (if T.2.2.2.1 ≤ x1 then 0 else 1))
abbrev rmX3_hasSitter : Room := { frames := 0, cells := 0, slots := 0, locals := 0 }
set_option maxHeartbeats 4000000 in
set_option maxRecDepth 100000 in
theorem kX3_hasSitter (l : Launch) (D : va_G) (cI cC cT : ClassId) (h a b : Nat) (T : TV) (x1 : Int32)  : mR l D (TY cI cC cT) yX3_hasSitter wsX3_hasSitter rmX3_hasSitter [.ref h, .int x1] (w3 cI h a b T) (some (.int (fX3_hasSitter T x1))) := by
  refine mR.ofW (cc := cX3_hasSitter) (maxL := 2) (ret := (some .boolean)) (by decide) rfl (Nat.le_of_ble_eq_true rfl) ?_
  intro p e s m args below meth c Q ls hx hb hml hr hlk hts hown hP hK hl hQ
  have hown : s.vm.findClass RX3 = some m.cls := hown
  have hP : va_P D vwCl [(h, .inr (4, [.ref a, .ref b, .int T.2.2.1, .int T.2.2.2.1, .int T.2.2.2.2.1, .int T.2.2.2.2.2.1, .int T.2.2.2.2.2.2.1, .int T.2.2.2.2.2.2.2])), (a, .inl (cI, 72, .inl T.1)), (b, .inl (cI, 36, .inl T.2.1))] s.heap := hP
  have hl : lv_has ls 2 [(0, .ref h), (1, .int x1)] := hl
  have q0 := hts (Cond.fieldLink RX3 22 "TavernStools$Tavern" "sitters" "I") (by decide +kernel)
  have q1 : ∀ w ∈ u_ws RX3 TX3 8, w ∈ wsX3_hasSitter := by decide +kernel
  refine lv_iload_n hx hb dX3_hasSitter_0 rfl (lv_at hl 1 rfl) ?_
  refine lv_if_lt (tgt := 16) hx hb dX3_hasSitter_1 (by decide) (fun c_1 => ?_) (fun c_1 => ?_)
  · refine lv_iconst (v := 0) hx hb dX3_hasSitter_16 (by decide) ?_
    exact rRi hx hb hr hlk hQ (by rw [fX3_hasSitter, if_pos c_1]) rfl dX3_hasSitter_17
  · refine lv_iload_n hx hb dX3_hasSitter_4 rfl (lv_at hl 1 rfl) ?_
    refine lv_aload_n hx hb dX3_hasSitter_5 rfl (lv_at hl 0 rfl) ?_
    refine va_get (D := D) (ci := 4) (v := .int T.2.2.2.1) (C := RX3) (T := TX3) (N := 8) hx hb hts q1 hown hK hP 0 rfl rfl 3 (by decide) q0 (fun _ h9 => h9) rfl dX3_hasSitter_6 ?_
    refine lv_icmp_ge (tgt := 16) hx hb dX3_hasSitter_9 (by decide) (fun c_9 => ?_) (fun c_9 => ?_)
    · refine lv_iconst (v := 0) hx hb dX3_hasSitter_16 (by decide) ?_
      exact rRi hx hb hr hlk hQ (by rw [fX3_hasSitter, if_neg c_1, if_pos c_9]) rfl dX3_hasSitter_17
    · refine lv_iconst (v := 1) hx hb dX3_hasSitter_12 (by decide) ?_
      refine lv_goto (tgt := 17) hx hb dX3_hasSitter_13 (by decide) ?_
      exact rRi hx hb hr hlk hQ (by rw [fX3_hasSitter, if_neg c_1, if_neg c_9]) rfl dX3_hasSitter_17
theorem zX3_hasSitter (T : TV) (x1 : Int32) : (fX3_hasSitter T x1) = 0 ∨ (fX3_hasSitter T x1) = 1 := by
  unfold fX3_hasSitter
  repeat' split
  all_goals first | exact Or.inl rfl | exact Or.inr rfl
def fX3_ofStool (T : TV) (x1 : Int32) (x2 : Int32) : Int32 := (if x1 < 0 then (-1) else (if 12 ≤ x1 then (-1) else (if x2 < 0 then (-1) else (if x2 < 6 then (T.1 (((x1 * 6) + x2)).toNatClampNeg) else (-1)))))
abbrev rmX3_ofStool : Room := { frames := 0, cells := 0, slots := 0, locals := 0 }
set_option maxHeartbeats 4000000 in
set_option maxRecDepth 100000 in
theorem kX3_ofStool (l : Launch) (D : va_G) (cI cC cT : ClassId) (h a b : Nat) (T : TV) (x1 : Int32) (x2 : Int32)  : mR l D (TY cI cC cT) yX3_ofStool wsX3_ofStool rmX3_ofStool [.ref h, .int x1, .int x2] (w3 cI h a b T) (some (.int (fX3_ofStool T x1 x2))) := by
  refine mR.ofW (cc := cX3_ofStool) (maxL := 3) (ret := (some .int)) (by decide) rfl (Nat.le_of_ble_eq_true rfl) ?_
  intro p e s m args below meth c Q ls hx hb hml hr hlk hts hown hP hK hl hQ
  have hown : s.vm.findClass RX3 = some m.cls := hown
  have hP : va_P D vwCl [(h, .inr (4, [.ref a, .ref b, .int T.2.2.1, .int T.2.2.2.1, .int T.2.2.2.2.1, .int T.2.2.2.2.2.1, .int T.2.2.2.2.2.2.1, .int T.2.2.2.2.2.2.2])), (a, .inl (cI, 72, .inl T.1)), (b, .inl (cI, 36, .inl T.2.1))] s.heap := hP
  have hl : lv_has ls 3 [(0, .ref h), (1, .int x1), (2, .int x2)] := hl
  have q0 := hts (Cond.fieldLink RX3 11 "TavernStools$Tavern" "stoolRow" "[I") (by decide +kernel)
  have q1 : ∀ w ∈ u_ws RX3 TX3 8, w ∈ wsX3_ofStool := by decide +kernel
  refine lv_iload_n hx hb dX3_ofStool_0 rfl (lv_at hl 1 rfl) ?_
  refine lv_if_lt (tgt := 20) hx hb dX3_ofStool_1 (by decide) (fun c_1 => ?_) (fun c_1 => ?_)
  · refine lv_iconst (v := (-1)) hx hb dX3_ofStool_20 (by decide) ?_
    exact rRi hx hb hr hlk hQ (by rw [fX3_ofStool, if_pos c_1]) rfl dX3_ofStool_21
  · refine lv_iload_n hx hb dX3_ofStool_4 rfl (lv_at hl 1 rfl) ?_
    refine lv_bipush (v := 12) hx hb dX3_ofStool_5 (by decide) ?_
    refine lv_icmp_ge (tgt := 20) hx hb dX3_ofStool_7 (by decide) (fun c_7 => ?_) (fun c_7 => ?_)
    · refine lv_iconst (v := (-1)) hx hb dX3_ofStool_20 (by decide) ?_
      exact rRi hx hb hr hlk hQ (by rw [fX3_ofStool, if_neg c_1, if_pos c_7]) rfl dX3_ofStool_21
    · refine lv_iload_n hx hb dX3_ofStool_10 rfl (lv_at hl 2 rfl) ?_
      refine lv_if_lt (tgt := 20) hx hb dX3_ofStool_11 (by decide) (fun c_11 => ?_) (fun c_11 => ?_)
      · refine lv_iconst (v := (-1)) hx hb dX3_ofStool_20 (by decide) ?_
        exact rRi hx hb hr hlk hQ (by rw [fX3_ofStool, if_neg c_1, if_neg c_7, if_pos c_11]) rfl dX3_ofStool_21
      · refine lv_iload_n hx hb dX3_ofStool_14 rfl (lv_at hl 2 rfl) ?_
        refine lv_bipush (v := 6) hx hb dX3_ofStool_15 (by decide) ?_
        refine lv_icmp_lt (tgt := 22) hx hb dX3_ofStool_17 (by decide) (fun c_17 => ?_) (fun c_17 => ?_)
        · refine lv_aload_n hx hb dX3_ofStool_22 rfl (lv_at hl 0 rfl) ?_
          refine va_get (D := D) (ci := 4) (v := .ref a) (C := RX3) (T := TX3) (N := 8) hx hb hts q1 hown hK hP 0 rfl rfl 0 (by decide) q0 (fun _ h9 => h9) rfl dX3_ofStool_23 ?_
          refine lv_iload_n hx hb dX3_ofStool_26 rfl (lv_at hl 1 rfl) ?_
          refine lv_bipush (v := 6) hx hb dX3_ofStool_27 (by decide) ?_
          refine lv_imul hx hb dX3_ofStool_29 ?_
          refine lv_iload_n hx hb dX3_ofStool_30 rfl (lv_at hl 2 rfl) ?_
          refine lv_iadd hx hb dX3_ofStool_31 ?_
          refine va_iald hx hb hK hP 1 0 rfl rfl (ix_st c_1 c_7 c_11 c_17) dX3_ofStool_32 ?_
          exact rRi hx hb hr hlk hQ (by rw [fX3_ofStool, if_neg c_1, if_neg c_7, if_neg c_11, if_pos c_17]) rfl dX3_ofStool_33
        · refine lv_iconst (v := (-1)) hx hb dX3_ofStool_20 (by decide) ?_
          exact rRi hx hb hr hlk hQ (by rw [fX3_ofStool, if_neg c_1, if_neg c_7, if_neg c_11, if_neg c_17]) rfl dX3_ofStool_21
def fX3_ofSitter (T : TV) (x1 : Int32) (x2 : Int32) : Int32 := (if x1 < 0 then (-1) else (if 12 ≤ x1 then (-1) else (if x2 < 0 then (-1) else (if x2 < 3 then (T.2.1 (((x1 * 3) + x2)).toNatClampNeg) else (-1)))))
abbrev rmX3_ofSitter : Room := { frames := 0, cells := 0, slots := 0, locals := 0 }
set_option maxHeartbeats 4000000 in
set_option maxRecDepth 100000 in
theorem kX3_ofSitter (l : Launch) (D : va_G) (cI cC cT : ClassId) (h a b : Nat) (T : TV) (x1 : Int32) (x2 : Int32)  : mR l D (TY cI cC cT) yX3_ofSitter wsX3_ofSitter rmX3_ofSitter [.ref h, .int x1, .int x2] (w3 cI h a b T) (some (.int (fX3_ofSitter T x1 x2))) := by
  refine mR.ofW (cc := cX3_ofSitter) (maxL := 3) (ret := (some .int)) (by decide) rfl (Nat.le_of_ble_eq_true rfl) ?_
  intro p e s m args below meth c Q ls hx hb hml hr hlk hts hown hP hK hl hQ
  have hown : s.vm.findClass RX3 = some m.cls := hown
  have hP : va_P D vwCl [(h, .inr (4, [.ref a, .ref b, .int T.2.2.1, .int T.2.2.2.1, .int T.2.2.2.2.1, .int T.2.2.2.2.2.1, .int T.2.2.2.2.2.2.1, .int T.2.2.2.2.2.2.2])), (a, .inl (cI, 72, .inl T.1)), (b, .inl (cI, 36, .inl T.2.1))] s.heap := hP
  have hl : lv_has ls 3 [(0, .ref h), (1, .int x1), (2, .int x2)] := hl
  have q0 := hts (Cond.fieldLink RX3 15 "TavernStools$Tavern" "sitterRow" "[I") (by decide +kernel)
  have q1 : ∀ w ∈ u_ws RX3 TX3 8, w ∈ wsX3_ofSitter := by decide +kernel
  refine lv_iload_n hx hb dX3_ofSitter_0 rfl (lv_at hl 1 rfl) ?_
  refine lv_if_lt (tgt := 19) hx hb dX3_ofSitter_1 (by decide) (fun c_1 => ?_) (fun c_1 => ?_)
  · refine lv_iconst (v := (-1)) hx hb dX3_ofSitter_19 (by decide) ?_
    exact rRi hx hb hr hlk hQ (by rw [fX3_ofSitter, if_pos c_1]) rfl dX3_ofSitter_20
  · refine lv_iload_n hx hb dX3_ofSitter_4 rfl (lv_at hl 1 rfl) ?_
    refine lv_bipush (v := 12) hx hb dX3_ofSitter_5 (by decide) ?_
    refine lv_icmp_ge (tgt := 19) hx hb dX3_ofSitter_7 (by decide) (fun c_7 => ?_) (fun c_7 => ?_)
    · refine lv_iconst (v := (-1)) hx hb dX3_ofSitter_19 (by decide) ?_
      exact rRi hx hb hr hlk hQ (by rw [fX3_ofSitter, if_neg c_1, if_pos c_7]) rfl dX3_ofSitter_20
    · refine lv_iload_n hx hb dX3_ofSitter_10 rfl (lv_at hl 2 rfl) ?_
      refine lv_if_lt (tgt := 19) hx hb dX3_ofSitter_11 (by decide) (fun c_11 => ?_) (fun c_11 => ?_)
      · refine lv_iconst (v := (-1)) hx hb dX3_ofSitter_19 (by decide) ?_
        exact rRi hx hb hr hlk hQ (by rw [fX3_ofSitter, if_neg c_1, if_neg c_7, if_pos c_11]) rfl dX3_ofSitter_20
      · refine lv_iload_n hx hb dX3_ofSitter_14 rfl (lv_at hl 2 rfl) ?_
        refine lv_iconst (v := 3) hx hb dX3_ofSitter_15 (by decide) ?_
        refine lv_icmp_lt (tgt := 21) hx hb dX3_ofSitter_16 (by decide) (fun c_16 => ?_) (fun c_16 => ?_)
        · refine lv_aload_n hx hb dX3_ofSitter_21 rfl (lv_at hl 0 rfl) ?_
          refine va_get (D := D) (ci := 4) (v := .ref b) (C := RX3) (T := TX3) (N := 8) hx hb hts q1 hown hK hP 0 rfl rfl 1 (by decide) q0 (fun _ h9 => h9) rfl dX3_ofSitter_22 ?_
          refine lv_iload_n hx hb dX3_ofSitter_25 rfl (lv_at hl 1 rfl) ?_
          refine lv_iconst (v := 3) hx hb dX3_ofSitter_26 (by decide) ?_
          refine lv_imul hx hb dX3_ofSitter_27 ?_
          refine lv_iload_n hx hb dX3_ofSitter_28 rfl (lv_at hl 2 rfl) ?_
          refine lv_iadd hx hb dX3_ofSitter_29 ?_
          refine va_iald hx hb hK hP 2 0 rfl rfl (ix_si c_1 c_7 c_11 c_16) dX3_ofSitter_30 ?_
          exact rRi hx hb hr hlk hQ (by rw [fX3_ofSitter, if_neg c_1, if_neg c_7, if_neg c_11, if_pos c_16]) rfl dX3_ofSitter_31
        · refine lv_iconst (v := (-1)) hx hb dX3_ofSitter_19 (by decide) ?_
          exact rRi hx hb hr hlk hQ (by rw [fX3_ofSitter, if_neg c_1, if_neg c_7, if_neg c_11, if_neg c_16]) rfl dX3_ofSitter_20
def fX3_setOfStool (T : TV) (x1 : Int32) (x2 : Int32) (x3 : Int32) : TV := (if x1 < 0 then T else (if 12 ≤ x1 then T else (if x2 < 0 then T else (if 6 ≤ x2 then T else ((upd T.1 (((x1 * 6) + x2)).toNatClampNeg x3), T.2.1, T.2.2.1, T.2.2.2.1, T.2.2.2.2.1, T.2.2.2.2.2.1, T.2.2.2.2.2.2.1, T.2.2.2.2.2.2.2)))))
abbrev rmX3_setOfStool : Room := { frames := 0, cells := 0, slots := 0, locals := 0 }
set_option maxHeartbeats 4000000 in
set_option maxRecDepth 100000 in
theorem kX3_setOfStool (l : Launch) (D : va_G) (cI cC cT : ClassId) (h a b : Nat) (T : TV) (x1 : Int32) (x2 : Int32) (x3 : Int32)  : mU l D (TY cI cC cT) yX3_setOfStool wsX3_setOfStool rmX3_setOfStool [.ref h, .int x1, .int x2, .int x3] (w3 cI h a b T) none (w3 cI h a b (fX3_setOfStool T x1 x2 x3)) := by
  refine mU.ofW (cc := cX3_setOfStool) (maxL := 4) (ret := none) (by decide) rfl (Nat.le_of_ble_eq_true rfl) ?_
  intro p e s m args below meth c Q ls A hx hb hml hr hlk hts hown hP hK hD hS hl hQ
  have hown : s.vm.findClass RX3 = some m.cls := hown
  have hP : va_P D vwCl [(h, .inr (4, [.ref a, .ref b, .int T.2.2.1, .int T.2.2.2.1, .int T.2.2.2.2.1, .int T.2.2.2.2.2.1, .int T.2.2.2.2.2.2.1, .int T.2.2.2.2.2.2.2])), (a, .inl (cI, 72, .inl T.1)), (b, .inl (cI, 36, .inl T.2.1))] s.heap := hP
  have hD : va_D A [(h, .inr (4, [.ref a, .ref b, .int T.2.2.1, .int T.2.2.2.1, .int T.2.2.2.2.1, .int T.2.2.2.2.2.1, .int T.2.2.2.2.2.2.1, .int T.2.2.2.2.2.2.2])), (a, .inl (cI, 72, .inl T.1)), (b, .inl (cI, 36, .inl T.2.1))] := hD
  have hl : lv_has ls 4 [(0, .ref h), (1, .int x1), (2, .int x2), (3, .int x3)] := hl
  have q0 := hts (Cond.fieldLink RX3 11 "TavernStools$Tavern" "stoolRow" "[I") (by decide +kernel)
  have q1 : ∀ w ∈ u_ws RX3 TX3 8, w ∈ wsX3_setOfStool := by decide +kernel
  generalize hHe : s.heap = H at hP ⊢
  have hS : va_S A s.heap H [] := hHe ▸ hS
  generalize hLe : ([] : List Loc) = locs at hS ⊢
  refine lv_iload_n hx hb dX3_setOfStool_0 rfl (lv_at hl 1 rfl) ?_
  refine lv_if_lt (tgt := 32) hx hb dX3_setOfStool_1 (by decide) (fun c_1 => ?_) (fun c_1 => ?_)
  · have e9 : fX3_setOfStool T x1 x2 x3 = T := by rw [fX3_setOfStool, if_pos c_1]
    exact rUv hx hb hr hlk hQ hP hS (congrArg (fun z9 : TV => w3 cI h a b z9) e9).symm dX3_setOfStool_32
  · refine lv_iload_n hx hb dX3_setOfStool_4 rfl (lv_at hl 1 rfl) ?_
    refine lv_bipush (v := 12) hx hb dX3_setOfStool_5 (by decide) ?_
    refine lv_icmp_ge (tgt := 32) hx hb dX3_setOfStool_7 (by decide) (fun c_7 => ?_) (fun c_7 => ?_)
    · have e9 : fX3_setOfStool T x1 x2 x3 = T := by rw [fX3_setOfStool, if_neg c_1, if_pos c_7]
      exact rUv hx hb hr hlk hQ hP hS (congrArg (fun z9 : TV => w3 cI h a b z9) e9).symm dX3_setOfStool_32
    · refine lv_iload_n hx hb dX3_setOfStool_10 rfl (lv_at hl 2 rfl) ?_
      refine lv_if_lt (tgt := 32) hx hb dX3_setOfStool_11 (by decide) (fun c_11 => ?_) (fun c_11 => ?_)
      · have e9 : fX3_setOfStool T x1 x2 x3 = T := by rw [fX3_setOfStool, if_neg c_1, if_neg c_7, if_pos c_11]
        exact rUv hx hb hr hlk hQ hP hS (congrArg (fun z9 : TV => w3 cI h a b z9) e9).symm dX3_setOfStool_32
      · refine lv_iload_n hx hb dX3_setOfStool_14 rfl (lv_at hl 2 rfl) ?_
        refine lv_bipush (v := 6) hx hb dX3_setOfStool_15 (by decide) ?_
        refine lv_icmp_ge (tgt := 32) hx hb dX3_setOfStool_17 (by decide) (fun c_17 => ?_) (fun c_17 => ?_)
        · have e9 : fX3_setOfStool T x1 x2 x3 = T := by rw [fX3_setOfStool, if_neg c_1, if_neg c_7, if_neg c_11, if_pos c_17]
          exact rUv hx hb hr hlk hQ hP hS (congrArg (fun z9 : TV => w3 cI h a b z9) e9).symm dX3_setOfStool_32
        · refine lv_aload_n hx hb dX3_setOfStool_20 rfl (lv_at hl 0 rfl) ?_
          refine va_get (D := D) (ci := 4) (v := .ref a) (C := RX3) (T := TX3) (N := 8) hx hb hts q1 hown hK hP 0 rfl rfl 0 (by decide) q0 (fun _ h9 => h9) rfl dX3_setOfStool_21 ?_
          refine lv_iload_n hx hb dX3_setOfStool_24 rfl (lv_at hl 1 rfl) ?_
          refine lv_bipush (v := 6) hx hb dX3_setOfStool_25 (by decide) ?_
          refine lv_imul hx hb dX3_setOfStool_27 ?_
          refine lv_iload_n hx hb dX3_setOfStool_28 rfl (lv_at hl 2 rfl) ?_
          refine lv_iadd hx hb dX3_setOfStool_29 ?_
          refine lv_iload_n hx hb dX3_setOfStool_30 rfl (lv_at hl 3 rfl) ?_
          refine va_iast hx hb hK hP hD hS 1 0 rfl rfl (ix_st c_1 c_7 c_11 (lt_of_nle c_17)) dX3_setOfStool_31 (fun H locs hP hD hS => ?_)
          have hP : va_P D vwCl [(h, .inr (4, [.ref a, .ref b, .int T.2.2.1, .int T.2.2.2.1, .int T.2.2.2.2.1, .int T.2.2.2.2.2.1, .int T.2.2.2.2.2.2.1, .int T.2.2.2.2.2.2.2])), (a, .inl (cI, 72, .inl (upd T.1 (((x1 * 6) + x2)).toNatClampNeg x3))), (b, .inl (cI, 36, .inl T.2.1))] H := hP
          have hD : va_D A [(h, .inr (4, [.ref a, .ref b, .int T.2.2.1, .int T.2.2.2.1, .int T.2.2.2.2.1, .int T.2.2.2.2.2.1, .int T.2.2.2.2.2.2.1, .int T.2.2.2.2.2.2.2])), (a, .inl (cI, 72, .inl (upd T.1 (((x1 * 6) + x2)).toNatClampNeg x3))), (b, .inl (cI, 36, .inl T.2.1))] := hD
          have e9 : fX3_setOfStool T x1 x2 x3 = ((upd T.1 (((x1 * 6) + x2)).toNatClampNeg x3), T.2.1, T.2.2.1, T.2.2.2.1, T.2.2.2.2.1, T.2.2.2.2.2.1, T.2.2.2.2.2.2.1, T.2.2.2.2.2.2.2) := by rw [fX3_setOfStool, if_neg c_1, if_neg c_7, if_neg c_11, if_neg c_17]
          exact rUv hx hb hr hlk hQ hP hS (congrArg (fun z9 : TV => w3 cI h a b z9) e9).symm dX3_setOfStool_32
def fX3_setOfSitter (T : TV) (x1 : Int32) (x2 : Int32) (x3 : Int32) : TV := (if x1 < 0 then T else (if 12 ≤ x1 then T else (if x2 < 0 then T else (if 3 ≤ x2 then T else (T.1, (upd T.2.1 (((x1 * 3) + x2)).toNatClampNeg x3), T.2.2.1, T.2.2.2.1, T.2.2.2.2.1, T.2.2.2.2.2.1, T.2.2.2.2.2.2.1, T.2.2.2.2.2.2.2)))))
abbrev rmX3_setOfSitter : Room := { frames := 0, cells := 0, slots := 0, locals := 0 }
set_option maxHeartbeats 4000000 in
set_option maxRecDepth 100000 in
theorem kX3_setOfSitter (l : Launch) (D : va_G) (cI cC cT : ClassId) (h a b : Nat) (T : TV) (x1 : Int32) (x2 : Int32) (x3 : Int32)  : mU l D (TY cI cC cT) yX3_setOfSitter wsX3_setOfSitter rmX3_setOfSitter [.ref h, .int x1, .int x2, .int x3] (w3 cI h a b T) none (w3 cI h a b (fX3_setOfSitter T x1 x2 x3)) := by
  refine mU.ofW (cc := cX3_setOfSitter) (maxL := 4) (ret := none) (by decide) rfl (Nat.le_of_ble_eq_true rfl) ?_
  intro p e s m args below meth c Q ls A hx hb hml hr hlk hts hown hP hK hD hS hl hQ
  have hown : s.vm.findClass RX3 = some m.cls := hown
  have hP : va_P D vwCl [(h, .inr (4, [.ref a, .ref b, .int T.2.2.1, .int T.2.2.2.1, .int T.2.2.2.2.1, .int T.2.2.2.2.2.1, .int T.2.2.2.2.2.2.1, .int T.2.2.2.2.2.2.2])), (a, .inl (cI, 72, .inl T.1)), (b, .inl (cI, 36, .inl T.2.1))] s.heap := hP
  have hD : va_D A [(h, .inr (4, [.ref a, .ref b, .int T.2.2.1, .int T.2.2.2.1, .int T.2.2.2.2.1, .int T.2.2.2.2.2.1, .int T.2.2.2.2.2.2.1, .int T.2.2.2.2.2.2.2])), (a, .inl (cI, 72, .inl T.1)), (b, .inl (cI, 36, .inl T.2.1))] := hD
  have hl : lv_has ls 4 [(0, .ref h), (1, .int x1), (2, .int x2), (3, .int x3)] := hl
  have q0 := hts (Cond.fieldLink RX3 15 "TavernStools$Tavern" "sitterRow" "[I") (by decide +kernel)
  have q1 : ∀ w ∈ u_ws RX3 TX3 8, w ∈ wsX3_setOfSitter := by decide +kernel
  generalize hHe : s.heap = H at hP ⊢
  have hS : va_S A s.heap H [] := hHe ▸ hS
  generalize hLe : ([] : List Loc) = locs at hS ⊢
  refine lv_iload_n hx hb dX3_setOfSitter_0 rfl (lv_at hl 1 rfl) ?_
  refine lv_if_lt (tgt := 30) hx hb dX3_setOfSitter_1 (by decide) (fun c_1 => ?_) (fun c_1 => ?_)
  · have e9 : fX3_setOfSitter T x1 x2 x3 = T := by rw [fX3_setOfSitter, if_pos c_1]
    exact rUv hx hb hr hlk hQ hP hS (congrArg (fun z9 : TV => w3 cI h a b z9) e9).symm dX3_setOfSitter_30
  · refine lv_iload_n hx hb dX3_setOfSitter_4 rfl (lv_at hl 1 rfl) ?_
    refine lv_bipush (v := 12) hx hb dX3_setOfSitter_5 (by decide) ?_
    refine lv_icmp_ge (tgt := 30) hx hb dX3_setOfSitter_7 (by decide) (fun c_7 => ?_) (fun c_7 => ?_)
    · have e9 : fX3_setOfSitter T x1 x2 x3 = T := by rw [fX3_setOfSitter, if_neg c_1, if_pos c_7]
      exact rUv hx hb hr hlk hQ hP hS (congrArg (fun z9 : TV => w3 cI h a b z9) e9).symm dX3_setOfSitter_30
    · refine lv_iload_n hx hb dX3_setOfSitter_10 rfl (lv_at hl 2 rfl) ?_
      refine lv_if_lt (tgt := 30) hx hb dX3_setOfSitter_11 (by decide) (fun c_11 => ?_) (fun c_11 => ?_)
      · have e9 : fX3_setOfSitter T x1 x2 x3 = T := by rw [fX3_setOfSitter, if_neg c_1, if_neg c_7, if_pos c_11]
        exact rUv hx hb hr hlk hQ hP hS (congrArg (fun z9 : TV => w3 cI h a b z9) e9).symm dX3_setOfSitter_30
      · refine lv_iload_n hx hb dX3_setOfSitter_14 rfl (lv_at hl 2 rfl) ?_
        refine lv_iconst (v := 3) hx hb dX3_setOfSitter_15 (by decide) ?_
        refine lv_icmp_ge (tgt := 30) hx hb dX3_setOfSitter_16 (by decide) (fun c_16 => ?_) (fun c_16 => ?_)
        · have e9 : fX3_setOfSitter T x1 x2 x3 = T := by rw [fX3_setOfSitter, if_neg c_1, if_neg c_7, if_neg c_11, if_pos c_16]
          exact rUv hx hb hr hlk hQ hP hS (congrArg (fun z9 : TV => w3 cI h a b z9) e9).symm dX3_setOfSitter_30
        · refine lv_aload_n hx hb dX3_setOfSitter_19 rfl (lv_at hl 0 rfl) ?_
          refine va_get (D := D) (ci := 4) (v := .ref b) (C := RX3) (T := TX3) (N := 8) hx hb hts q1 hown hK hP 0 rfl rfl 1 (by decide) q0 (fun _ h9 => h9) rfl dX3_setOfSitter_20 ?_
          refine lv_iload_n hx hb dX3_setOfSitter_23 rfl (lv_at hl 1 rfl) ?_
          refine lv_iconst (v := 3) hx hb dX3_setOfSitter_24 (by decide) ?_
          refine lv_imul hx hb dX3_setOfSitter_25 ?_
          refine lv_iload_n hx hb dX3_setOfSitter_26 rfl (lv_at hl 2 rfl) ?_
          refine lv_iadd hx hb dX3_setOfSitter_27 ?_
          refine lv_iload_n hx hb dX3_setOfSitter_28 rfl (lv_at hl 3 rfl) ?_
          refine va_iast hx hb hK hP hD hS 2 0 rfl rfl (ix_si c_1 c_7 c_11 (lt_of_nle c_16)) dX3_setOfSitter_29 (fun H locs hP hD hS => ?_)
          have hP : va_P D vwCl [(h, .inr (4, [.ref a, .ref b, .int T.2.2.1, .int T.2.2.2.1, .int T.2.2.2.2.1, .int T.2.2.2.2.2.1, .int T.2.2.2.2.2.2.1, .int T.2.2.2.2.2.2.2])), (a, .inl (cI, 72, .inl T.1)), (b, .inl (cI, 36, .inl (upd T.2.1 (((x1 * 3) + x2)).toNatClampNeg x3)))] H := hP
          have hD : va_D A [(h, .inr (4, [.ref a, .ref b, .int T.2.2.1, .int T.2.2.2.1, .int T.2.2.2.2.1, .int T.2.2.2.2.2.1, .int T.2.2.2.2.2.2.1, .int T.2.2.2.2.2.2.2])), (a, .inl (cI, 72, .inl T.1)), (b, .inl (cI, 36, .inl (upd T.2.1 (((x1 * 3) + x2)).toNatClampNeg x3)))] := hD
          have e9 : fX3_setOfSitter T x1 x2 x3 = (T.1, (upd T.2.1 (((x1 * 3) + x2)).toNatClampNeg x3), T.2.2.1, T.2.2.2.1, T.2.2.2.2.1, T.2.2.2.2.2.1, T.2.2.2.2.2.2.1, T.2.2.2.2.2.2.2) := by rw [fX3_setOfSitter, if_neg c_1, if_neg c_7, if_neg c_11, if_neg c_16]
          exact rUv hx hb hr hlk hQ hP hS (congrArg (fun z9 : TV => w3 cI h a b z9) e9).symm dX3_setOfSitter_30
theorem sX3_setOfStool (T : TV) (x1 x2 x3 : Int32) : (fX3_setOfStool T x1 x2 x3).2 = T.2 := by
  unfold fX3_setOfStool
  repeat' split
  all_goals rfl
theorem sX3_setOfSitter (T : TV) (x1 x2 x3 : Int32) : (fX3_setOfSitter T x1 x2 x3).2.2 = T.2.2 := by
  unfold fX3_setOfSitter
  repeat' split
  all_goals rfl
def fX3_addStool (T : TV) (x1 : Int32) (x2 : Int32) (x3 : Int32) (x4 : Int32) : (Int32 × TV) := (if x4 = 0 then (T.2.2.1, ((fX3_setOfStool (fX3_setOfStool (fX3_setOfStool (fX3_setOfStool (fX3_setOfStool (fX3_setOfStool T T.2.2.1 0 x1) T.2.2.1 1 x2) T.2.2.1 2 x3) T.2.2.1 3 0) T.2.2.1 4 0) T.2.2.1 5 (-1)).1, (fX3_setOfStool (fX3_setOfStool (fX3_setOfStool (fX3_setOfStool (fX3_setOfStool (fX3_setOfStool T T.2.2.1 0 x1) T.2.2.1 1 x2) T.2.2.1 2 x3) T.2.2.1 3 0) T.2.2.1 4 0) T.2.2.1 5 (-1)).2.1, ((fX3_setOfStool (fX3_setOfStool (fX3_setOfStool (fX3_setOfStool (fX3_setOfStool (fX3_setOfStool T T.2.2.1 0 x1) T.2.2.1 1 x2) T.2.2.1 2 x3) T.2.2.1 3 0) T.2.2.1 4 0) T.2.2.1 5 (-1)).2.2.1 + 1), (fX3_setOfStool (fX3_setOfStool (fX3_setOfStool (fX3_setOfStool (fX3_setOfStool (fX3_setOfStool T T.2.2.1 0 x1) T.2.2.1 1 x2) T.2.2.1 2 x3) T.2.2.1 3 0) T.2.2.1 4 0) T.2.2.1 5 (-1)).2.2.2.1, (fX3_setOfStool (fX3_setOfStool (fX3_setOfStool (fX3_setOfStool (fX3_setOfStool (fX3_setOfStool T T.2.2.1 0 x1) T.2.2.1 1 x2) T.2.2.1 2 x3) T.2.2.1 3 0) T.2.2.1 4 0) T.2.2.1 5 (-1)).2.2.2.2.1, (fX3_setOfStool (fX3_setOfStool (fX3_setOfStool (fX3_setOfStool (fX3_setOfStool (fX3_setOfStool T T.2.2.1 0 x1) T.2.2.1 1 x2) T.2.2.1 2 x3) T.2.2.1 3 0) T.2.2.1 4 0) T.2.2.1 5 (-1)).2.2.2.2.2.1, (fX3_setOfStool (fX3_setOfStool (fX3_setOfStool (fX3_setOfStool (fX3_setOfStool (fX3_setOfStool T T.2.2.1 0 x1) T.2.2.1 1 x2) T.2.2.1 2 x3) T.2.2.1 3 0) T.2.2.1 4 0) T.2.2.1 5 (-1)).2.2.2.2.2.2.1, (fX3_setOfStool (fX3_setOfStool (fX3_setOfStool (fX3_setOfStool (fX3_setOfStool (fX3_setOfStool T T.2.2.1 0 x1) T.2.2.1 1 x2) T.2.2.1 2 x3) T.2.2.1 3 0) T.2.2.1 4 0) T.2.2.1 5 (-1)).2.2.2.2.2.2.2)) else (T.2.2.1, ((fX3_setOfStool (fX3_setOfStool (fX3_setOfStool (fX3_setOfStool (fX3_setOfStool (fX3_setOfStool T T.2.2.1 0 x1) T.2.2.1 1 x2) T.2.2.1 2 x3) T.2.2.1 3 1) T.2.2.1 4 0) T.2.2.1 5 (-1)).1, (fX3_setOfStool (fX3_setOfStool (fX3_setOfStool (fX3_setOfStool (fX3_setOfStool (fX3_setOfStool T T.2.2.1 0 x1) T.2.2.1 1 x2) T.2.2.1 2 x3) T.2.2.1 3 1) T.2.2.1 4 0) T.2.2.1 5 (-1)).2.1, ((fX3_setOfStool (fX3_setOfStool (fX3_setOfStool (fX3_setOfStool (fX3_setOfStool (fX3_setOfStool T T.2.2.1 0 x1) T.2.2.1 1 x2) T.2.2.1 2 x3) T.2.2.1 3 1) T.2.2.1 4 0) T.2.2.1 5 (-1)).2.2.1 + 1), (fX3_setOfStool (fX3_setOfStool (fX3_setOfStool (fX3_setOfStool (fX3_setOfStool (fX3_setOfStool T T.2.2.1 0 x1) T.2.2.1 1 x2) T.2.2.1 2 x3) T.2.2.1 3 1) T.2.2.1 4 0) T.2.2.1 5 (-1)).2.2.2.1, (fX3_setOfStool (fX3_setOfStool (fX3_setOfStool (fX3_setOfStool (fX3_setOfStool (fX3_setOfStool T T.2.2.1 0 x1) T.2.2.1 1 x2) T.2.2.1 2 x3) T.2.2.1 3 1) T.2.2.1 4 0) T.2.2.1 5 (-1)).2.2.2.2.1, (fX3_setOfStool (fX3_setOfStool (fX3_setOfStool (fX3_setOfStool (fX3_setOfStool (fX3_setOfStool T T.2.2.1 0 x1) T.2.2.1 1 x2) T.2.2.1 2 x3) T.2.2.1 3 1) T.2.2.1 4 0) T.2.2.1 5 (-1)).2.2.2.2.2.1, (fX3_setOfStool (fX3_setOfStool (fX3_setOfStool (fX3_setOfStool (fX3_setOfStool (fX3_setOfStool T T.2.2.1 0 x1) T.2.2.1 1 x2) T.2.2.1 2 x3) T.2.2.1 3 1) T.2.2.1 4 0) T.2.2.1 5 (-1)).2.2.2.2.2.2.1, (fX3_setOfStool (fX3_setOfStool (fX3_setOfStool (fX3_setOfStool (fX3_setOfStool (fX3_setOfStool T T.2.2.1 0 x1) T.2.2.1 1 x2) T.2.2.1 2 x3) T.2.2.1 3 1) T.2.2.1 4 0) T.2.2.1 5 (-1)).2.2.2.2.2.2.2)))
abbrev rmX3_addStool : Room := { frames := 1, cells := 0, slots := 0, locals := 23 }
set_option maxHeartbeats 4000000 in
set_option maxRecDepth 100000 in
theorem kX3_addStool (l : Launch) (D : va_G) (cI cC cT : ClassId) (h a b : Nat) (T : TV) (x1 : Int32) (x2 : Int32) (x3 : Int32) (x4 : Int32)  : mU l D (TY cI cC cT) yX3_addStool wsX3_addStool rmX3_addStool [.ref h, .int x1, .int x2, .int x3, .int x4] (w3 cI h a b T) (some (.int (fX3_addStool T x1 x2 x3 x4).1)) (w3 cI h a b (fX3_addStool T x1 x2 x3 x4).2) := by
  refine mU.ofW (cc := cX3_addStool) (maxL := 6) (ret := (some .int)) (by decide) rfl (Nat.le_of_ble_eq_true rfl) ?_
  intro p e s m args below meth c Q ls A hx hb hml hr hlk hts hown hP hK hD hS hl hQ
  have hown : s.vm.findClass RX3 = some m.cls := hown
  have hP : va_P D vwCl [(h, .inr (4, [.ref a, .ref b, .int T.2.2.1, .int T.2.2.2.1, .int T.2.2.2.2.1, .int T.2.2.2.2.2.1, .int T.2.2.2.2.2.2.1, .int T.2.2.2.2.2.2.2])), (a, .inl (cI, 72, .inl T.1)), (b, .inl (cI, 36, .inl T.2.1))] s.heap := hP
  have hD : va_D A [(h, .inr (4, [.ref a, .ref b, .int T.2.2.1, .int T.2.2.2.1, .int T.2.2.2.2.1, .int T.2.2.2.2.2.1, .int T.2.2.2.2.2.2.1, .int T.2.2.2.2.2.2.2])), (a, .inl (cI, 72, .inl T.1)), (b, .inl (cI, 36, .inl T.2.1))] := hD
  have hl : lv_has ls 6 [(0, .ref h), (1, .int x1), (2, .int x2), (3, .int x3), (4, .int x4)] := hl
  have q0 := hts (Cond.fieldLink RX3 18 "TavernStools$Tavern" "stools" "I") (by decide +kernel)
  have q1 : ∀ w ∈ u_ws RX3 TX3 8, w ∈ wsX3_addStool := by decide +kernel
  generalize hHe : s.heap = H at hP ⊢
  have hS : va_S A s.heap H [] := hHe ▸ hS
  generalize hLe : ([] : List Loc) = locs at hS ⊢
  refine lv_aload_n hx hb dX3_addStool_0 rfl (lv_at hl 0 rfl) ?_
  refine va_get (D := D) (ci := 4) (v := .int T.2.2.1) (C := RX3) (T := TX3) (N := 8) hx hb hts q1 hown hK hP 0 rfl rfl 2 (by decide) q0 (fun _ h9 => h9) rfl dX3_addStool_1 ?_
  refine lv_istore (lv' := [(5, .int T.2.2.1), (0, .ref h), (1, .int x1), (2, .int x2), (3, .int x3), (4, .int x4)]) hx hb dX3_addStool_4 hl (by decide) rfl (fun ls hl => ?_)
  refine lv_aload_n hx hb dX3_addStool_6 rfl (lv_at hl 1 rfl) ?_
  refine lv_iload hx hb dX3_addStool_7 (lv_at hl 0 rfl) ?_
  refine lv_iconst (v := 0) hx hb dX3_addStool_9 (by decide) ?_
  refine lv_iload_n hx hb dX3_addStool_10 rfl (lv_at hl 2 rfl) ?_
  obtain ⟨n1, en1⟩ : ∃ z9, z9 = (fX3_setOfStool T T.2.2.1 0 x1) := ⟨_, rfl⟩
  have k9 := (kX3_setOfStool l D cI cC cT h a b T T.2.2.1 0 x1)
  rw [← en1] at k9
  refine fUV (As := [.int T.2.2.1, .int 0, .int x1]) (rest := []) (st' := []) ⟨hx, hb, hml, hown, hts⟩ k9 (cwV 3 hts gX3_addStool_X3_setOfStool rfl rfl rfl (by decide +kernel) ⟨Nat.le_of_ble_eq_true rfl, Nat.le_of_ble_eq_true rfl⟩) hP hK hD hS [0, 1, 2] rfl rfl (by decide) rfl [(h, .inr (4, [.ref a, .ref b, .int n1.2.2.1, .int n1.2.2.2.1, .int n1.2.2.2.2.1, .int n1.2.2.2.2.2.1, .int n1.2.2.2.2.2.2.1, .int n1.2.2.2.2.2.2.2])), (a, .inl (cI, 72, .inl n1.1)), (b, .inl (cI, 36, .inl n1.2.1))] rfl rfl 0 (ci := 4) rfl rfl rfl rfl hl.1 rfl rfl (Nat.le_of_ble_eq_true rfl) ⟨Nat.zero_le _, Nat.zero_le _⟩ dX3_addStool_11 (fun H locs hP hD hS => ?_)
  refine lv_aload_n hx hb dX3_addStool_14 rfl (lv_at hl 1 rfl) ?_
  refine lv_iload hx hb dX3_addStool_15 (lv_at hl 0 rfl) ?_
  refine lv_iconst (v := 1) hx hb dX3_addStool_17 (by decide) ?_
  refine lv_iload_n hx hb dX3_addStool_18 rfl (lv_at hl 3 rfl) ?_
  obtain ⟨n2, en2⟩ : ∃ z9, z9 = (fX3_setOfStool n1 T.2.2.1 1 x2) := ⟨_, rfl⟩
  have k9 := (kX3_setOfStool l D cI cC cT h a b n1 T.2.2.1 1 x2)
  rw [← en2] at k9
  refine fUV (As := [.int T.2.2.1, .int 1, .int x2]) (rest := []) (st' := []) ⟨hx, hb, hml, hown, hts⟩ k9 (cwV 3 hts gX3_addStool_X3_setOfStool rfl rfl rfl (by decide +kernel) ⟨Nat.le_of_ble_eq_true rfl, Nat.le_of_ble_eq_true rfl⟩) hP hK hD hS [0, 1, 2] rfl rfl (by decide) rfl [(h, .inr (4, [.ref a, .ref b, .int n2.2.2.1, .int n2.2.2.2.1, .int n2.2.2.2.2.1, .int n2.2.2.2.2.2.1, .int n2.2.2.2.2.2.2.1, .int n2.2.2.2.2.2.2.2])), (a, .inl (cI, 72, .inl n2.1)), (b, .inl (cI, 36, .inl n2.2.1))] rfl rfl 0 (ci := 4) rfl rfl rfl rfl hl.1 rfl rfl (Nat.le_of_ble_eq_true rfl) ⟨Nat.zero_le _, Nat.zero_le _⟩ dX3_addStool_19 (fun H locs hP hD hS => ?_)
  refine lv_aload_n hx hb dX3_addStool_22 rfl (lv_at hl 1 rfl) ?_
  refine lv_iload hx hb dX3_addStool_23 (lv_at hl 0 rfl) ?_
  refine lv_iconst (v := 2) hx hb dX3_addStool_25 (by decide) ?_
  refine lv_iload_n hx hb dX3_addStool_26 rfl (lv_at hl 4 rfl) ?_
  obtain ⟨n3, en3⟩ : ∃ z9, z9 = (fX3_setOfStool n2 T.2.2.1 2 x3) := ⟨_, rfl⟩
  have k9 := (kX3_setOfStool l D cI cC cT h a b n2 T.2.2.1 2 x3)
  rw [← en3] at k9
  refine fUV (As := [.int T.2.2.1, .int 2, .int x3]) (rest := []) (st' := []) ⟨hx, hb, hml, hown, hts⟩ k9 (cwV 3 hts gX3_addStool_X3_setOfStool rfl rfl rfl (by decide +kernel) ⟨Nat.le_of_ble_eq_true rfl, Nat.le_of_ble_eq_true rfl⟩) hP hK hD hS [0, 1, 2] rfl rfl (by decide) rfl [(h, .inr (4, [.ref a, .ref b, .int n3.2.2.1, .int n3.2.2.2.1, .int n3.2.2.2.2.1, .int n3.2.2.2.2.2.1, .int n3.2.2.2.2.2.2.1, .int n3.2.2.2.2.2.2.2])), (a, .inl (cI, 72, .inl n3.1)), (b, .inl (cI, 36, .inl n3.2.1))] rfl rfl 0 (ci := 4) rfl rfl rfl rfl hl.1 rfl rfl (Nat.le_of_ble_eq_true rfl) ⟨Nat.zero_le _, Nat.zero_le _⟩ dX3_addStool_27 (fun H locs hP hD hS => ?_)
  refine lv_aload_n hx hb dX3_addStool_30 rfl (lv_at hl 1 rfl) ?_
  refine lv_iload hx hb dX3_addStool_31 (lv_at hl 0 rfl) ?_
  refine lv_iconst (v := 3) hx hb dX3_addStool_33 (by decide) ?_
  refine lv_iload hx hb dX3_addStool_34 (lv_at hl 5 rfl) ?_
  refine lv_if_eq (tgt := 43) hx hb dX3_addStool_36 (by decide) (fun c_36 => ?_) (fun c_36 => ?_)
  · refine lv_iconst (v := 0) hx hb dX3_addStool_43 (by decide) ?_
    obtain ⟨n4, en4⟩ : ∃ z9, z9 = (fX3_setOfStool n3 T.2.2.1 3 0) := ⟨_, rfl⟩
    have k9 := (kX3_setOfStool l D cI cC cT h a b n3 T.2.2.1 3 0)
    rw [← en4] at k9
    refine fUV (As := [.int T.2.2.1, .int 3, .int 0]) (rest := []) (st' := []) ⟨hx, hb, hml, hown, hts⟩ k9 (cwV 3 hts gX3_addStool_X3_setOfStool rfl rfl rfl (by decide +kernel) ⟨Nat.le_of_ble_eq_true rfl, Nat.le_of_ble_eq_true rfl⟩) hP hK hD hS [0, 1, 2] rfl rfl (by decide) rfl [(h, .inr (4, [.ref a, .ref b, .int n4.2.2.1, .int n4.2.2.2.1, .int n4.2.2.2.2.1, .int n4.2.2.2.2.2.1, .int n4.2.2.2.2.2.2.1, .int n4.2.2.2.2.2.2.2])), (a, .inl (cI, 72, .inl n4.1)), (b, .inl (cI, 36, .inl n4.2.1))] rfl rfl 0 (ci := 4) rfl rfl rfl rfl hl.1 rfl rfl (Nat.le_of_ble_eq_true rfl) ⟨Nat.zero_le _, Nat.zero_le _⟩ dX3_addStool_44 (fun H locs hP hD hS => ?_)
    refine lv_aload_n hx hb dX3_addStool_47 rfl (lv_at hl 1 rfl) ?_
    refine lv_iload hx hb dX3_addStool_48 (lv_at hl 0 rfl) ?_
    refine lv_iconst (v := 4) hx hb dX3_addStool_50 (by decide) ?_
    refine lv_iconst (v := 0) hx hb dX3_addStool_51 (by decide) ?_
    obtain ⟨n5, en5⟩ : ∃ z9, z9 = (fX3_setOfStool n4 T.2.2.1 4 0) := ⟨_, rfl⟩
    have k9 := (kX3_setOfStool l D cI cC cT h a b n4 T.2.2.1 4 0)
    rw [← en5] at k9
    refine fUV (As := [.int T.2.2.1, .int 4, .int 0]) (rest := []) (st' := []) ⟨hx, hb, hml, hown, hts⟩ k9 (cwV 3 hts gX3_addStool_X3_setOfStool rfl rfl rfl (by decide +kernel) ⟨Nat.le_of_ble_eq_true rfl, Nat.le_of_ble_eq_true rfl⟩) hP hK hD hS [0, 1, 2] rfl rfl (by decide) rfl [(h, .inr (4, [.ref a, .ref b, .int n5.2.2.1, .int n5.2.2.2.1, .int n5.2.2.2.2.1, .int n5.2.2.2.2.2.1, .int n5.2.2.2.2.2.2.1, .int n5.2.2.2.2.2.2.2])), (a, .inl (cI, 72, .inl n5.1)), (b, .inl (cI, 36, .inl n5.2.1))] rfl rfl 0 (ci := 4) rfl rfl rfl rfl hl.1 rfl rfl (Nat.le_of_ble_eq_true rfl) ⟨Nat.zero_le _, Nat.zero_le _⟩ dX3_addStool_52 (fun H locs hP hD hS => ?_)
    refine lv_aload_n hx hb dX3_addStool_55 rfl (lv_at hl 1 rfl) ?_
    refine lv_iload hx hb dX3_addStool_56 (lv_at hl 0 rfl) ?_
    refine lv_iconst (v := 5) hx hb dX3_addStool_58 (by decide) ?_
    refine lv_iconst (v := (-1)) hx hb dX3_addStool_59 (by decide) ?_
    obtain ⟨n6, en6⟩ : ∃ z9, z9 = (fX3_setOfStool n5 T.2.2.1 5 (-1)) := ⟨_, rfl⟩
    have k9 := (kX3_setOfStool l D cI cC cT h a b n5 T.2.2.1 5 (-1))
    rw [← en6] at k9
    refine fUV (As := [.int T.2.2.1, .int 5, .int (-1)]) (rest := []) (st' := []) ⟨hx, hb, hml, hown, hts⟩ k9 (cwV 3 hts gX3_addStool_X3_setOfStool rfl rfl rfl (by decide +kernel) ⟨Nat.le_of_ble_eq_true rfl, Nat.le_of_ble_eq_true rfl⟩) hP hK hD hS [0, 1, 2] rfl rfl (by decide) rfl [(h, .inr (4, [.ref a, .ref b, .int n6.2.2.1, .int n6.2.2.2.1, .int n6.2.2.2.2.1, .int n6.2.2.2.2.2.1, .int n6.2.2.2.2.2.2.1, .int n6.2.2.2.2.2.2.2])), (a, .inl (cI, 72, .inl n6.1)), (b, .inl (cI, 36, .inl n6.2.1))] rfl rfl 0 (ci := 4) rfl rfl rfl rfl hl.1 rfl rfl (Nat.le_of_ble_eq_true rfl) ⟨Nat.zero_le _, Nat.zero_le _⟩ dX3_addStool_60 (fun H locs hP hD hS => ?_)
    refine lv_aload_n hx hb dX3_addStool_63 rfl (lv_at hl 1 rfl) ?_
    refine lv_dup hx hb dX3_addStool_64 rfl ?_
    refine va_get (D := D) (ci := 4) (v := .int n6.2.2.1) (C := RX3) (T := TX3) (N := 8) hx hb hts q1 hown hK hP 0 rfl rfl 2 (by decide) q0 (fun _ h9 => h9) rfl dX3_addStool_65 ?_
    refine lv_iconst (v := 1) hx hb dX3_addStool_68 (by decide) ?_
    refine lv_iadd hx hb dX3_addStool_69 ?_
    refine va_put (D := D) (ci := 4) (v := .int (n6.2.2.1 + 1)) (ty := .int) (C := RX3) (T := TX3) (N := 8) hx hb hts q1 tyX3 tyX3_ok nmX3 hown hK hP hD hS 0 rfl rfl 2 (by decide) q0 (fun _ h9 => h9) rfl (by decide +kernel) rfl rfl (Nat.le_of_ble_eq_true rfl) dX3_addStool_70 (fun H locs hP hD hS => ?_)
    have hP : va_P D vwCl [(h, .inr (4, [.ref a, .ref b, .int (n6.2.2.1 + 1), .int n6.2.2.2.1, .int n6.2.2.2.2.1, .int n6.2.2.2.2.2.1, .int n6.2.2.2.2.2.2.1, .int n6.2.2.2.2.2.2.2])), (a, .inl (cI, 72, .inl n6.1)), (b, .inl (cI, 36, .inl n6.2.1))] H := hP
    have hD : va_D A [(h, .inr (4, [.ref a, .ref b, .int (n6.2.2.1 + 1), .int n6.2.2.2.1, .int n6.2.2.2.2.1, .int n6.2.2.2.2.2.1, .int n6.2.2.2.2.2.2.1, .int n6.2.2.2.2.2.2.2])), (a, .inl (cI, 72, .inl n6.1)), (b, .inl (cI, 36, .inl n6.2.1))] := hD
    refine lv_iload hx hb dX3_addStool_73 (lv_at hl 0 rfl) ?_
    have e9 : fX3_addStool T x1 x2 x3 x4 = (T.2.2.1, (n6.1, n6.2.1, (n6.2.2.1 + 1), n6.2.2.2.1, n6.2.2.2.2.1, n6.2.2.2.2.2.1, n6.2.2.2.2.2.2.1, n6.2.2.2.2.2.2.2)) := by rw [fX3_addStool, ← en1, ← en2, ← en3, if_pos c_36, ← en4, ← en5, ← en6]
    exact rUi hx hb hr hlk hQ hP hS (by rw [e9]) (congrArg (fun z9 : (Int32 × TV) => w3 cI h a b z9.2) e9).symm rfl dX3_addStool_75
  · refine lv_iconst (v := 1) hx hb dX3_addStool_39 (by decide) ?_
    refine lv_goto (tgt := 44) hx hb dX3_addStool_40 (by decide) ?_
    obtain ⟨n7, en7⟩ : ∃ z9, z9 = (fX3_setOfStool n3 T.2.2.1 3 1) := ⟨_, rfl⟩
    have k9 := (kX3_setOfStool l D cI cC cT h a b n3 T.2.2.1 3 1)
    rw [← en7] at k9
    refine fUV (As := [.int T.2.2.1, .int 3, .int 1]) (rest := []) (st' := []) ⟨hx, hb, hml, hown, hts⟩ k9 (cwV 3 hts gX3_addStool_X3_setOfStool rfl rfl rfl (by decide +kernel) ⟨Nat.le_of_ble_eq_true rfl, Nat.le_of_ble_eq_true rfl⟩) hP hK hD hS [0, 1, 2] rfl rfl (by decide) rfl [(h, .inr (4, [.ref a, .ref b, .int n7.2.2.1, .int n7.2.2.2.1, .int n7.2.2.2.2.1, .int n7.2.2.2.2.2.1, .int n7.2.2.2.2.2.2.1, .int n7.2.2.2.2.2.2.2])), (a, .inl (cI, 72, .inl n7.1)), (b, .inl (cI, 36, .inl n7.2.1))] rfl rfl 0 (ci := 4) rfl rfl rfl rfl hl.1 rfl rfl (Nat.le_of_ble_eq_true rfl) ⟨Nat.zero_le _, Nat.zero_le _⟩ dX3_addStool_44 (fun H locs hP hD hS => ?_)
    refine lv_aload_n hx hb dX3_addStool_47 rfl (lv_at hl 1 rfl) ?_
    refine lv_iload hx hb dX3_addStool_48 (lv_at hl 0 rfl) ?_
    refine lv_iconst (v := 4) hx hb dX3_addStool_50 (by decide) ?_
    refine lv_iconst (v := 0) hx hb dX3_addStool_51 (by decide) ?_
    obtain ⟨n8, en8⟩ : ∃ z9, z9 = (fX3_setOfStool n7 T.2.2.1 4 0) := ⟨_, rfl⟩
    have k9 := (kX3_setOfStool l D cI cC cT h a b n7 T.2.2.1 4 0)
    rw [← en8] at k9
    refine fUV (As := [.int T.2.2.1, .int 4, .int 0]) (rest := []) (st' := []) ⟨hx, hb, hml, hown, hts⟩ k9 (cwV 3 hts gX3_addStool_X3_setOfStool rfl rfl rfl (by decide +kernel) ⟨Nat.le_of_ble_eq_true rfl, Nat.le_of_ble_eq_true rfl⟩) hP hK hD hS [0, 1, 2] rfl rfl (by decide) rfl [(h, .inr (4, [.ref a, .ref b, .int n8.2.2.1, .int n8.2.2.2.1, .int n8.2.2.2.2.1, .int n8.2.2.2.2.2.1, .int n8.2.2.2.2.2.2.1, .int n8.2.2.2.2.2.2.2])), (a, .inl (cI, 72, .inl n8.1)), (b, .inl (cI, 36, .inl n8.2.1))] rfl rfl 0 (ci := 4) rfl rfl rfl rfl hl.1 rfl rfl (Nat.le_of_ble_eq_true rfl) ⟨Nat.zero_le _, Nat.zero_le _⟩ dX3_addStool_52 (fun H locs hP hD hS => ?_)
    refine lv_aload_n hx hb dX3_addStool_55 rfl (lv_at hl 1 rfl) ?_
    refine lv_iload hx hb dX3_addStool_56 (lv_at hl 0 rfl) ?_
    refine lv_iconst (v := 5) hx hb dX3_addStool_58 (by decide) ?_
    refine lv_iconst (v := (-1)) hx hb dX3_addStool_59 (by decide) ?_
    obtain ⟨n9, en9⟩ : ∃ z9, z9 = (fX3_setOfStool n8 T.2.2.1 5 (-1)) := ⟨_, rfl⟩
    have k9 := (kX3_setOfStool l D cI cC cT h a b n8 T.2.2.1 5 (-1))
    rw [← en9] at k9
    refine fUV (As := [.int T.2.2.1, .int 5, .int (-1)]) (rest := []) (st' := []) ⟨hx, hb, hml, hown, hts⟩ k9 (cwV 3 hts gX3_addStool_X3_setOfStool rfl rfl rfl (by decide +kernel) ⟨Nat.le_of_ble_eq_true rfl, Nat.le_of_ble_eq_true rfl⟩) hP hK hD hS [0, 1, 2] rfl rfl (by decide) rfl [(h, .inr (4, [.ref a, .ref b, .int n9.2.2.1, .int n9.2.2.2.1, .int n9.2.2.2.2.1, .int n9.2.2.2.2.2.1, .int n9.2.2.2.2.2.2.1, .int n9.2.2.2.2.2.2.2])), (a, .inl (cI, 72, .inl n9.1)), (b, .inl (cI, 36, .inl n9.2.1))] rfl rfl 0 (ci := 4) rfl rfl rfl rfl hl.1 rfl rfl (Nat.le_of_ble_eq_true rfl) ⟨Nat.zero_le _, Nat.zero_le _⟩ dX3_addStool_60 (fun H locs hP hD hS => ?_)
    refine lv_aload_n hx hb dX3_addStool_63 rfl (lv_at hl 1 rfl) ?_
    refine lv_dup hx hb dX3_addStool_64 rfl ?_
    refine va_get (D := D) (ci := 4) (v := .int n9.2.2.1) (C := RX3) (T := TX3) (N := 8) hx hb hts q1 hown hK hP 0 rfl rfl 2 (by decide) q0 (fun _ h9 => h9) rfl dX3_addStool_65 ?_
    refine lv_iconst (v := 1) hx hb dX3_addStool_68 (by decide) ?_
    refine lv_iadd hx hb dX3_addStool_69 ?_
    refine va_put (D := D) (ci := 4) (v := .int (n9.2.2.1 + 1)) (ty := .int) (C := RX3) (T := TX3) (N := 8) hx hb hts q1 tyX3 tyX3_ok nmX3 hown hK hP hD hS 0 rfl rfl 2 (by decide) q0 (fun _ h9 => h9) rfl (by decide +kernel) rfl rfl (Nat.le_of_ble_eq_true rfl) dX3_addStool_70 (fun H locs hP hD hS => ?_)
    have hP : va_P D vwCl [(h, .inr (4, [.ref a, .ref b, .int (n9.2.2.1 + 1), .int n9.2.2.2.1, .int n9.2.2.2.2.1, .int n9.2.2.2.2.2.1, .int n9.2.2.2.2.2.2.1, .int n9.2.2.2.2.2.2.2])), (a, .inl (cI, 72, .inl n9.1)), (b, .inl (cI, 36, .inl n9.2.1))] H := hP
    have hD : va_D A [(h, .inr (4, [.ref a, .ref b, .int (n9.2.2.1 + 1), .int n9.2.2.2.1, .int n9.2.2.2.2.1, .int n9.2.2.2.2.2.1, .int n9.2.2.2.2.2.2.1, .int n9.2.2.2.2.2.2.2])), (a, .inl (cI, 72, .inl n9.1)), (b, .inl (cI, 36, .inl n9.2.1))] := hD
    refine lv_iload hx hb dX3_addStool_73 (lv_at hl 0 rfl) ?_
    have e9 : fX3_addStool T x1 x2 x3 x4 = (T.2.2.1, (n9.1, n9.2.1, (n9.2.2.1 + 1), n9.2.2.2.1, n9.2.2.2.2.1, n9.2.2.2.2.2.1, n9.2.2.2.2.2.2.1, n9.2.2.2.2.2.2.2)) := by rw [fX3_addStool, ← en1, ← en2, ← en3, if_neg c_36, ← en7, ← en8, ← en9]
    exact rUi hx hb hr hlk hQ hP hS (by rw [e9]) (congrArg (fun z9 : (Int32 × TV) => w3 cI h a b z9.2) e9).symm rfl dX3_addStool_75
def fX3_addSitter (T : TV) (x1 : Int32) (x2 : Int32) : (Int32 × TV) := (T.2.2.2.1, ((fX3_setOfSitter (fX3_setOfSitter (fX3_setOfSitter T T.2.2.2.1 0 x1) T.2.2.2.1 1 x2) T.2.2.2.1 2 (-1)).1, (fX3_setOfSitter (fX3_setOfSitter (fX3_setOfSitter T T.2.2.2.1 0 x1) T.2.2.2.1 1 x2) T.2.2.2.1 2 (-1)).2.1, (fX3_setOfSitter (fX3_setOfSitter (fX3_setOfSitter T T.2.2.2.1 0 x1) T.2.2.2.1 1 x2) T.2.2.2.1 2 (-1)).2.2.1, ((fX3_setOfSitter (fX3_setOfSitter (fX3_setOfSitter T T.2.2.2.1 0 x1) T.2.2.2.1 1 x2) T.2.2.2.1 2 (-1)).2.2.2.1 + 1), (fX3_setOfSitter (fX3_setOfSitter (fX3_setOfSitter T T.2.2.2.1 0 x1) T.2.2.2.1 1 x2) T.2.2.2.1 2 (-1)).2.2.2.2.1, (fX3_setOfSitter (fX3_setOfSitter (fX3_setOfSitter T T.2.2.2.1 0 x1) T.2.2.2.1 1 x2) T.2.2.2.1 2 (-1)).2.2.2.2.2.1, (fX3_setOfSitter (fX3_setOfSitter (fX3_setOfSitter T T.2.2.2.1 0 x1) T.2.2.2.1 1 x2) T.2.2.2.1 2 (-1)).2.2.2.2.2.2.1, (fX3_setOfSitter (fX3_setOfSitter (fX3_setOfSitter T T.2.2.2.1 0 x1) T.2.2.2.1 1 x2) T.2.2.2.1 2 (-1)).2.2.2.2.2.2.2))
abbrev rmX3_addSitter : Room := { frames := 1, cells := 0, slots := 0, locals := 23 }
set_option maxHeartbeats 4000000 in
set_option maxRecDepth 100000 in
theorem kX3_addSitter (l : Launch) (D : va_G) (cI cC cT : ClassId) (h a b : Nat) (T : TV) (x1 : Int32) (x2 : Int32)  : mU l D (TY cI cC cT) yX3_addSitter wsX3_addSitter rmX3_addSitter [.ref h, .int x1, .int x2] (w3 cI h a b T) (some (.int (fX3_addSitter T x1 x2).1)) (w3 cI h a b (fX3_addSitter T x1 x2).2) := by
  refine mU.ofW (cc := cX3_addSitter) (maxL := 4) (ret := (some .int)) (by decide) rfl (Nat.le_of_ble_eq_true rfl) ?_
  intro p e s m args below meth c Q ls A hx hb hml hr hlk hts hown hP hK hD hS hl hQ
  have hown : s.vm.findClass RX3 = some m.cls := hown
  have hP : va_P D vwCl [(h, .inr (4, [.ref a, .ref b, .int T.2.2.1, .int T.2.2.2.1, .int T.2.2.2.2.1, .int T.2.2.2.2.2.1, .int T.2.2.2.2.2.2.1, .int T.2.2.2.2.2.2.2])), (a, .inl (cI, 72, .inl T.1)), (b, .inl (cI, 36, .inl T.2.1))] s.heap := hP
  have hD : va_D A [(h, .inr (4, [.ref a, .ref b, .int T.2.2.1, .int T.2.2.2.1, .int T.2.2.2.2.1, .int T.2.2.2.2.2.1, .int T.2.2.2.2.2.2.1, .int T.2.2.2.2.2.2.2])), (a, .inl (cI, 72, .inl T.1)), (b, .inl (cI, 36, .inl T.2.1))] := hD
  have hl : lv_has ls 4 [(0, .ref h), (1, .int x1), (2, .int x2)] := hl
  have q0 := hts (Cond.fieldLink RX3 22 "TavernStools$Tavern" "sitters" "I") (by decide +kernel)
  have q1 : ∀ w ∈ u_ws RX3 TX3 8, w ∈ wsX3_addSitter := by decide +kernel
  generalize hHe : s.heap = H at hP ⊢
  have hS : va_S A s.heap H [] := hHe ▸ hS
  generalize hLe : ([] : List Loc) = locs at hS ⊢
  refine lv_aload_n hx hb dX3_addSitter_0 rfl (lv_at hl 0 rfl) ?_
  refine va_get (D := D) (ci := 4) (v := .int T.2.2.2.1) (C := RX3) (T := TX3) (N := 8) hx hb hts q1 hown hK hP 0 rfl rfl 3 (by decide) q0 (fun _ h9 => h9) rfl dX3_addSitter_1 ?_
  refine lv_istore_n (lv' := [(3, .int T.2.2.2.1), (0, .ref h), (1, .int x1), (2, .int x2)]) hx hb dX3_addSitter_4 rfl hl (by decide) rfl (fun ls hl => ?_)
  refine lv_aload_n hx hb dX3_addSitter_5 rfl (lv_at hl 1 rfl) ?_
  refine lv_iload_n hx hb dX3_addSitter_6 rfl (lv_at hl 0 rfl) ?_
  refine lv_iconst (v := 0) hx hb dX3_addSitter_7 (by decide) ?_
  refine lv_iload_n hx hb dX3_addSitter_8 rfl (lv_at hl 2 rfl) ?_
  obtain ⟨n1, en1⟩ : ∃ z9, z9 = (fX3_setOfSitter T T.2.2.2.1 0 x1) := ⟨_, rfl⟩
  have k9 := (kX3_setOfSitter l D cI cC cT h a b T T.2.2.2.1 0 x1)
  rw [← en1] at k9
  refine fUV (As := [.int T.2.2.2.1, .int 0, .int x1]) (rest := []) (st' := []) ⟨hx, hb, hml, hown, hts⟩ k9 (cwV 3 hts gX3_addSitter_X3_setOfSitter rfl rfl rfl (by decide +kernel) ⟨Nat.le_of_ble_eq_true rfl, Nat.le_of_ble_eq_true rfl⟩) hP hK hD hS [0, 1, 2] rfl rfl (by decide) rfl [(h, .inr (4, [.ref a, .ref b, .int n1.2.2.1, .int n1.2.2.2.1, .int n1.2.2.2.2.1, .int n1.2.2.2.2.2.1, .int n1.2.2.2.2.2.2.1, .int n1.2.2.2.2.2.2.2])), (a, .inl (cI, 72, .inl n1.1)), (b, .inl (cI, 36, .inl n1.2.1))] rfl rfl 0 (ci := 4) rfl rfl rfl rfl hl.1 rfl rfl (Nat.le_of_ble_eq_true rfl) ⟨Nat.zero_le _, Nat.zero_le _⟩ dX3_addSitter_9 (fun H locs hP hD hS => ?_)
  refine lv_aload_n hx hb dX3_addSitter_12 rfl (lv_at hl 1 rfl) ?_
  refine lv_iload_n hx hb dX3_addSitter_13 rfl (lv_at hl 0 rfl) ?_
  refine lv_iconst (v := 1) hx hb dX3_addSitter_14 (by decide) ?_
  refine lv_iload_n hx hb dX3_addSitter_15 rfl (lv_at hl 3 rfl) ?_
  obtain ⟨n2, en2⟩ : ∃ z9, z9 = (fX3_setOfSitter n1 T.2.2.2.1 1 x2) := ⟨_, rfl⟩
  have k9 := (kX3_setOfSitter l D cI cC cT h a b n1 T.2.2.2.1 1 x2)
  rw [← en2] at k9
  refine fUV (As := [.int T.2.2.2.1, .int 1, .int x2]) (rest := []) (st' := []) ⟨hx, hb, hml, hown, hts⟩ k9 (cwV 3 hts gX3_addSitter_X3_setOfSitter rfl rfl rfl (by decide +kernel) ⟨Nat.le_of_ble_eq_true rfl, Nat.le_of_ble_eq_true rfl⟩) hP hK hD hS [0, 1, 2] rfl rfl (by decide) rfl [(h, .inr (4, [.ref a, .ref b, .int n2.2.2.1, .int n2.2.2.2.1, .int n2.2.2.2.2.1, .int n2.2.2.2.2.2.1, .int n2.2.2.2.2.2.2.1, .int n2.2.2.2.2.2.2.2])), (a, .inl (cI, 72, .inl n2.1)), (b, .inl (cI, 36, .inl n2.2.1))] rfl rfl 0 (ci := 4) rfl rfl rfl rfl hl.1 rfl rfl (Nat.le_of_ble_eq_true rfl) ⟨Nat.zero_le _, Nat.zero_le _⟩ dX3_addSitter_16 (fun H locs hP hD hS => ?_)
  refine lv_aload_n hx hb dX3_addSitter_19 rfl (lv_at hl 1 rfl) ?_
  refine lv_iload_n hx hb dX3_addSitter_20 rfl (lv_at hl 0 rfl) ?_
  refine lv_iconst (v := 2) hx hb dX3_addSitter_21 (by decide) ?_
  refine lv_iconst (v := (-1)) hx hb dX3_addSitter_22 (by decide) ?_
  obtain ⟨n3, en3⟩ : ∃ z9, z9 = (fX3_setOfSitter n2 T.2.2.2.1 2 (-1)) := ⟨_, rfl⟩
  have k9 := (kX3_setOfSitter l D cI cC cT h a b n2 T.2.2.2.1 2 (-1))
  rw [← en3] at k9
  refine fUV (As := [.int T.2.2.2.1, .int 2, .int (-1)]) (rest := []) (st' := []) ⟨hx, hb, hml, hown, hts⟩ k9 (cwV 3 hts gX3_addSitter_X3_setOfSitter rfl rfl rfl (by decide +kernel) ⟨Nat.le_of_ble_eq_true rfl, Nat.le_of_ble_eq_true rfl⟩) hP hK hD hS [0, 1, 2] rfl rfl (by decide) rfl [(h, .inr (4, [.ref a, .ref b, .int n3.2.2.1, .int n3.2.2.2.1, .int n3.2.2.2.2.1, .int n3.2.2.2.2.2.1, .int n3.2.2.2.2.2.2.1, .int n3.2.2.2.2.2.2.2])), (a, .inl (cI, 72, .inl n3.1)), (b, .inl (cI, 36, .inl n3.2.1))] rfl rfl 0 (ci := 4) rfl rfl rfl rfl hl.1 rfl rfl (Nat.le_of_ble_eq_true rfl) ⟨Nat.zero_le _, Nat.zero_le _⟩ dX3_addSitter_23 (fun H locs hP hD hS => ?_)
  refine lv_aload_n hx hb dX3_addSitter_26 rfl (lv_at hl 1 rfl) ?_
  refine lv_dup hx hb dX3_addSitter_27 rfl ?_
  refine va_get (D := D) (ci := 4) (v := .int n3.2.2.2.1) (C := RX3) (T := TX3) (N := 8) hx hb hts q1 hown hK hP 0 rfl rfl 3 (by decide) q0 (fun _ h9 => h9) rfl dX3_addSitter_28 ?_
  refine lv_iconst (v := 1) hx hb dX3_addSitter_31 (by decide) ?_
  refine lv_iadd hx hb dX3_addSitter_32 ?_
  refine va_put (D := D) (ci := 4) (v := .int (n3.2.2.2.1 + 1)) (ty := .int) (C := RX3) (T := TX3) (N := 8) hx hb hts q1 tyX3 tyX3_ok nmX3 hown hK hP hD hS 0 rfl rfl 3 (by decide) q0 (fun _ h9 => h9) rfl (by decide +kernel) rfl rfl (Nat.le_of_ble_eq_true rfl) dX3_addSitter_33 (fun H locs hP hD hS => ?_)
  have hP : va_P D vwCl [(h, .inr (4, [.ref a, .ref b, .int n3.2.2.1, .int (n3.2.2.2.1 + 1), .int n3.2.2.2.2.1, .int n3.2.2.2.2.2.1, .int n3.2.2.2.2.2.2.1, .int n3.2.2.2.2.2.2.2])), (a, .inl (cI, 72, .inl n3.1)), (b, .inl (cI, 36, .inl n3.2.1))] H := hP
  have hD : va_D A [(h, .inr (4, [.ref a, .ref b, .int n3.2.2.1, .int (n3.2.2.2.1 + 1), .int n3.2.2.2.2.1, .int n3.2.2.2.2.2.1, .int n3.2.2.2.2.2.2.1, .int n3.2.2.2.2.2.2.2])), (a, .inl (cI, 72, .inl n3.1)), (b, .inl (cI, 36, .inl n3.2.1))] := hD
  refine lv_iload_n hx hb dX3_addSitter_36 rfl (lv_at hl 0 rfl) ?_
  have e9 : fX3_addSitter T x1 x2 = (T.2.2.2.1, (n3.1, n3.2.1, n3.2.2.1, (n3.2.2.2.1 + 1), n3.2.2.2.2.1, n3.2.2.2.2.2.1, n3.2.2.2.2.2.2.1, n3.2.2.2.2.2.2.2)) := by rw [fX3_addSitter, ← en1, ← en2, ← en3]
  exact rUi hx hb hr hlk hQ hP hS (by rw [e9]) (congrArg (fun z9 : (Int32 × TV) => w3 cI h a b z9.2) e9).symm rfl dX3_addSitter_37
def fX3_sits (T : TV) (x1 : Int32) : Int32 := (if (fX3_ofSitter T x1 2) = (-1) then 0 else 1)
abbrev rmX3_sits : Room := { frames := 1, cells := 0, slots := 0, locals := 22 }
set_option maxHeartbeats 4000000 in
set_option maxRecDepth 100000 in
theorem kX3_sits (l : Launch) (D : va_G) (cI cC cT : ClassId) (h a b : Nat) (T : TV) (x1 : Int32)  : mR l D (TY cI cC cT) yX3_sits wsX3_sits rmX3_sits [.ref h, .int x1] (w3 cI h a b T) (some (.int (fX3_sits T x1))) := by
  refine mR.ofW (cc := cX3_sits) (maxL := 2) (ret := (some .boolean)) (by decide) rfl (Nat.le_of_ble_eq_true rfl) ?_
  intro p e s m args below meth c Q ls hx hb hml hr hlk hts hown hP hK hl hQ
  have hown : s.vm.findClass RX3 = some m.cls := hown
  have hP : va_P D vwCl [(h, .inr (4, [.ref a, .ref b, .int T.2.2.1, .int T.2.2.2.1, .int T.2.2.2.2.1, .int T.2.2.2.2.2.1, .int T.2.2.2.2.2.2.1, .int T.2.2.2.2.2.2.2])), (a, .inl (cI, 72, .inl T.1)), (b, .inl (cI, 36, .inl T.2.1))] s.heap := hP
  have hl : lv_has ls 2 [(0, .ref h), (1, .int x1)] := hl
  refine lv_aload_n hx hb dX3_sits_0 rfl (lv_at hl 0 rfl) ?_
  refine lv_iload_n hx hb dX3_sits_1 rfl (lv_at hl 1 rfl) ?_
  refine lv_iconst (v := 2) hx hb dX3_sits_2 (by decide) ?_
  refine fRV (As := [.int x1, .int 2]) (rest := []) (st' := [.int (fX3_ofSitter T x1 2)]) ⟨hx, hb, hml, hown, hts⟩ (kX3_ofSitter l D cI cC cT h a b T x1 2) (cwV 2 hts gX3_sits_X3_ofSitter rfl rfl rfl (by decide +kernel) ⟨Nat.le_of_ble_eq_true rfl, Nat.le_of_ble_eq_true rfl⟩) hP hK [0, 1, 2] rfl 0 (ci := 4) rfl rfl rfl rfl hl.1 rfl rfl (Nat.le_of_ble_eq_true rfl) ⟨Nat.zero_le _, Nat.zero_le _⟩ dX3_sits_3 ?_
  refine lv_iconst (v := (-1)) hx hb dX3_sits_6 (by decide) ?_
  refine lv_icmp_eq (tgt := 14) hx hb dX3_sits_7 (by decide) (fun c_7 => ?_) (fun c_7 => ?_)
  · refine lv_iconst (v := 0) hx hb dX3_sits_14 (by decide) ?_
    exact rRi hx hb hr hlk hQ (by rw [fX3_sits, if_pos c_7]) rfl dX3_sits_15
  · refine lv_iconst (v := 1) hx hb dX3_sits_10 (by decide) ?_
    refine lv_goto (tgt := 15) hx hb dX3_sits_11 (by decide) ?_
    exact rRi hx hb hr hlk hQ (by rw [fX3_sits, if_neg c_7]) rfl dX3_sits_15
theorem zX3_sits (T : TV) (x1 : Int32) : (fX3_sits T x1) = 0 ∨ (fX3_sits T x1) = 1 := by
  unfold fX3_sits
  repeat' split
  all_goals first | exact Or.inl rfl | exact Or.inr rfl
def fX3_maySit (T : TV) (x1 : Int32) (x2 : Int32) : Int32 := (if 0 < (fX3_ofSitter T x1 0) then 1 else (if (fX3_ofStool T x2 3) = 0 then 1 else 0))
abbrev rmX3_maySit : Room := { frames := 1, cells := 0, slots := 0, locals := 22 }
set_option maxHeartbeats 4000000 in
set_option maxRecDepth 100000 in
theorem kX3_maySit (l : Launch) (D : va_G) (cI cC cT : ClassId) (h a b : Nat) (T : TV) (x1 : Int32) (x2 : Int32)  : mR l D (TY cI cC cT) yX3_maySit wsX3_maySit rmX3_maySit [.ref h, .int x1, .int x2] (w3 cI h a b T) (some (.int (fX3_maySit T x1 x2))) := by
  refine mR.ofW (cc := cX3_maySit) (maxL := 3) (ret := (some .boolean)) (by decide) rfl (Nat.le_of_ble_eq_true rfl) ?_
  intro p e s m args below meth c Q ls hx hb hml hr hlk hts hown hP hK hl hQ
  have hown : s.vm.findClass RX3 = some m.cls := hown
  have hP : va_P D vwCl [(h, .inr (4, [.ref a, .ref b, .int T.2.2.1, .int T.2.2.2.1, .int T.2.2.2.2.1, .int T.2.2.2.2.2.1, .int T.2.2.2.2.2.2.1, .int T.2.2.2.2.2.2.2])), (a, .inl (cI, 72, .inl T.1)), (b, .inl (cI, 36, .inl T.2.1))] s.heap := hP
  have hl : lv_has ls 3 [(0, .ref h), (1, .int x1), (2, .int x2)] := hl
  refine lv_aload_n hx hb dX3_maySit_0 rfl (lv_at hl 0 rfl) ?_
  refine lv_iload_n hx hb dX3_maySit_1 rfl (lv_at hl 1 rfl) ?_
  refine lv_iconst (v := 0) hx hb dX3_maySit_2 (by decide) ?_
  refine fRV (As := [.int x1, .int 0]) (rest := []) (st' := [.int (fX3_ofSitter T x1 0)]) ⟨hx, hb, hml, hown, hts⟩ (kX3_ofSitter l D cI cC cT h a b T x1 0) (cwV 2 hts gX3_maySit_X3_ofSitter rfl rfl rfl (by decide +kernel) ⟨Nat.le_of_ble_eq_true rfl, Nat.le_of_ble_eq_true rfl⟩) hP hK [0, 1, 2] rfl 0 (ci := 4) rfl rfl rfl rfl hl.1 rfl rfl (Nat.le_of_ble_eq_true rfl) ⟨Nat.zero_le _, Nat.zero_le _⟩ dX3_maySit_3 ?_
  refine lv_if_gt (tgt := 18) hx hb dX3_maySit_6 (by decide) (fun c_6 => ?_) (fun c_6 => ?_)
  · refine lv_iconst (v := 1) hx hb dX3_maySit_18 (by decide) ?_
    refine lv_goto (tgt := 23) hx hb dX3_maySit_19 (by decide) ?_
    exact rRi hx hb hr hlk hQ (by rw [fX3_maySit, if_pos c_6]) rfl dX3_maySit_23
  · refine lv_aload_n hx hb dX3_maySit_9 rfl (lv_at hl 0 rfl) ?_
    refine lv_iload_n hx hb dX3_maySit_10 rfl (lv_at hl 2 rfl) ?_
    refine lv_iconst (v := 3) hx hb dX3_maySit_11 (by decide) ?_
    refine fRV (As := [.int x2, .int 3]) (rest := []) (st' := [.int (fX3_ofStool T x2 3)]) ⟨hx, hb, hml, hown, hts⟩ (kX3_ofStool l D cI cC cT h a b T x2 3) (cwV 2 hts gX3_maySit_X3_ofStool rfl rfl rfl (by decide +kernel) ⟨Nat.le_of_ble_eq_true rfl, Nat.le_of_ble_eq_true rfl⟩) hP hK [0, 1, 2] rfl 0 (ci := 4) rfl rfl rfl rfl hl.1 rfl rfl (Nat.le_of_ble_eq_true rfl) ⟨Nat.zero_le _, Nat.zero_le _⟩ dX3_maySit_12 ?_
    refine lv_if_ne (tgt := 22) hx hb dX3_maySit_15 (by decide) (fun c_15 => ?_) (fun c_15 => ?_)
    · refine lv_iconst (v := 0) hx hb dX3_maySit_22 (by decide) ?_
      exact rRi hx hb hr hlk hQ (by rw [fX3_maySit, if_neg c_6, if_neg c_15]) rfl dX3_maySit_23
    · refine lv_iconst (v := 1) hx hb dX3_maySit_18 (by decide) ?_
      refine lv_goto (tgt := 23) hx hb dX3_maySit_19 (by decide) ?_
      exact rRi hx hb hr hlk hQ (by rw [fX3_maySit, if_neg c_6, if_pos c_15]) rfl dX3_maySit_23
theorem zX3_maySit (T : TV) (x1 : Int32) (x2 : Int32) : (fX3_maySit T x1 x2) = 0 ∨ (fX3_maySit T x1 x2) = 1 := by
  unfold fX3_maySit
  repeat' split
  all_goals first | exact Or.inl rfl | exact Or.inr rfl
def fX3_take (T : TV) (x1 : Int32) (x2 : Int32) : TV := (fX3_setOfStool (fX3_setOfSitter T x1 2 x2) x2 5 x1)
abbrev rmX3_take : Room := { frames := 1, cells := 0, slots := 0, locals := 23 }
set_option maxHeartbeats 4000000 in
set_option maxRecDepth 100000 in
theorem kX3_take (l : Launch) (D : va_G) (cI cC cT : ClassId) (h a b : Nat) (T : TV) (x1 : Int32) (x2 : Int32)  : mU l D (TY cI cC cT) yX3_take wsX3_take rmX3_take [.ref h, .int x1, .int x2] (w3 cI h a b T) none (w3 cI h a b (fX3_take T x1 x2)) := by
  refine mU.ofW (cc := cX3_take) (maxL := 3) (ret := none) (by decide) rfl (Nat.le_of_ble_eq_true rfl) ?_
  intro p e s m args below meth c Q ls A hx hb hml hr hlk hts hown hP hK hD hS hl hQ
  have hown : s.vm.findClass RX3 = some m.cls := hown
  have hP : va_P D vwCl [(h, .inr (4, [.ref a, .ref b, .int T.2.2.1, .int T.2.2.2.1, .int T.2.2.2.2.1, .int T.2.2.2.2.2.1, .int T.2.2.2.2.2.2.1, .int T.2.2.2.2.2.2.2])), (a, .inl (cI, 72, .inl T.1)), (b, .inl (cI, 36, .inl T.2.1))] s.heap := hP
  have hD : va_D A [(h, .inr (4, [.ref a, .ref b, .int T.2.2.1, .int T.2.2.2.1, .int T.2.2.2.2.1, .int T.2.2.2.2.2.1, .int T.2.2.2.2.2.2.1, .int T.2.2.2.2.2.2.2])), (a, .inl (cI, 72, .inl T.1)), (b, .inl (cI, 36, .inl T.2.1))] := hD
  have hl : lv_has ls 3 [(0, .ref h), (1, .int x1), (2, .int x2)] := hl
  generalize hHe : s.heap = H at hP ⊢
  have hS : va_S A s.heap H [] := hHe ▸ hS
  generalize hLe : ([] : List Loc) = locs at hS ⊢
  refine lv_aload_n hx hb dX3_take_0 rfl (lv_at hl 0 rfl) ?_
  refine lv_iload_n hx hb dX3_take_1 rfl (lv_at hl 1 rfl) ?_
  refine lv_iconst (v := 2) hx hb dX3_take_2 (by decide) ?_
  refine lv_iload_n hx hb dX3_take_3 rfl (lv_at hl 2 rfl) ?_
  obtain ⟨n1, en1⟩ : ∃ z9, z9 = (fX3_setOfSitter T x1 2 x2) := ⟨_, rfl⟩
  have k9 := (kX3_setOfSitter l D cI cC cT h a b T x1 2 x2)
  rw [← en1] at k9
  refine fUV (As := [.int x1, .int 2, .int x2]) (rest := []) (st' := []) ⟨hx, hb, hml, hown, hts⟩ k9 (cwV 3 hts gX3_take_X3_setOfSitter rfl rfl rfl (by decide +kernel) ⟨Nat.le_of_ble_eq_true rfl, Nat.le_of_ble_eq_true rfl⟩) hP hK hD hS [0, 1, 2] rfl rfl (by decide) rfl [(h, .inr (4, [.ref a, .ref b, .int n1.2.2.1, .int n1.2.2.2.1, .int n1.2.2.2.2.1, .int n1.2.2.2.2.2.1, .int n1.2.2.2.2.2.2.1, .int n1.2.2.2.2.2.2.2])), (a, .inl (cI, 72, .inl n1.1)), (b, .inl (cI, 36, .inl n1.2.1))] rfl rfl 0 (ci := 4) rfl rfl rfl rfl hl.1 rfl rfl (Nat.le_of_ble_eq_true rfl) ⟨Nat.zero_le _, Nat.zero_le _⟩ dX3_take_4 (fun H locs hP hD hS => ?_)
  refine lv_aload_n hx hb dX3_take_7 rfl (lv_at hl 0 rfl) ?_
  refine lv_iload_n hx hb dX3_take_8 rfl (lv_at hl 2 rfl) ?_
  refine lv_iconst (v := 5) hx hb dX3_take_9 (by decide) ?_
  refine lv_iload_n hx hb dX3_take_10 rfl (lv_at hl 1 rfl) ?_
  obtain ⟨n2, en2⟩ : ∃ z9, z9 = (fX3_setOfStool n1 x2 5 x1) := ⟨_, rfl⟩
  have k9 := (kX3_setOfStool l D cI cC cT h a b n1 x2 5 x1)
  rw [← en2] at k9
  refine fUV (As := [.int x2, .int 5, .int x1]) (rest := []) (st' := []) ⟨hx, hb, hml, hown, hts⟩ k9 (cwV 3 hts gX3_take_X3_setOfStool rfl rfl rfl (by decide +kernel) ⟨Nat.le_of_ble_eq_true rfl, Nat.le_of_ble_eq_true rfl⟩) hP hK hD hS [0, 1, 2] rfl rfl (by decide) rfl [(h, .inr (4, [.ref a, .ref b, .int n2.2.2.1, .int n2.2.2.2.1, .int n2.2.2.2.2.1, .int n2.2.2.2.2.2.1, .int n2.2.2.2.2.2.2.1, .int n2.2.2.2.2.2.2.2])), (a, .inl (cI, 72, .inl n2.1)), (b, .inl (cI, 36, .inl n2.2.1))] rfl rfl 0 (ci := 4) rfl rfl rfl rfl hl.1 rfl rfl (Nat.le_of_ble_eq_true rfl) ⟨Nat.zero_le _, Nat.zero_le _⟩ dX3_take_11 (fun H locs hP hD hS => ?_)
  have e9 : fX3_take T x1 x2 = n2 := by rw [fX3_take, ← en1, ← en2]
  exact rUv hx hb hr hlk hQ hP hS (congrArg (fun z9 : TV => w3 cI h a b z9) e9).symm dX3_take_14
def fX3_leave (T : TV) (x1 : Int32) : (Int32 × TV) := ((fX3_ofSitter T x1 2), (fX3_setOfSitter (fX3_setOfStool T (fX3_ofSitter T x1 2) 5 (-1)) x1 2 (-1)))
abbrev rmX3_leave : Room := { frames := 1, cells := 0, slots := 0, locals := 23 }
set_option maxHeartbeats 4000000 in
set_option maxRecDepth 100000 in
theorem kX3_leave (l : Launch) (D : va_G) (cI cC cT : ClassId) (h a b : Nat) (T : TV) (x1 : Int32)  : mU l D (TY cI cC cT) yX3_leave wsX3_leave rmX3_leave [.ref h, .int x1] (w3 cI h a b T) (some (.int (fX3_leave T x1).1)) (w3 cI h a b (fX3_leave T x1).2) := by
  refine mU.ofW (cc := cX3_leave) (maxL := 3) (ret := (some .int)) (by decide) rfl (Nat.le_of_ble_eq_true rfl) ?_
  intro p e s m args below meth c Q ls A hx hb hml hr hlk hts hown hP hK hD hS hl hQ
  have hown : s.vm.findClass RX3 = some m.cls := hown
  have hP : va_P D vwCl [(h, .inr (4, [.ref a, .ref b, .int T.2.2.1, .int T.2.2.2.1, .int T.2.2.2.2.1, .int T.2.2.2.2.2.1, .int T.2.2.2.2.2.2.1, .int T.2.2.2.2.2.2.2])), (a, .inl (cI, 72, .inl T.1)), (b, .inl (cI, 36, .inl T.2.1))] s.heap := hP
  have hD : va_D A [(h, .inr (4, [.ref a, .ref b, .int T.2.2.1, .int T.2.2.2.1, .int T.2.2.2.2.1, .int T.2.2.2.2.2.1, .int T.2.2.2.2.2.2.1, .int T.2.2.2.2.2.2.2])), (a, .inl (cI, 72, .inl T.1)), (b, .inl (cI, 36, .inl T.2.1))] := hD
  have hl : lv_has ls 3 [(0, .ref h), (1, .int x1)] := hl
  generalize hHe : s.heap = H at hP ⊢
  have hS : va_S A s.heap H [] := hHe ▸ hS
  generalize hLe : ([] : List Loc) = locs at hS ⊢
  refine lv_aload_n hx hb dX3_leave_0 rfl (lv_at hl 0 rfl) ?_
  refine lv_iload_n hx hb dX3_leave_1 rfl (lv_at hl 1 rfl) ?_
  refine lv_iconst (v := 2) hx hb dX3_leave_2 (by decide) ?_
  refine fRV (As := [.int x1, .int 2]) (rest := []) (st' := [.int (fX3_ofSitter T x1 2)]) ⟨hx, hb, hml, hown, hts⟩ (kX3_ofSitter l D cI cC cT h a b T x1 2) (cwV 2 hts gX3_leave_X3_ofSitter rfl rfl rfl (by decide +kernel) ⟨Nat.le_of_ble_eq_true rfl, Nat.le_of_ble_eq_true rfl⟩) hP hK [0, 1, 2] rfl 0 (ci := 4) rfl rfl rfl rfl hl.1 rfl rfl (Nat.le_of_ble_eq_true rfl) ⟨Nat.zero_le _, Nat.zero_le _⟩ dX3_leave_3 ?_
  refine lv_istore_n (lv' := [(2, .int (fX3_ofSitter T x1 2)), (0, .ref h), (1, .int x1)]) hx hb dX3_leave_6 rfl hl (by decide) rfl (fun ls hl => ?_)
  refine lv_aload_n hx hb dX3_leave_7 rfl (lv_at hl 1 rfl) ?_
  refine lv_iload_n hx hb dX3_leave_8 rfl (lv_at hl 0 rfl) ?_
  refine lv_iconst (v := 5) hx hb dX3_leave_9 (by decide) ?_
  refine lv_iconst (v := (-1)) hx hb dX3_leave_10 (by decide) ?_
  obtain ⟨n1, en1⟩ : ∃ z9, z9 = (fX3_setOfStool T (fX3_ofSitter T x1 2) 5 (-1)) := ⟨_, rfl⟩
  have k9 := (kX3_setOfStool l D cI cC cT h a b T (fX3_ofSitter T x1 2) 5 (-1))
  rw [← en1] at k9
  refine fUV (As := [.int (fX3_ofSitter T x1 2), .int 5, .int (-1)]) (rest := []) (st' := []) ⟨hx, hb, hml, hown, hts⟩ k9 (cwV 3 hts gX3_leave_X3_setOfStool rfl rfl rfl (by decide +kernel) ⟨Nat.le_of_ble_eq_true rfl, Nat.le_of_ble_eq_true rfl⟩) hP hK hD hS [0, 1, 2] rfl rfl (by decide) rfl [(h, .inr (4, [.ref a, .ref b, .int n1.2.2.1, .int n1.2.2.2.1, .int n1.2.2.2.2.1, .int n1.2.2.2.2.2.1, .int n1.2.2.2.2.2.2.1, .int n1.2.2.2.2.2.2.2])), (a, .inl (cI, 72, .inl n1.1)), (b, .inl (cI, 36, .inl n1.2.1))] rfl rfl 0 (ci := 4) rfl rfl rfl rfl hl.1 rfl rfl (Nat.le_of_ble_eq_true rfl) ⟨Nat.zero_le _, Nat.zero_le _⟩ dX3_leave_11 (fun H locs hP hD hS => ?_)
  refine lv_aload_n hx hb dX3_leave_14 rfl (lv_at hl 1 rfl) ?_
  refine lv_iload_n hx hb dX3_leave_15 rfl (lv_at hl 2 rfl) ?_
  refine lv_iconst (v := 2) hx hb dX3_leave_16 (by decide) ?_
  refine lv_iconst (v := (-1)) hx hb dX3_leave_17 (by decide) ?_
  obtain ⟨n2, en2⟩ : ∃ z9, z9 = (fX3_setOfSitter n1 x1 2 (-1)) := ⟨_, rfl⟩
  have k9 := (kX3_setOfSitter l D cI cC cT h a b n1 x1 2 (-1))
  rw [← en2] at k9
  refine fUV (As := [.int x1, .int 2, .int (-1)]) (rest := []) (st' := []) ⟨hx, hb, hml, hown, hts⟩ k9 (cwV 3 hts gX3_leave_X3_setOfSitter rfl rfl rfl (by decide +kernel) ⟨Nat.le_of_ble_eq_true rfl, Nat.le_of_ble_eq_true rfl⟩) hP hK hD hS [0, 1, 2] rfl rfl (by decide) rfl [(h, .inr (4, [.ref a, .ref b, .int n2.2.2.1, .int n2.2.2.2.1, .int n2.2.2.2.2.1, .int n2.2.2.2.2.2.1, .int n2.2.2.2.2.2.2.1, .int n2.2.2.2.2.2.2.2])), (a, .inl (cI, 72, .inl n2.1)), (b, .inl (cI, 36, .inl n2.2.1))] rfl rfl 0 (ci := 4) rfl rfl rfl rfl hl.1 rfl rfl (Nat.le_of_ble_eq_true rfl) ⟨Nat.zero_le _, Nat.zero_le _⟩ dX3_leave_18 (fun H locs hP hD hS => ?_)
  refine lv_iload_n hx hb dX3_leave_21 rfl (lv_at hl 0 rfl) ?_
  have e9 : fX3_leave T x1 = ((fX3_ofSitter T x1 2), n2) := by rw [fX3_leave, ← en1, ← en2]
  exact rUi hx hb hr hlk hQ hP hS (by rw [e9]) (congrArg (fun z9 : (Int32 × TV) => w3 cI h a b z9.2) e9).symm rfl dX3_leave_22
theorem sX3_take (T : TV) (x1 x2 : Int32) : (fX3_take T x1 x2).2.2 = T.2.2 := by
  unfold fX3_take
  rw [sX3_setOfStool, sX3_setOfSitter]
def fX3_canExchange (T : TV) (x1 : Int32) (x2 : Int32) : Int32 := (if (fX3_sits T x1) = 0 then 0 else (if (fX3_sits T x2) = 0 then 0 else (if (fX3_maySit T x1 (fX3_ofSitter T x2 2)) = 0 then 0 else (if (fX3_maySit T x2 (fX3_ofSitter T x1 2)) = 0 then 0 else 1))))
abbrev rmX3_canExchange : Room := { frames := 2, cells := 0, slots := 0, locals := 44 }
set_option maxHeartbeats 4000000 in
set_option maxRecDepth 100000 in
theorem kX3_canExchange (l : Launch) (D : va_G) (cI cC cT : ClassId) (h a b : Nat) (T : TV) (x1 : Int32) (x2 : Int32)  : mR l D (TY cI cC cT) yX3_canExchange wsX3_canExchange rmX3_canExchange [.ref h, .int x1, .int x2] (w3 cI h a b T) (some (.int (fX3_canExchange T x1 x2))) := by
  refine mR.ofW (cc := cX3_canExchange) (maxL := 3) (ret := (some .boolean)) (by decide) rfl (Nat.le_of_ble_eq_true rfl) ?_
  intro p e s m args below meth c Q ls hx hb hml hr hlk hts hown hP hK hl hQ
  have hown : s.vm.findClass RX3 = some m.cls := hown
  have hP : va_P D vwCl [(h, .inr (4, [.ref a, .ref b, .int T.2.2.1, .int T.2.2.2.1, .int T.2.2.2.2.1, .int T.2.2.2.2.2.1, .int T.2.2.2.2.2.2.1, .int T.2.2.2.2.2.2.2])), (a, .inl (cI, 72, .inl T.1)), (b, .inl (cI, 36, .inl T.2.1))] s.heap := hP
  have hl : lv_has ls 3 [(0, .ref h), (1, .int x1), (2, .int x2)] := hl
  refine lv_aload_n hx hb dX3_canExchange_0 rfl (lv_at hl 0 rfl) ?_
  refine lv_iload_n hx hb dX3_canExchange_1 rfl (lv_at hl 1 rfl) ?_
  refine fRV (As := [.int x1]) (rest := []) (st' := [.int (fX3_sits T x1)]) ⟨hx, hb, hml, hown, hts⟩ (kX3_sits l D cI cC cT h a b T x1) (cwV 1 hts gX3_canExchange_X3_sits rfl rfl rfl (by decide +kernel) ⟨Nat.le_of_ble_eq_true rfl, Nat.le_of_ble_eq_true rfl⟩) hP hK [0, 1, 2] rfl 0 (ci := 4) rfl rfl rfl rfl hl.1 rfl rfl (Nat.le_of_ble_eq_true rfl) ⟨Nat.zero_le _, Nat.zero_le _⟩ dX3_canExchange_2 ?_
  refine lv_if_eq (tgt := 48) hx hb dX3_canExchange_5 (by decide) (fun c_5 => ?_) (fun c_5 => ?_)
  · refine lv_iconst (v := 0) hx hb dX3_canExchange_48 (by decide) ?_
    exact rRi hx hb hr hlk hQ (by rw [fX3_canExchange, if_pos c_5]) rfl dX3_canExchange_49
  · refine lv_aload_n hx hb dX3_canExchange_8 rfl (lv_at hl 0 rfl) ?_
    refine lv_iload_n hx hb dX3_canExchange_9 rfl (lv_at hl 2 rfl) ?_
    refine fRV (As := [.int x2]) (rest := []) (st' := [.int (fX3_sits T x2)]) ⟨hx, hb, hml, hown, hts⟩ (kX3_sits l D cI cC cT h a b T x2) (cwV 1 hts gX3_canExchange_X3_sits rfl rfl rfl (by decide +kernel) ⟨Nat.le_of_ble_eq_true rfl, Nat.le_of_ble_eq_true rfl⟩) hP hK [0, 1, 2] rfl 0 (ci := 4) rfl rfl rfl rfl hl.1 rfl rfl (Nat.le_of_ble_eq_true rfl) ⟨Nat.zero_le _, Nat.zero_le _⟩ dX3_canExchange_10 ?_
    refine lv_if_eq (tgt := 48) hx hb dX3_canExchange_13 (by decide) (fun c_13 => ?_) (fun c_13 => ?_)
    · refine lv_iconst (v := 0) hx hb dX3_canExchange_48 (by decide) ?_
      exact rRi hx hb hr hlk hQ (by rw [fX3_canExchange, if_neg c_5, if_pos c_13]) rfl dX3_canExchange_49
    · refine lv_aload_n hx hb dX3_canExchange_16 rfl (lv_at hl 0 rfl) ?_
      refine lv_iload_n hx hb dX3_canExchange_17 rfl (lv_at hl 1 rfl) ?_
      refine lv_aload_n hx hb dX3_canExchange_18 rfl (lv_at hl 0 rfl) ?_
      refine lv_iload_n hx hb dX3_canExchange_19 rfl (lv_at hl 2 rfl) ?_
      refine lv_iconst (v := 2) hx hb dX3_canExchange_20 (by decide) ?_
      refine fRV (As := [.int x2, .int 2]) (rest := [.int x1, .ref h]) (st' := [.int (fX3_ofSitter T x2 2), .int x1, .ref h]) ⟨hx, hb, hml, hown, hts⟩ (kX3_ofSitter l D cI cC cT h a b T x2 2) (cwV 2 hts gX3_canExchange_X3_ofSitter rfl rfl rfl (by decide +kernel) ⟨Nat.le_of_ble_eq_true rfl, Nat.le_of_ble_eq_true rfl⟩) hP hK [0, 1, 2] rfl 0 (ci := 4) rfl rfl rfl rfl hl.1 rfl rfl (Nat.le_of_ble_eq_true rfl) ⟨Nat.zero_le _, Nat.zero_le _⟩ dX3_canExchange_21 ?_
      refine fRV (As := [.int x1, .int (fX3_ofSitter T x2 2)]) (rest := []) (st' := [.int (fX3_maySit T x1 (fX3_ofSitter T x2 2))]) ⟨hx, hb, hml, hown, hts⟩ (kX3_maySit l D cI cC cT h a b T x1 (fX3_ofSitter T x2 2)) (cwV 2 hts gX3_canExchange_X3_maySit rfl rfl rfl (by decide +kernel) ⟨Nat.le_of_ble_eq_true rfl, Nat.le_of_ble_eq_true rfl⟩) hP hK [0, 1, 2] rfl 0 (ci := 4) rfl rfl rfl rfl hl.1 rfl rfl (Nat.le_of_ble_eq_true rfl) ⟨Nat.zero_le _, Nat.zero_le _⟩ dX3_canExchange_24 ?_
      refine lv_if_eq (tgt := 48) hx hb dX3_canExchange_27 (by decide) (fun c_27 => ?_) (fun c_27 => ?_)
      · refine lv_iconst (v := 0) hx hb dX3_canExchange_48 (by decide) ?_
        exact rRi hx hb hr hlk hQ (by rw [fX3_canExchange, if_neg c_5, if_neg c_13, if_pos c_27]) rfl dX3_canExchange_49
      · refine lv_aload_n hx hb dX3_canExchange_30 rfl (lv_at hl 0 rfl) ?_
        refine lv_iload_n hx hb dX3_canExchange_31 rfl (lv_at hl 2 rfl) ?_
        refine lv_aload_n hx hb dX3_canExchange_32 rfl (lv_at hl 0 rfl) ?_
        refine lv_iload_n hx hb dX3_canExchange_33 rfl (lv_at hl 1 rfl) ?_
        refine lv_iconst (v := 2) hx hb dX3_canExchange_34 (by decide) ?_
        refine fRV (As := [.int x1, .int 2]) (rest := [.int x2, .ref h]) (st' := [.int (fX3_ofSitter T x1 2), .int x2, .ref h]) ⟨hx, hb, hml, hown, hts⟩ (kX3_ofSitter l D cI cC cT h a b T x1 2) (cwV 2 hts gX3_canExchange_X3_ofSitter rfl rfl rfl (by decide +kernel) ⟨Nat.le_of_ble_eq_true rfl, Nat.le_of_ble_eq_true rfl⟩) hP hK [0, 1, 2] rfl 0 (ci := 4) rfl rfl rfl rfl hl.1 rfl rfl (Nat.le_of_ble_eq_true rfl) ⟨Nat.zero_le _, Nat.zero_le _⟩ dX3_canExchange_35 ?_
        refine fRV (As := [.int x2, .int (fX3_ofSitter T x1 2)]) (rest := []) (st' := [.int (fX3_maySit T x2 (fX3_ofSitter T x1 2))]) ⟨hx, hb, hml, hown, hts⟩ (kX3_maySit l D cI cC cT h a b T x2 (fX3_ofSitter T x1 2)) (cwV 2 hts gX3_canExchange_X3_maySit rfl rfl rfl (by decide +kernel) ⟨Nat.le_of_ble_eq_true rfl, Nat.le_of_ble_eq_true rfl⟩) hP hK [0, 1, 2] rfl 0 (ci := 4) rfl rfl rfl rfl hl.1 rfl rfl (Nat.le_of_ble_eq_true rfl) ⟨Nat.zero_le _, Nat.zero_le _⟩ dX3_canExchange_38 ?_
        refine lv_if_eq (tgt := 48) hx hb dX3_canExchange_41 (by decide) (fun c_41 => ?_) (fun c_41 => ?_)
        · refine lv_iconst (v := 0) hx hb dX3_canExchange_48 (by decide) ?_
          exact rRi hx hb hr hlk hQ (by rw [fX3_canExchange, if_neg c_5, if_neg c_13, if_neg c_27, if_pos c_41]) rfl dX3_canExchange_49
        · refine lv_iconst (v := 1) hx hb dX3_canExchange_44 (by decide) ?_
          refine lv_goto (tgt := 49) hx hb dX3_canExchange_45 (by decide) ?_
          exact rRi hx hb hr hlk hQ (by rw [fX3_canExchange, if_neg c_5, if_neg c_13, if_neg c_27, if_neg c_41]) rfl dX3_canExchange_49
theorem zX3_canExchange (T : TV) (x1 : Int32) (x2 : Int32) : (fX3_canExchange T x1 x2) = 0 ∨ (fX3_canExchange T x1 x2) = 1 := by
  unfold fX3_canExchange
  repeat' split
  all_goals first | exact Or.inl rfl | exact Or.inr rfl
def fX3_exchange (T : TV) (x1 : Int32) (x2 : Int32) : TV := (fX3_take (fX3_take T x1 (fX3_ofSitter T x2 2)) x2 (fX3_ofSitter T x1 2))
abbrev rmX3_exchange : Room := { frames := 2, cells := 0, slots := 0, locals := 45 }
set_option maxHeartbeats 4000000 in
set_option maxRecDepth 100000 in
theorem kX3_exchange (l : Launch) (D : va_G) (cI cC cT : ClassId) (h a b : Nat) (T : TV) (x1 : Int32) (x2 : Int32)  : mU l D (TY cI cC cT) yX3_exchange wsX3_exchange rmX3_exchange [.ref h, .int x1, .int x2] (w3 cI h a b T) none (w3 cI h a b (fX3_exchange T x1 x2)) := by
  refine mU.ofW (cc := cX3_exchange) (maxL := 4) (ret := none) (by decide) rfl (Nat.le_of_ble_eq_true rfl) ?_
  intro p e s m args below meth c Q ls A hx hb hml hr hlk hts hown hP hK hD hS hl hQ
  have hown : s.vm.findClass RX3 = some m.cls := hown
  have hP : va_P D vwCl [(h, .inr (4, [.ref a, .ref b, .int T.2.2.1, .int T.2.2.2.1, .int T.2.2.2.2.1, .int T.2.2.2.2.2.1, .int T.2.2.2.2.2.2.1, .int T.2.2.2.2.2.2.2])), (a, .inl (cI, 72, .inl T.1)), (b, .inl (cI, 36, .inl T.2.1))] s.heap := hP
  have hD : va_D A [(h, .inr (4, [.ref a, .ref b, .int T.2.2.1, .int T.2.2.2.1, .int T.2.2.2.2.1, .int T.2.2.2.2.2.1, .int T.2.2.2.2.2.2.1, .int T.2.2.2.2.2.2.2])), (a, .inl (cI, 72, .inl T.1)), (b, .inl (cI, 36, .inl T.2.1))] := hD
  have hl : lv_has ls 4 [(0, .ref h), (1, .int x1), (2, .int x2)] := hl
  generalize hHe : s.heap = H at hP ⊢
  have hS : va_S A s.heap H [] := hHe ▸ hS
  generalize hLe : ([] : List Loc) = locs at hS ⊢
  refine lv_aload_n hx hb dX3_exchange_0 rfl (lv_at hl 0 rfl) ?_
  refine lv_iload_n hx hb dX3_exchange_1 rfl (lv_at hl 1 rfl) ?_
  refine lv_iconst (v := 2) hx hb dX3_exchange_2 (by decide) ?_
  refine fRV (As := [.int x1, .int 2]) (rest := []) (st' := [.int (fX3_ofSitter T x1 2)]) ⟨hx, hb, hml, hown, hts⟩ (kX3_ofSitter l D cI cC cT h a b T x1 2) (cwV 2 hts gX3_exchange_X3_ofSitter rfl rfl rfl (by decide +kernel) ⟨Nat.le_of_ble_eq_true rfl, Nat.le_of_ble_eq_true rfl⟩) hP hK [0, 1, 2] rfl 0 (ci := 4) rfl rfl rfl rfl hl.1 rfl rfl (Nat.le_of_ble_eq_true rfl) ⟨Nat.zero_le _, Nat.zero_le _⟩ dX3_exchange_3 ?_
  refine lv_istore_n (lv' := [(3, .int (fX3_ofSitter T x1 2)), (0, .ref h), (1, .int x1), (2, .int x2)]) hx hb dX3_exchange_6 rfl hl (by decide) rfl (fun ls hl => ?_)
  refine lv_aload_n hx hb dX3_exchange_7 rfl (lv_at hl 1 rfl) ?_
  refine lv_iload_n hx hb dX3_exchange_8 rfl (lv_at hl 2 rfl) ?_
  refine lv_aload_n hx hb dX3_exchange_9 rfl (lv_at hl 1 rfl) ?_
  refine lv_iload_n hx hb dX3_exchange_10 rfl (lv_at hl 3 rfl) ?_
  refine lv_iconst (v := 2) hx hb dX3_exchange_11 (by decide) ?_
  refine fRV (As := [.int x2, .int 2]) (rest := [.int x1, .ref h]) (st' := [.int (fX3_ofSitter T x2 2), .int x1, .ref h]) ⟨hx, hb, hml, hown, hts⟩ (kX3_ofSitter l D cI cC cT h a b T x2 2) (cwV 2 hts gX3_exchange_X3_ofSitter rfl rfl rfl (by decide +kernel) ⟨Nat.le_of_ble_eq_true rfl, Nat.le_of_ble_eq_true rfl⟩) hP hK [0, 1, 2] rfl 0 (ci := 4) rfl rfl rfl rfl hl.1 rfl rfl (Nat.le_of_ble_eq_true rfl) ⟨Nat.zero_le _, Nat.zero_le _⟩ dX3_exchange_12 ?_
  obtain ⟨n1, en1⟩ : ∃ z9, z9 = (fX3_take T x1 (fX3_ofSitter T x2 2)) := ⟨_, rfl⟩
  have k9 := (kX3_take l D cI cC cT h a b T x1 (fX3_ofSitter T x2 2))
  rw [← en1] at k9
  refine fUV (As := [.int x1, .int (fX3_ofSitter T x2 2)]) (rest := []) (st' := []) ⟨hx, hb, hml, hown, hts⟩ k9 (cwV 2 hts gX3_exchange_X3_take rfl rfl rfl (by decide +kernel) ⟨Nat.le_of_ble_eq_true rfl, Nat.le_of_ble_eq_true rfl⟩) hP hK hD hS [0, 1, 2] rfl rfl (by decide) rfl [(h, .inr (4, [.ref a, .ref b, .int n1.2.2.1, .int n1.2.2.2.1, .int n1.2.2.2.2.1, .int n1.2.2.2.2.2.1, .int n1.2.2.2.2.2.2.1, .int n1.2.2.2.2.2.2.2])), (a, .inl (cI, 72, .inl n1.1)), (b, .inl (cI, 36, .inl n1.2.1))] rfl rfl 0 (ci := 4) rfl rfl rfl rfl hl.1 rfl rfl (Nat.le_of_ble_eq_true rfl) ⟨Nat.zero_le _, Nat.zero_le _⟩ dX3_exchange_15 (fun H locs hP hD hS => ?_)
  refine lv_aload_n hx hb dX3_exchange_18 rfl (lv_at hl 1 rfl) ?_
  refine lv_iload_n hx hb dX3_exchange_19 rfl (lv_at hl 3 rfl) ?_
  refine lv_iload_n hx hb dX3_exchange_20 rfl (lv_at hl 0 rfl) ?_
  obtain ⟨n2, en2⟩ : ∃ z9, z9 = (fX3_take n1 x2 (fX3_ofSitter T x1 2)) := ⟨_, rfl⟩
  have k9 := (kX3_take l D cI cC cT h a b n1 x2 (fX3_ofSitter T x1 2))
  rw [← en2] at k9
  refine fUV (As := [.int x2, .int (fX3_ofSitter T x1 2)]) (rest := []) (st' := []) ⟨hx, hb, hml, hown, hts⟩ k9 (cwV 2 hts gX3_exchange_X3_take rfl rfl rfl (by decide +kernel) ⟨Nat.le_of_ble_eq_true rfl, Nat.le_of_ble_eq_true rfl⟩) hP hK hD hS [0, 1, 2] rfl rfl (by decide) rfl [(h, .inr (4, [.ref a, .ref b, .int n2.2.2.1, .int n2.2.2.2.1, .int n2.2.2.2.2.1, .int n2.2.2.2.2.2.1, .int n2.2.2.2.2.2.2.1, .int n2.2.2.2.2.2.2.2])), (a, .inl (cI, 72, .inl n2.1)), (b, .inl (cI, 36, .inl n2.2.1))] rfl rfl 0 (ci := 4) rfl rfl rfl rfl hl.1 rfl rfl (Nat.le_of_ble_eq_true rfl) ⟨Nat.zero_le _, Nat.zero_le _⟩ dX3_exchange_21 (fun H locs hP hD hS => ?_)
  have e9 : fX3_exchange T x1 x2 = n2 := by rw [fX3_exchange, ← en1, ← en2]
  exact rUv hx hb hr hlk hQ hP hS (congrArg (fun z9 : TV => w3 cI h a b z9) e9).symm dX3_exchange_24
def fX3_areClashing (T : TV) (x1 : Int32) (x2 : Int32) : Int32 := (if (fX3_sits T x1) = 0 then 0 else (if (fX3_sits T x2) = 0 then 0 else (if ((fX3_ofSitter T x1 0) - (fX3_ofSitter T x2 0)) ≤ 0 then (if 0 ≤ ((fX3_ofSitter T x1 0) - (fX3_ofSitter T x2 0)) then 0 else (if ((fX3_ofStool T (fX3_ofSitter T x1 2) 0) - (fX3_ofStool T (fX3_ofSitter T x2 2) 0)) ≤ 0 then 0 else 1)) else (if ((fX3_ofStool T (fX3_ofSitter T x1 2) 0) - (fX3_ofStool T (fX3_ofSitter T x2 2) 0)) < 0 then 1 else (if 0 ≤ ((fX3_ofSitter T x1 0) - (fX3_ofSitter T x2 0)) then 0 else (if ((fX3_ofStool T (fX3_ofSitter T x1 2) 0) - (fX3_ofStool T (fX3_ofSitter T x2 2) 0)) ≤ 0 then 0 else 1))))))
abbrev rmX3_areClashing : Room := { frames := 2, cells := 0, slots := 0, locals := 43 }
set_option maxHeartbeats 4000000 in
set_option maxRecDepth 100000 in
theorem kX3_areClashing (l : Launch) (D : va_G) (cI cC cT : ClassId) (h a b : Nat) (T : TV) (x1 : Int32) (x2 : Int32)  : mR l D (TY cI cC cT) yX3_areClashing wsX3_areClashing rmX3_areClashing [.ref h, .int x1, .int x2] (w3 cI h a b T) (some (.int (fX3_areClashing T x1 x2))) := by
  refine mR.ofW (cc := cX3_areClashing) (maxL := 5) (ret := (some .boolean)) (by decide) rfl (Nat.le_of_ble_eq_true rfl) ?_
  intro p e s m args below meth c Q ls hx hb hml hr hlk hts hown hP hK hl hQ
  have hown : s.vm.findClass RX3 = some m.cls := hown
  have hP : va_P D vwCl [(h, .inr (4, [.ref a, .ref b, .int T.2.2.1, .int T.2.2.2.1, .int T.2.2.2.2.1, .int T.2.2.2.2.2.1, .int T.2.2.2.2.2.2.1, .int T.2.2.2.2.2.2.2])), (a, .inl (cI, 72, .inl T.1)), (b, .inl (cI, 36, .inl T.2.1))] s.heap := hP
  have hl : lv_has ls 5 [(0, .ref h), (1, .int x1), (2, .int x2)] := hl
  refine lv_aload_n hx hb dX3_areClashing_0 rfl (lv_at hl 0 rfl) ?_
  refine lv_iload_n hx hb dX3_areClashing_1 rfl (lv_at hl 1 rfl) ?_
  refine fRV (As := [.int x1]) (rest := []) (st' := [.int (fX3_sits T x1)]) ⟨hx, hb, hml, hown, hts⟩ (kX3_sits l D cI cC cT h a b T x1) (cwV 1 hts gX3_areClashing_X3_sits rfl rfl rfl (by decide +kernel) ⟨Nat.le_of_ble_eq_true rfl, Nat.le_of_ble_eq_true rfl⟩) hP hK [0, 1, 2] rfl 0 (ci := 4) rfl rfl rfl rfl hl.1 rfl rfl (Nat.le_of_ble_eq_true rfl) ⟨Nat.zero_le _, Nat.zero_le _⟩ dX3_areClashing_2 ?_
  refine lv_if_eq (tgt := 16) hx hb dX3_areClashing_5 (by decide) (fun c_5 => ?_) (fun c_5 => ?_)
  · refine lv_iconst (v := 0) hx hb dX3_areClashing_16 (by decide) ?_
    exact rRi hx hb hr hlk hQ (by rw [fX3_areClashing, if_pos c_5]) rfl dX3_areClashing_17
  · refine lv_aload_n hx hb dX3_areClashing_8 rfl (lv_at hl 0 rfl) ?_
    refine lv_iload_n hx hb dX3_areClashing_9 rfl (lv_at hl 2 rfl) ?_
    refine fRV (As := [.int x2]) (rest := []) (st' := [.int (fX3_sits T x2)]) ⟨hx, hb, hml, hown, hts⟩ (kX3_sits l D cI cC cT h a b T x2) (cwV 1 hts gX3_areClashing_X3_sits rfl rfl rfl (by decide +kernel) ⟨Nat.le_of_ble_eq_true rfl, Nat.le_of_ble_eq_true rfl⟩) hP hK [0, 1, 2] rfl 0 (ci := 4) rfl rfl rfl rfl hl.1 rfl rfl (Nat.le_of_ble_eq_true rfl) ⟨Nat.zero_le _, Nat.zero_le _⟩ dX3_areClashing_10 ?_
    refine lv_if_ne (tgt := 18) hx hb dX3_areClashing_13 (by decide) (fun c_13 => ?_) (fun c_13 => ?_)
    · refine lv_aload_n hx hb dX3_areClashing_18 rfl (lv_at hl 0 rfl) ?_
      refine lv_iload_n hx hb dX3_areClashing_19 rfl (lv_at hl 1 rfl) ?_
      refine lv_iconst (v := 0) hx hb dX3_areClashing_20 (by decide) ?_
      refine fRV (As := [.int x1, .int 0]) (rest := []) (st' := [.int (fX3_ofSitter T x1 0)]) ⟨hx, hb, hml, hown, hts⟩ (kX3_ofSitter l D cI cC cT h a b T x1 0) (cwV 2 hts gX3_areClashing_X3_ofSitter rfl rfl rfl (by decide +kernel) ⟨Nat.le_of_ble_eq_true rfl, Nat.le_of_ble_eq_true rfl⟩) hP hK [0, 1, 2] rfl 0 (ci := 4) rfl rfl rfl rfl hl.1 rfl rfl (Nat.le_of_ble_eq_true rfl) ⟨Nat.zero_le _, Nat.zero_le _⟩ dX3_areClashing_21 ?_
      refine lv_aload_n hx hb dX3_areClashing_24 rfl (lv_at hl 0 rfl) ?_
      refine lv_iload_n hx hb dX3_areClashing_25 rfl (lv_at hl 2 rfl) ?_
      refine lv_iconst (v := 0) hx hb dX3_areClashing_26 (by decide) ?_
      refine fRV (As := [.int x2, .int 0]) (rest := [.int (fX3_ofSitter T x1 0)]) (st' := [.int (fX3_ofSitter T x2 0), .int (fX3_ofSitter T x1 0)]) ⟨hx, hb, hml, hown, hts⟩ (kX3_ofSitter l D cI cC cT h a b T x2 0) (cwV 2 hts gX3_areClashing_X3_ofSitter rfl rfl rfl (by decide +kernel) ⟨Nat.le_of_ble_eq_true rfl, Nat.le_of_ble_eq_true rfl⟩) hP hK [0, 1, 2] rfl 0 (ci := 4) rfl rfl rfl rfl hl.1 rfl rfl (Nat.le_of_ble_eq_true rfl) ⟨Nat.zero_le _, Nat.zero_le _⟩ dX3_areClashing_27 ?_
      refine lv_isub hx hb dX3_areClashing_30 ?_
      refine lv_istore_n (lv' := [(3, .int ((fX3_ofSitter T x1 0) - (fX3_ofSitter T x2 0))), (0, .ref h), (1, .int x1), (2, .int x2)]) hx hb dX3_areClashing_31 rfl hl (by decide) rfl (fun ls hl => ?_)
      refine lv_aload_n hx hb dX3_areClashing_32 rfl (lv_at hl 1 rfl) ?_
      refine lv_aload_n hx hb dX3_areClashing_33 rfl (lv_at hl 1 rfl) ?_
      refine lv_iload_n hx hb dX3_areClashing_34 rfl (lv_at hl 2 rfl) ?_
      refine lv_iconst (v := 2) hx hb dX3_areClashing_35 (by decide) ?_
      refine fRV (As := [.int x1, .int 2]) (rest := [.ref h]) (st' := [.int (fX3_ofSitter T x1 2), .ref h]) ⟨hx, hb, hml, hown, hts⟩ (kX3_ofSitter l D cI cC cT h a b T x1 2) (cwV 2 hts gX3_areClashing_X3_ofSitter rfl rfl rfl (by decide +kernel) ⟨Nat.le_of_ble_eq_true rfl, Nat.le_of_ble_eq_true rfl⟩) hP hK [0, 1, 2] rfl 0 (ci := 4) rfl rfl rfl rfl hl.1 rfl rfl (Nat.le_of_ble_eq_true rfl) ⟨Nat.zero_le _, Nat.zero_le _⟩ dX3_areClashing_36 ?_
      refine lv_iconst (v := 0) hx hb dX3_areClashing_39 (by decide) ?_
      refine fRV (As := [.int (fX3_ofSitter T x1 2), .int 0]) (rest := []) (st' := [.int (fX3_ofStool T (fX3_ofSitter T x1 2) 0)]) ⟨hx, hb, hml, hown, hts⟩ (kX3_ofStool l D cI cC cT h a b T (fX3_ofSitter T x1 2) 0) (cwV 2 hts gX3_areClashing_X3_ofStool rfl rfl rfl (by decide +kernel) ⟨Nat.le_of_ble_eq_true rfl, Nat.le_of_ble_eq_true rfl⟩) hP hK [0, 1, 2] rfl 0 (ci := 4) rfl rfl rfl rfl hl.1 rfl rfl (Nat.le_of_ble_eq_true rfl) ⟨Nat.zero_le _, Nat.zero_le _⟩ dX3_areClashing_40 ?_
      refine lv_aload_n hx hb dX3_areClashing_43 rfl (lv_at hl 1 rfl) ?_
      refine lv_aload_n hx hb dX3_areClashing_44 rfl (lv_at hl 1 rfl) ?_
      refine lv_iload_n hx hb dX3_areClashing_45 rfl (lv_at hl 3 rfl) ?_
      refine lv_iconst (v := 2) hx hb dX3_areClashing_46 (by decide) ?_
      refine fRV (As := [.int x2, .int 2]) (rest := [.ref h, .int (fX3_ofStool T (fX3_ofSitter T x1 2) 0)]) (st' := [.int (fX3_ofSitter T x2 2), .ref h, .int (fX3_ofStool T (fX3_ofSitter T x1 2) 0)]) ⟨hx, hb, hml, hown, hts⟩ (kX3_ofSitter l D cI cC cT h a b T x2 2) (cwV 2 hts gX3_areClashing_X3_ofSitter rfl rfl rfl (by decide +kernel) ⟨Nat.le_of_ble_eq_true rfl, Nat.le_of_ble_eq_true rfl⟩) hP hK [0, 1, 2] rfl 0 (ci := 4) rfl rfl rfl rfl hl.1 rfl rfl (Nat.le_of_ble_eq_true rfl) ⟨Nat.zero_le _, Nat.zero_le _⟩ dX3_areClashing_47 ?_
      refine lv_iconst (v := 0) hx hb dX3_areClashing_50 (by decide) ?_
      refine fRV (As := [.int (fX3_ofSitter T x2 2), .int 0]) (rest := [.int (fX3_ofStool T (fX3_ofSitter T x1 2) 0)]) (st' := [.int (fX3_ofStool T (fX3_ofSitter T x2 2) 0), .int (fX3_ofStool T (fX3_ofSitter T x1 2) 0)]) ⟨hx, hb, hml, hown, hts⟩ (kX3_ofStool l D cI cC cT h a b T (fX3_ofSitter T x2 2) 0) (cwV 2 hts gX3_areClashing_X3_ofStool rfl rfl rfl (by decide +kernel) ⟨Nat.le_of_ble_eq_true rfl, Nat.le_of_ble_eq_true rfl⟩) hP hK [0, 1, 2] rfl 0 (ci := 4) rfl rfl rfl rfl hl.1 rfl rfl (Nat.le_of_ble_eq_true rfl) ⟨Nat.zero_le _, Nat.zero_le _⟩ dX3_areClashing_51 ?_
      refine lv_isub hx hb dX3_areClashing_54 ?_
      refine lv_istore (lv' := [(4, .int ((fX3_ofStool T (fX3_ofSitter T x1 2) 0) - (fX3_ofStool T (fX3_ofSitter T x2 2) 0))), (3, .int ((fX3_ofSitter T x1 0) - (fX3_ofSitter T x2 0))), (0, .ref h), (1, .int x1), (2, .int x2)]) hx hb dX3_areClashing_55 hl (by decide) rfl (fun ls hl => ?_)
      refine lv_iload_n hx hb dX3_areClashing_57 rfl (lv_at hl 1 rfl) ?_
      refine lv_if_le (tgt := 66) hx hb dX3_areClashing_58 (by decide) (fun c_58 => ?_) (fun c_58 => ?_)
      · refine lv_iload_n hx hb dX3_areClashing_66 rfl (lv_at hl 1 rfl) ?_
        refine lv_if_ge (tgt := 79) hx hb dX3_areClashing_67 (by decide) (fun c_67 => ?_) (fun c_67 => ?_)
        · refine lv_iconst (v := 0) hx hb dX3_areClashing_79 (by decide) ?_
          exact rRi hx hb hr hlk hQ (by rw [fX3_areClashing, if_neg c_5, if_neg c_13, if_pos c_58, if_pos c_67]) rfl dX3_areClashing_80
        · refine lv_iload hx hb dX3_areClashing_70 (lv_at hl 0 rfl) ?_
          refine lv_if_le (tgt := 79) hx hb dX3_areClashing_72 (by decide) (fun c_72 => ?_) (fun c_72 => ?_)
          · refine lv_iconst (v := 0) hx hb dX3_areClashing_79 (by decide) ?_
            exact rRi hx hb hr hlk hQ (by rw [fX3_areClashing, if_neg c_5, if_neg c_13, if_pos c_58, if_neg c_67, if_pos c_72]) rfl dX3_areClashing_80
          · refine lv_iconst (v := 1) hx hb dX3_areClashing_75 (by decide) ?_
            refine lv_goto (tgt := 80) hx hb dX3_areClashing_76 (by decide) ?_
            exact rRi hx hb hr hlk hQ (by rw [fX3_areClashing, if_neg c_5, if_neg c_13, if_pos c_58, if_neg c_67, if_neg c_72]) rfl dX3_areClashing_80
      · refine lv_iload hx hb dX3_areClashing_61 (lv_at hl 0 rfl) ?_
        refine lv_if_lt (tgt := 75) hx hb dX3_areClashing_63 (by decide) (fun c_63 => ?_) (fun c_63 => ?_)
        · refine lv_iconst (v := 1) hx hb dX3_areClashing_75 (by decide) ?_
          refine lv_goto (tgt := 80) hx hb dX3_areClashing_76 (by decide) ?_
          exact rRi hx hb hr hlk hQ (by rw [fX3_areClashing, if_neg c_5, if_neg c_13, if_neg c_58, if_pos c_63]) rfl dX3_areClashing_80
        · refine lv_iload_n hx hb dX3_areClashing_66 rfl (lv_at hl 1 rfl) ?_
          refine lv_if_ge (tgt := 79) hx hb dX3_areClashing_67 (by decide) (fun c_67 => ?_) (fun c_67 => ?_)
          · refine lv_iconst (v := 0) hx hb dX3_areClashing_79 (by decide) ?_
            exact rRi hx hb hr hlk hQ (by rw [fX3_areClashing, if_neg c_5, if_neg c_13, if_neg c_58, if_neg c_63, if_pos c_67]) rfl dX3_areClashing_80
          · refine lv_iload hx hb dX3_areClashing_70 (lv_at hl 0 rfl) ?_
            refine lv_if_le (tgt := 79) hx hb dX3_areClashing_72 (by decide) (fun c_72 => ?_) (fun c_72 => ?_)
            · refine lv_iconst (v := 0) hx hb dX3_areClashing_79 (by decide) ?_
              exact rRi hx hb hr hlk hQ (by rw [fX3_areClashing, if_neg c_5, if_neg c_13, if_neg c_58, if_neg c_63, if_neg c_67, if_pos c_72]) rfl dX3_areClashing_80
            · refine lv_iconst (v := 1) hx hb dX3_areClashing_75 (by decide) ?_
              refine lv_goto (tgt := 80) hx hb dX3_areClashing_76 (by decide) ?_
              exact rRi hx hb hr hlk hQ (by rw [fX3_areClashing, if_neg c_5, if_neg c_13, if_neg c_58, if_neg c_63, if_neg c_67, if_neg c_72]) rfl dX3_areClashing_80
    · refine lv_iconst (v := 0) hx hb dX3_areClashing_16 (by decide) ?_
      exact rRi hx hb hr hlk hQ (by rw [fX3_areClashing, if_neg c_5, if_pos c_13]) rfl dX3_areClashing_17
theorem zX3_areClashing (T : TV) (x1 : Int32) (x2 : Int32) : (fX3_areClashing T x1 x2) = 0 ∨ (fX3_areClashing T x1 x2) = 1 := by
  unfold fX3_areClashing
  repeat' split
  all_goals first | exact Or.inl rfl | exact Or.inr rfl
def lX3_clashesWith_4 (T : TV) (x1 : Int32) (v : (Int32 × Int32)) : (Int32 × Int32) ⊕ ((Int32 × Int32)) := (if T.2.2.2.1 ≤ v.2 then (.inr (v.1, v.2)) else (if (fX3_areClashing T x1 v.2) = 0 then (.inl (v.1, (v.2 + 1))) else (.inl ((v.1 + 1), (v.2 + 1)))))
def fX3_clashesWith (T : TV) (x1 : Int32) : Int32 := (itv (0, 0) (lX3_clashesWith_4 T x1) ((fun v : (Int32 × Int32) => (T.2.2.2.1.toInt - v.2.toInt).toNat) (0, 0) + 1) (0, 0)).1
abbrev rmX3_clashesWith : Room := { frames := 3, cells := 0, slots := 0, locals := 67 }
set_option maxHeartbeats 4000000 in
set_option maxRecDepth 100000 in
theorem kX3_clashesWith (l : Launch) (D : va_G) (cI cC cT : ClassId) (h a b : Nat) (T : TV) (x1 : Int32)  : mR l D (TY cI cC cT) yX3_clashesWith wsX3_clashesWith rmX3_clashesWith [.ref h, .int x1] (w3 cI h a b T) (some (.int (fX3_clashesWith T x1))) := by
  refine mR.ofW (cc := cX3_clashesWith) (maxL := 4) (ret := (some .int)) (by decide) rfl (Nat.le_of_ble_eq_true rfl) ?_
  intro p e s m args below meth c Q ls hx hb hml hr hlk hts hown hP hK hl hQ
  have hown : s.vm.findClass RX3 = some m.cls := hown
  have hP : va_P D vwCl [(h, .inr (4, [.ref a, .ref b, .int T.2.2.1, .int T.2.2.2.1, .int T.2.2.2.2.1, .int T.2.2.2.2.2.1, .int T.2.2.2.2.2.2.1, .int T.2.2.2.2.2.2.2])), (a, .inl (cI, 72, .inl T.1)), (b, .inl (cI, 36, .inl T.2.1))] s.heap := hP
  have hl : lv_has ls 4 [(0, .ref h), (1, .int x1)] := hl
  have q0 := hts (Cond.fieldLink RX3 22 "TavernStools$Tavern" "sitters" "I") (by decide +kernel)
  have q1 : ∀ w ∈ u_ws RX3 TX3 8, w ∈ wsX3_clashesWith := by decide +kernel
  refine lv_iconst (v := 0) hx hb dX3_clashesWith_0 (by decide) ?_
  refine lv_istore_n (lv' := [(2, .int 0), (0, .ref h), (1, .int x1)]) hx hb dX3_clashesWith_1 rfl hl (by decide) rfl (fun ls hl => ?_)
  refine lv_iconst (v := 0) hx hb dX3_clashesWith_2 (by decide) ?_
  refine lv_istore_n (lv' := [(3, .int 0), (2, .int 0), (0, .ref h), (1, .int x1)]) hx hb dX3_clashesWith_3 rfl hl (by decide) rfl (fun ls hl => ?_)
  have hE_4 : itr (lX3_clashesWith_4 T x1) ((fun v : (Int32 × Int32) => (T.2.2.2.1.toInt - v.2.toInt).toNat) (0, 0) + 1) (0, 0) = .inr (itv (0, 0) (lX3_clashesWith_4 T x1) ((fun v : (Int32 × Int32) => (T.2.2.2.1.toInt - v.2.toInt).toNat) (0, 0) + 1) (0, 0)) := by
    refine itv_ends (itr_ends (lX3_clashesWith_4 T x1) (fun v : (Int32 × Int32) => True) (fun v : (Int32 × Int32) => (T.2.2.2.1.toInt - v.2.toInt).toNat) ?_ _ _ trivial (Nat.lt_succ_self _))
    intro a b h0 h
    unfold lX3_clashesWith_4 at h
    repeat' split at h
    all_goals first | (cases h; done) | (cases h; exact ⟨trivial, rk_ge (by assumption)⟩) | (cases h; exact ⟨trivial, rk_gt (by assumption)⟩)
  refine loopW (lX3_clashesWith_4 T x1) (fun v : (Int32 × Int32) => True) (fun v : (Int32 × Int32) => ∀ ls, lv_has ls 4 [(0, .ref h), (1, .int x1), (2, .int v.1), (3, .int v.2)] → W p l e rmX3_clashesWith s m args below meth c s.heap [] 0 0 Q (F0 m 4 ls [])) (fun r9 : (Int32 × Int32) => ∀ ls, lv_has ls 4 [(0, .ref h), (1, .int x1), (2, .int r9.1), (3, .int r9.2)] → W p l e rmX3_clashesWith s m args below meth c s.heap [] 0 0 Q (F0 m 30 ls [])) ?_ (fun _ _ _ _ => trivial) _ (0, 0) (itv (0, 0) (lX3_clashesWith_4 T x1) ((fun v : (Int32 × Int32) => (T.2.2.2.1.toInt - v.2.toInt).toNat) (0, 0) + 1) (0, 0)) trivial hE_4 ?_ ls (lv_sub hl [2, 3, 1, 0] rfl)
  · intro v _ kb kx ls hl
    refine lv_iload_n hx hb dX3_clashesWith_4 rfl (lv_at hl 3 rfl) ?_
    refine lv_aload_n hx hb dX3_clashesWith_5 rfl (lv_at hl 0 rfl) ?_
    refine va_get (D := D) (ci := 4) (v := .int T.2.2.2.1) (C := RX3) (T := TX3) (N := 8) hx hb hts q1 hown hK hP 0 rfl rfl 3 (by decide) q0 (fun _ h9 => h9) rfl dX3_clashesWith_6 ?_
    refine lv_icmp_ge (tgt := 30) hx hb dX3_clashesWith_9 (by decide) (fun c_9 => ?_) (fun c_9 => ?_)
    · exact kx (v.1, v.2) (by rw [lX3_clashesWith_4, if_pos c_9]) ls (lv_sub hl [0, 1, 2, 3] rfl)
    · refine lv_aload_n hx hb dX3_clashesWith_12 rfl (lv_at hl 0 rfl) ?_
      refine lv_iload_n hx hb dX3_clashesWith_13 rfl (lv_at hl 1 rfl) ?_
      refine lv_iload_n hx hb dX3_clashesWith_14 rfl (lv_at hl 3 rfl) ?_
      refine fRV (As := [.int x1, .int v.2]) (rest := []) (st' := [.int (fX3_areClashing T x1 v.2)]) ⟨hx, hb, hml, hown, hts⟩ (kX3_areClashing l D cI cC cT h a b T x1 v.2) (cwV 2 hts gX3_clashesWith_X3_areClashing rfl rfl rfl (by decide +kernel) ⟨Nat.le_of_ble_eq_true rfl, Nat.le_of_ble_eq_true rfl⟩) hP hK [0, 1, 2] rfl 0 (ci := 4) rfl rfl rfl rfl hl.1 rfl rfl (Nat.le_of_ble_eq_true rfl) ⟨Nat.zero_le _, Nat.zero_le _⟩ dX3_clashesWith_15 ?_
      refine lv_if_eq (tgt := 24) hx hb dX3_clashesWith_18 (by decide) (fun c_18 => ?_) (fun c_18 => ?_)
      · refine lv_iinc (v := (v.2 + 1)) (lv' := [(3, .int (v.2 + 1)), (0, .ref h), (1, .int x1), (2, .int v.1)]) hx hb dX3_clashesWith_24 hl (k := 3) rfl rfl (by decide) rfl (fun ls hl => ?_)
        refine lv_goto (tgt := 4) hx hb dX3_clashesWith_27 (by decide) ?_
        exact kb (v.1, (v.2 + 1)) (by rw [lX3_clashesWith_4, if_neg c_9, if_pos c_18]) ls (lv_sub hl [1, 2, 3, 0] rfl)
      · refine lv_iinc (v := (v.1 + 1)) (lv' := [(2, .int (v.1 + 1)), (0, .ref h), (1, .int x1), (3, .int v.2)]) hx hb dX3_clashesWith_21 hl (k := 2) rfl rfl (by decide) rfl (fun ls hl => ?_)
        refine lv_iinc (v := (v.2 + 1)) (lv' := [(3, .int (v.2 + 1)), (2, .int (v.1 + 1)), (0, .ref h), (1, .int x1)]) hx hb dX3_clashesWith_24 hl (k := 3) rfl rfl (by decide) rfl (fun ls hl => ?_)
        refine lv_goto (tgt := 4) hx hb dX3_clashesWith_27 (by decide) ?_
        exact kb ((v.1 + 1), (v.2 + 1)) (by rw [lX3_clashesWith_4, if_neg c_9, if_neg c_18]) ls (lv_sub hl [2, 3, 1, 0] rfl)
  · intro ls hl
    refine lv_iload_n hx hb dX3_clashesWith_30 rfl (lv_at hl 2 rfl) ?_
    exact rRi hx hb hr hlk hQ (by rw [fX3_clashesWith]) rfl dX3_clashesWith_31
def lX3_clashesByPairs_16 (T : TV) (v : (Int32 × Int32)) (w : (Int32 × Int32)) : (Int32 × Int32) ⊕ ((Int32 × Int32)) := (if T.2.2.2.1 ≤ w.2 then (.inr (w.1, w.2)) else (if (fX3_areClashing T v.2 w.2) = 0 then (.inl (w.1, (w.2 + 1))) else (.inl ((w.1 + 1), (w.2 + 1)))))
def lX3_clashesByPairs_4 (T : TV) (v : (Int32 × Int32)) : (Int32 × Int32) ⊕ ((Int32 × Int32)) := (if T.2.2.2.1 ≤ v.2 then (.inr (v.1, v.2)) else (.inl ((itv (v.1, (v.2 + 1)) (lX3_clashesByPairs_16 T v) ((fun w : (Int32 × Int32) => (T.2.2.2.1.toInt - w.2.toInt).toNat) (v.1, (v.2 + 1)) + 1) (v.1, (v.2 + 1))).1, (v.2 + 1))))
def fX3_clashesByPairs (T : TV)  : Int32 := (itv (0, 0) (lX3_clashesByPairs_4 T) ((fun v : (Int32 × Int32) => (T.2.2.2.1.toInt - v.2.toInt).toNat) (0, 0) + 1) (0, 0)).1
abbrev rmX3_clashesByPairs : Room := { frames := 3, cells := 0, slots := 0, locals := 67 }
set_option maxHeartbeats 4000000 in
set_option maxRecDepth 100000 in
theorem kX3_clashesByPairs (l : Launch) (D : va_G) (cI cC cT : ClassId) (h a b : Nat) (T : TV)   : mR l D (TY cI cC cT) yX3_clashesByPairs wsX3_clashesByPairs rmX3_clashesByPairs [.ref h] (w3 cI h a b T) (some (.int (fX3_clashesByPairs T))) := by
  refine mR.ofW (cc := cX3_clashesByPairs) (maxL := 4) (ret := (some .int)) (by decide) rfl (Nat.le_of_ble_eq_true rfl) ?_
  intro p e s m args below meth c Q ls hx hb hml hr hlk hts hown hP hK hl hQ
  have hown : s.vm.findClass RX3 = some m.cls := hown
  have hP : va_P D vwCl [(h, .inr (4, [.ref a, .ref b, .int T.2.2.1, .int T.2.2.2.1, .int T.2.2.2.2.1, .int T.2.2.2.2.2.1, .int T.2.2.2.2.2.2.1, .int T.2.2.2.2.2.2.2])), (a, .inl (cI, 72, .inl T.1)), (b, .inl (cI, 36, .inl T.2.1))] s.heap := hP
  have hl : lv_has ls 4 [(0, .ref h)] := hl
  have q0 := hts (Cond.fieldLink RX3 22 "TavernStools$Tavern" "sitters" "I") (by decide +kernel)
  have q1 : ∀ w ∈ u_ws RX3 TX3 8, w ∈ wsX3_clashesByPairs := by decide +kernel
  refine lv_iconst (v := 0) hx hb dX3_clashesByPairs_0 (by decide) ?_
  refine lv_istore_n (lv' := [(1, .int 0), (0, .ref h)]) hx hb dX3_clashesByPairs_1 rfl hl (by decide) rfl (fun ls hl => ?_)
  refine lv_iconst (v := 0) hx hb dX3_clashesByPairs_2 (by decide) ?_
  refine lv_istore_n (lv' := [(2, .int 0), (1, .int 0), (0, .ref h)]) hx hb dX3_clashesByPairs_3 rfl hl (by decide) rfl (fun ls hl => ?_)
  have hE_4 : itr (lX3_clashesByPairs_4 T) ((fun v : (Int32 × Int32) => (T.2.2.2.1.toInt - v.2.toInt).toNat) (0, 0) + 1) (0, 0) = .inr (itv (0, 0) (lX3_clashesByPairs_4 T) ((fun v : (Int32 × Int32) => (T.2.2.2.1.toInt - v.2.toInt).toNat) (0, 0) + 1) (0, 0)) := by
    refine itv_ends (itr_ends (lX3_clashesByPairs_4 T) (fun v : (Int32 × Int32) => True) (fun v : (Int32 × Int32) => (T.2.2.2.1.toInt - v.2.toInt).toNat) ?_ _ _ trivial (Nat.lt_succ_self _))
    intro a b h0 h
    unfold lX3_clashesByPairs_4 at h
    repeat' split at h
    all_goals first | (cases h; done) | (cases h; exact ⟨trivial, rk_ge (by assumption)⟩) | (cases h; exact ⟨trivial, rk_gt (by assumption)⟩)
  refine loopW (lX3_clashesByPairs_4 T) (fun v : (Int32 × Int32) => True) (fun v : (Int32 × Int32) => ∀ ls, lv_has ls 4 [(0, .ref h), (1, .int v.1), (2, .int v.2)] → W p l e rmX3_clashesByPairs s m args below meth c s.heap [] 0 0 Q (F0 m 4 ls [])) (fun r9 : (Int32 × Int32) => ∀ ls, lv_has ls 4 [(0, .ref h), (1, .int r9.1), (2, .int r9.2)] → W p l e rmX3_clashesByPairs s m args below meth c s.heap [] 0 0 Q (F0 m 48 ls [])) ?_ (fun _ _ _ _ => trivial) _ (0, 0) (itv (0, 0) (lX3_clashesByPairs_4 T) ((fun v : (Int32 × Int32) => (T.2.2.2.1.toInt - v.2.toInt).toNat) (0, 0) + 1) (0, 0)) trivial hE_4 ?_ ls (lv_sub hl [2, 1, 0] rfl)
  · intro v _ kb kx ls hl
    refine lv_iload_n hx hb dX3_clashesByPairs_4 rfl (lv_at hl 2 rfl) ?_
    refine lv_aload_n hx hb dX3_clashesByPairs_5 rfl (lv_at hl 0 rfl) ?_
    refine va_get (D := D) (ci := 4) (v := .int T.2.2.2.1) (C := RX3) (T := TX3) (N := 8) hx hb hts q1 hown hK hP 0 rfl rfl 3 (by decide) q0 (fun _ h9 => h9) rfl dX3_clashesByPairs_6 ?_
    refine lv_icmp_ge (tgt := 48) hx hb dX3_clashesByPairs_9 (by decide) (fun c_9 => ?_) (fun c_9 => ?_)
    · exact kx (v.1, v.2) (by rw [lX3_clashesByPairs_4, if_pos c_9]) ls (lv_sub hl [0, 1, 2] rfl)
    · refine lv_iload_n hx hb dX3_clashesByPairs_12 rfl (lv_at hl 2 rfl) ?_
      refine lv_iconst (v := 1) hx hb dX3_clashesByPairs_13 (by decide) ?_
      refine lv_iadd hx hb dX3_clashesByPairs_14 ?_
      refine lv_istore_n (lv' := [(3, .int (v.2 + 1)), (0, .ref h), (1, .int v.1), (2, .int v.2)]) hx hb dX3_clashesByPairs_15 rfl hl (by decide) rfl (fun ls hl => ?_)
      have hE_16_1 : itr (lX3_clashesByPairs_16 T v) ((fun w : (Int32 × Int32) => (T.2.2.2.1.toInt - w.2.toInt).toNat) (v.1, (v.2 + 1)) + 1) (v.1, (v.2 + 1)) = .inr (itv (v.1, (v.2 + 1)) (lX3_clashesByPairs_16 T v) ((fun w : (Int32 × Int32) => (T.2.2.2.1.toInt - w.2.toInt).toNat) (v.1, (v.2 + 1)) + 1) (v.1, (v.2 + 1))) := by
        refine itv_ends (itr_ends (lX3_clashesByPairs_16 T v) (fun w : (Int32 × Int32) => True) (fun w : (Int32 × Int32) => (T.2.2.2.1.toInt - w.2.toInt).toNat) ?_ _ _ trivial (Nat.lt_succ_self _))
        intro a b h0 h
        unfold lX3_clashesByPairs_16 at h
        repeat' split at h
        all_goals first | (cases h; done) | (cases h; exact ⟨trivial, rk_ge (by assumption)⟩) | (cases h; exact ⟨trivial, rk_gt (by assumption)⟩)
      refine loopW (lX3_clashesByPairs_16 T v) (fun w : (Int32 × Int32) => True) (fun w : (Int32 × Int32) => ∀ ls, lv_has ls 4 [(0, .ref h), (1, .int w.1), (2, .int v.2), (3, .int w.2)] → W p l e rmX3_clashesByPairs s m args below meth c s.heap [] 0 0 Q (F0 m 16 ls [])) (fun r9 : (Int32 × Int32) => ∀ ls, lv_has ls 4 [(0, .ref h), (1, .int r9.1), (2, .int v.2), (3, .int r9.2)] → W p l e rmX3_clashesByPairs s m args below meth c s.heap [] 0 0 Q (F0 m 42 ls [])) ?_ (fun _ _ _ _ => trivial) _ (v.1, (v.2 + 1)) (itv (v.1, (v.2 + 1)) (lX3_clashesByPairs_16 T v) ((fun w : (Int32 × Int32) => (T.2.2.2.1.toInt - w.2.toInt).toNat) (v.1, (v.2 + 1)) + 1) (v.1, (v.2 + 1))) trivial hE_16_1 ?_ ls (lv_sub hl [1, 2, 3, 0] rfl)
      · intro w _ kb kx ls hl
        refine lv_iload_n hx hb dX3_clashesByPairs_16 rfl (lv_at hl 3 rfl) ?_
        refine lv_aload_n hx hb dX3_clashesByPairs_17 rfl (lv_at hl 0 rfl) ?_
        refine va_get (D := D) (ci := 4) (v := .int T.2.2.2.1) (C := RX3) (T := TX3) (N := 8) hx hb hts q1 hown hK hP 0 rfl rfl 3 (by decide) q0 (fun _ h9 => h9) rfl dX3_clashesByPairs_18 ?_
        refine lv_icmp_ge (tgt := 42) hx hb dX3_clashesByPairs_21 (by decide) (fun c_21 => ?_) (fun c_21 => ?_)
        · exact kx (w.1, w.2) (by rw [lX3_clashesByPairs_16, if_pos c_21]) ls (lv_sub hl [0, 1, 2, 3] rfl)
        · refine lv_aload_n hx hb dX3_clashesByPairs_24 rfl (lv_at hl 0 rfl) ?_
          refine lv_iload_n hx hb dX3_clashesByPairs_25 rfl (lv_at hl 2 rfl) ?_
          refine lv_iload_n hx hb dX3_clashesByPairs_26 rfl (lv_at hl 3 rfl) ?_
          refine fRV (As := [.int v.2, .int w.2]) (rest := []) (st' := [.int (fX3_areClashing T v.2 w.2)]) ⟨hx, hb, hml, hown, hts⟩ (kX3_areClashing l D cI cC cT h a b T v.2 w.2) (cwV 2 hts gX3_clashesByPairs_X3_areClashing rfl rfl rfl (by decide +kernel) ⟨Nat.le_of_ble_eq_true rfl, Nat.le_of_ble_eq_true rfl⟩) hP hK [0, 1, 2] rfl 0 (ci := 4) rfl rfl rfl rfl hl.1 rfl rfl (Nat.le_of_ble_eq_true rfl) ⟨Nat.zero_le _, Nat.zero_le _⟩ dX3_clashesByPairs_27 ?_
          refine lv_if_eq (tgt := 36) hx hb dX3_clashesByPairs_30 (by decide) (fun c_30 => ?_) (fun c_30 => ?_)
          · refine lv_iinc (v := (w.2 + 1)) (lv' := [(3, .int (w.2 + 1)), (0, .ref h), (1, .int w.1), (2, .int v.2)]) hx hb dX3_clashesByPairs_36 hl (k := 3) rfl rfl (by decide) rfl (fun ls hl => ?_)
            refine lv_goto (tgt := 16) hx hb dX3_clashesByPairs_39 (by decide) ?_
            exact kb (w.1, (w.2 + 1)) (by rw [lX3_clashesByPairs_16, if_neg c_21, if_pos c_30]) ls (lv_sub hl [1, 2, 3, 0] rfl)
          · refine lv_iinc (v := (w.1 + 1)) (lv' := [(1, .int (w.1 + 1)), (0, .ref h), (2, .int v.2), (3, .int w.2)]) hx hb dX3_clashesByPairs_33 hl (k := 1) rfl rfl (by decide) rfl (fun ls hl => ?_)
            refine lv_iinc (v := (w.2 + 1)) (lv' := [(3, .int (w.2 + 1)), (1, .int (w.1 + 1)), (0, .ref h), (2, .int v.2)]) hx hb dX3_clashesByPairs_36 hl (k := 3) rfl rfl (by decide) rfl (fun ls hl => ?_)
            refine lv_goto (tgt := 16) hx hb dX3_clashesByPairs_39 (by decide) ?_
            exact kb ((w.1 + 1), (w.2 + 1)) (by rw [lX3_clashesByPairs_16, if_neg c_21, if_neg c_30]) ls (lv_sub hl [2, 1, 3, 0] rfl)
      · intro ls hl
        refine lv_iinc (v := (v.2 + 1)) (lv' := [(2, .int (v.2 + 1)), (0, .ref h), (1, .int (itv (v.1, (v.2 + 1)) (lX3_clashesByPairs_16 T v) ((fun w : (Int32 × Int32) => (T.2.2.2.1.toInt - w.2.toInt).toNat) (v.1, (v.2 + 1)) + 1) (v.1, (v.2 + 1))).1), (3, .int (itv (v.1, (v.2 + 1)) (lX3_clashesByPairs_16 T v) ((fun w : (Int32 × Int32) => (T.2.2.2.1.toInt - w.2.toInt).toNat) (v.1, (v.2 + 1)) + 1) (v.1, (v.2 + 1))).2)]) hx hb dX3_clashesByPairs_42 hl (k := 2) rfl rfl (by decide) rfl (fun ls hl => ?_)
        refine lv_goto (tgt := 4) hx hb dX3_clashesByPairs_45 (by decide) ?_
        exact kb ((itv (v.1, (v.2 + 1)) (lX3_clashesByPairs_16 T v) ((fun w : (Int32 × Int32) => (T.2.2.2.1.toInt - w.2.toInt).toNat) (v.1, (v.2 + 1)) + 1) (v.1, (v.2 + 1))).1, (v.2 + 1)) (by rw [lX3_clashesByPairs_4, if_neg c_9]) ls (lv_sub hl [1, 2, 0] rfl)
  · intro ls hl
    refine lv_iload_n hx hb dX3_clashesByPairs_48 rfl (lv_at hl 1 rfl) ?_
    exact rRi hx hb hr hlk hQ (by rw [fX3_clashesByPairs]) rfl dX3_clashesByPairs_49
def lX3_sittersAbove_5 (T : TV) (x1 : Int32) (x2 : Int32) (v : (Int32 × Int32)) : (Int32 × Int32) ⊕ ((Int32 × Int32)) := (if T.2.2.1 ≤ v.2 then (.inr (v.1, v.2)) else (if (fX3_ofStool T v.2 5) = (-1) then (.inl (v.1, (v.2 + 1))) else (if (fX3_ofSitter T (fX3_ofStool T v.2 5) 0) = x2 then (if (fX3_ofStool T v.2 0) ≤ x1 then (.inl (v.1, (v.2 + 1))) else (.inl ((v.1 + 1), (v.2 + 1)))) else (.inl (v.1, (v.2 + 1))))))
def fX3_sittersAbove (T : TV) (x1 : Int32) (x2 : Int32) : Int32 := (itv (0, 0) (lX3_sittersAbove_5 T x1 x2) ((fun v : (Int32 × Int32) => (T.2.2.1.toInt - v.2.toInt).toNat) (0, 0) + 1) (0, 0)).1
abbrev rmX3_sittersAbove : Room := { frames := 1, cells := 0, slots := 0, locals := 22 }
set_option maxHeartbeats 4000000 in
set_option maxRecDepth 100000 in
theorem kX3_sittersAbove (l : Launch) (D : va_G) (cI cC cT : ClassId) (h a b : Nat) (T : TV) (x1 : Int32) (x2 : Int32)  : mR l D (TY cI cC cT) yX3_sittersAbove wsX3_sittersAbove rmX3_sittersAbove [.ref h, .int x1, .int x2] (w3 cI h a b T) (some (.int (fX3_sittersAbove T x1 x2))) := by
  refine mR.ofW (cc := cX3_sittersAbove) (maxL := 6) (ret := (some .int)) (by decide) rfl (Nat.le_of_ble_eq_true rfl) ?_
  intro p e s m args below meth c Q ls hx hb hml hr hlk hts hown hP hK hl hQ
  have hown : s.vm.findClass RX3 = some m.cls := hown
  have hP : va_P D vwCl [(h, .inr (4, [.ref a, .ref b, .int T.2.2.1, .int T.2.2.2.1, .int T.2.2.2.2.1, .int T.2.2.2.2.2.1, .int T.2.2.2.2.2.2.1, .int T.2.2.2.2.2.2.2])), (a, .inl (cI, 72, .inl T.1)), (b, .inl (cI, 36, .inl T.2.1))] s.heap := hP
  have hl : lv_has ls 6 [(0, .ref h), (1, .int x1), (2, .int x2)] := hl
  have q0 := hts (Cond.fieldLink RX3 18 "TavernStools$Tavern" "stools" "I") (by decide +kernel)
  have q1 : ∀ w ∈ u_ws RX3 TX3 8, w ∈ wsX3_sittersAbove := by decide +kernel
  refine lv_iconst (v := 0) hx hb dX3_sittersAbove_0 (by decide) ?_
  refine lv_istore_n (lv' := [(3, .int 0), (0, .ref h), (1, .int x1), (2, .int x2)]) hx hb dX3_sittersAbove_1 rfl hl (by decide) rfl (fun ls hl => ?_)
  refine lv_iconst (v := 0) hx hb dX3_sittersAbove_2 (by decide) ?_
  refine lv_istore (lv' := [(4, .int 0), (3, .int 0), (0, .ref h), (1, .int x1), (2, .int x2)]) hx hb dX3_sittersAbove_3 hl (by decide) rfl (fun ls hl => ?_)
  have hE_5 : itr (lX3_sittersAbove_5 T x1 x2) ((fun v : (Int32 × Int32) => (T.2.2.1.toInt - v.2.toInt).toNat) (0, 0) + 1) (0, 0) = .inr (itv (0, 0) (lX3_sittersAbove_5 T x1 x2) ((fun v : (Int32 × Int32) => (T.2.2.1.toInt - v.2.toInt).toNat) (0, 0) + 1) (0, 0)) := by
    refine itv_ends (itr_ends (lX3_sittersAbove_5 T x1 x2) (fun v : (Int32 × Int32) => True) (fun v : (Int32 × Int32) => (T.2.2.1.toInt - v.2.toInt).toNat) ?_ _ _ trivial (Nat.lt_succ_self _))
    intro a b h0 h
    unfold lX3_sittersAbove_5 at h
    repeat' split at h
    all_goals first | (cases h; done) | (cases h; exact ⟨trivial, rk_ge (by assumption)⟩) | (cases h; exact ⟨trivial, rk_gt (by assumption)⟩)
  refine loopW (lX3_sittersAbove_5 T x1 x2) (fun v : (Int32 × Int32) => True) (fun v : (Int32 × Int32) => ∀ ls, lv_has ls 6 [(0, .ref h), (1, .int x1), (2, .int x2), (3, .int v.1), (4, .int v.2)] → W p l e rmX3_sittersAbove s m args below meth c s.heap [] 0 0 Q (F0 m 5 ls [])) (fun r9 : (Int32 × Int32) => ∀ ls, lv_has ls 6 [(0, .ref h), (1, .int x1), (2, .int x2), (3, .int r9.1), (4, .int r9.2)] → W p l e rmX3_sittersAbove s m args below meth c s.heap [] 0 0 Q (F0 m 60 ls [])) ?_ (fun _ _ _ _ => trivial) _ (0, 0) (itv (0, 0) (lX3_sittersAbove_5 T x1 x2) ((fun v : (Int32 × Int32) => (T.2.2.1.toInt - v.2.toInt).toNat) (0, 0) + 1) (0, 0)) trivial hE_5 ?_ ls (lv_sub hl [2, 3, 4, 1, 0] rfl)
  · intro v _ kb kx ls hl
    refine lv_iload hx hb dX3_sittersAbove_5 (lv_at hl 4 rfl) ?_
    refine lv_aload_n hx hb dX3_sittersAbove_7 rfl (lv_at hl 0 rfl) ?_
    refine va_get (D := D) (ci := 4) (v := .int T.2.2.1) (C := RX3) (T := TX3) (N := 8) hx hb hts q1 hown hK hP 0 rfl rfl 2 (by decide) q0 (fun _ h9 => h9) rfl dX3_sittersAbove_8 ?_
    refine lv_icmp_ge (tgt := 60) hx hb dX3_sittersAbove_11 (by decide) (fun c_11 => ?_) (fun c_11 => ?_)
    · exact kx (v.1, v.2) (by rw [lX3_sittersAbove_5, if_pos c_11]) ls (lv_sub hl [0, 1, 2, 3, 4] rfl)
    · refine lv_aload_n hx hb dX3_sittersAbove_14 rfl (lv_at hl 0 rfl) ?_
      refine lv_iload hx hb dX3_sittersAbove_15 (lv_at hl 4 rfl) ?_
      refine lv_iconst (v := 5) hx hb dX3_sittersAbove_17 (by decide) ?_
      refine fRV (As := [.int v.2, .int 5]) (rest := []) (st' := [.int (fX3_ofStool T v.2 5)]) ⟨hx, hb, hml, hown, hts⟩ (kX3_ofStool l D cI cC cT h a b T v.2 5) (cwV 2 hts gX3_sittersAbove_X3_ofStool rfl rfl rfl (by decide +kernel) ⟨Nat.le_of_ble_eq_true rfl, Nat.le_of_ble_eq_true rfl⟩) hP hK [0, 1, 2] rfl 0 (ci := 4) rfl rfl rfl rfl hl.1 rfl rfl (Nat.le_of_ble_eq_true rfl) ⟨Nat.zero_le _, Nat.zero_le _⟩ dX3_sittersAbove_18 ?_
      refine lv_istore (lv' := [(5, .int (fX3_ofStool T v.2 5)), (0, .ref h), (1, .int x1), (2, .int x2), (3, .int v.1), (4, .int v.2)]) hx hb dX3_sittersAbove_21 hl (by decide) rfl (fun ls hl => ?_)
      refine lv_iload hx hb dX3_sittersAbove_23 (lv_at hl 0 rfl) ?_
      refine lv_iconst (v := (-1)) hx hb dX3_sittersAbove_25 (by decide) ?_
      refine lv_icmp_eq (tgt := 54) hx hb dX3_sittersAbove_26 (by decide) (fun c_26 => ?_) (fun c_26 => ?_)
      · refine lv_iinc (v := (v.2 + 1)) (lv' := [(4, .int (v.2 + 1)), (5, .int (fX3_ofStool T v.2 5)), (0, .ref h), (1, .int x1), (2, .int x2), (3, .int v.1)]) hx hb dX3_sittersAbove_54 hl (k := 5) rfl rfl (by decide) rfl (fun ls hl => ?_)
        refine lv_goto (tgt := 5) hx hb dX3_sittersAbove_57 (by decide) ?_
        exact kb (v.1, (v.2 + 1)) (by rw [lX3_sittersAbove_5, if_neg c_11, if_pos c_26]) ls (lv_sub hl [2, 3, 4, 5, 0] rfl)
      · refine lv_aload_n hx hb dX3_sittersAbove_29 rfl (lv_at hl 1 rfl) ?_
        refine lv_iload hx hb dX3_sittersAbove_30 (lv_at hl 0 rfl) ?_
        refine lv_iconst (v := 0) hx hb dX3_sittersAbove_32 (by decide) ?_
        refine fRV (As := [.int (fX3_ofStool T v.2 5), .int 0]) (rest := []) (st' := [.int (fX3_ofSitter T (fX3_ofStool T v.2 5) 0)]) ⟨hx, hb, hml, hown, hts⟩ (kX3_ofSitter l D cI cC cT h a b T (fX3_ofStool T v.2 5) 0) (cwV 2 hts gX3_sittersAbove_X3_ofSitter rfl rfl rfl (by decide +kernel) ⟨Nat.le_of_ble_eq_true rfl, Nat.le_of_ble_eq_true rfl⟩) hP hK [0, 1, 2] rfl 0 (ci := 4) rfl rfl rfl rfl hl.1 rfl rfl (Nat.le_of_ble_eq_true rfl) ⟨Nat.zero_le _, Nat.zero_le _⟩ dX3_sittersAbove_33 ?_
        refine lv_iload_n hx hb dX3_sittersAbove_36 rfl (lv_at hl 3 rfl) ?_
        refine lv_icmp_ne (tgt := 54) hx hb dX3_sittersAbove_37 (by decide) (fun c_37 => ?_) (fun c_37 => ?_)
        · refine lv_iinc (v := (v.2 + 1)) (lv' := [(4, .int (v.2 + 1)), (5, .int (fX3_ofStool T v.2 5)), (0, .ref h), (1, .int x1), (2, .int x2), (3, .int v.1)]) hx hb dX3_sittersAbove_54 hl (k := 5) rfl rfl (by decide) rfl (fun ls hl => ?_)
          refine lv_goto (tgt := 5) hx hb dX3_sittersAbove_57 (by decide) ?_
          exact kb (v.1, (v.2 + 1)) (by rw [lX3_sittersAbove_5, if_neg c_11, if_neg c_26, if_neg c_37]) ls (lv_sub hl [2, 3, 4, 5, 0] rfl)
        · refine lv_aload_n hx hb dX3_sittersAbove_40 rfl (lv_at hl 1 rfl) ?_
          refine lv_iload hx hb dX3_sittersAbove_41 (lv_at hl 5 rfl) ?_
          refine lv_iconst (v := 0) hx hb dX3_sittersAbove_43 (by decide) ?_
          refine fRV (As := [.int v.2, .int 0]) (rest := []) (st' := [.int (fX3_ofStool T v.2 0)]) ⟨hx, hb, hml, hown, hts⟩ (kX3_ofStool l D cI cC cT h a b T v.2 0) (cwV 2 hts gX3_sittersAbove_X3_ofStool rfl rfl rfl (by decide +kernel) ⟨Nat.le_of_ble_eq_true rfl, Nat.le_of_ble_eq_true rfl⟩) hP hK [0, 1, 2] rfl 0 (ci := 4) rfl rfl rfl rfl hl.1 rfl rfl (Nat.le_of_ble_eq_true rfl) ⟨Nat.zero_le _, Nat.zero_le _⟩ dX3_sittersAbove_44 ?_
          refine lv_iload_n hx hb dX3_sittersAbove_47 rfl (lv_at hl 2 rfl) ?_
          refine lv_icmp_le (tgt := 54) hx hb dX3_sittersAbove_48 (by decide) (fun c_48 => ?_) (fun c_48 => ?_)
          · refine lv_iinc (v := (v.2 + 1)) (lv' := [(4, .int (v.2 + 1)), (5, .int (fX3_ofStool T v.2 5)), (0, .ref h), (1, .int x1), (2, .int x2), (3, .int v.1)]) hx hb dX3_sittersAbove_54 hl (k := 5) rfl rfl (by decide) rfl (fun ls hl => ?_)
            refine lv_goto (tgt := 5) hx hb dX3_sittersAbove_57 (by decide) ?_
            exact kb (v.1, (v.2 + 1)) (by rw [lX3_sittersAbove_5, if_neg c_11, if_neg c_26, if_pos c_37, if_pos c_48]) ls (lv_sub hl [2, 3, 4, 5, 0] rfl)
          · refine lv_iinc (v := (v.1 + 1)) (lv' := [(3, .int (v.1 + 1)), (5, .int (fX3_ofStool T v.2 5)), (0, .ref h), (1, .int x1), (2, .int x2), (4, .int v.2)]) hx hb dX3_sittersAbove_51 hl (k := 4) rfl rfl (by decide) rfl (fun ls hl => ?_)
            refine lv_iinc (v := (v.2 + 1)) (lv' := [(4, .int (v.2 + 1)), (3, .int (v.1 + 1)), (5, .int (fX3_ofStool T v.2 5)), (0, .ref h), (1, .int x1), (2, .int x2)]) hx hb dX3_sittersAbove_54 hl (k := 5) rfl rfl (by decide) rfl (fun ls hl => ?_)
            refine lv_goto (tgt := 5) hx hb dX3_sittersAbove_57 (by decide) ?_
            exact kb ((v.1 + 1), (v.2 + 1)) (by rw [lX3_sittersAbove_5, if_neg c_11, if_neg c_26, if_pos c_37, if_neg c_48]) ls (lv_sub hl [3, 4, 5, 1, 0] rfl)
  · intro ls hl
    refine lv_iload_n hx hb dX3_sittersAbove_60 rfl (lv_at hl 3 rfl) ?_
    exact rRi hx hb hr hlk hQ (by rw [fX3_sittersAbove]) rfl dX3_sittersAbove_61
def lX3_clashesByStools_27 (T : TV) (v : (Int32 × Int32)) (w : (Int32 × Int32)) : (Int32 × Int32) ⊕ ((Int32 × Int32)) := (if (fX3_ofSitter T (fX3_ofStool T v.2 5) 0) ≤ w.2 then (.inr (w.1, w.2)) else (.inl ((w.1 + (fX3_sittersAbove T (fX3_ofStool T v.2 0) w.2)), (w.2 + 1))))
def lX3_clashesByStools_4 (T : TV) (v : (Int32 × Int32)) : (Int32 × Int32) ⊕ ((Int32 × Int32)) := (if T.2.2.1 ≤ v.2 then (.inr (v.1, v.2)) else (.inl ((itv (v.1, 0) (lX3_clashesByStools_27 T v) ((fun w : (Int32 × Int32) => ((fX3_ofSitter T (fX3_ofStool T v.2 5) 0).toInt - w.2.toInt).toNat) (v.1, 0) + 1) (v.1, 0)).1, (v.2 + 1))))
def fX3_clashesByStools (T : TV)  : Int32 := (itv (0, 0) (lX3_clashesByStools_4 T) ((fun v : (Int32 × Int32) => (T.2.2.1.toInt - v.2.toInt).toNat) (0, 0) + 1) (0, 0)).1
abbrev rmX3_clashesByStools : Room := { frames := 2, cells := 0, slots := 0, locals := 47 }
set_option maxHeartbeats 4000000 in
set_option maxRecDepth 100000 in
theorem kX3_clashesByStools (l : Launch) (D : va_G) (cI cC cT : ClassId) (h a b : Nat) (T : TV)   : mR l D (TY cI cC cT) yX3_clashesByStools wsX3_clashesByStools rmX3_clashesByStools [.ref h] (w3 cI h a b T) (some (.int (fX3_clashesByStools T))) := by
  refine mR.ofW (cc := cX3_clashesByStools) (maxL := 5) (ret := (some .int)) (by decide) rfl (Nat.le_of_ble_eq_true rfl) ?_
  intro p e s m args below meth c Q ls hx hb hml hr hlk hts hown hP hK hl hQ
  have hown : s.vm.findClass RX3 = some m.cls := hown
  have hP : va_P D vwCl [(h, .inr (4, [.ref a, .ref b, .int T.2.2.1, .int T.2.2.2.1, .int T.2.2.2.2.1, .int T.2.2.2.2.2.1, .int T.2.2.2.2.2.2.1, .int T.2.2.2.2.2.2.2])), (a, .inl (cI, 72, .inl T.1)), (b, .inl (cI, 36, .inl T.2.1))] s.heap := hP
  have hl : lv_has ls 5 [(0, .ref h)] := hl
  have q0 := hts (Cond.fieldLink RX3 18 "TavernStools$Tavern" "stools" "I") (by decide +kernel)
  have q1 : ∀ w ∈ u_ws RX3 TX3 8, w ∈ wsX3_clashesByStools := by decide +kernel
  refine lv_iconst (v := 0) hx hb dX3_clashesByStools_0 (by decide) ?_
  refine lv_istore_n (lv' := [(1, .int 0), (0, .ref h)]) hx hb dX3_clashesByStools_1 rfl hl (by decide) rfl (fun ls hl => ?_)
  refine lv_iconst (v := 0) hx hb dX3_clashesByStools_2 (by decide) ?_
  refine lv_istore_n (lv' := [(2, .int 0), (1, .int 0), (0, .ref h)]) hx hb dX3_clashesByStools_3 rfl hl (by decide) rfl (fun ls hl => ?_)
  have hE_4 : itr (lX3_clashesByStools_4 T) ((fun v : (Int32 × Int32) => (T.2.2.1.toInt - v.2.toInt).toNat) (0, 0) + 1) (0, 0) = .inr (itv (0, 0) (lX3_clashesByStools_4 T) ((fun v : (Int32 × Int32) => (T.2.2.1.toInt - v.2.toInt).toNat) (0, 0) + 1) (0, 0)) := by
    refine itv_ends (itr_ends (lX3_clashesByStools_4 T) (fun v : (Int32 × Int32) => True) (fun v : (Int32 × Int32) => (T.2.2.1.toInt - v.2.toInt).toNat) ?_ _ _ trivial (Nat.lt_succ_self _))
    intro a b h0 h
    unfold lX3_clashesByStools_4 at h
    repeat' split at h
    all_goals first | (cases h; done) | (cases h; exact ⟨trivial, rk_ge (by assumption)⟩) | (cases h; exact ⟨trivial, rk_gt (by assumption)⟩)
  refine loopW (lX3_clashesByStools_4 T) (fun v : (Int32 × Int32) => True) (fun v : (Int32 × Int32) => ∀ ls, lv_has ls 5 [(0, .ref h), (1, .int v.1), (2, .int v.2)] → W p l e rmX3_clashesByStools s m args below meth c s.heap [] 0 0 Q (F0 m 4 ls [])) (fun r9 : (Int32 × Int32) => ∀ ls, lv_has ls 5 [(0, .ref h), (1, .int r9.1), (2, .int r9.2)] → W p l e rmX3_clashesByStools s m args below meth c s.heap [] 0 0 Q (F0 m 60 ls [])) ?_ (fun _ _ _ _ => trivial) _ (0, 0) (itv (0, 0) (lX3_clashesByStools_4 T) ((fun v : (Int32 × Int32) => (T.2.2.1.toInt - v.2.toInt).toNat) (0, 0) + 1) (0, 0)) trivial hE_4 ?_ ls (lv_sub hl [2, 1, 0] rfl)
  · intro v _ kb kx ls hl
    refine lv_iload_n hx hb dX3_clashesByStools_4 rfl (lv_at hl 2 rfl) ?_
    refine lv_aload_n hx hb dX3_clashesByStools_5 rfl (lv_at hl 0 rfl) ?_
    refine va_get (D := D) (ci := 4) (v := .int T.2.2.1) (C := RX3) (T := TX3) (N := 8) hx hb hts q1 hown hK hP 0 rfl rfl 2 (by decide) q0 (fun _ h9 => h9) rfl dX3_clashesByStools_6 ?_
    refine lv_icmp_ge (tgt := 60) hx hb dX3_clashesByStools_9 (by decide) (fun c_9 => ?_) (fun c_9 => ?_)
    · exact kx (v.1, v.2) (by rw [lX3_clashesByStools_4, if_pos c_9]) ls (lv_sub hl [0, 1, 2] rfl)
    · refine lv_aload_n hx hb dX3_clashesByStools_12 rfl (lv_at hl 0 rfl) ?_
      refine lv_aload_n hx hb dX3_clashesByStools_13 rfl (lv_at hl 0 rfl) ?_
      refine lv_iload_n hx hb dX3_clashesByStools_14 rfl (lv_at hl 2 rfl) ?_
      refine lv_iconst (v := 5) hx hb dX3_clashesByStools_15 (by decide) ?_
      refine fRV (As := [.int v.2, .int 5]) (rest := [.ref h]) (st' := [.int (fX3_ofStool T v.2 5), .ref h]) ⟨hx, hb, hml, hown, hts⟩ (kX3_ofStool l D cI cC cT h a b T v.2 5) (cwV 2 hts gX3_clashesByStools_X3_ofStool rfl rfl rfl (by decide +kernel) ⟨Nat.le_of_ble_eq_true rfl, Nat.le_of_ble_eq_true rfl⟩) hP hK [0, 1, 2] rfl 0 (ci := 4) rfl rfl rfl rfl hl.1 rfl rfl (Nat.le_of_ble_eq_true rfl) ⟨Nat.zero_le _, Nat.zero_le _⟩ dX3_clashesByStools_16 ?_
      refine lv_iconst (v := 0) hx hb dX3_clashesByStools_19 (by decide) ?_
      refine fRV (As := [.int (fX3_ofStool T v.2 5), .int 0]) (rest := []) (st' := [.int (fX3_ofSitter T (fX3_ofStool T v.2 5) 0)]) ⟨hx, hb, hml, hown, hts⟩ (kX3_ofSitter l D cI cC cT h a b T (fX3_ofStool T v.2 5) 0) (cwV 2 hts gX3_clashesByStools_X3_ofSitter rfl rfl rfl (by decide +kernel) ⟨Nat.le_of_ble_eq_true rfl, Nat.le_of_ble_eq_true rfl⟩) hP hK [0, 1, 2] rfl 0 (ci := 4) rfl rfl rfl rfl hl.1 rfl rfl (Nat.le_of_ble_eq_true rfl) ⟨Nat.zero_le _, Nat.zero_le _⟩ dX3_clashesByStools_20 ?_
      refine lv_istore_n (lv' := [(3, .int (fX3_ofSitter T (fX3_ofStool T v.2 5) 0)), (0, .ref h), (1, .int v.1), (2, .int v.2)]) hx hb dX3_clashesByStools_23 rfl hl (by decide) rfl (fun ls hl => ?_)
      refine lv_iconst (v := 0) hx hb dX3_clashesByStools_24 (by decide) ?_
      refine lv_istore (lv' := [(4, .int 0), (3, .int (fX3_ofSitter T (fX3_ofStool T v.2 5) 0)), (0, .ref h), (1, .int v.1), (2, .int v.2)]) hx hb dX3_clashesByStools_25 hl (by decide) rfl (fun ls hl => ?_)
      have hE_27_1 : itr (lX3_clashesByStools_27 T v) ((fun w : (Int32 × Int32) => ((fX3_ofSitter T (fX3_ofStool T v.2 5) 0).toInt - w.2.toInt).toNat) (v.1, 0) + 1) (v.1, 0) = .inr (itv (v.1, 0) (lX3_clashesByStools_27 T v) ((fun w : (Int32 × Int32) => ((fX3_ofSitter T (fX3_ofStool T v.2 5) 0).toInt - w.2.toInt).toNat) (v.1, 0) + 1) (v.1, 0)) := by
        refine itv_ends (itr_ends (lX3_clashesByStools_27 T v) (fun w : (Int32 × Int32) => True) (fun w : (Int32 × Int32) => ((fX3_ofSitter T (fX3_ofStool T v.2 5) 0).toInt - w.2.toInt).toNat) ?_ _ _ trivial (Nat.lt_succ_self _))
        intro a b h0 h
        unfold lX3_clashesByStools_27 at h
        repeat' split at h
        all_goals first | (cases h; done) | (cases h; exact ⟨trivial, rk_ge (by assumption)⟩) | (cases h; exact ⟨trivial, rk_gt (by assumption)⟩)
      refine loopW (lX3_clashesByStools_27 T v) (fun w : (Int32 × Int32) => True) (fun w : (Int32 × Int32) => ∀ ls, lv_has ls 5 [(0, .ref h), (1, .int w.1), (2, .int v.2), (3, .int (fX3_ofSitter T (fX3_ofStool T v.2 5) 0)), (4, .int w.2)] → W p l e rmX3_clashesByStools s m args below meth c s.heap [] 0 0 Q (F0 m 27 ls [])) (fun r9 : (Int32 × Int32) => ∀ ls, lv_has ls 5 [(0, .ref h), (1, .int r9.1), (2, .int v.2), (3, .int (fX3_ofSitter T (fX3_ofStool T v.2 5) 0)), (4, .int r9.2)] → W p l e rmX3_clashesByStools s m args below meth c s.heap [] 0 0 Q (F0 m 54 ls [])) ?_ (fun _ _ _ _ => trivial) _ (v.1, 0) (itv (v.1, 0) (lX3_clashesByStools_27 T v) ((fun w : (Int32 × Int32) => ((fX3_ofSitter T (fX3_ofStool T v.2 5) 0).toInt - w.2.toInt).toNat) (v.1, 0) + 1) (v.1, 0)) trivial hE_27_1 ?_ ls (lv_sub hl [2, 3, 4, 1, 0] rfl)
      · intro w _ kb kx ls hl
        refine lv_iload hx hb dX3_clashesByStools_27 (lv_at hl 4 rfl) ?_
        refine lv_iload_n hx hb dX3_clashesByStools_29 rfl (lv_at hl 3 rfl) ?_
        refine lv_icmp_ge (tgt := 54) hx hb dX3_clashesByStools_30 (by decide) (fun c_30 => ?_) (fun c_30 => ?_)
        · exact kx (w.1, w.2) (by rw [lX3_clashesByStools_27, if_pos c_30]) ls (lv_sub hl [0, 1, 2, 3, 4] rfl)
        · refine lv_iload_n hx hb dX3_clashesByStools_33 rfl (lv_at hl 1 rfl) ?_
          refine lv_aload_n hx hb dX3_clashesByStools_34 rfl (lv_at hl 0 rfl) ?_
          refine lv_aload_n hx hb dX3_clashesByStools_35 rfl (lv_at hl 0 rfl) ?_
          refine lv_iload_n hx hb dX3_clashesByStools_36 rfl (lv_at hl 2 rfl) ?_
          refine lv_iconst (v := 0) hx hb dX3_clashesByStools_37 (by decide) ?_
          refine fRV (As := [.int v.2, .int 0]) (rest := [.ref h, .int w.1]) (st' := [.int (fX3_ofStool T v.2 0), .ref h, .int w.1]) ⟨hx, hb, hml, hown, hts⟩ (kX3_ofStool l D cI cC cT h a b T v.2 0) (cwV 2 hts gX3_clashesByStools_X3_ofStool rfl rfl rfl (by decide +kernel) ⟨Nat.le_of_ble_eq_true rfl, Nat.le_of_ble_eq_true rfl⟩) hP hK [0, 1, 2] rfl 0 (ci := 4) rfl rfl rfl rfl hl.1 rfl rfl (Nat.le_of_ble_eq_true rfl) ⟨Nat.zero_le _, Nat.zero_le _⟩ dX3_clashesByStools_38 ?_
          refine lv_iload hx hb dX3_clashesByStools_41 (lv_at hl 4 rfl) ?_
          refine fRV (As := [.int (fX3_ofStool T v.2 0), .int w.2]) (rest := [.int w.1]) (st' := [.int (fX3_sittersAbove T (fX3_ofStool T v.2 0) w.2), .int w.1]) ⟨hx, hb, hml, hown, hts⟩ (kX3_sittersAbove l D cI cC cT h a b T (fX3_ofStool T v.2 0) w.2) (cwV 2 hts gX3_clashesByStools_X3_sittersAbove rfl rfl rfl (by decide +kernel) ⟨Nat.le_of_ble_eq_true rfl, Nat.le_of_ble_eq_true rfl⟩) hP hK [0, 1, 2] rfl 0 (ci := 4) rfl rfl rfl rfl hl.1 rfl rfl (Nat.le_of_ble_eq_true rfl) ⟨Nat.zero_le _, Nat.zero_le _⟩ dX3_clashesByStools_43 ?_
          refine lv_iadd hx hb dX3_clashesByStools_46 ?_
          refine lv_istore_n (lv' := [(1, .int (w.1 + (fX3_sittersAbove T (fX3_ofStool T v.2 0) w.2))), (0, .ref h), (2, .int v.2), (3, .int (fX3_ofSitter T (fX3_ofStool T v.2 5) 0)), (4, .int w.2)]) hx hb dX3_clashesByStools_47 rfl hl (by decide) rfl (fun ls hl => ?_)
          refine lv_iinc (v := (w.2 + 1)) (lv' := [(4, .int (w.2 + 1)), (1, .int (w.1 + (fX3_sittersAbove T (fX3_ofStool T v.2 0) w.2))), (0, .ref h), (2, .int v.2), (3, .int (fX3_ofSitter T (fX3_ofStool T v.2 5) 0))]) hx hb dX3_clashesByStools_48 hl (k := 4) rfl rfl (by decide) rfl (fun ls hl => ?_)
          refine lv_goto (tgt := 27) hx hb dX3_clashesByStools_51 (by decide) ?_
          exact kb ((w.1 + (fX3_sittersAbove T (fX3_ofStool T v.2 0) w.2)), (w.2 + 1)) (by rw [lX3_clashesByStools_27, if_neg c_30]) ls (lv_sub hl [2, 1, 3, 4, 0] rfl)
      · intro ls hl
        refine lv_iinc (v := (v.2 + 1)) (lv' := [(2, .int (v.2 + 1)), (0, .ref h), (1, .int (itv (v.1, 0) (lX3_clashesByStools_27 T v) ((fun w : (Int32 × Int32) => ((fX3_ofSitter T (fX3_ofStool T v.2 5) 0).toInt - w.2.toInt).toNat) (v.1, 0) + 1) (v.1, 0)).1), (3, .int (fX3_ofSitter T (fX3_ofStool T v.2 5) 0)), (4, .int (itv (v.1, 0) (lX3_clashesByStools_27 T v) ((fun w : (Int32 × Int32) => ((fX3_ofSitter T (fX3_ofStool T v.2 5) 0).toInt - w.2.toInt).toNat) (v.1, 0) + 1) (v.1, 0)).2)]) hx hb dX3_clashesByStools_54 hl (k := 2) rfl rfl (by decide) rfl (fun ls hl => ?_)
        refine lv_goto (tgt := 4) hx hb dX3_clashesByStools_57 (by decide) ?_
        exact kb ((itv (v.1, 0) (lX3_clashesByStools_27 T v) ((fun w : (Int32 × Int32) => ((fX3_ofSitter T (fX3_ofStool T v.2 5) 0).toInt - w.2.toInt).toNat) (v.1, 0) + 1) (v.1, 0)).1, (v.2 + 1)) (by rw [lX3_clashesByStools_4, if_neg c_9]) ls (lv_sub hl [1, 2, 0] rfl)
  · intro ls hl
    refine lv_iload_n hx hb dX3_clashesByStools_60 rfl (lv_at hl 1 rfl) ?_
    exact rRi hx hb hr hlk hQ (by rw [fX3_clashesByStools]) rfl dX3_clashesByStools_61
def fX3_isAhead (T : TV) (x1 : Int32) (x2 : Int32) : Int32 := (if ((fX3_ofSitter T x1 0) - (fX3_ofSitter T x2 0)) = 0 then (if ((fX3_ofSitter T x1 1) - (fX3_ofSitter T x2 1)) = 0 then (if x2 ≤ x1 then 0 else 1) else (if ((fX3_ofSitter T x1 1) - (fX3_ofSitter T x2 1)) ≤ 0 then 0 else 1)) else (if ((fX3_ofSitter T x1 0) - (fX3_ofSitter T x2 0)) ≤ 0 then 0 else 1))
abbrev rmX3_isAhead : Room := { frames := 1, cells := 0, slots := 0, locals := 22 }
set_option maxHeartbeats 4000000 in
set_option maxRecDepth 100000 in
theorem kX3_isAhead (l : Launch) (D : va_G) (cI cC cT : ClassId) (h a b : Nat) (T : TV) (x1 : Int32) (x2 : Int32)  : mR l D (TY cI cC cT) yX3_isAhead wsX3_isAhead rmX3_isAhead [.ref h, .int x1, .int x2] (w3 cI h a b T) (some (.int (fX3_isAhead T x1 x2))) := by
  refine mR.ofW (cc := cX3_isAhead) (maxL := 5) (ret := (some .boolean)) (by decide) rfl (Nat.le_of_ble_eq_true rfl) ?_
  intro p e s m args below meth c Q ls hx hb hml hr hlk hts hown hP hK hl hQ
  have hown : s.vm.findClass RX3 = some m.cls := hown
  have hP : va_P D vwCl [(h, .inr (4, [.ref a, .ref b, .int T.2.2.1, .int T.2.2.2.1, .int T.2.2.2.2.1, .int T.2.2.2.2.2.1, .int T.2.2.2.2.2.2.1, .int T.2.2.2.2.2.2.2])), (a, .inl (cI, 72, .inl T.1)), (b, .inl (cI, 36, .inl T.2.1))] s.heap := hP
  have hl : lv_has ls 5 [(0, .ref h), (1, .int x1), (2, .int x2)] := hl
  refine lv_aload_n hx hb dX3_isAhead_0 rfl (lv_at hl 0 rfl) ?_
  refine lv_iload_n hx hb dX3_isAhead_1 rfl (lv_at hl 1 rfl) ?_
  refine lv_iconst (v := 0) hx hb dX3_isAhead_2 (by decide) ?_
  refine fRV (As := [.int x1, .int 0]) (rest := []) (st' := [.int (fX3_ofSitter T x1 0)]) ⟨hx, hb, hml, hown, hts⟩ (kX3_ofSitter l D cI cC cT h a b T x1 0) (cwV 2 hts gX3_isAhead_X3_ofSitter rfl rfl rfl (by decide +kernel) ⟨Nat.le_of_ble_eq_true rfl, Nat.le_of_ble_eq_true rfl⟩) hP hK [0, 1, 2] rfl 0 (ci := 4) rfl rfl rfl rfl hl.1 rfl rfl (Nat.le_of_ble_eq_true rfl) ⟨Nat.zero_le _, Nat.zero_le _⟩ dX3_isAhead_3 ?_
  refine lv_aload_n hx hb dX3_isAhead_6 rfl (lv_at hl 0 rfl) ?_
  refine lv_iload_n hx hb dX3_isAhead_7 rfl (lv_at hl 2 rfl) ?_
  refine lv_iconst (v := 0) hx hb dX3_isAhead_8 (by decide) ?_
  refine fRV (As := [.int x2, .int 0]) (rest := [.int (fX3_ofSitter T x1 0)]) (st' := [.int (fX3_ofSitter T x2 0), .int (fX3_ofSitter T x1 0)]) ⟨hx, hb, hml, hown, hts⟩ (kX3_ofSitter l D cI cC cT h a b T x2 0) (cwV 2 hts gX3_isAhead_X3_ofSitter rfl rfl rfl (by decide +kernel) ⟨Nat.le_of_ble_eq_true rfl, Nat.le_of_ble_eq_true rfl⟩) hP hK [0, 1, 2] rfl 0 (ci := 4) rfl rfl rfl rfl hl.1 rfl rfl (Nat.le_of_ble_eq_true rfl) ⟨Nat.zero_le _, Nat.zero_le _⟩ dX3_isAhead_9 ?_
  refine lv_isub hx hb dX3_isAhead_12 ?_
  refine lv_istore_n (lv' := [(3, .int ((fX3_ofSitter T x1 0) - (fX3_ofSitter T x2 0))), (0, .ref h), (1, .int x1), (2, .int x2)]) hx hb dX3_isAhead_13 rfl hl (by decide) rfl (fun ls hl => ?_)
  refine lv_aload_n hx hb dX3_isAhead_14 rfl (lv_at hl 1 rfl) ?_
  refine lv_iload_n hx hb dX3_isAhead_15 rfl (lv_at hl 2 rfl) ?_
  refine lv_iconst (v := 1) hx hb dX3_isAhead_16 (by decide) ?_
  refine fRV (As := [.int x1, .int 1]) (rest := []) (st' := [.int (fX3_ofSitter T x1 1)]) ⟨hx, hb, hml, hown, hts⟩ (kX3_ofSitter l D cI cC cT h a b T x1 1) (cwV 2 hts gX3_isAhead_X3_ofSitter rfl rfl rfl (by decide +kernel) ⟨Nat.le_of_ble_eq_true rfl, Nat.le_of_ble_eq_true rfl⟩) hP hK [0, 1, 2] rfl 0 (ci := 4) rfl rfl rfl rfl hl.1 rfl rfl (Nat.le_of_ble_eq_true rfl) ⟨Nat.zero_le _, Nat.zero_le _⟩ dX3_isAhead_17 ?_
  refine lv_aload_n hx hb dX3_isAhead_20 rfl (lv_at hl 1 rfl) ?_
  refine lv_iload_n hx hb dX3_isAhead_21 rfl (lv_at hl 3 rfl) ?_
  refine lv_iconst (v := 1) hx hb dX3_isAhead_22 (by decide) ?_
  refine fRV (As := [.int x2, .int 1]) (rest := [.int (fX3_ofSitter T x1 1)]) (st' := [.int (fX3_ofSitter T x2 1), .int (fX3_ofSitter T x1 1)]) ⟨hx, hb, hml, hown, hts⟩ (kX3_ofSitter l D cI cC cT h a b T x2 1) (cwV 2 hts gX3_isAhead_X3_ofSitter rfl rfl rfl (by decide +kernel) ⟨Nat.le_of_ble_eq_true rfl, Nat.le_of_ble_eq_true rfl⟩) hP hK [0, 1, 2] rfl 0 (ci := 4) rfl rfl rfl rfl hl.1 rfl rfl (Nat.le_of_ble_eq_true rfl) ⟨Nat.zero_le _, Nat.zero_le _⟩ dX3_isAhead_23 ?_
  refine lv_isub hx hb dX3_isAhead_26 ?_
  refine lv_istore (lv' := [(4, .int ((fX3_ofSitter T x1 1) - (fX3_ofSitter T x2 1))), (3, .int ((fX3_ofSitter T x1 0) - (fX3_ofSitter T x2 0))), (0, .ref h), (1, .int x1), (2, .int x2)]) hx hb dX3_isAhead_27 hl (by decide) rfl (fun ls hl => ?_)
  refine lv_iload_n hx hb dX3_isAhead_29 rfl (lv_at hl 1 rfl) ?_
  refine lv_if_eq (tgt := 43) hx hb dX3_isAhead_30 (by decide) (fun c_30 => ?_) (fun c_30 => ?_)
  · refine lv_iload hx hb dX3_isAhead_43 (lv_at hl 0 rfl) ?_
    refine lv_if_eq (tgt := 61) hx hb dX3_isAhead_45 (by decide) (fun c_45 => ?_) (fun c_45 => ?_)
    · refine lv_iload_n hx hb dX3_isAhead_61 rfl (lv_at hl 3 rfl) ?_
      refine lv_iload_n hx hb dX3_isAhead_62 rfl (lv_at hl 4 rfl) ?_
      refine lv_icmp_ge (tgt := 70) hx hb dX3_isAhead_63 (by decide) (fun c_63 => ?_) (fun c_63 => ?_)
      · refine lv_iconst (v := 0) hx hb dX3_isAhead_70 (by decide) ?_
        exact rRi hx hb hr hlk hQ (by rw [fX3_isAhead, if_pos c_30, if_pos c_45, if_pos c_63]) rfl dX3_isAhead_71
      · refine lv_iconst (v := 1) hx hb dX3_isAhead_66 (by decide) ?_
        refine lv_goto (tgt := 71) hx hb dX3_isAhead_67 (by decide) ?_
        exact rRi hx hb hr hlk hQ (by rw [fX3_isAhead, if_pos c_30, if_pos c_45, if_neg c_63]) rfl dX3_isAhead_71
    · refine lv_iload hx hb dX3_isAhead_48 (lv_at hl 0 rfl) ?_
      refine lv_if_le (tgt := 57) hx hb dX3_isAhead_50 (by decide) (fun c_50 => ?_) (fun c_50 => ?_)
      · refine lv_iconst (v := 0) hx hb dX3_isAhead_57 (by decide) ?_
        refine lv_goto (tgt := 71) hx hb dX3_isAhead_58 (by decide) ?_
        exact rRi hx hb hr hlk hQ (by rw [fX3_isAhead, if_pos c_30, if_neg c_45, if_pos c_50]) rfl dX3_isAhead_71
      · refine lv_iconst (v := 1) hx hb dX3_isAhead_53 (by decide) ?_
        refine lv_goto (tgt := 71) hx hb dX3_isAhead_54 (by decide) ?_
        exact rRi hx hb hr hlk hQ (by rw [fX3_isAhead, if_pos c_30, if_neg c_45, if_neg c_50]) rfl dX3_isAhead_71
  · refine lv_iload_n hx hb dX3_isAhead_33 rfl (lv_at hl 1 rfl) ?_
    refine lv_if_le (tgt := 41) hx hb dX3_isAhead_34 (by decide) (fun c_34 => ?_) (fun c_34 => ?_)
    · refine lv_iconst (v := 0) hx hb dX3_isAhead_41 (by decide) ?_
      exact rRi hx hb hr hlk hQ (by rw [fX3_isAhead, if_neg c_30, if_pos c_34]) rfl dX3_isAhead_42
    · refine lv_iconst (v := 1) hx hb dX3_isAhead_37 (by decide) ?_
      refine lv_goto (tgt := 42) hx hb dX3_isAhead_38 (by decide) ?_
      exact rRi hx hb hr hlk hQ (by rw [fX3_isAhead, if_neg c_30, if_neg c_34]) rfl dX3_isAhead_42
theorem zX3_isAhead (T : TV) (x1 : Int32) (x2 : Int32) : (fX3_isAhead T x1 x2) = 0 ∨ (fX3_isAhead T x1 x2) = 1 := by
  unfold fX3_isAhead
  repeat' split
  all_goals first | exact Or.inl rfl | exact Or.inr rfl
def lX3_rankedAt_15 (T : TV) (x1 : Int32) (v : Int32) (w : (Int32 × Int32)) : (Int32 × Int32) ⊕ ((Int32 × Int32)) := (if T.2.2.2.1 ≤ w.2 then (.inr (w.1, w.2)) else (if (fX3_isAhead T w.2 v) = 0 then (.inl ((w.1 + 0), (w.2 + 1))) else (.inl ((w.1 + 1), (w.2 + 1)))))
def lX3_rankedAt_2 (T : TV) (x1 : Int32) (v : Int32) : Int32 ⊕ (Int32 ⊕ Int32) := (if T.2.2.2.1 ≤ v then (.inr (.inl v)) else (if (itv (0, 0) (lX3_rankedAt_15 T x1 v) ((fun w : (Int32 × Int32) => (T.2.2.2.1.toInt - w.2.toInt).toNat) (0, 0) + 1) (0, 0)).1 = x1 then (.inr (.inr v)) else (.inl (v + 1))))
def fX3_rankedAt (T : TV) (x1 : Int32) : Int32 := (Sum.elim (fun y9 => (-1)) (fun q9 => q9) (itv (.inl 0) (lX3_rankedAt_2 T x1) ((fun v : Int32 => (T.2.2.2.1.toInt - v.toInt).toNat) 0 + 1) 0))
abbrev rmX3_rankedAt : Room := { frames := 2, cells := 0, slots := 0, locals := 46 }
set_option maxHeartbeats 4000000 in
set_option maxRecDepth 100000 in
theorem kX3_rankedAt (l : Launch) (D : va_G) (cI cC cT : ClassId) (h a b : Nat) (T : TV) (x1 : Int32)  : mR l D (TY cI cC cT) yX3_rankedAt wsX3_rankedAt rmX3_rankedAt [.ref h, .int x1] (w3 cI h a b T) (some (.int (fX3_rankedAt T x1))) := by
  refine mR.ofW (cc := cX3_rankedAt) (maxL := 5) (ret := (some .int)) (by decide) rfl (Nat.le_of_ble_eq_true rfl) ?_
  intro p e s m args below meth c Q ls hx hb hml hr hlk hts hown hP hK hl hQ
  have hown : s.vm.findClass RX3 = some m.cls := hown
  have hP : va_P D vwCl [(h, .inr (4, [.ref a, .ref b, .int T.2.2.1, .int T.2.2.2.1, .int T.2.2.2.2.1, .int T.2.2.2.2.2.1, .int T.2.2.2.2.2.2.1, .int T.2.2.2.2.2.2.2])), (a, .inl (cI, 72, .inl T.1)), (b, .inl (cI, 36, .inl T.2.1))] s.heap := hP
  have hl : lv_has ls 5 [(0, .ref h), (1, .int x1)] := hl
  have q0 := hts (Cond.fieldLink RX3 22 "TavernStools$Tavern" "sitters" "I") (by decide +kernel)
  have q1 : ∀ w ∈ u_ws RX3 TX3 8, w ∈ wsX3_rankedAt := by decide +kernel
  refine lv_iconst (v := 0) hx hb dX3_rankedAt_0 (by decide) ?_
  refine lv_istore_n (lv' := [(2, .int 0), (0, .ref h), (1, .int x1)]) hx hb dX3_rankedAt_1 rfl hl (by decide) rfl (fun ls hl => ?_)
  have hE_2 : itr (lX3_rankedAt_2 T x1) ((fun v : Int32 => (T.2.2.2.1.toInt - v.toInt).toNat) 0 + 1) 0 = .inr (itv (.inl 0) (lX3_rankedAt_2 T x1) ((fun v : Int32 => (T.2.2.2.1.toInt - v.toInt).toNat) 0 + 1) 0) := by
    refine itv_ends (itr_ends (lX3_rankedAt_2 T x1) (fun v : Int32 => True) (fun v : Int32 => (T.2.2.2.1.toInt - v.toInt).toNat) ?_ _ _ trivial (Nat.lt_succ_self _))
    intro a b h0 h
    unfold lX3_rankedAt_2 at h
    repeat' split at h
    all_goals first | (cases h; done) | (cases h; exact ⟨trivial, rk_ge (by assumption)⟩) | (cases h; exact ⟨trivial, rk_gt (by assumption)⟩)
  refine loopW (lX3_rankedAt_2 T x1) (fun v : Int32 => True) (fun v : Int32 => ∀ ls, lv_has ls 5 [(0, .ref h), (1, .int x1), (2, .int v)] → W p l e rmX3_rankedAt s m args below meth c s.heap [] 0 0 Q (F0 m 2 ls [])) (fun r8 : Int32 ⊕ Int32 => Sum.elim (fun r9 : Int32 => ∀ ls, lv_has ls 5 [(0, .ref h), (1, .int x1), (2, .int r9)] → W p l e rmX3_rankedAt s m args below meth c s.heap [] 0 0 Q (F0 m 61 ls [])) (fun q9 : Int32 => ∀ (pc : Nat) ls, decode cX3_rankedAt pc = .ok (.ireturn, 1) → narrow (.int) (.int q9) = .int q9 → W p l e rmX3_rankedAt s m args below meth c s.heap [] 0 0 Q (F0 m pc ls [.int q9])) r8) ?_ (fun _ _ _ _ => trivial) _ 0 (itv (.inl 0) (lX3_rankedAt_2 T x1) ((fun v : Int32 => (T.2.2.2.1.toInt - v.toInt).toNat) 0 + 1) 0) trivial hE_2 ?_ ls (lv_sub hl [1, 2, 0] rfl)
  · intro v _ kb kx ls hl
    refine lv_iload_n hx hb dX3_rankedAt_2 rfl (lv_at hl 2 rfl) ?_
    refine lv_aload_n hx hb dX3_rankedAt_3 rfl (lv_at hl 0 rfl) ?_
    refine va_get (D := D) (ci := 4) (v := .int T.2.2.2.1) (C := RX3) (T := TX3) (N := 8) hx hb hts q1 hown hK hP 0 rfl rfl 3 (by decide) q0 (fun _ h9 => h9) rfl dX3_rankedAt_4 ?_
    refine lv_icmp_ge (tgt := 61) hx hb dX3_rankedAt_7 (by decide) (fun c_7 => ?_) (fun c_7 => ?_)
    · exact kx (.inl v) (by rw [lX3_rankedAt_2, if_pos c_7]) ls (lv_sub hl [0, 1, 2] rfl)
    · refine lv_iconst (v := 0) hx hb dX3_rankedAt_10 (by decide) ?_
      refine lv_istore_n (lv' := [(3, .int 0), (0, .ref h), (1, .int x1), (2, .int v)]) hx hb dX3_rankedAt_11 rfl hl (by decide) rfl (fun ls hl => ?_)
      refine lv_iconst (v := 0) hx hb dX3_rankedAt_12 (by decide) ?_
      refine lv_istore (lv' := [(4, .int 0), (3, .int 0), (0, .ref h), (1, .int x1), (2, .int v)]) hx hb dX3_rankedAt_13 hl (by decide) rfl (fun ls hl => ?_)
      have hE_15_1 : itr (lX3_rankedAt_15 T x1 v) ((fun w : (Int32 × Int32) => (T.2.2.2.1.toInt - w.2.toInt).toNat) (0, 0) + 1) (0, 0) = .inr (itv (0, 0) (lX3_rankedAt_15 T x1 v) ((fun w : (Int32 × Int32) => (T.2.2.2.1.toInt - w.2.toInt).toNat) (0, 0) + 1) (0, 0)) := by
        refine itv_ends (itr_ends (lX3_rankedAt_15 T x1 v) (fun w : (Int32 × Int32) => True) (fun w : (Int32 × Int32) => (T.2.2.2.1.toInt - w.2.toInt).toNat) ?_ _ _ trivial (Nat.lt_succ_self _))
        intro a b h0 h
        unfold lX3_rankedAt_15 at h
        repeat' split at h
        all_goals first | (cases h; done) | (cases h; exact ⟨trivial, rk_ge (by assumption)⟩) | (cases h; exact ⟨trivial, rk_gt (by assumption)⟩)
      refine loopW (lX3_rankedAt_15 T x1 v) (fun w : (Int32 × Int32) => True) (fun w : (Int32 × Int32) => ∀ ls, lv_has ls 5 [(0, .ref h), (1, .int x1), (2, .int v), (3, .int w.1), (4, .int w.2)] → W p l e rmX3_rankedAt s m args below meth c s.heap [] 0 0 Q (F0 m 15 ls [])) (fun r9 : (Int32 × Int32) => ∀ ls, lv_has ls 5 [(0, .ref h), (1, .int x1), (2, .int v), (3, .int r9.1), (4, .int r9.2)] → W p l e rmX3_rankedAt s m args below meth c s.heap [] 0 0 Q (F0 m 48 ls [])) ?_ (fun _ _ _ _ => trivial) _ (0, 0) (itv (0, 0) (lX3_rankedAt_15 T x1 v) ((fun w : (Int32 × Int32) => (T.2.2.2.1.toInt - w.2.toInt).toNat) (0, 0) + 1) (0, 0)) trivial hE_15_1 ?_ ls (lv_sub hl [2, 3, 4, 1, 0] rfl)
      · intro w _ kb kx ls hl
        refine lv_iload hx hb dX3_rankedAt_15 (lv_at hl 4 rfl) ?_
        refine lv_aload_n hx hb dX3_rankedAt_17 rfl (lv_at hl 0 rfl) ?_
        refine va_get (D := D) (ci := 4) (v := .int T.2.2.2.1) (C := RX3) (T := TX3) (N := 8) hx hb hts q1 hown hK hP 0 rfl rfl 3 (by decide) q0 (fun _ h9 => h9) rfl dX3_rankedAt_18 ?_
        refine lv_icmp_ge (tgt := 48) hx hb dX3_rankedAt_21 (by decide) (fun c_21 => ?_) (fun c_21 => ?_)
        · exact kx (w.1, w.2) (by rw [lX3_rankedAt_15, if_pos c_21]) ls (lv_sub hl [0, 1, 2, 3, 4] rfl)
        · refine lv_iload_n hx hb dX3_rankedAt_24 rfl (lv_at hl 3 rfl) ?_
          refine lv_aload_n hx hb dX3_rankedAt_25 rfl (lv_at hl 0 rfl) ?_
          refine lv_iload hx hb dX3_rankedAt_26 (lv_at hl 4 rfl) ?_
          refine lv_iload_n hx hb dX3_rankedAt_28 rfl (lv_at hl 2 rfl) ?_
          refine fRV (As := [.int w.2, .int v]) (rest := [.int w.1]) (st' := [.int (fX3_isAhead T w.2 v), .int w.1]) ⟨hx, hb, hml, hown, hts⟩ (kX3_isAhead l D cI cC cT h a b T w.2 v) (cwV 2 hts gX3_rankedAt_X3_isAhead rfl rfl rfl (by decide +kernel) ⟨Nat.le_of_ble_eq_true rfl, Nat.le_of_ble_eq_true rfl⟩) hP hK [0, 1, 2] rfl 0 (ci := 4) rfl rfl rfl rfl hl.1 rfl rfl (Nat.le_of_ble_eq_true rfl) ⟨Nat.zero_le _, Nat.zero_le _⟩ dX3_rankedAt_29 ?_
          refine lv_if_eq (tgt := 39) hx hb dX3_rankedAt_32 (by decide) (fun c_32 => ?_) (fun c_32 => ?_)
          · refine lv_iconst (v := 0) hx hb dX3_rankedAt_39 (by decide) ?_
            refine lv_iadd hx hb dX3_rankedAt_40 ?_
            refine lv_istore_n (lv' := [(3, .int (w.1 + 0)), (0, .ref h), (1, .int x1), (2, .int v), (4, .int w.2)]) hx hb dX3_rankedAt_41 rfl hl (by decide) rfl (fun ls hl => ?_)
            refine lv_iinc (v := (w.2 + 1)) (lv' := [(4, .int (w.2 + 1)), (3, .int (w.1 + 0)), (0, .ref h), (1, .int x1), (2, .int v)]) hx hb dX3_rankedAt_42 hl (k := 4) rfl rfl (by decide) rfl (fun ls hl => ?_)
            refine lv_goto (tgt := 15) hx hb dX3_rankedAt_45 (by decide) ?_
            exact kb ((w.1 + 0), (w.2 + 1)) (by rw [lX3_rankedAt_15, if_neg c_21, if_pos c_32]) ls (lv_sub hl [2, 3, 4, 1, 0] rfl)
          · refine lv_iconst (v := 1) hx hb dX3_rankedAt_35 (by decide) ?_
            refine lv_goto (tgt := 40) hx hb dX3_rankedAt_36 (by decide) ?_
            refine lv_iadd hx hb dX3_rankedAt_40 ?_
            refine lv_istore_n (lv' := [(3, .int (w.1 + 1)), (0, .ref h), (1, .int x1), (2, .int v), (4, .int w.2)]) hx hb dX3_rankedAt_41 rfl hl (by decide) rfl (fun ls hl => ?_)
            refine lv_iinc (v := (w.2 + 1)) (lv' := [(4, .int (w.2 + 1)), (3, .int (w.1 + 1)), (0, .ref h), (1, .int x1), (2, .int v)]) hx hb dX3_rankedAt_42 hl (k := 4) rfl rfl (by decide) rfl (fun ls hl => ?_)
            refine lv_goto (tgt := 15) hx hb dX3_rankedAt_45 (by decide) ?_
            exact kb ((w.1 + 1), (w.2 + 1)) (by rw [lX3_rankedAt_15, if_neg c_21, if_neg c_32]) ls (lv_sub hl [2, 3, 4, 1, 0] rfl)
      · intro ls hl
        refine lv_iload_n hx hb dX3_rankedAt_48 rfl (lv_at hl 3 rfl) ?_
        refine lv_iload_n hx hb dX3_rankedAt_49 rfl (lv_at hl 1 rfl) ?_
        refine lv_icmp_ne (tgt := 55) hx hb dX3_rankedAt_50 (by decide) (fun c_50 => ?_) (fun c_50 => ?_)
        · refine lv_iinc (v := (v + 1)) (lv' := [(2, .int (v + 1)), (0, .ref h), (1, .int x1), (3, .int (itv (0, 0) (lX3_rankedAt_15 T x1 v) ((fun w : (Int32 × Int32) => (T.2.2.2.1.toInt - w.2.toInt).toNat) (0, 0) + 1) (0, 0)).1), (4, .int (itv (0, 0) (lX3_rankedAt_15 T x1 v) ((fun w : (Int32 × Int32) => (T.2.2.2.1.toInt - w.2.toInt).toNat) (0, 0) + 1) (0, 0)).2)]) hx hb dX3_rankedAt_55 hl (k := 2) rfl rfl (by decide) rfl (fun ls hl => ?_)
          refine lv_goto (tgt := 2) hx hb dX3_rankedAt_58 (by decide) ?_
          exact kb (v + 1) (by rw [lX3_rankedAt_2, if_neg c_7, if_neg c_50]) ls (lv_sub hl [1, 2, 0] rfl)
        · refine lv_iload_n hx hb dX3_rankedAt_53 rfl (lv_at hl 2 rfl) ?_
          exact kx (.inr v) (by rw [lX3_rankedAt_2, if_neg c_7, if_pos c_50]) 54 ls dX3_rankedAt_54 rfl
  · cases hy_2 : (itv (.inl 0) (lX3_rankedAt_2 T x1) ((fun v : Int32 => (T.2.2.2.1.toInt - v.toInt).toNat) 0 + 1) 0) with
    | inl y9 =>
      show ∀ ls, lv_has ls 5 [(0, .ref h), (1, .int x1), (2, .int y9)] → W p l e rmX3_rankedAt s m args below meth c s.heap [] 0 0 Q (F0 m 61 ls [])
      intro ls hl
      refine lv_iconst (v := (-1)) hx hb dX3_rankedAt_61 (by decide) ?_
      exact rRi hx hb hr hlk hQ (by rw [fX3_rankedAt, hy_2, Sum.elim_inl]) rfl dX3_rankedAt_62
    | inr q9 =>
      intro pc ls hd9 hn9
      exact rRi hx hb hr hlk hQ (by rw [fX3_rankedAt, hy_2, Sum.elim_inr]) hn9 hd9
def lX3_highestFree_6 (T : TV) (x1 : Int32) (x2 : Int32) (x3 : Int32) (v : (Int32 × Int32)) : (Int32 × Int32) ⊕ ((Int32 × Int32)) := (if x3 < v.2 then (.inr (v.1, v.2)) else (if T.2.2.1 ≤ v.2 then (.inr (v.1, v.2)) else (if (fX3_ofStool T v.2 5) = (-1) then (if (fX3_maySit T x1 v.2) = 0 then (.inl (v.1, (v.2 + 1))) else (if (fX3_ofStool T v.2 0) ≤ (fX3_ofStool T v.1 0) then (.inl (v.1, (v.2 + 1))) else (.inl (v.2, (v.2 + 1))))) else (.inl (v.1, (v.2 + 1))))))
def fX3_highestFree (T : TV) (x1 : Int32) (x2 : Int32) (x3 : Int32) : Int32 := (itv ((-1), x2) (lX3_highestFree_6 T x1 x2 x3) ((fun v : (Int32 × Int32) => (T.2.2.1.toInt - v.2.toInt).toNat) ((-1), x2) + 1) ((-1), x2)).1
abbrev rmX3_highestFree : Room := { frames := 2, cells := 0, slots := 0, locals := 44 }
set_option maxHeartbeats 4000000 in
set_option maxRecDepth 100000 in
theorem kX3_highestFree (l : Launch) (D : va_G) (cI cC cT : ClassId) (h a b : Nat) (T : TV) (x1 : Int32) (x2 : Int32) (x3 : Int32)  : mR l D (TY cI cC cT) yX3_highestFree wsX3_highestFree rmX3_highestFree [.ref h, .int x1, .int x2, .int x3] (w3 cI h a b T) (some (.int (fX3_highestFree T x1 x2 x3))) := by
  refine mR.ofW (cc := cX3_highestFree) (maxL := 6) (ret := (some .int)) (by decide) rfl (Nat.le_of_ble_eq_true rfl) ?_
  intro p e s m args below meth c Q ls hx hb hml hr hlk hts hown hP hK hl hQ
  have hown : s.vm.findClass RX3 = some m.cls := hown
  have hP : va_P D vwCl [(h, .inr (4, [.ref a, .ref b, .int T.2.2.1, .int T.2.2.2.1, .int T.2.2.2.2.1, .int T.2.2.2.2.2.1, .int T.2.2.2.2.2.2.1, .int T.2.2.2.2.2.2.2])), (a, .inl (cI, 72, .inl T.1)), (b, .inl (cI, 36, .inl T.2.1))] s.heap := hP
  have hl : lv_has ls 6 [(0, .ref h), (1, .int x1), (2, .int x2), (3, .int x3)] := hl
  have q0 := hts (Cond.fieldLink RX3 18 "TavernStools$Tavern" "stools" "I") (by decide +kernel)
  have q1 : ∀ w ∈ u_ws RX3 TX3 8, w ∈ wsX3_highestFree := by decide +kernel
  refine lv_iconst (v := (-1)) hx hb dX3_highestFree_0 (by decide) ?_
  refine lv_istore (lv' := [(4, .int (-1)), (0, .ref h), (1, .int x1), (2, .int x2), (3, .int x3)]) hx hb dX3_highestFree_1 hl (by decide) rfl (fun ls hl => ?_)
  refine lv_iload_n hx hb dX3_highestFree_3 rfl (lv_at hl 3 rfl) ?_
  refine lv_istore (lv' := [(5, .int x2), (4, .int (-1)), (0, .ref h), (1, .int x1), (2, .int x2), (3, .int x3)]) hx hb dX3_highestFree_4 hl (by decide) rfl (fun ls hl => ?_)
  have hE_6 : itr (lX3_highestFree_6 T x1 x2 x3) ((fun v : (Int32 × Int32) => (T.2.2.1.toInt - v.2.toInt).toNat) ((-1), x2) + 1) ((-1), x2) = .inr (itv ((-1), x2) (lX3_highestFree_6 T x1 x2 x3) ((fun v : (Int32 × Int32) => (T.2.2.1.toInt - v.2.toInt).toNat) ((-1), x2) + 1) ((-1), x2)) := by
    refine itv_ends (itr_ends (lX3_highestFree_6 T x1 x2 x3) (fun v : (Int32 × Int32) => True) (fun v : (Int32 × Int32) => (T.2.2.1.toInt - v.2.toInt).toNat) ?_ _ _ trivial (Nat.lt_succ_self _))
    intro a b h0 h
    unfold lX3_highestFree_6 at h
    repeat' split at h
    all_goals first | (cases h; done) | (cases h; exact ⟨trivial, rk_ge (by assumption)⟩) | (cases h; exact ⟨trivial, rk_gt (by assumption)⟩)
  refine loopW (lX3_highestFree_6 T x1 x2 x3) (fun v : (Int32 × Int32) => True) (fun v : (Int32 × Int32) => ∀ ls, lv_has ls 6 [(0, .ref h), (1, .int x1), (2, .int x2), (3, .int x3), (4, .int v.1), (5, .int v.2)] → W p l e rmX3_highestFree s m args below meth c s.heap [] 0 0 Q (F0 m 6 ls [])) (fun r9 : (Int32 × Int32) => ∀ ls, lv_has ls 6 [(0, .ref h), (1, .int x1), (2, .int x2), (3, .int x3), (4, .int r9.1), (5, .int r9.2)] → W p l e rmX3_highestFree s m args below meth c s.heap [] 0 0 Q (F0 m 69 ls [])) ?_ (fun _ _ _ _ => trivial) _ ((-1), x2) (itv ((-1), x2) (lX3_highestFree_6 T x1 x2 x3) ((fun v : (Int32 × Int32) => (T.2.2.1.toInt - v.2.toInt).toNat) ((-1), x2) + 1) ((-1), x2)) trivial hE_6 ?_ ls (lv_sub hl [2, 3, 4, 5, 1, 0] rfl)
  · intro v _ kb kx ls hl
    refine lv_iload hx hb dX3_highestFree_6 (lv_at hl 5 rfl) ?_
    refine lv_iload_n hx hb dX3_highestFree_8 rfl (lv_at hl 3 rfl) ?_
    refine lv_icmp_gt (tgt := 69) hx hb dX3_highestFree_9 (by decide) (fun c_9 => ?_) (fun c_9 => ?_)
    · exact kx (v.1, v.2) (by rw [lX3_highestFree_6, if_pos c_9]) ls (lv_sub hl [0, 1, 2, 3, 4, 5] rfl)
    · refine lv_iload hx hb dX3_highestFree_12 (lv_at hl 5 rfl) ?_
      refine lv_aload_n hx hb dX3_highestFree_14 rfl (lv_at hl 0 rfl) ?_
      refine va_get (D := D) (ci := 4) (v := .int T.2.2.1) (C := RX3) (T := TX3) (N := 8) hx hb hts q1 hown hK hP 0 rfl rfl 2 (by decide) q0 (fun _ h9 => h9) rfl dX3_highestFree_15 ?_
      refine lv_icmp_ge (tgt := 69) hx hb dX3_highestFree_18 (by decide) (fun c_18 => ?_) (fun c_18 => ?_)
      · exact kx (v.1, v.2) (by rw [lX3_highestFree_6, if_neg c_9, if_pos c_18]) ls (lv_sub hl [0, 1, 2, 3, 4, 5] rfl)
      · refine lv_aload_n hx hb dX3_highestFree_21 rfl (lv_at hl 0 rfl) ?_
        refine lv_iload hx hb dX3_highestFree_22 (lv_at hl 5 rfl) ?_
        refine lv_iconst (v := 5) hx hb dX3_highestFree_24 (by decide) ?_
        refine fRV (As := [.int v.2, .int 5]) (rest := []) (st' := [.int (fX3_ofStool T v.2 5)]) ⟨hx, hb, hml, hown, hts⟩ (kX3_ofStool l D cI cC cT h a b T v.2 5) (cwV 2 hts gX3_highestFree_X3_ofStool rfl rfl rfl (by decide +kernel) ⟨Nat.le_of_ble_eq_true rfl, Nat.le_of_ble_eq_true rfl⟩) hP hK [0, 1, 2] rfl 0 (ci := 4) rfl rfl rfl rfl hl.1 rfl rfl (Nat.le_of_ble_eq_true rfl) ⟨Nat.zero_le _, Nat.zero_le _⟩ dX3_highestFree_25 ?_
        refine lv_iconst (v := (-1)) hx hb dX3_highestFree_28 (by decide) ?_
        refine lv_icmp_ne (tgt := 63) hx hb dX3_highestFree_29 (by decide) (fun c_29 => ?_) (fun c_29 => ?_)
        · refine lv_iinc (v := (v.2 + 1)) (lv' := [(5, .int (v.2 + 1)), (0, .ref h), (1, .int x1), (2, .int x2), (3, .int x3), (4, .int v.1)]) hx hb dX3_highestFree_63 hl (k := 5) rfl rfl (by decide) rfl (fun ls hl => ?_)
          refine lv_goto (tgt := 6) hx hb dX3_highestFree_66 (by decide) ?_
          exact kb (v.1, (v.2 + 1)) (by rw [lX3_highestFree_6, if_neg c_9, if_neg c_18, if_neg c_29]) ls (lv_sub hl [1, 2, 3, 4, 5, 0] rfl)
        · refine lv_aload_n hx hb dX3_highestFree_32 rfl (lv_at hl 0 rfl) ?_
          refine lv_iload_n hx hb dX3_highestFree_33 rfl (lv_at hl 1 rfl) ?_
          refine lv_iload hx hb dX3_highestFree_34 (lv_at hl 5 rfl) ?_
          refine fRV (As := [.int x1, .int v.2]) (rest := []) (st' := [.int (fX3_maySit T x1 v.2)]) ⟨hx, hb, hml, hown, hts⟩ (kX3_maySit l D cI cC cT h a b T x1 v.2) (cwV 2 hts gX3_highestFree_X3_maySit rfl rfl rfl (by decide +kernel) ⟨Nat.le_of_ble_eq_true rfl, Nat.le_of_ble_eq_true rfl⟩) hP hK [0, 1, 2] rfl 0 (ci := 4) rfl rfl rfl rfl hl.1 rfl rfl (Nat.le_of_ble_eq_true rfl) ⟨Nat.zero_le _, Nat.zero_le _⟩ dX3_highestFree_36 ?_
          refine lv_if_eq (tgt := 63) hx hb dX3_highestFree_39 (by decide) (fun c_39 => ?_) (fun c_39 => ?_)
          · refine lv_iinc (v := (v.2 + 1)) (lv' := [(5, .int (v.2 + 1)), (0, .ref h), (1, .int x1), (2, .int x2), (3, .int x3), (4, .int v.1)]) hx hb dX3_highestFree_63 hl (k := 5) rfl rfl (by decide) rfl (fun ls hl => ?_)
            refine lv_goto (tgt := 6) hx hb dX3_highestFree_66 (by decide) ?_
            exact kb (v.1, (v.2 + 1)) (by rw [lX3_highestFree_6, if_neg c_9, if_neg c_18, if_pos c_29, if_pos c_39]) ls (lv_sub hl [1, 2, 3, 4, 5, 0] rfl)
          · refine lv_aload_n hx hb dX3_highestFree_42 rfl (lv_at hl 0 rfl) ?_
            refine lv_iload hx hb dX3_highestFree_43 (lv_at hl 5 rfl) ?_
            refine lv_iconst (v := 0) hx hb dX3_highestFree_45 (by decide) ?_
            refine fRV (As := [.int v.2, .int 0]) (rest := []) (st' := [.int (fX3_ofStool T v.2 0)]) ⟨hx, hb, hml, hown, hts⟩ (kX3_ofStool l D cI cC cT h a b T v.2 0) (cwV 2 hts gX3_highestFree_X3_ofStool rfl rfl rfl (by decide +kernel) ⟨Nat.le_of_ble_eq_true rfl, Nat.le_of_ble_eq_true rfl⟩) hP hK [0, 1, 2] rfl 0 (ci := 4) rfl rfl rfl rfl hl.1 rfl rfl (Nat.le_of_ble_eq_true rfl) ⟨Nat.zero_le _, Nat.zero_le _⟩ dX3_highestFree_46 ?_
            refine lv_aload_n hx hb dX3_highestFree_49 rfl (lv_at hl 0 rfl) ?_
            refine lv_iload hx hb dX3_highestFree_50 (lv_at hl 4 rfl) ?_
            refine lv_iconst (v := 0) hx hb dX3_highestFree_52 (by decide) ?_
            refine fRV (As := [.int v.1, .int 0]) (rest := [.int (fX3_ofStool T v.2 0)]) (st' := [.int (fX3_ofStool T v.1 0), .int (fX3_ofStool T v.2 0)]) ⟨hx, hb, hml, hown, hts⟩ (kX3_ofStool l D cI cC cT h a b T v.1 0) (cwV 2 hts gX3_highestFree_X3_ofStool rfl rfl rfl (by decide +kernel) ⟨Nat.le_of_ble_eq_true rfl, Nat.le_of_ble_eq_true rfl⟩) hP hK [0, 1, 2] rfl 0 (ci := 4) rfl rfl rfl rfl hl.1 rfl rfl (Nat.le_of_ble_eq_true rfl) ⟨Nat.zero_le _, Nat.zero_le _⟩ dX3_highestFree_53 ?_
            refine lv_icmp_le (tgt := 63) hx hb dX3_highestFree_56 (by decide) (fun c_56 => ?_) (fun c_56 => ?_)
            · refine lv_iinc (v := (v.2 + 1)) (lv' := [(5, .int (v.2 + 1)), (0, .ref h), (1, .int x1), (2, .int x2), (3, .int x3), (4, .int v.1)]) hx hb dX3_highestFree_63 hl (k := 5) rfl rfl (by decide) rfl (fun ls hl => ?_)
              refine lv_goto (tgt := 6) hx hb dX3_highestFree_66 (by decide) ?_
              exact kb (v.1, (v.2 + 1)) (by rw [lX3_highestFree_6, if_neg c_9, if_neg c_18, if_pos c_29, if_neg c_39, if_pos c_56]) ls (lv_sub hl [1, 2, 3, 4, 5, 0] rfl)
            · refine lv_iload hx hb dX3_highestFree_59 (lv_at hl 5 rfl) ?_
              refine lv_istore (lv' := [(4, .int v.2), (0, .ref h), (1, .int x1), (2, .int x2), (3, .int x3), (5, .int v.2)]) hx hb dX3_highestFree_61 hl (by decide) rfl (fun ls hl => ?_)
              refine lv_iinc (v := (v.2 + 1)) (lv' := [(5, .int (v.2 + 1)), (4, .int v.2), (0, .ref h), (1, .int x1), (2, .int x2), (3, .int x3)]) hx hb dX3_highestFree_63 hl (k := 5) rfl rfl (by decide) rfl (fun ls hl => ?_)
              refine lv_goto (tgt := 6) hx hb dX3_highestFree_66 (by decide) ?_
              exact kb (v.2, (v.2 + 1)) (by rw [lX3_highestFree_6, if_neg c_9, if_neg c_18, if_pos c_29, if_neg c_39, if_neg c_56]) ls (lv_sub hl [2, 3, 4, 5, 1, 0] rfl)
  · intro ls hl
    refine lv_iload hx hb dX3_highestFree_69 (lv_at hl 4 rfl) ?_
    exact rRi hx hb hr hlk hQ (by rw [fX3_highestFree]) rfl dX3_highestFree_71
def lX3_seatAnew_2 (T : TV) (x1 : Int32) (x2 : Int32) (v : (TV × Int32)) : (TV × Int32) ⊕ ((TV × Int32)) := (if x2 < v.2 then (.inr (v.1, v.2)) else (if v.1.2.2.1 ≤ v.2 then (.inr (v.1, v.2)) else (.inl ((fX3_setOfStool v.1 v.2 5 (-1)), (v.2 + 1)))))
def lX3_seatAnew_33 (T : TV) (x1 : Int32) (x2 : Int32) (v : (TV × Int32 × Int32)) : (TV × Int32 × Int32) ⊕ ((TV × Int32 × Int32)) := (if v.1.2.2.2.1 ≤ v.2.2 then (.inr (v.1, v.2.1, v.2.2)) else (if (fX3_ofSitter v.1 (fX3_rankedAt v.1 v.2.2) 2) < x1 then (.inl (v.1, v.2.1, (v.2.2 + 1))) else (if x2 < (fX3_ofSitter v.1 (fX3_rankedAt v.1 v.2.2) 2) then (.inl (v.1, v.2.1, (v.2.2 + 1))) else (if (fX3_highestFree v.1 (fX3_rankedAt v.1 v.2.2) x1 x2) = (fX3_ofSitter v.1 (fX3_rankedAt v.1 v.2.2) 2) then (.inl ((fX3_take v.1 (fX3_rankedAt v.1 v.2.2) (fX3_highestFree v.1 (fX3_rankedAt v.1 v.2.2) x1 x2)), (v.2.1 + 0), (v.2.2 + 1))) else (.inl ((fX3_take v.1 (fX3_rankedAt v.1 v.2.2) (fX3_highestFree v.1 (fX3_rankedAt v.1 v.2.2) x1 x2)), (v.2.1 + 1), (v.2.2 + 1)))))))
def fX3_seatAnew (T : TV) (x1 : Int32) (x2 : Int32) : (Int32 × TV) := ((itv ((itv (T, x1) (lX3_seatAnew_2 T x1 x2) ((fun v : (TV × Int32) => (v.1.2.2.1.toInt - v.2.toInt).toNat) (T, x1) + 1) (T, x1)).1, 0, 0) (lX3_seatAnew_33 T x1 x2) ((fun v : (TV × Int32 × Int32) => (v.1.2.2.2.1.toInt - v.2.2.toInt).toNat) ((itv (T, x1) (lX3_seatAnew_2 T x1 x2) ((fun v : (TV × Int32) => (v.1.2.2.1.toInt - v.2.toInt).toNat) (T, x1) + 1) (T, x1)).1, 0, 0) + 1) ((itv (T, x1) (lX3_seatAnew_2 T x1 x2) ((fun v : (TV × Int32) => (v.1.2.2.1.toInt - v.2.toInt).toNat) (T, x1) + 1) (T, x1)).1, 0, 0)).2.1, (itv ((itv (T, x1) (lX3_seatAnew_2 T x1 x2) ((fun v : (TV × Int32) => (v.1.2.2.1.toInt - v.2.toInt).toNat) (T, x1) + 1) (T, x1)).1, 0, 0) (lX3_seatAnew_33 T x1 x2) ((fun v : (TV × Int32 × Int32) => (v.1.2.2.2.1.toInt - v.2.2.toInt).toNat) ((itv (T, x1) (lX3_seatAnew_2 T x1 x2) ((fun v : (TV × Int32) => (v.1.2.2.1.toInt - v.2.toInt).toNat) (T, x1) + 1) (T, x1)).1, 0, 0) + 1) ((itv (T, x1) (lX3_seatAnew_2 T x1 x2) ((fun v : (TV × Int32) => (v.1.2.2.1.toInt - v.2.toInt).toNat) (T, x1) + 1) (T, x1)).1, 0, 0)).1)
abbrev rmX3_seatAnew : Room := { frames := 3, cells := 0, slots := 0, locals := 70 }
set_option maxHeartbeats 4000000 in
set_option maxRecDepth 100000 in
theorem kX3_seatAnew (l : Launch) (D : va_G) (cI cC cT : ClassId) (h a b : Nat) (T : TV) (x1 : Int32) (x2 : Int32)  : mU l D (TY cI cC cT) yX3_seatAnew wsX3_seatAnew rmX3_seatAnew [.ref h, .int x1, .int x2] (w3 cI h a b T) (some (.int (fX3_seatAnew T x1 x2).1)) (w3 cI h a b (fX3_seatAnew T x1 x2).2) := by
  refine mU.ofW (cc := cX3_seatAnew) (maxL := 8) (ret := (some .int)) (by decide) rfl (Nat.le_of_ble_eq_true rfl) ?_
  intro p e s m args below meth c Q ls A hx hb hml hr hlk hts hown hP hK hD hS hl hQ
  have hown : s.vm.findClass RX3 = some m.cls := hown
  have hP : va_P D vwCl [(h, .inr (4, [.ref a, .ref b, .int T.2.2.1, .int T.2.2.2.1, .int T.2.2.2.2.1, .int T.2.2.2.2.2.1, .int T.2.2.2.2.2.2.1, .int T.2.2.2.2.2.2.2])), (a, .inl (cI, 72, .inl T.1)), (b, .inl (cI, 36, .inl T.2.1))] s.heap := hP
  have hD : va_D A [(h, .inr (4, [.ref a, .ref b, .int T.2.2.1, .int T.2.2.2.1, .int T.2.2.2.2.1, .int T.2.2.2.2.2.1, .int T.2.2.2.2.2.2.1, .int T.2.2.2.2.2.2.2])), (a, .inl (cI, 72, .inl T.1)), (b, .inl (cI, 36, .inl T.2.1))] := hD
  have hl : lv_has ls 8 [(0, .ref h), (1, .int x1), (2, .int x2)] := hl
  have q0 := hts (Cond.fieldLink RX3 18 "TavernStools$Tavern" "stools" "I") (by decide +kernel)
  have q1 : ∀ w ∈ u_ws RX3 TX3 8, w ∈ wsX3_seatAnew := by decide +kernel
  have q2 := hts (Cond.fieldLink RX3 22 "TavernStools$Tavern" "sitters" "I") (by decide +kernel)
  generalize hHe : s.heap = H at hP ⊢
  have hS : va_S A s.heap H [] := hHe ▸ hS
  generalize hLe : ([] : List Loc) = locs at hS ⊢
  refine lv_iload_n hx hb dX3_seatAnew_0 rfl (lv_at hl 1 rfl) ?_
  refine lv_istore_n (lv' := [(3, .int x1), (0, .ref h), (1, .int x1), (2, .int x2)]) hx hb dX3_seatAnew_1 rfl hl (by decide) rfl (fun ls hl => ?_)
  have hE_2 : itr (lX3_seatAnew_2 T x1 x2) ((fun v : (TV × Int32) => (v.1.2.2.1.toInt - v.2.toInt).toNat) (T, x1) + 1) (T, x1) = .inr (itv (T, x1) (lX3_seatAnew_2 T x1 x2) ((fun v : (TV × Int32) => (v.1.2.2.1.toInt - v.2.toInt).toNat) (T, x1) + 1) (T, x1)) := by
    refine itv_ends (itr_ends (lX3_seatAnew_2 T x1 x2) (fun v : (TV × Int32) => True) (fun v : (TV × Int32) => (v.1.2.2.1.toInt - v.2.toInt).toNat) ?_ _ _ trivial (Nat.lt_succ_self _))
    intro a b h0 h
    unfold lX3_seatAnew_2 at h
    repeat' split at h
    all_goals first | (cases h; done) | (cases h; exact ⟨trivial, by rw [sX3_setOfStool]; exact rk_ge (by assumption)⟩)
  refine loopW (lX3_seatAnew_2 T x1 x2) (fun v : (TV × Int32) => True) (fun v : (TV × Int32) => ∀ (H : Heap) (locs : List Loc) ls, va_P D vwCl [(h, .inr (4, [.ref a, .ref b, .int v.1.2.2.1, .int v.1.2.2.2.1, .int v.1.2.2.2.2.1, .int v.1.2.2.2.2.2.1, .int v.1.2.2.2.2.2.2.1, .int v.1.2.2.2.2.2.2.2])), (a, .inl (cI, 72, .inl v.1.1)), (b, .inl (cI, 36, .inl v.1.2.1))] H → va_D A [(h, .inr (4, [.ref a, .ref b, .int v.1.2.2.1, .int v.1.2.2.2.1, .int v.1.2.2.2.2.1, .int v.1.2.2.2.2.2.1, .int v.1.2.2.2.2.2.2.1, .int v.1.2.2.2.2.2.2.2])), (a, .inl (cI, 72, .inl v.1.1)), (b, .inl (cI, 36, .inl v.1.2.1))] → va_S A s.heap H locs → lv_has ls 8 [(0, .ref h), (1, .int x1), (2, .int x2), (3, .int v.2)] → W p l e rmX3_seatAnew s m args below meth c H locs 0 0 Q (F0 m 2 ls [])) (fun r9 : (TV × Int32) => ∀ (H : Heap) (locs : List Loc) ls, va_P D vwCl [(h, .inr (4, [.ref a, .ref b, .int r9.1.2.2.1, .int r9.1.2.2.2.1, .int r9.1.2.2.2.2.1, .int r9.1.2.2.2.2.2.1, .int r9.1.2.2.2.2.2.2.1, .int r9.1.2.2.2.2.2.2.2])), (a, .inl (cI, 72, .inl r9.1.1)), (b, .inl (cI, 36, .inl r9.1.2.1))] H → va_D A [(h, .inr (4, [.ref a, .ref b, .int r9.1.2.2.1, .int r9.1.2.2.2.1, .int r9.1.2.2.2.2.1, .int r9.1.2.2.2.2.2.1, .int r9.1.2.2.2.2.2.2.1, .int r9.1.2.2.2.2.2.2.2])), (a, .inl (cI, 72, .inl r9.1.1)), (b, .inl (cI, 36, .inl r9.1.2.1))] → va_S A s.heap H locs → lv_has ls 8 [(0, .ref h), (1, .int x1), (2, .int x2), (3, .int r9.2)] → W p l e rmX3_seatAnew s m args below meth c H locs 0 0 Q (F0 m 28 ls [])) ?_ (fun _ _ _ _ => trivial) _ (T, x1) (itv (T, x1) (lX3_seatAnew_2 T x1 x2) ((fun v : (TV × Int32) => (v.1.2.2.1.toInt - v.2.toInt).toNat) (T, x1) + 1) (T, x1)) trivial hE_2 ?_ _ _ ls hP hD hS (lv_sub hl [1, 2, 3, 0] rfl)
  · intro v _ kb kx H locs ls hP hD hS hl
    refine lv_iload_n hx hb dX3_seatAnew_2 rfl (lv_at hl 3 rfl) ?_
    refine lv_iload_n hx hb dX3_seatAnew_3 rfl (lv_at hl 2 rfl) ?_
    refine lv_icmp_gt (tgt := 28) hx hb dX3_seatAnew_4 (by decide) (fun c_4 => ?_) (fun c_4 => ?_)
    · exact kx (v.1, v.2) (by rw [lX3_seatAnew_2, if_pos c_4]) H locs ls hP hD hS (lv_sub hl [0, 1, 2, 3] rfl)
    · refine lv_iload_n hx hb dX3_seatAnew_7 rfl (lv_at hl 3 rfl) ?_
      refine lv_aload_n hx hb dX3_seatAnew_8 rfl (lv_at hl 0 rfl) ?_
      refine va_get (D := D) (ci := 4) (v := .int v.1.2.2.1) (C := RX3) (T := TX3) (N := 8) hx hb hts q1 hown hK hP 0 rfl rfl 2 (by decide) q0 (fun _ h9 => h9) rfl dX3_seatAnew_9 ?_
      refine lv_icmp_ge (tgt := 28) hx hb dX3_seatAnew_12 (by decide) (fun c_12 => ?_) (fun c_12 => ?_)
      · exact kx (v.1, v.2) (by rw [lX3_seatAnew_2, if_neg c_4, if_pos c_12]) H locs ls hP hD hS (lv_sub hl [0, 1, 2, 3] rfl)
      · refine lv_aload_n hx hb dX3_seatAnew_15 rfl (lv_at hl 0 rfl) ?_
        refine lv_iload_n hx hb dX3_seatAnew_16 rfl (lv_at hl 3 rfl) ?_
        refine lv_iconst (v := 5) hx hb dX3_seatAnew_17 (by decide) ?_
        refine lv_iconst (v := (-1)) hx hb dX3_seatAnew_18 (by decide) ?_
        obtain ⟨n1, en1⟩ : ∃ z9, z9 = (fX3_setOfStool v.1 v.2 5 (-1)) := ⟨_, rfl⟩
        have k9 := (kX3_setOfStool l D cI cC cT h a b v.1 v.2 5 (-1))
        rw [← en1] at k9
        refine fUV (As := [.int v.2, .int 5, .int (-1)]) (rest := []) (st' := []) ⟨hx, hb, hml, hown, hts⟩ k9 (cwV 3 hts gX3_seatAnew_X3_setOfStool rfl rfl rfl (by decide +kernel) ⟨Nat.le_of_ble_eq_true rfl, Nat.le_of_ble_eq_true rfl⟩) hP hK hD hS [0, 1, 2] rfl rfl (by decide) rfl [(h, .inr (4, [.ref a, .ref b, .int n1.2.2.1, .int n1.2.2.2.1, .int n1.2.2.2.2.1, .int n1.2.2.2.2.2.1, .int n1.2.2.2.2.2.2.1, .int n1.2.2.2.2.2.2.2])), (a, .inl (cI, 72, .inl n1.1)), (b, .inl (cI, 36, .inl n1.2.1))] rfl rfl 0 (ci := 4) rfl rfl rfl rfl hl.1 rfl rfl (Nat.le_of_ble_eq_true rfl) ⟨Nat.zero_le _, Nat.zero_le _⟩ dX3_seatAnew_19 (fun H locs hP hD hS => ?_)
        refine lv_iinc (v := (v.2 + 1)) (lv' := [(3, .int (v.2 + 1)), (0, .ref h), (1, .int x1), (2, .int x2)]) hx hb dX3_seatAnew_22 hl (k := 3) rfl rfl (by decide) rfl (fun ls hl => ?_)
        refine lv_goto (tgt := 2) hx hb dX3_seatAnew_25 (by decide) ?_
        exact kb (n1, (v.2 + 1)) (by rw [lX3_seatAnew_2, if_neg c_4, if_neg c_12, ← en1]) H locs ls hP hD hS (lv_sub hl [1, 2, 3, 0] rfl)
  · intro H locs ls hP hD hS hl
    refine lv_iconst (v := 0) hx hb dX3_seatAnew_28 (by decide) ?_
    refine lv_istore_n (lv' := [(3, .int 0), (0, .ref h), (1, .int x1), (2, .int x2)]) hx hb dX3_seatAnew_29 rfl hl (by decide) rfl (fun ls hl => ?_)
    refine lv_iconst (v := 0) hx hb dX3_seatAnew_30 (by decide) ?_
    refine lv_istore (lv' := [(4, .int 0), (3, .int 0), (0, .ref h), (1, .int x1), (2, .int x2)]) hx hb dX3_seatAnew_31 hl (by decide) rfl (fun ls hl => ?_)
    have hE_33 : itr (lX3_seatAnew_33 T x1 x2) ((fun v : (TV × Int32 × Int32) => (v.1.2.2.2.1.toInt - v.2.2.toInt).toNat) ((itv (T, x1) (lX3_seatAnew_2 T x1 x2) ((fun v : (TV × Int32) => (v.1.2.2.1.toInt - v.2.toInt).toNat) (T, x1) + 1) (T, x1)).1, 0, 0) + 1) ((itv (T, x1) (lX3_seatAnew_2 T x1 x2) ((fun v : (TV × Int32) => (v.1.2.2.1.toInt - v.2.toInt).toNat) (T, x1) + 1) (T, x1)).1, 0, 0) = .inr (itv ((itv (T, x1) (lX3_seatAnew_2 T x1 x2) ((fun v : (TV × Int32) => (v.1.2.2.1.toInt - v.2.toInt).toNat) (T, x1) + 1) (T, x1)).1, 0, 0) (lX3_seatAnew_33 T x1 x2) ((fun v : (TV × Int32 × Int32) => (v.1.2.2.2.1.toInt - v.2.2.toInt).toNat) ((itv (T, x1) (lX3_seatAnew_2 T x1 x2) ((fun v : (TV × Int32) => (v.1.2.2.1.toInt - v.2.toInt).toNat) (T, x1) + 1) (T, x1)).1, 0, 0) + 1) ((itv (T, x1) (lX3_seatAnew_2 T x1 x2) ((fun v : (TV × Int32) => (v.1.2.2.1.toInt - v.2.toInt).toNat) (T, x1) + 1) (T, x1)).1, 0, 0)) := by
      refine itv_ends (itr_ends (lX3_seatAnew_33 T x1 x2) (fun v : (TV × Int32 × Int32) => True) (fun v : (TV × Int32 × Int32) => (v.1.2.2.2.1.toInt - v.2.2.toInt).toNat) ?_ _ _ trivial (Nat.lt_succ_self _))
      intro a b h0 h
      unfold lX3_seatAnew_33 at h
      repeat' split at h
      all_goals first | (cases h; done) | (cases h; exact ⟨trivial, by first | exact rk_ge (by assumption) | (rw [sX3_take]; exact rk_ge (by assumption))⟩)
    refine loopW (lX3_seatAnew_33 T x1 x2) (fun v : (TV × Int32 × Int32) => True) (fun v : (TV × Int32 × Int32) => ∀ (H : Heap) (locs : List Loc) ls, va_P D vwCl [(h, .inr (4, [.ref a, .ref b, .int v.1.2.2.1, .int v.1.2.2.2.1, .int v.1.2.2.2.2.1, .int v.1.2.2.2.2.2.1, .int v.1.2.2.2.2.2.2.1, .int v.1.2.2.2.2.2.2.2])), (a, .inl (cI, 72, .inl v.1.1)), (b, .inl (cI, 36, .inl v.1.2.1))] H → va_D A [(h, .inr (4, [.ref a, .ref b, .int v.1.2.2.1, .int v.1.2.2.2.1, .int v.1.2.2.2.2.1, .int v.1.2.2.2.2.2.1, .int v.1.2.2.2.2.2.2.1, .int v.1.2.2.2.2.2.2.2])), (a, .inl (cI, 72, .inl v.1.1)), (b, .inl (cI, 36, .inl v.1.2.1))] → va_S A s.heap H locs → lv_has ls 8 [(0, .ref h), (1, .int x1), (2, .int x2), (3, .int v.2.1), (4, .int v.2.2)] → W p l e rmX3_seatAnew s m args below meth c H locs 0 0 Q (F0 m 33 ls [])) (fun r9 : (TV × Int32 × Int32) => ∀ (H : Heap) (locs : List Loc) ls, va_P D vwCl [(h, .inr (4, [.ref a, .ref b, .int r9.1.2.2.1, .int r9.1.2.2.2.1, .int r9.1.2.2.2.2.1, .int r9.1.2.2.2.2.2.1, .int r9.1.2.2.2.2.2.2.1, .int r9.1.2.2.2.2.2.2.2])), (a, .inl (cI, 72, .inl r9.1.1)), (b, .inl (cI, 36, .inl r9.1.2.1))] H → va_D A [(h, .inr (4, [.ref a, .ref b, .int r9.1.2.2.1, .int r9.1.2.2.2.1, .int r9.1.2.2.2.2.1, .int r9.1.2.2.2.2.2.1, .int r9.1.2.2.2.2.2.2.1, .int r9.1.2.2.2.2.2.2.2])), (a, .inl (cI, 72, .inl r9.1.1)), (b, .inl (cI, 36, .inl r9.1.2.1))] → va_S A s.heap H locs → lv_has ls 8 [(0, .ref h), (1, .int x1), (2, .int x2), (3, .int r9.2.1), (4, .int r9.2.2)] → W p l e rmX3_seatAnew s m args below meth c H locs 0 0 Q (F0 m 110 ls [])) ?_ (fun _ _ _ _ => trivial) _ ((itv (T, x1) (lX3_seatAnew_2 T x1 x2) ((fun v : (TV × Int32) => (v.1.2.2.1.toInt - v.2.toInt).toNat) (T, x1) + 1) (T, x1)).1, 0, 0) (itv ((itv (T, x1) (lX3_seatAnew_2 T x1 x2) ((fun v : (TV × Int32) => (v.1.2.2.1.toInt - v.2.toInt).toNat) (T, x1) + 1) (T, x1)).1, 0, 0) (lX3_seatAnew_33 T x1 x2) ((fun v : (TV × Int32 × Int32) => (v.1.2.2.2.1.toInt - v.2.2.toInt).toNat) ((itv (T, x1) (lX3_seatAnew_2 T x1 x2) ((fun v : (TV × Int32) => (v.1.2.2.1.toInt - v.2.toInt).toNat) (T, x1) + 1) (T, x1)).1, 0, 0) + 1) ((itv (T, x1) (lX3_seatAnew_2 T x1 x2) ((fun v : (TV × Int32) => (v.1.2.2.1.toInt - v.2.toInt).toNat) (T, x1) + 1) (T, x1)).1, 0, 0)) trivial hE_33 ?_ _ _ ls hP hD hS (lv_sub hl [2, 3, 4, 1, 0] rfl)
    · intro v _ kb kx H locs ls hP hD hS hl
      refine lv_iload hx hb dX3_seatAnew_33 (lv_at hl 4 rfl) ?_
      refine lv_aload_n hx hb dX3_seatAnew_35 rfl (lv_at hl 0 rfl) ?_
      refine va_get (D := D) (ci := 4) (v := .int v.1.2.2.2.1) (C := RX3) (T := TX3) (N := 8) hx hb hts q1 hown hK hP 0 rfl rfl 3 (by decide) q2 (fun _ h9 => h9) rfl dX3_seatAnew_36 ?_
      refine lv_icmp_ge (tgt := 110) hx hb dX3_seatAnew_39 (by decide) (fun c_39 => ?_) (fun c_39 => ?_)
      · exact kx (v.1, v.2.1, v.2.2) (by rw [lX3_seatAnew_33, if_pos c_39]) H locs ls hP hD hS (lv_sub hl [0, 1, 2, 3, 4] rfl)
      · refine lv_aload_n hx hb dX3_seatAnew_42 rfl (lv_at hl 0 rfl) ?_
        refine lv_iload hx hb dX3_seatAnew_43 (lv_at hl 4 rfl) ?_
        refine fRV (As := [.int v.2.2]) (rest := []) (st' := [.int (fX3_rankedAt v.1 v.2.2)]) ⟨hx, hb, hml, hown, hts⟩ (kX3_rankedAt l D cI cC cT h a b v.1 v.2.2) (cwV 1 hts gX3_seatAnew_X3_rankedAt rfl rfl rfl (by decide +kernel) ⟨Nat.le_of_ble_eq_true rfl, Nat.le_of_ble_eq_true rfl⟩) hP hK [0, 1, 2] rfl 0 (ci := 4) rfl rfl rfl rfl hl.1 rfl rfl (Nat.le_of_ble_eq_true rfl) ⟨Nat.zero_le _, Nat.zero_le _⟩ dX3_seatAnew_45 ?_
        refine lv_istore (lv' := [(5, .int (fX3_rankedAt v.1 v.2.2)), (0, .ref h), (1, .int x1), (2, .int x2), (3, .int v.2.1), (4, .int v.2.2)]) hx hb dX3_seatAnew_48 hl (by decide) rfl (fun ls hl => ?_)
        refine lv_aload_n hx hb dX3_seatAnew_50 rfl (lv_at hl 1 rfl) ?_
        refine lv_iload hx hb dX3_seatAnew_51 (lv_at hl 0 rfl) ?_
        refine lv_iconst (v := 2) hx hb dX3_seatAnew_53 (by decide) ?_
        refine fRV (As := [.int (fX3_rankedAt v.1 v.2.2), .int 2]) (rest := []) (st' := [.int (fX3_ofSitter v.1 (fX3_rankedAt v.1 v.2.2) 2)]) ⟨hx, hb, hml, hown, hts⟩ (kX3_ofSitter l D cI cC cT h a b v.1 (fX3_rankedAt v.1 v.2.2) 2) (cwV 2 hts gX3_seatAnew_X3_ofSitter rfl rfl rfl (by decide +kernel) ⟨Nat.le_of_ble_eq_true rfl, Nat.le_of_ble_eq_true rfl⟩) hP hK [0, 1, 2] rfl 0 (ci := 4) rfl rfl rfl rfl hl.1 rfl rfl (Nat.le_of_ble_eq_true rfl) ⟨Nat.zero_le _, Nat.zero_le _⟩ dX3_seatAnew_54 ?_
        refine lv_istore (lv' := [(6, .int (fX3_ofSitter v.1 (fX3_rankedAt v.1 v.2.2) 2)), (5, .int (fX3_rankedAt v.1 v.2.2)), (0, .ref h), (1, .int x1), (2, .int x2), (3, .int v.2.1), (4, .int v.2.2)]) hx hb dX3_seatAnew_57 hl (by decide) rfl (fun ls hl => ?_)
        refine lv_iload hx hb dX3_seatAnew_59 (lv_at hl 0 rfl) ?_
        refine lv_iload_n hx hb dX3_seatAnew_61 rfl (lv_at hl 3 rfl) ?_
        refine lv_icmp_lt (tgt := 104) hx hb dX3_seatAnew_62 (by decide) (fun c_62 => ?_) (fun c_62 => ?_)
        · refine lv_iinc (v := (v.2.2 + 1)) (lv' := [(4, .int (v.2.2 + 1)), (6, .int (fX3_ofSitter v.1 (fX3_rankedAt v.1 v.2.2) 2)), (5, .int (fX3_rankedAt v.1 v.2.2)), (0, .ref h), (1, .int x1), (2, .int x2), (3, .int v.2.1)]) hx hb dX3_seatAnew_104 hl (k := 6) rfl rfl (by decide) rfl (fun ls hl => ?_)
          refine lv_goto (tgt := 33) hx hb dX3_seatAnew_107 (by decide) ?_
          exact kb (v.1, v.2.1, (v.2.2 + 1)) (by rw [lX3_seatAnew_33, if_neg c_39, if_pos c_62]) H locs ls hP hD hS (lv_sub hl [3, 4, 5, 6, 0] rfl)
        · refine lv_iload hx hb dX3_seatAnew_65 (lv_at hl 0 rfl) ?_
          refine lv_iload_n hx hb dX3_seatAnew_67 rfl (lv_at hl 4 rfl) ?_
          refine lv_icmp_gt (tgt := 104) hx hb dX3_seatAnew_68 (by decide) (fun c_68 => ?_) (fun c_68 => ?_)
          · refine lv_iinc (v := (v.2.2 + 1)) (lv' := [(4, .int (v.2.2 + 1)), (6, .int (fX3_ofSitter v.1 (fX3_rankedAt v.1 v.2.2) 2)), (5, .int (fX3_rankedAt v.1 v.2.2)), (0, .ref h), (1, .int x1), (2, .int x2), (3, .int v.2.1)]) hx hb dX3_seatAnew_104 hl (k := 6) rfl rfl (by decide) rfl (fun ls hl => ?_)
            refine lv_goto (tgt := 33) hx hb dX3_seatAnew_107 (by decide) ?_
            exact kb (v.1, v.2.1, (v.2.2 + 1)) (by rw [lX3_seatAnew_33, if_neg c_39, if_neg c_62, if_pos c_68]) H locs ls hP hD hS (lv_sub hl [3, 4, 5, 6, 0] rfl)
          · refine lv_aload_n hx hb dX3_seatAnew_71 rfl (lv_at hl 2 rfl) ?_
            refine lv_iload hx hb dX3_seatAnew_72 (lv_at hl 1 rfl) ?_
            refine lv_iload_n hx hb dX3_seatAnew_74 rfl (lv_at hl 3 rfl) ?_
            refine lv_iload_n hx hb dX3_seatAnew_75 rfl (lv_at hl 4 rfl) ?_
            refine fRV (As := [.int (fX3_rankedAt v.1 v.2.2), .int x1, .int x2]) (rest := []) (st' := [.int (fX3_highestFree v.1 (fX3_rankedAt v.1 v.2.2) x1 x2)]) ⟨hx, hb, hml, hown, hts⟩ (kX3_highestFree l D cI cC cT h a b v.1 (fX3_rankedAt v.1 v.2.2) x1 x2) (cwV 3 hts gX3_seatAnew_X3_highestFree rfl rfl rfl (by decide +kernel) ⟨Nat.le_of_ble_eq_true rfl, Nat.le_of_ble_eq_true rfl⟩) hP hK [0, 1, 2] rfl 0 (ci := 4) rfl rfl rfl rfl hl.1 rfl rfl (Nat.le_of_ble_eq_true rfl) ⟨Nat.zero_le _, Nat.zero_le _⟩ dX3_seatAnew_76 ?_
            refine lv_istore (lv' := [(7, .int (fX3_highestFree v.1 (fX3_rankedAt v.1 v.2.2) x1 x2)), (6, .int (fX3_ofSitter v.1 (fX3_rankedAt v.1 v.2.2) 2)), (5, .int (fX3_rankedAt v.1 v.2.2)), (0, .ref h), (1, .int x1), (2, .int x2), (3, .int v.2.1), (4, .int v.2.2)]) hx hb dX3_seatAnew_79 hl (by decide) rfl (fun ls hl => ?_)
            refine lv_aload_n hx hb dX3_seatAnew_81 rfl (lv_at hl 3 rfl) ?_
            refine lv_iload hx hb dX3_seatAnew_82 (lv_at hl 2 rfl) ?_
            refine lv_iload hx hb dX3_seatAnew_84 (lv_at hl 0 rfl) ?_
            obtain ⟨n2, en2⟩ : ∃ z9, z9 = (fX3_take v.1 (fX3_rankedAt v.1 v.2.2) (fX3_highestFree v.1 (fX3_rankedAt v.1 v.2.2) x1 x2)) := ⟨_, rfl⟩
            have k9 := (kX3_take l D cI cC cT h a b v.1 (fX3_rankedAt v.1 v.2.2) (fX3_highestFree v.1 (fX3_rankedAt v.1 v.2.2) x1 x2))
            rw [← en2] at k9
            refine fUV (As := [.int (fX3_rankedAt v.1 v.2.2), .int (fX3_highestFree v.1 (fX3_rankedAt v.1 v.2.2) x1 x2)]) (rest := []) (st' := []) ⟨hx, hb, hml, hown, hts⟩ k9 (cwV 2 hts gX3_seatAnew_X3_take rfl rfl rfl (by decide +kernel) ⟨Nat.le_of_ble_eq_true rfl, Nat.le_of_ble_eq_true rfl⟩) hP hK hD hS [0, 1, 2] rfl rfl (by decide) rfl [(h, .inr (4, [.ref a, .ref b, .int n2.2.2.1, .int n2.2.2.2.1, .int n2.2.2.2.2.1, .int n2.2.2.2.2.2.1, .int n2.2.2.2.2.2.2.1, .int n2.2.2.2.2.2.2.2])), (a, .inl (cI, 72, .inl n2.1)), (b, .inl (cI, 36, .inl n2.2.1))] rfl rfl 0 (ci := 4) rfl rfl rfl rfl hl.1 rfl rfl (Nat.le_of_ble_eq_true rfl) ⟨Nat.zero_le _, Nat.zero_le _⟩ dX3_seatAnew_86 (fun H locs hP hD hS => ?_)
            refine lv_iload_n hx hb dX3_seatAnew_89 rfl (lv_at hl 6 rfl) ?_
            refine lv_iload hx hb dX3_seatAnew_90 (lv_at hl 0 rfl) ?_
            refine lv_iload hx hb dX3_seatAnew_92 (lv_at hl 1 rfl) ?_
            refine lv_icmp_ne (tgt := 101) hx hb dX3_seatAnew_94 (by decide) (fun c_94 => ?_) (fun c_94 => ?_)
            · refine lv_iconst (v := 1) hx hb dX3_seatAnew_101 (by decide) ?_
              refine lv_iadd hx hb dX3_seatAnew_102 ?_
              refine lv_istore_n (lv' := [(3, .int (v.2.1 + 1)), (7, .int (fX3_highestFree v.1 (fX3_rankedAt v.1 v.2.2) x1 x2)), (6, .int (fX3_ofSitter v.1 (fX3_rankedAt v.1 v.2.2) 2)), (5, .int (fX3_rankedAt v.1 v.2.2)), (0, .ref h), (1, .int x1), (2, .int x2), (4, .int v.2.2)]) hx hb dX3_seatAnew_103 rfl hl (by decide) rfl (fun ls hl => ?_)
              refine lv_iinc (v := (v.2.2 + 1)) (lv' := [(4, .int (v.2.2 + 1)), (3, .int (v.2.1 + 1)), (7, .int (fX3_highestFree v.1 (fX3_rankedAt v.1 v.2.2) x1 x2)), (6, .int (fX3_ofSitter v.1 (fX3_rankedAt v.1 v.2.2) 2)), (5, .int (fX3_rankedAt v.1 v.2.2)), (0, .ref h), (1, .int x1), (2, .int x2)]) hx hb dX3_seatAnew_104 hl (k := 7) rfl rfl (by decide) rfl (fun ls hl => ?_)
              refine lv_goto (tgt := 33) hx hb dX3_seatAnew_107 (by decide) ?_
              exact kb (n2, (v.2.1 + 1), (v.2.2 + 1)) (by rw [lX3_seatAnew_33, if_neg c_39, if_neg c_62, if_neg c_68, ← en2, if_neg c_94]) H locs ls hP hD hS (lv_sub hl [5, 6, 7, 1, 0] rfl)
            · refine lv_iconst (v := 0) hx hb dX3_seatAnew_97 (by decide) ?_
              refine lv_goto (tgt := 102) hx hb dX3_seatAnew_98 (by decide) ?_
              refine lv_iadd hx hb dX3_seatAnew_102 ?_
              refine lv_istore_n (lv' := [(3, .int (v.2.1 + 0)), (7, .int (fX3_highestFree v.1 (fX3_rankedAt v.1 v.2.2) x1 x2)), (6, .int (fX3_ofSitter v.1 (fX3_rankedAt v.1 v.2.2) 2)), (5, .int (fX3_rankedAt v.1 v.2.2)), (0, .ref h), (1, .int x1), (2, .int x2), (4, .int v.2.2)]) hx hb dX3_seatAnew_103 rfl hl (by decide) rfl (fun ls hl => ?_)
              refine lv_iinc (v := (v.2.2 + 1)) (lv' := [(4, .int (v.2.2 + 1)), (3, .int (v.2.1 + 0)), (7, .int (fX3_highestFree v.1 (fX3_rankedAt v.1 v.2.2) x1 x2)), (6, .int (fX3_ofSitter v.1 (fX3_rankedAt v.1 v.2.2) 2)), (5, .int (fX3_rankedAt v.1 v.2.2)), (0, .ref h), (1, .int x1), (2, .int x2)]) hx hb dX3_seatAnew_104 hl (k := 7) rfl rfl (by decide) rfl (fun ls hl => ?_)
              refine lv_goto (tgt := 33) hx hb dX3_seatAnew_107 (by decide) ?_
              exact kb (n2, (v.2.1 + 0), (v.2.2 + 1)) (by rw [lX3_seatAnew_33, if_neg c_39, if_neg c_62, if_neg c_68, ← en2, if_pos c_94]) H locs ls hP hD hS (lv_sub hl [5, 6, 7, 1, 0] rfl)
    · intro H locs ls hP hD hS hl
      refine lv_iload_n hx hb dX3_seatAnew_110 rfl (lv_at hl 3 rfl) ?_
      have e9 : fX3_seatAnew T x1 x2 = ((itv ((itv (T, x1) (lX3_seatAnew_2 T x1 x2) ((fun v : (TV × Int32) => (v.1.2.2.1.toInt - v.2.toInt).toNat) (T, x1) + 1) (T, x1)).1, 0, 0) (lX3_seatAnew_33 T x1 x2) ((fun v : (TV × Int32 × Int32) => (v.1.2.2.2.1.toInt - v.2.2.toInt).toNat) ((itv (T, x1) (lX3_seatAnew_2 T x1 x2) ((fun v : (TV × Int32) => (v.1.2.2.1.toInt - v.2.toInt).toNat) (T, x1) + 1) (T, x1)).1, 0, 0) + 1) ((itv (T, x1) (lX3_seatAnew_2 T x1 x2) ((fun v : (TV × Int32) => (v.1.2.2.1.toInt - v.2.toInt).toNat) (T, x1) + 1) (T, x1)).1, 0, 0)).2.1, (itv ((itv (T, x1) (lX3_seatAnew_2 T x1 x2) ((fun v : (TV × Int32) => (v.1.2.2.1.toInt - v.2.toInt).toNat) (T, x1) + 1) (T, x1)).1, 0, 0) (lX3_seatAnew_33 T x1 x2) ((fun v : (TV × Int32 × Int32) => (v.1.2.2.2.1.toInt - v.2.2.toInt).toNat) ((itv (T, x1) (lX3_seatAnew_2 T x1 x2) ((fun v : (TV × Int32) => (v.1.2.2.1.toInt - v.2.toInt).toNat) (T, x1) + 1) (T, x1)).1, 0, 0) + 1) ((itv (T, x1) (lX3_seatAnew_2 T x1 x2) ((fun v : (TV × Int32) => (v.1.2.2.1.toInt - v.2.toInt).toNat) (T, x1) + 1) (T, x1)).1, 0, 0)).1) := by rw [fX3_seatAnew]
      exact rUi hx hb hr hlk hQ hP hS (by rw [e9]) (congrArg (fun z9 : (Int32 × TV) => w3 cI h a b z9.2) e9).symm rfl dX3_seatAnew_111
def fX3_addCoin (T : TV) (x1 : Int32) : (Int32 × TV) := (((fX3_ofStool T x1 2) - 1), (fX3_setOfStool (fX3_setOfStool (T.1, T.2.1, T.2.2.1, T.2.2.2.1, (T.2.2.2.2.1 - 1), T.2.2.2.2.2.1, T.2.2.2.2.2.2.1, T.2.2.2.2.2.2.2) x1 4 ((fX3_ofStool (T.1, T.2.1, T.2.2.1, T.2.2.2.1, (T.2.2.2.2.1 - 1), T.2.2.2.2.2.1, T.2.2.2.2.2.2.1, T.2.2.2.2.2.2.2) x1 4) + 1)) x1 2 ((fX3_ofStool T x1 2) - 1)))
abbrev rmX3_addCoin : Room := { frames := 1, cells := 0, slots := 0, locals := 23 }
set_option maxHeartbeats 4000000 in
set_option maxRecDepth 100000 in
theorem kX3_addCoin (l : Launch) (D : va_G) (cI cC cT : ClassId) (h a b : Nat) (T : TV) (x1 : Int32)  : mU l D (TY cI cC cT) yX3_addCoin wsX3_addCoin rmX3_addCoin [.ref h, .int x1] (w3 cI h a b T) (some (.int (fX3_addCoin T x1).1)) (w3 cI h a b (fX3_addCoin T x1).2) := by
  refine mU.ofW (cc := cX3_addCoin) (maxL := 3) (ret := (some .int)) (by decide) rfl (Nat.le_of_ble_eq_true rfl) ?_
  intro p e s m args below meth c Q ls A hx hb hml hr hlk hts hown hP hK hD hS hl hQ
  have hown : s.vm.findClass RX3 = some m.cls := hown
  have hP : va_P D vwCl [(h, .inr (4, [.ref a, .ref b, .int T.2.2.1, .int T.2.2.2.1, .int T.2.2.2.2.1, .int T.2.2.2.2.2.1, .int T.2.2.2.2.2.2.1, .int T.2.2.2.2.2.2.2])), (a, .inl (cI, 72, .inl T.1)), (b, .inl (cI, 36, .inl T.2.1))] s.heap := hP
  have hD : va_D A [(h, .inr (4, [.ref a, .ref b, .int T.2.2.1, .int T.2.2.2.1, .int T.2.2.2.2.1, .int T.2.2.2.2.2.1, .int T.2.2.2.2.2.2.1, .int T.2.2.2.2.2.2.2])), (a, .inl (cI, 72, .inl T.1)), (b, .inl (cI, 36, .inl T.2.1))] := hD
  have hl : lv_has ls 3 [(0, .ref h), (1, .int x1)] := hl
  have q0 := hts (Cond.fieldLink RX3 25 "TavernStools$Tavern" "purse" "I") (by decide +kernel)
  have q1 : ∀ w ∈ u_ws RX3 TX3 8, w ∈ wsX3_addCoin := by decide +kernel
  generalize hHe : s.heap = H at hP ⊢
  have hS : va_S A s.heap H [] := hHe ▸ hS
  generalize hLe : ([] : List Loc) = locs at hS ⊢
  refine lv_aload_n hx hb dX3_addCoin_0 rfl (lv_at hl 0 rfl) ?_
  refine lv_iload_n hx hb dX3_addCoin_1 rfl (lv_at hl 1 rfl) ?_
  refine lv_iconst (v := 2) hx hb dX3_addCoin_2 (by decide) ?_
  refine fRV (As := [.int x1, .int 2]) (rest := []) (st' := [.int (fX3_ofStool T x1 2)]) ⟨hx, hb, hml, hown, hts⟩ (kX3_ofStool l D cI cC cT h a b T x1 2) (cwV 2 hts gX3_addCoin_X3_ofStool rfl rfl rfl (by decide +kernel) ⟨Nat.le_of_ble_eq_true rfl, Nat.le_of_ble_eq_true rfl⟩) hP hK [0, 1, 2] rfl 0 (ci := 4) rfl rfl rfl rfl hl.1 rfl rfl (Nat.le_of_ble_eq_true rfl) ⟨Nat.zero_le _, Nat.zero_le _⟩ dX3_addCoin_3 ?_
  refine lv_iconst (v := 1) hx hb dX3_addCoin_6 (by decide) ?_
  refine lv_isub hx hb dX3_addCoin_7 ?_
  refine lv_istore_n (lv' := [(2, .int ((fX3_ofStool T x1 2) - 1)), (0, .ref h), (1, .int x1)]) hx hb dX3_addCoin_8 rfl hl (by decide) rfl (fun ls hl => ?_)
  refine lv_aload_n hx hb dX3_addCoin_9 rfl (lv_at hl 1 rfl) ?_
  refine lv_dup hx hb dX3_addCoin_10 rfl ?_
  refine va_get (D := D) (ci := 4) (v := .int T.2.2.2.2.1) (C := RX3) (T := TX3) (N := 8) hx hb hts q1 hown hK hP 0 rfl rfl 4 (by decide) q0 (fun _ h9 => h9) rfl dX3_addCoin_11 ?_
  refine lv_iconst (v := 1) hx hb dX3_addCoin_14 (by decide) ?_
  refine lv_isub hx hb dX3_addCoin_15 ?_
  refine va_put (D := D) (ci := 4) (v := .int (T.2.2.2.2.1 - 1)) (ty := .int) (C := RX3) (T := TX3) (N := 8) hx hb hts q1 tyX3 tyX3_ok nmX3 hown hK hP hD hS 0 rfl rfl 4 (by decide) q0 (fun _ h9 => h9) rfl (by decide +kernel) rfl rfl (Nat.le_of_ble_eq_true rfl) dX3_addCoin_16 (fun H locs hP hD hS => ?_)
  have hP : va_P D vwCl [(h, .inr (4, [.ref a, .ref b, .int T.2.2.1, .int T.2.2.2.1, .int (T.2.2.2.2.1 - 1), .int T.2.2.2.2.2.1, .int T.2.2.2.2.2.2.1, .int T.2.2.2.2.2.2.2])), (a, .inl (cI, 72, .inl T.1)), (b, .inl (cI, 36, .inl T.2.1))] H := hP
  have hD : va_D A [(h, .inr (4, [.ref a, .ref b, .int T.2.2.1, .int T.2.2.2.1, .int (T.2.2.2.2.1 - 1), .int T.2.2.2.2.2.1, .int T.2.2.2.2.2.2.1, .int T.2.2.2.2.2.2.2])), (a, .inl (cI, 72, .inl T.1)), (b, .inl (cI, 36, .inl T.2.1))] := hD
  refine lv_aload_n hx hb dX3_addCoin_19 rfl (lv_at hl 1 rfl) ?_
  refine lv_iload_n hx hb dX3_addCoin_20 rfl (lv_at hl 2 rfl) ?_
  refine lv_iconst (v := 4) hx hb dX3_addCoin_21 (by decide) ?_
  refine lv_aload_n hx hb dX3_addCoin_22 rfl (lv_at hl 1 rfl) ?_
  refine lv_iload_n hx hb dX3_addCoin_23 rfl (lv_at hl 2 rfl) ?_
  refine lv_iconst (v := 4) hx hb dX3_addCoin_24 (by decide) ?_
  refine fRV (As := [.int x1, .int 4]) (rest := [.int 4, .int x1, .ref h]) (st' := [.int (fX3_ofStool (T.1, T.2.1, T.2.2.1, T.2.2.2.1, (T.2.2.2.2.1 - 1), T.2.2.2.2.2.1, T.2.2.2.2.2.2.1, T.2.2.2.2.2.2.2) x1 4), .int 4, .int x1, .ref h]) ⟨hx, hb, hml, hown, hts⟩ (kX3_ofStool l D cI cC cT h a b (T.1, T.2.1, T.2.2.1, T.2.2.2.1, (T.2.2.2.2.1 - 1), T.2.2.2.2.2.1, T.2.2.2.2.2.2.1, T.2.2.2.2.2.2.2) x1 4) (cwV 2 hts gX3_addCoin_X3_ofStool rfl rfl rfl (by decide +kernel) ⟨Nat.le_of_ble_eq_true rfl, Nat.le_of_ble_eq_true rfl⟩) hP hK [0, 1, 2] rfl 0 (ci := 4) rfl rfl rfl rfl hl.1 rfl rfl (Nat.le_of_ble_eq_true rfl) ⟨Nat.zero_le _, Nat.zero_le _⟩ dX3_addCoin_25 ?_
  refine lv_iconst (v := 1) hx hb dX3_addCoin_28 (by decide) ?_
  refine lv_iadd hx hb dX3_addCoin_29 ?_
  obtain ⟨n1, en1⟩ : ∃ z9, z9 = (fX3_setOfStool (T.1, T.2.1, T.2.2.1, T.2.2.2.1, (T.2.2.2.2.1 - 1), T.2.2.2.2.2.1, T.2.2.2.2.2.2.1, T.2.2.2.2.2.2.2) x1 4 ((fX3_ofStool (T.1, T.2.1, T.2.2.1, T.2.2.2.1, (T.2.2.2.2.1 - 1), T.2.2.2.2.2.1, T.2.2.2.2.2.2.1, T.2.2.2.2.2.2.2) x1 4) + 1)) := ⟨_, rfl⟩
  have k9 := (kX3_setOfStool l D cI cC cT h a b (T.1, T.2.1, T.2.2.1, T.2.2.2.1, (T.2.2.2.2.1 - 1), T.2.2.2.2.2.1, T.2.2.2.2.2.2.1, T.2.2.2.2.2.2.2) x1 4 ((fX3_ofStool (T.1, T.2.1, T.2.2.1, T.2.2.2.1, (T.2.2.2.2.1 - 1), T.2.2.2.2.2.1, T.2.2.2.2.2.2.1, T.2.2.2.2.2.2.2) x1 4) + 1))
  rw [← en1] at k9
  refine fUV (As := [.int x1, .int 4, .int ((fX3_ofStool (T.1, T.2.1, T.2.2.1, T.2.2.2.1, (T.2.2.2.2.1 - 1), T.2.2.2.2.2.1, T.2.2.2.2.2.2.1, T.2.2.2.2.2.2.2) x1 4) + 1)]) (rest := []) (st' := []) ⟨hx, hb, hml, hown, hts⟩ k9 (cwV 3 hts gX3_addCoin_X3_setOfStool rfl rfl rfl (by decide +kernel) ⟨Nat.le_of_ble_eq_true rfl, Nat.le_of_ble_eq_true rfl⟩) hP hK hD hS [0, 1, 2] rfl rfl (by decide) rfl [(h, .inr (4, [.ref a, .ref b, .int n1.2.2.1, .int n1.2.2.2.1, .int n1.2.2.2.2.1, .int n1.2.2.2.2.2.1, .int n1.2.2.2.2.2.2.1, .int n1.2.2.2.2.2.2.2])), (a, .inl (cI, 72, .inl n1.1)), (b, .inl (cI, 36, .inl n1.2.1))] rfl rfl 0 (ci := 4) rfl rfl rfl rfl hl.1 rfl rfl (Nat.le_of_ble_eq_true rfl) ⟨Nat.zero_le _, Nat.zero_le _⟩ dX3_addCoin_30 (fun H locs hP hD hS => ?_)
  refine lv_aload_n hx hb dX3_addCoin_33 rfl (lv_at hl 1 rfl) ?_
  refine lv_iload_n hx hb dX3_addCoin_34 rfl (lv_at hl 2 rfl) ?_
  refine lv_iconst (v := 2) hx hb dX3_addCoin_35 (by decide) ?_
  refine lv_iload_n hx hb dX3_addCoin_36 rfl (lv_at hl 0 rfl) ?_
  obtain ⟨n2, en2⟩ : ∃ z9, z9 = (fX3_setOfStool n1 x1 2 ((fX3_ofStool T x1 2) - 1)) := ⟨_, rfl⟩
  have k9 := (kX3_setOfStool l D cI cC cT h a b n1 x1 2 ((fX3_ofStool T x1 2) - 1))
  rw [← en2] at k9
  refine fUV (As := [.int x1, .int 2, .int ((fX3_ofStool T x1 2) - 1)]) (rest := []) (st' := []) ⟨hx, hb, hml, hown, hts⟩ k9 (cwV 3 hts gX3_addCoin_X3_setOfStool rfl rfl rfl (by decide +kernel) ⟨Nat.le_of_ble_eq_true rfl, Nat.le_of_ble_eq_true rfl⟩) hP hK hD hS [0, 1, 2] rfl rfl (by decide) rfl [(h, .inr (4, [.ref a, .ref b, .int n2.2.2.1, .int n2.2.2.2.1, .int n2.2.2.2.2.1, .int n2.2.2.2.2.2.1, .int n2.2.2.2.2.2.2.1, .int n2.2.2.2.2.2.2.2])), (a, .inl (cI, 72, .inl n2.1)), (b, .inl (cI, 36, .inl n2.2.1))] rfl rfl 0 (ci := 4) rfl rfl rfl rfl hl.1 rfl rfl (Nat.le_of_ble_eq_true rfl) ⟨Nat.zero_le _, Nat.zero_le _⟩ dX3_addCoin_37 (fun H locs hP hD hS => ?_)
  refine lv_iload_n hx hb dX3_addCoin_40 rfl (lv_at hl 0 rfl) ?_
  have e9 : fX3_addCoin T x1 = (((fX3_ofStool T x1 2) - 1), n2) := by rw [fX3_addCoin, ← en1, ← en2]
  exact rUi hx hb hr hlk hQ hP hS (by rw [e9]) (congrArg (fun z9 : (Int32 × TV) => w3 cI h a b z9.2) e9).symm rfl dX3_addCoin_41
def fX3_removeCoin (T : TV) (x1 : Int32) : (Int32 × TV) := ((if ((fX3_ofStool T x1 2) + 1) < 9 then ((fX3_ofStool T x1 2) + 1) else 9), (fX3_setOfStool (fX3_setOfStool (T.1, T.2.1, T.2.2.1, T.2.2.2.1, (T.2.2.2.2.1 + 1), T.2.2.2.2.2.1, T.2.2.2.2.2.2.1, T.2.2.2.2.2.2.2) x1 4 ((fX3_ofStool (T.1, T.2.1, T.2.2.1, T.2.2.2.1, (T.2.2.2.2.1 + 1), T.2.2.2.2.2.1, T.2.2.2.2.2.2.1, T.2.2.2.2.2.2.2) x1 4) - 1)) x1 2 (if ((fX3_ofStool T x1 2) + 1) < 9 then ((fX3_ofStool T x1 2) + 1) else 9)))
abbrev rmX3_removeCoin : Room := { frames := 1, cells := 0, slots := 0, locals := 23 }
set_option maxHeartbeats 4000000 in
set_option maxRecDepth 100000 in
theorem kX3_removeCoin (l : Launch) (D : va_G) (cI cC cT : ClassId) (h a b : Nat) (T : TV) (x1 : Int32)  : mU l D (TY cI cC cT) yX3_removeCoin wsX3_removeCoin rmX3_removeCoin [.ref h, .int x1] (w3 cI h a b T) (some (.int (fX3_removeCoin T x1).1)) (w3 cI h a b (fX3_removeCoin T x1).2) := by
  refine mU.ofW (cc := cX3_removeCoin) (maxL := 3) (ret := (some .int)) (by decide) rfl (Nat.le_of_ble_eq_true rfl) ?_
  intro p e s m args below meth c Q ls A hx hb hml hr hlk hts hown hP hK hD hS hl hQ
  have hown : s.vm.findClass RX3 = some m.cls := hown
  have hP : va_P D vwCl [(h, .inr (4, [.ref a, .ref b, .int T.2.2.1, .int T.2.2.2.1, .int T.2.2.2.2.1, .int T.2.2.2.2.2.1, .int T.2.2.2.2.2.2.1, .int T.2.2.2.2.2.2.2])), (a, .inl (cI, 72, .inl T.1)), (b, .inl (cI, 36, .inl T.2.1))] s.heap := hP
  have hD : va_D A [(h, .inr (4, [.ref a, .ref b, .int T.2.2.1, .int T.2.2.2.1, .int T.2.2.2.2.1, .int T.2.2.2.2.2.1, .int T.2.2.2.2.2.2.1, .int T.2.2.2.2.2.2.2])), (a, .inl (cI, 72, .inl T.1)), (b, .inl (cI, 36, .inl T.2.1))] := hD
  have hl : lv_has ls 3 [(0, .ref h), (1, .int x1)] := hl
  have q0 := hts (Cond.methodLink RX3 37 Lib.Math.min.name) (by decide +kernel)
  have q1 := hts (Cond.static Lib.Math.min.name) (by decide +kernel)
  have q2 := hts (Cond.initialized "java/lang/Math") (by decide +kernel)
  have q3 := hts (Cond.code Lib.Math.min.name Lib.Math.min.code 2 (some .int)) (by decide +kernel)
  have q4 := hts (Cond.fieldLink RX3 25 "TavernStools$Tavern" "purse" "I") (by decide +kernel)
  have q5 : ∀ w ∈ u_ws RX3 TX3 8, w ∈ wsX3_removeCoin := by decide +kernel
  generalize hHe : s.heap = H at hP ⊢
  have hS : va_S A s.heap H [] := hHe ▸ hS
  generalize hLe : ([] : List Loc) = locs at hS ⊢
  refine lv_bipush (v := 9) hx hb dX3_removeCoin_0 (by decide) ?_
  refine lv_aload_n hx hb dX3_removeCoin_2 rfl (lv_at hl 0 rfl) ?_
  refine lv_iload_n hx hb dX3_removeCoin_3 rfl (lv_at hl 1 rfl) ?_
  refine lv_iconst (v := 2) hx hb dX3_removeCoin_4 (by decide) ?_
  refine fRV (As := [.int x1, .int 2]) (rest := [.int 9]) (st' := [.int (fX3_ofStool T x1 2), .int 9]) ⟨hx, hb, hml, hown, hts⟩ (kX3_ofStool l D cI cC cT h a b T x1 2) (cwV 2 hts gX3_removeCoin_X3_ofStool rfl rfl rfl (by decide +kernel) ⟨Nat.le_of_ble_eq_true rfl, Nat.le_of_ble_eq_true rfl⟩) hP hK [0, 1, 2] rfl 0 (ci := 4) rfl rfl rfl rfl hl.1 rfl rfl (Nat.le_of_ble_eq_true rfl) ⟨Nat.zero_le _, Nat.zero_le _⟩ dX3_removeCoin_5 ?_
  refine lv_iconst (v := 1) hx hb dX3_removeCoin_8 (by decide) ?_
  refine lv_iadd hx hb dX3_removeCoin_9 ?_
  refine va_mmin (y := ((fX3_ofStool T x1 2) + 1)) (x := 9) hx hb (hml.trans hl.1.symm) hown q0 q1 q2 q3 (Nat.le_of_ble_eq_true rfl) (Nat.le_of_ble_eq_true rfl) (Nat.zero_le _) (Nat.zero_le _) dX3_removeCoin_10 ?_
  refine lv_istore_n (lv' := [(2, .int (if ((fX3_ofStool T x1 2) + 1) < 9 then ((fX3_ofStool T x1 2) + 1) else 9)), (0, .ref h), (1, .int x1)]) hx hb dX3_removeCoin_13 rfl hl (by decide) rfl (fun ls hl => ?_)
  refine lv_aload_n hx hb dX3_removeCoin_14 rfl (lv_at hl 1 rfl) ?_
  refine lv_dup hx hb dX3_removeCoin_15 rfl ?_
  refine va_get (D := D) (ci := 4) (v := .int T.2.2.2.2.1) (C := RX3) (T := TX3) (N := 8) hx hb hts q5 hown hK hP 0 rfl rfl 4 (by decide) q4 (fun _ h9 => h9) rfl dX3_removeCoin_16 ?_
  refine lv_iconst (v := 1) hx hb dX3_removeCoin_19 (by decide) ?_
  refine lv_iadd hx hb dX3_removeCoin_20 ?_
  refine va_put (D := D) (ci := 4) (v := .int (T.2.2.2.2.1 + 1)) (ty := .int) (C := RX3) (T := TX3) (N := 8) hx hb hts q5 tyX3 tyX3_ok nmX3 hown hK hP hD hS 0 rfl rfl 4 (by decide) q4 (fun _ h9 => h9) rfl (by decide +kernel) rfl rfl (Nat.le_of_ble_eq_true rfl) dX3_removeCoin_21 (fun H locs hP hD hS => ?_)
  have hP : va_P D vwCl [(h, .inr (4, [.ref a, .ref b, .int T.2.2.1, .int T.2.2.2.1, .int (T.2.2.2.2.1 + 1), .int T.2.2.2.2.2.1, .int T.2.2.2.2.2.2.1, .int T.2.2.2.2.2.2.2])), (a, .inl (cI, 72, .inl T.1)), (b, .inl (cI, 36, .inl T.2.1))] H := hP
  have hD : va_D A [(h, .inr (4, [.ref a, .ref b, .int T.2.2.1, .int T.2.2.2.1, .int (T.2.2.2.2.1 + 1), .int T.2.2.2.2.2.1, .int T.2.2.2.2.2.2.1, .int T.2.2.2.2.2.2.2])), (a, .inl (cI, 72, .inl T.1)), (b, .inl (cI, 36, .inl T.2.1))] := hD
  refine lv_aload_n hx hb dX3_removeCoin_24 rfl (lv_at hl 1 rfl) ?_
  refine lv_iload_n hx hb dX3_removeCoin_25 rfl (lv_at hl 2 rfl) ?_
  refine lv_iconst (v := 4) hx hb dX3_removeCoin_26 (by decide) ?_
  refine lv_aload_n hx hb dX3_removeCoin_27 rfl (lv_at hl 1 rfl) ?_
  refine lv_iload_n hx hb dX3_removeCoin_28 rfl (lv_at hl 2 rfl) ?_
  refine lv_iconst (v := 4) hx hb dX3_removeCoin_29 (by decide) ?_
  refine fRV (As := [.int x1, .int 4]) (rest := [.int 4, .int x1, .ref h]) (st' := [.int (fX3_ofStool (T.1, T.2.1, T.2.2.1, T.2.2.2.1, (T.2.2.2.2.1 + 1), T.2.2.2.2.2.1, T.2.2.2.2.2.2.1, T.2.2.2.2.2.2.2) x1 4), .int 4, .int x1, .ref h]) ⟨hx, hb, hml, hown, hts⟩ (kX3_ofStool l D cI cC cT h a b (T.1, T.2.1, T.2.2.1, T.2.2.2.1, (T.2.2.2.2.1 + 1), T.2.2.2.2.2.1, T.2.2.2.2.2.2.1, T.2.2.2.2.2.2.2) x1 4) (cwV 2 hts gX3_removeCoin_X3_ofStool rfl rfl rfl (by decide +kernel) ⟨Nat.le_of_ble_eq_true rfl, Nat.le_of_ble_eq_true rfl⟩) hP hK [0, 1, 2] rfl 0 (ci := 4) rfl rfl rfl rfl hl.1 rfl rfl (Nat.le_of_ble_eq_true rfl) ⟨Nat.zero_le _, Nat.zero_le _⟩ dX3_removeCoin_30 ?_
  refine lv_iconst (v := 1) hx hb dX3_removeCoin_33 (by decide) ?_
  refine lv_isub hx hb dX3_removeCoin_34 ?_
  obtain ⟨n1, en1⟩ : ∃ z9, z9 = (fX3_setOfStool (T.1, T.2.1, T.2.2.1, T.2.2.2.1, (T.2.2.2.2.1 + 1), T.2.2.2.2.2.1, T.2.2.2.2.2.2.1, T.2.2.2.2.2.2.2) x1 4 ((fX3_ofStool (T.1, T.2.1, T.2.2.1, T.2.2.2.1, (T.2.2.2.2.1 + 1), T.2.2.2.2.2.1, T.2.2.2.2.2.2.1, T.2.2.2.2.2.2.2) x1 4) - 1)) := ⟨_, rfl⟩
  have k9 := (kX3_setOfStool l D cI cC cT h a b (T.1, T.2.1, T.2.2.1, T.2.2.2.1, (T.2.2.2.2.1 + 1), T.2.2.2.2.2.1, T.2.2.2.2.2.2.1, T.2.2.2.2.2.2.2) x1 4 ((fX3_ofStool (T.1, T.2.1, T.2.2.1, T.2.2.2.1, (T.2.2.2.2.1 + 1), T.2.2.2.2.2.1, T.2.2.2.2.2.2.1, T.2.2.2.2.2.2.2) x1 4) - 1))
  rw [← en1] at k9
  refine fUV (As := [.int x1, .int 4, .int ((fX3_ofStool (T.1, T.2.1, T.2.2.1, T.2.2.2.1, (T.2.2.2.2.1 + 1), T.2.2.2.2.2.1, T.2.2.2.2.2.2.1, T.2.2.2.2.2.2.2) x1 4) - 1)]) (rest := []) (st' := []) ⟨hx, hb, hml, hown, hts⟩ k9 (cwV 3 hts gX3_removeCoin_X3_setOfStool rfl rfl rfl (by decide +kernel) ⟨Nat.le_of_ble_eq_true rfl, Nat.le_of_ble_eq_true rfl⟩) hP hK hD hS [0, 1, 2] rfl rfl (by decide) rfl [(h, .inr (4, [.ref a, .ref b, .int n1.2.2.1, .int n1.2.2.2.1, .int n1.2.2.2.2.1, .int n1.2.2.2.2.2.1, .int n1.2.2.2.2.2.2.1, .int n1.2.2.2.2.2.2.2])), (a, .inl (cI, 72, .inl n1.1)), (b, .inl (cI, 36, .inl n1.2.1))] rfl rfl 0 (ci := 4) rfl rfl rfl rfl hl.1 rfl rfl (Nat.le_of_ble_eq_true rfl) ⟨Nat.zero_le _, Nat.zero_le _⟩ dX3_removeCoin_35 (fun H locs hP hD hS => ?_)
  refine lv_aload_n hx hb dX3_removeCoin_38 rfl (lv_at hl 1 rfl) ?_
  refine lv_iload_n hx hb dX3_removeCoin_39 rfl (lv_at hl 2 rfl) ?_
  refine lv_iconst (v := 2) hx hb dX3_removeCoin_40 (by decide) ?_
  refine lv_iload_n hx hb dX3_removeCoin_41 rfl (lv_at hl 0 rfl) ?_
  obtain ⟨n2, en2⟩ : ∃ z9, z9 = (fX3_setOfStool n1 x1 2 (if ((fX3_ofStool T x1 2) + 1) < 9 then ((fX3_ofStool T x1 2) + 1) else 9)) := ⟨_, rfl⟩
  have k9 := (kX3_setOfStool l D cI cC cT h a b n1 x1 2 (if ((fX3_ofStool T x1 2) + 1) < 9 then ((fX3_ofStool T x1 2) + 1) else 9))
  rw [← en2] at k9
  refine fUV (As := [.int x1, .int 2, .int (if ((fX3_ofStool T x1 2) + 1) < 9 then ((fX3_ofStool T x1 2) + 1) else 9)]) (rest := []) (st' := []) ⟨hx, hb, hml, hown, hts⟩ k9 (cwV 3 hts gX3_removeCoin_X3_setOfStool rfl rfl rfl (by decide +kernel) ⟨Nat.le_of_ble_eq_true rfl, Nat.le_of_ble_eq_true rfl⟩) hP hK hD hS [0, 1, 2] rfl rfl (by decide) rfl [(h, .inr (4, [.ref a, .ref b, .int n2.2.2.1, .int n2.2.2.2.1, .int n2.2.2.2.2.1, .int n2.2.2.2.2.2.1, .int n2.2.2.2.2.2.2.1, .int n2.2.2.2.2.2.2.2])), (a, .inl (cI, 72, .inl n2.1)), (b, .inl (cI, 36, .inl n2.2.1))] rfl rfl 0 (ci := 4) rfl rfl rfl rfl hl.1 rfl rfl (Nat.le_of_ble_eq_true rfl) ⟨Nat.zero_le _, Nat.zero_le _⟩ dX3_removeCoin_42 (fun H locs hP hD hS => ?_)
  refine lv_iload_n hx hb dX3_removeCoin_45 rfl (lv_at hl 0 rfl) ?_
  have e9 : fX3_removeCoin T x1 = ((if ((fX3_ofStool T x1 2) + 1) < 9 then ((fX3_ofStool T x1 2) + 1) else 9), n2) := by rw [fX3_removeCoin, ← en1, ← en2]
  exact rUi hx hb hr hlk hQ hP hS (by rw [e9]) (congrArg (fun z9 : (Int32 × TV) => w3 cI h a b z9.2) e9).symm rfl dX3_removeCoin_46
def fX3_wearStool (T : TV) (x1 : Int32) (x2 : Int32) : (Int32 × TV) := (if (fX3_ofStool T x1 2) = 0 then (if (fX3_ofSitter T x2 0) ≤ 0 then (if (fX3_ofSitter T x2 1) ≤ 100 then (if (fX3_ofStool T x1 2) ≤ 0 then (0, T) else (0, (fX3_setOfStool T x1 1 (if ((fX3_ofStool T x1 1) + 1) < 9 then ((fX3_ofStool T x1 1) + 1) else 9)))) else (if (if ((fX3_ofStool T x1 2) + 1) < 9 then ((fX3_ofStool T x1 2) + 1) else 9) ≤ 0 then (0, (fX3_setOfStool T x1 2 (if ((fX3_ofStool T x1 2) + 1) < 9 then ((fX3_ofStool T x1 2) + 1) else 9))) else (0, (fX3_setOfStool (fX3_setOfStool T x1 2 (if ((fX3_ofStool T x1 2) + 1) < 9 then ((fX3_ofStool T x1 2) + 1) else 9)) x1 1 (if ((fX3_ofStool (fX3_setOfStool T x1 2 (if ((fX3_ofStool T x1 2) + 1) < 9 then ((fX3_ofStool T x1 2) + 1) else 9)) x1 1) + 1) < 9 then ((fX3_ofStool (fX3_setOfStool T x1 2 (if ((fX3_ofStool T x1 2) + 1) < 9 then ((fX3_ofStool T x1 2) + 1) else 9)) x1 1) + 1) else 9))))) else (if (fX3_ofSitter T x2 1) ≤ 100 then (if (fX3_ofStool T x1 2) ≤ 0 then (1, T) else (1, (fX3_setOfStool T x1 1 (if ((fX3_ofStool T x1 1) + 1) < 9 then ((fX3_ofStool T x1 1) + 1) else 9)))) else (if (if ((fX3_ofStool T x1 2) + 1) < 9 then ((fX3_ofStool T x1 2) + 1) else 9) ≤ 0 then (1, (fX3_setOfStool T x1 2 (if ((fX3_ofStool T x1 2) + 1) < 9 then ((fX3_ofStool T x1 2) + 1) else 9))) else (1, (fX3_setOfStool (fX3_setOfStool T x1 2 (if ((fX3_ofStool T x1 2) + 1) < 9 then ((fX3_ofStool T x1 2) + 1) else 9)) x1 1 (if ((fX3_ofStool (fX3_setOfStool T x1 2 (if ((fX3_ofStool T x1 2) + 1) < 9 then ((fX3_ofStool T x1 2) + 1) else 9)) x1 1) + 1) < 9 then ((fX3_ofStool (fX3_setOfStool T x1 2 (if ((fX3_ofStool T x1 2) + 1) < 9 then ((fX3_ofStool T x1 2) + 1) else 9)) x1 1) + 1) else 9)))))) else (if (fX3_ofSitter T x2 1) ≤ 100 then (if (fX3_ofStool T x1 2) ≤ 0 then (0, T) else (0, (fX3_setOfStool T x1 1 (if ((fX3_ofStool T x1 1) + 1) < 9 then ((fX3_ofStool T x1 1) + 1) else 9)))) else (if (if ((fX3_ofStool T x1 2) + 1) < 9 then ((fX3_ofStool T x1 2) + 1) else 9) ≤ 0 then (0, (fX3_setOfStool T x1 2 (if ((fX3_ofStool T x1 2) + 1) < 9 then ((fX3_ofStool T x1 2) + 1) else 9))) else (0, (fX3_setOfStool (fX3_setOfStool T x1 2 (if ((fX3_ofStool T x1 2) + 1) < 9 then ((fX3_ofStool T x1 2) + 1) else 9)) x1 1 (if ((fX3_ofStool (fX3_setOfStool T x1 2 (if ((fX3_ofStool T x1 2) + 1) < 9 then ((fX3_ofStool T x1 2) + 1) else 9)) x1 1) + 1) < 9 then ((fX3_ofStool (fX3_setOfStool T x1 2 (if ((fX3_ofStool T x1 2) + 1) < 9 then ((fX3_ofStool T x1 2) + 1) else 9)) x1 1) + 1) else 9))))))
abbrev rmX3_wearStool : Room := { frames := 1, cells := 0, slots := 0, locals := 23 }
set_option maxHeartbeats 4000000 in
set_option maxRecDepth 100000 in
theorem kX3_wearStool (l : Launch) (D : va_G) (cI cC cT : ClassId) (h a b : Nat) (T : TV) (x1 : Int32) (x2 : Int32)  : mU l D (TY cI cC cT) yX3_wearStool wsX3_wearStool rmX3_wearStool [.ref h, .int x1, .int x2] (w3 cI h a b T) (some (.int (fX3_wearStool T x1 x2).1)) (w3 cI h a b (fX3_wearStool T x1 x2).2) := by
  refine mU.ofW (cc := cX3_wearStool) (maxL := 5) (ret := (some .int)) (by decide) rfl (Nat.le_of_ble_eq_true rfl) ?_
  intro p e s m args below meth c Q ls A hx hb hml hr hlk hts hown hP hK hD hS hl hQ
  have hown : s.vm.findClass RX3 = some m.cls := hown
  have hP : va_P D vwCl [(h, .inr (4, [.ref a, .ref b, .int T.2.2.1, .int T.2.2.2.1, .int T.2.2.2.2.1, .int T.2.2.2.2.2.1, .int T.2.2.2.2.2.2.1, .int T.2.2.2.2.2.2.2])), (a, .inl (cI, 72, .inl T.1)), (b, .inl (cI, 36, .inl T.2.1))] s.heap := hP
  have hD : va_D A [(h, .inr (4, [.ref a, .ref b, .int T.2.2.1, .int T.2.2.2.1, .int T.2.2.2.2.1, .int T.2.2.2.2.2.1, .int T.2.2.2.2.2.2.1, .int T.2.2.2.2.2.2.2])), (a, .inl (cI, 72, .inl T.1)), (b, .inl (cI, 36, .inl T.2.1))] := hD
  have hl : lv_has ls 5 [(0, .ref h), (1, .int x1), (2, .int x2)] := hl
  have q0 := hts (Cond.methodLink RX3 37 Lib.Math.min.name) (by decide +kernel)
  have q1 := hts (Cond.static Lib.Math.min.name) (by decide +kernel)
  have q2 := hts (Cond.initialized "java/lang/Math") (by decide +kernel)
  have q3 := hts (Cond.code Lib.Math.min.name Lib.Math.min.code 2 (some .int)) (by decide +kernel)
  generalize hHe : s.heap = H at hP ⊢
  have hS : va_S A s.heap H [] := hHe ▸ hS
  generalize hLe : ([] : List Loc) = locs at hS ⊢
  refine lv_aload_n hx hb dX3_wearStool_0 rfl (lv_at hl 0 rfl) ?_
  refine lv_iload_n hx hb dX3_wearStool_1 rfl (lv_at hl 1 rfl) ?_
  refine lv_iconst (v := 2) hx hb dX3_wearStool_2 (by decide) ?_
  refine fRV (As := [.int x1, .int 2]) (rest := []) (st' := [.int (fX3_ofStool T x1 2)]) ⟨hx, hb, hml, hown, hts⟩ (kX3_ofStool l D cI cC cT h a b T x1 2) (cwV 2 hts gX3_wearStool_X3_ofStool rfl rfl rfl (by decide +kernel) ⟨Nat.le_of_ble_eq_true rfl, Nat.le_of_ble_eq_true rfl⟩) hP hK [0, 1, 2] rfl 0 (ci := 4) rfl rfl rfl rfl hl.1 rfl rfl (Nat.le_of_ble_eq_true rfl) ⟨Nat.zero_le _, Nat.zero_le _⟩ dX3_wearStool_3 ?_
  refine lv_istore_n (lv' := [(3, .int (fX3_ofStool T x1 2)), (0, .ref h), (1, .int x1), (2, .int x2)]) hx hb dX3_wearStool_6 rfl hl (by decide) rfl (fun ls hl => ?_)
  refine lv_iload_n hx hb dX3_wearStool_7 rfl (lv_at hl 0 rfl) ?_
  refine lv_if_ne (tgt := 24) hx hb dX3_wearStool_8 (by decide) (fun c_8 => ?_) (fun c_8 => ?_)
  · refine lv_iconst (v := 0) hx hb dX3_wearStool_24 (by decide) ?_
    refine lv_istore (lv' := [(4, .int 0), (3, .int (fX3_ofStool T x1 2)), (0, .ref h), (1, .int x1), (2, .int x2)]) hx hb dX3_wearStool_25 hl (by decide) rfl (fun ls hl => ?_)
    refine lv_aload_n hx hb dX3_wearStool_27 rfl (lv_at hl 2 rfl) ?_
    refine lv_iload_n hx hb dX3_wearStool_28 rfl (lv_at hl 4 rfl) ?_
    refine lv_iconst (v := 1) hx hb dX3_wearStool_29 (by decide) ?_
    refine fRV (As := [.int x2, .int 1]) (rest := []) (st' := [.int (fX3_ofSitter T x2 1)]) ⟨hx, hb, hml, hown, hts⟩ (kX3_ofSitter l D cI cC cT h a b T x2 1) (cwV 2 hts gX3_wearStool_X3_ofSitter rfl rfl rfl (by decide +kernel) ⟨Nat.le_of_ble_eq_true rfl, Nat.le_of_ble_eq_true rfl⟩) hP hK [0, 1, 2] rfl 0 (ci := 4) rfl rfl rfl rfl hl.1 rfl rfl (Nat.le_of_ble_eq_true rfl) ⟨Nat.zero_le _, Nat.zero_le _⟩ dX3_wearStool_30 ?_
    refine lv_bipush (v := 100) hx hb dX3_wearStool_33 (by decide) ?_
    refine lv_icmp_le (tgt := 54) hx hb dX3_wearStool_35 (by decide) (fun c_35 => ?_) (fun c_35 => ?_)
    · refine lv_iload_n hx hb dX3_wearStool_54 rfl (lv_at hl 1 rfl) ?_
      refine lv_if_le (tgt := 77) hx hb dX3_wearStool_55 (by decide) (fun c_55 => ?_) (fun c_55 => ?_)
      · refine lv_iload hx hb dX3_wearStool_77 (lv_at hl 0 rfl) ?_
        have e9 : fX3_wearStool T x1 x2 = (0, T) := by rw [fX3_wearStool, if_neg c_8, if_pos c_35, if_pos c_55]
        exact rUi hx hb hr hlk hQ hP hS (by rw [e9]) (congrArg (fun z9 : (Int32 × TV) => w3 cI h a b z9.2) e9).symm rfl dX3_wearStool_79
      · refine lv_aload_n hx hb dX3_wearStool_58 rfl (lv_at hl 2 rfl) ?_
        refine lv_iload_n hx hb dX3_wearStool_59 rfl (lv_at hl 3 rfl) ?_
        refine lv_iconst (v := 1) hx hb dX3_wearStool_60 (by decide) ?_
        refine lv_bipush (v := 9) hx hb dX3_wearStool_61 (by decide) ?_
        refine lv_aload_n hx hb dX3_wearStool_63 rfl (lv_at hl 2 rfl) ?_
        refine lv_iload_n hx hb dX3_wearStool_64 rfl (lv_at hl 3 rfl) ?_
        refine lv_iconst (v := 1) hx hb dX3_wearStool_65 (by decide) ?_
        refine fRV (As := [.int x1, .int 1]) (rest := [.int 9, .int 1, .int x1, .ref h]) (st' := [.int (fX3_ofStool T x1 1), .int 9, .int 1, .int x1, .ref h]) ⟨hx, hb, hml, hown, hts⟩ (kX3_ofStool l D cI cC cT h a b T x1 1) (cwV 2 hts gX3_wearStool_X3_ofStool rfl rfl rfl (by decide +kernel) ⟨Nat.le_of_ble_eq_true rfl, Nat.le_of_ble_eq_true rfl⟩) hP hK [0, 1, 2] rfl 0 (ci := 4) rfl rfl rfl rfl hl.1 rfl rfl (Nat.le_of_ble_eq_true rfl) ⟨Nat.zero_le _, Nat.zero_le _⟩ dX3_wearStool_66 ?_
        refine lv_iconst (v := 1) hx hb dX3_wearStool_69 (by decide) ?_
        refine lv_iadd hx hb dX3_wearStool_70 ?_
        refine va_mmin (y := ((fX3_ofStool T x1 1) + 1)) (x := 9) hx hb (hml.trans hl.1.symm) hown q0 q1 q2 q3 (Nat.le_of_ble_eq_true rfl) (Nat.le_of_ble_eq_true rfl) (Nat.zero_le _) (Nat.zero_le _) dX3_wearStool_71 ?_
        obtain ⟨n1, en1⟩ : ∃ z9, z9 = (fX3_setOfStool T x1 1 (if ((fX3_ofStool T x1 1) + 1) < 9 then ((fX3_ofStool T x1 1) + 1) else 9)) := ⟨_, rfl⟩
        have k9 := (kX3_setOfStool l D cI cC cT h a b T x1 1 (if ((fX3_ofStool T x1 1) + 1) < 9 then ((fX3_ofStool T x1 1) + 1) else 9))
        rw [← en1] at k9
        refine fUV (As := [.int x1, .int 1, .int (if ((fX3_ofStool T x1 1) + 1) < 9 then ((fX3_ofStool T x1 1) + 1) else 9)]) (rest := []) (st' := []) ⟨hx, hb, hml, hown, hts⟩ k9 (cwV 3 hts gX3_wearStool_X3_setOfStool rfl rfl rfl (by decide +kernel) ⟨Nat.le_of_ble_eq_true rfl, Nat.le_of_ble_eq_true rfl⟩) hP hK hD hS [0, 1, 2] rfl rfl (by decide) rfl [(h, .inr (4, [.ref a, .ref b, .int n1.2.2.1, .int n1.2.2.2.1, .int n1.2.2.2.2.1, .int n1.2.2.2.2.2.1, .int n1.2.2.2.2.2.2.1, .int n1.2.2.2.2.2.2.2])), (a, .inl (cI, 72, .inl n1.1)), (b, .inl (cI, 36, .inl n1.2.1))] rfl rfl 0 (ci := 4) rfl rfl rfl rfl hl.1 rfl rfl (Nat.le_of_ble_eq_true rfl) ⟨Nat.zero_le _, Nat.zero_le _⟩ dX3_wearStool_74 (fun H locs hP hD hS => ?_)
        refine lv_iload hx hb dX3_wearStool_77 (lv_at hl 0 rfl) ?_
        have e9 : fX3_wearStool T x1 x2 = (0, n1) := by rw [fX3_wearStool, if_neg c_8, if_pos c_35, if_neg c_55, ← en1]
        exact rUi hx hb hr hlk hQ hP hS (by rw [e9]) (congrArg (fun z9 : (Int32 × TV) => w3 cI h a b z9.2) e9).symm rfl dX3_wearStool_79
    · refine lv_bipush (v := 9) hx hb dX3_wearStool_38 (by decide) ?_
      refine lv_iload_n hx hb dX3_wearStool_40 rfl (lv_at hl 1 rfl) ?_
      refine lv_iconst (v := 1) hx hb dX3_wearStool_41 (by decide) ?_
      refine lv_iadd hx hb dX3_wearStool_42 ?_
      refine va_mmin (y := ((fX3_ofStool T x1 2) + 1)) (x := 9) hx hb (hml.trans hl.1.symm) hown q0 q1 q2 q3 (Nat.le_of_ble_eq_true rfl) (Nat.le_of_ble_eq_true rfl) (Nat.zero_le _) (Nat.zero_le _) dX3_wearStool_43 ?_
      refine lv_istore_n (lv' := [(3, .int (if ((fX3_ofStool T x1 2) + 1) < 9 then ((fX3_ofStool T x1 2) + 1) else 9)), (4, .int 0), (0, .ref h), (1, .int x1), (2, .int x2)]) hx hb dX3_wearStool_46 rfl hl (by decide) rfl (fun ls hl => ?_)
      refine lv_aload_n hx hb dX3_wearStool_47 rfl (lv_at hl 2 rfl) ?_
      refine lv_iload_n hx hb dX3_wearStool_48 rfl (lv_at hl 3 rfl) ?_
      refine lv_iconst (v := 2) hx hb dX3_wearStool_49 (by decide) ?_
      refine lv_iload_n hx hb dX3_wearStool_50 rfl (lv_at hl 0 rfl) ?_
      obtain ⟨n2, en2⟩ : ∃ z9, z9 = (fX3_setOfStool T x1 2 (if ((fX3_ofStool T x1 2) + 1) < 9 then ((fX3_ofStool T x1 2) + 1) else 9)) := ⟨_, rfl⟩
      have k9 := (kX3_setOfStool l D cI cC cT h a b T x1 2 (if ((fX3_ofStool T x1 2) + 1) < 9 then ((fX3_ofStool T x1 2) + 1) else 9))
      rw [← en2] at k9
      refine fUV (As := [.int x1, .int 2, .int (if ((fX3_ofStool T x1 2) + 1) < 9 then ((fX3_ofStool T x1 2) + 1) else 9)]) (rest := []) (st' := []) ⟨hx, hb, hml, hown, hts⟩ k9 (cwV 3 hts gX3_wearStool_X3_setOfStool rfl rfl rfl (by decide +kernel) ⟨Nat.le_of_ble_eq_true rfl, Nat.le_of_ble_eq_true rfl⟩) hP hK hD hS [0, 1, 2] rfl rfl (by decide) rfl [(h, .inr (4, [.ref a, .ref b, .int n2.2.2.1, .int n2.2.2.2.1, .int n2.2.2.2.2.1, .int n2.2.2.2.2.2.1, .int n2.2.2.2.2.2.2.1, .int n2.2.2.2.2.2.2.2])), (a, .inl (cI, 72, .inl n2.1)), (b, .inl (cI, 36, .inl n2.2.1))] rfl rfl 0 (ci := 4) rfl rfl rfl rfl hl.1 rfl rfl (Nat.le_of_ble_eq_true rfl) ⟨Nat.zero_le _, Nat.zero_le _⟩ dX3_wearStool_51 (fun H locs hP hD hS => ?_)
      refine lv_iload_n hx hb dX3_wearStool_54 rfl (lv_at hl 0 rfl) ?_
      refine lv_if_le (tgt := 77) hx hb dX3_wearStool_55 (by decide) (fun c_55 => ?_) (fun c_55 => ?_)
      · refine lv_iload hx hb dX3_wearStool_77 (lv_at hl 1 rfl) ?_
        have e9 : fX3_wearStool T x1 x2 = (0, n2) := by rw [fX3_wearStool, if_neg c_8, if_neg c_35, ← en2, if_pos c_55]
        exact rUi hx hb hr hlk hQ hP hS (by rw [e9]) (congrArg (fun z9 : (Int32 × TV) => w3 cI h a b z9.2) e9).symm rfl dX3_wearStool_79
      · refine lv_aload_n hx hb dX3_wearStool_58 rfl (lv_at hl 2 rfl) ?_
        refine lv_iload_n hx hb dX3_wearStool_59 rfl (lv_at hl 3 rfl) ?_
        refine lv_iconst (v := 1) hx hb dX3_wearStool_60 (by decide) ?_
        refine lv_bipush (v := 9) hx hb dX3_wearStool_61 (by decide) ?_
        refine lv_aload_n hx hb dX3_wearStool_63 rfl (lv_at hl 2 rfl) ?_
        refine lv_iload_n hx hb dX3_wearStool_64 rfl (lv_at hl 3 rfl) ?_
        refine lv_iconst (v := 1) hx hb dX3_wearStool_65 (by decide) ?_
        refine fRV (As := [.int x1, .int 1]) (rest := [.int 9, .int 1, .int x1, .ref h]) (st' := [.int (fX3_ofStool n2 x1 1), .int 9, .int 1, .int x1, .ref h]) ⟨hx, hb, hml, hown, hts⟩ (kX3_ofStool l D cI cC cT h a b n2 x1 1) (cwV 2 hts gX3_wearStool_X3_ofStool rfl rfl rfl (by decide +kernel) ⟨Nat.le_of_ble_eq_true rfl, Nat.le_of_ble_eq_true rfl⟩) hP hK [0, 1, 2] rfl 0 (ci := 4) rfl rfl rfl rfl hl.1 rfl rfl (Nat.le_of_ble_eq_true rfl) ⟨Nat.zero_le _, Nat.zero_le _⟩ dX3_wearStool_66 ?_
        refine lv_iconst (v := 1) hx hb dX3_wearStool_69 (by decide) ?_
        refine lv_iadd hx hb dX3_wearStool_70 ?_
        refine va_mmin (y := ((fX3_ofStool n2 x1 1) + 1)) (x := 9) hx hb (hml.trans hl.1.symm) hown q0 q1 q2 q3 (Nat.le_of_ble_eq_true rfl) (Nat.le_of_ble_eq_true rfl) (Nat.zero_le _) (Nat.zero_le _) dX3_wearStool_71 ?_
        obtain ⟨n3, en3⟩ : ∃ z9, z9 = (fX3_setOfStool n2 x1 1 (if ((fX3_ofStool n2 x1 1) + 1) < 9 then ((fX3_ofStool n2 x1 1) + 1) else 9)) := ⟨_, rfl⟩
        have k9 := (kX3_setOfStool l D cI cC cT h a b n2 x1 1 (if ((fX3_ofStool n2 x1 1) + 1) < 9 then ((fX3_ofStool n2 x1 1) + 1) else 9))
        rw [← en3] at k9
        refine fUV (As := [.int x1, .int 1, .int (if ((fX3_ofStool n2 x1 1) + 1) < 9 then ((fX3_ofStool n2 x1 1) + 1) else 9)]) (rest := []) (st' := []) ⟨hx, hb, hml, hown, hts⟩ k9 (cwV 3 hts gX3_wearStool_X3_setOfStool rfl rfl rfl (by decide +kernel) ⟨Nat.le_of_ble_eq_true rfl, Nat.le_of_ble_eq_true rfl⟩) hP hK hD hS [0, 1, 2] rfl rfl (by decide) rfl [(h, .inr (4, [.ref a, .ref b, .int n3.2.2.1, .int n3.2.2.2.1, .int n3.2.2.2.2.1, .int n3.2.2.2.2.2.1, .int n3.2.2.2.2.2.2.1, .int n3.2.2.2.2.2.2.2])), (a, .inl (cI, 72, .inl n3.1)), (b, .inl (cI, 36, .inl n3.2.1))] rfl rfl 0 (ci := 4) rfl rfl rfl rfl hl.1 rfl rfl (Nat.le_of_ble_eq_true rfl) ⟨Nat.zero_le _, Nat.zero_le _⟩ dX3_wearStool_74 (fun H locs hP hD hS => ?_)
        refine lv_iload hx hb dX3_wearStool_77 (lv_at hl 1 rfl) ?_
        have e9 : fX3_wearStool T x1 x2 = (0, n3) := by rw [fX3_wearStool, if_neg c_8, if_neg c_35, ← en2, if_neg c_55, ← en3]
        exact rUi hx hb hr hlk hQ hP hS (by rw [e9]) (congrArg (fun z9 : (Int32 × TV) => w3 cI h a b z9.2) e9).symm rfl dX3_wearStool_79
  · refine lv_aload_n hx hb dX3_wearStool_11 rfl (lv_at hl 1 rfl) ?_
    refine lv_iload_n hx hb dX3_wearStool_12 rfl (lv_at hl 3 rfl) ?_
    refine lv_iconst (v := 0) hx hb dX3_wearStool_13 (by decide) ?_
    refine fRV (As := [.int x2, .int 0]) (rest := []) (st' := [.int (fX3_ofSitter T x2 0)]) ⟨hx, hb, hml, hown, hts⟩ (kX3_ofSitter l D cI cC cT h a b T x2 0) (cwV 2 hts gX3_wearStool_X3_ofSitter rfl rfl rfl (by decide +kernel) ⟨Nat.le_of_ble_eq_true rfl, Nat.le_of_ble_eq_true rfl⟩) hP hK [0, 1, 2] rfl 0 (ci := 4) rfl rfl rfl rfl hl.1 rfl rfl (Nat.le_of_ble_eq_true rfl) ⟨Nat.zero_le _, Nat.zero_le _⟩ dX3_wearStool_14 ?_
    refine lv_if_le (tgt := 24) hx hb dX3_wearStool_17 (by decide) (fun c_17 => ?_) (fun c_17 => ?_)
    · refine lv_iconst (v := 0) hx hb dX3_wearStool_24 (by decide) ?_
      refine lv_istore (lv' := [(4, .int 0), (3, .int (fX3_ofStool T x1 2)), (0, .ref h), (1, .int x1), (2, .int x2)]) hx hb dX3_wearStool_25 hl (by decide) rfl (fun ls hl => ?_)
      refine lv_aload_n hx hb dX3_wearStool_27 rfl (lv_at hl 2 rfl) ?_
      refine lv_iload_n hx hb dX3_wearStool_28 rfl (lv_at hl 4 rfl) ?_
      refine lv_iconst (v := 1) hx hb dX3_wearStool_29 (by decide) ?_
      refine fRV (As := [.int x2, .int 1]) (rest := []) (st' := [.int (fX3_ofSitter T x2 1)]) ⟨hx, hb, hml, hown, hts⟩ (kX3_ofSitter l D cI cC cT h a b T x2 1) (cwV 2 hts gX3_wearStool_X3_ofSitter rfl rfl rfl (by decide +kernel) ⟨Nat.le_of_ble_eq_true rfl, Nat.le_of_ble_eq_true rfl⟩) hP hK [0, 1, 2] rfl 0 (ci := 4) rfl rfl rfl rfl hl.1 rfl rfl (Nat.le_of_ble_eq_true rfl) ⟨Nat.zero_le _, Nat.zero_le _⟩ dX3_wearStool_30 ?_
      refine lv_bipush (v := 100) hx hb dX3_wearStool_33 (by decide) ?_
      refine lv_icmp_le (tgt := 54) hx hb dX3_wearStool_35 (by decide) (fun c_35 => ?_) (fun c_35 => ?_)
      · refine lv_iload_n hx hb dX3_wearStool_54 rfl (lv_at hl 1 rfl) ?_
        refine lv_if_le (tgt := 77) hx hb dX3_wearStool_55 (by decide) (fun c_55 => ?_) (fun c_55 => ?_)
        · refine lv_iload hx hb dX3_wearStool_77 (lv_at hl 0 rfl) ?_
          have e9 : fX3_wearStool T x1 x2 = (0, T) := by rw [fX3_wearStool, if_pos c_8, if_pos c_17, if_pos c_35, if_pos c_55]
          exact rUi hx hb hr hlk hQ hP hS (by rw [e9]) (congrArg (fun z9 : (Int32 × TV) => w3 cI h a b z9.2) e9).symm rfl dX3_wearStool_79
        · refine lv_aload_n hx hb dX3_wearStool_58 rfl (lv_at hl 2 rfl) ?_
          refine lv_iload_n hx hb dX3_wearStool_59 rfl (lv_at hl 3 rfl) ?_
          refine lv_iconst (v := 1) hx hb dX3_wearStool_60 (by decide) ?_
          refine lv_bipush (v := 9) hx hb dX3_wearStool_61 (by decide) ?_
          refine lv_aload_n hx hb dX3_wearStool_63 rfl (lv_at hl 2 rfl) ?_
          refine lv_iload_n hx hb dX3_wearStool_64 rfl (lv_at hl 3 rfl) ?_
          refine lv_iconst (v := 1) hx hb dX3_wearStool_65 (by decide) ?_
          refine fRV (As := [.int x1, .int 1]) (rest := [.int 9, .int 1, .int x1, .ref h]) (st' := [.int (fX3_ofStool T x1 1), .int 9, .int 1, .int x1, .ref h]) ⟨hx, hb, hml, hown, hts⟩ (kX3_ofStool l D cI cC cT h a b T x1 1) (cwV 2 hts gX3_wearStool_X3_ofStool rfl rfl rfl (by decide +kernel) ⟨Nat.le_of_ble_eq_true rfl, Nat.le_of_ble_eq_true rfl⟩) hP hK [0, 1, 2] rfl 0 (ci := 4) rfl rfl rfl rfl hl.1 rfl rfl (Nat.le_of_ble_eq_true rfl) ⟨Nat.zero_le _, Nat.zero_le _⟩ dX3_wearStool_66 ?_
          refine lv_iconst (v := 1) hx hb dX3_wearStool_69 (by decide) ?_
          refine lv_iadd hx hb dX3_wearStool_70 ?_
          refine va_mmin (y := ((fX3_ofStool T x1 1) + 1)) (x := 9) hx hb (hml.trans hl.1.symm) hown q0 q1 q2 q3 (Nat.le_of_ble_eq_true rfl) (Nat.le_of_ble_eq_true rfl) (Nat.zero_le _) (Nat.zero_le _) dX3_wearStool_71 ?_
          obtain ⟨n4, en4⟩ : ∃ z9, z9 = (fX3_setOfStool T x1 1 (if ((fX3_ofStool T x1 1) + 1) < 9 then ((fX3_ofStool T x1 1) + 1) else 9)) := ⟨_, rfl⟩
          have k9 := (kX3_setOfStool l D cI cC cT h a b T x1 1 (if ((fX3_ofStool T x1 1) + 1) < 9 then ((fX3_ofStool T x1 1) + 1) else 9))
          rw [← en4] at k9
          refine fUV (As := [.int x1, .int 1, .int (if ((fX3_ofStool T x1 1) + 1) < 9 then ((fX3_ofStool T x1 1) + 1) else 9)]) (rest := []) (st' := []) ⟨hx, hb, hml, hown, hts⟩ k9 (cwV 3 hts gX3_wearStool_X3_setOfStool rfl rfl rfl (by decide +kernel) ⟨Nat.le_of_ble_eq_true rfl, Nat.le_of_ble_eq_true rfl⟩) hP hK hD hS [0, 1, 2] rfl rfl (by decide) rfl [(h, .inr (4, [.ref a, .ref b, .int n4.2.2.1, .int n4.2.2.2.1, .int n4.2.2.2.2.1, .int n4.2.2.2.2.2.1, .int n4.2.2.2.2.2.2.1, .int n4.2.2.2.2.2.2.2])), (a, .inl (cI, 72, .inl n4.1)), (b, .inl (cI, 36, .inl n4.2.1))] rfl rfl 0 (ci := 4) rfl rfl rfl rfl hl.1 rfl rfl (Nat.le_of_ble_eq_true rfl) ⟨Nat.zero_le _, Nat.zero_le _⟩ dX3_wearStool_74 (fun H locs hP hD hS => ?_)
          refine lv_iload hx hb dX3_wearStool_77 (lv_at hl 0 rfl) ?_
          have e9 : fX3_wearStool T x1 x2 = (0, n4) := by rw [fX3_wearStool, if_pos c_8, if_pos c_17, if_pos c_35, if_neg c_55, ← en4]
          exact rUi hx hb hr hlk hQ hP hS (by rw [e9]) (congrArg (fun z9 : (Int32 × TV) => w3 cI h a b z9.2) e9).symm rfl dX3_wearStool_79
      · refine lv_bipush (v := 9) hx hb dX3_wearStool_38 (by decide) ?_
        refine lv_iload_n hx hb dX3_wearStool_40 rfl (lv_at hl 1 rfl) ?_
        refine lv_iconst (v := 1) hx hb dX3_wearStool_41 (by decide) ?_
        refine lv_iadd hx hb dX3_wearStool_42 ?_
        refine va_mmin (y := ((fX3_ofStool T x1 2) + 1)) (x := 9) hx hb (hml.trans hl.1.symm) hown q0 q1 q2 q3 (Nat.le_of_ble_eq_true rfl) (Nat.le_of_ble_eq_true rfl) (Nat.zero_le _) (Nat.zero_le _) dX3_wearStool_43 ?_
        refine lv_istore_n (lv' := [(3, .int (if ((fX3_ofStool T x1 2) + 1) < 9 then ((fX3_ofStool T x1 2) + 1) else 9)), (4, .int 0), (0, .ref h), (1, .int x1), (2, .int x2)]) hx hb dX3_wearStool_46 rfl hl (by decide) rfl (fun ls hl => ?_)
        refine lv_aload_n hx hb dX3_wearStool_47 rfl (lv_at hl 2 rfl) ?_
        refine lv_iload_n hx hb dX3_wearStool_48 rfl (lv_at hl 3 rfl) ?_
        refine lv_iconst (v := 2) hx hb dX3_wearStool_49 (by decide) ?_
        refine lv_iload_n hx hb dX3_wearStool_50 rfl (lv_at hl 0 rfl) ?_
        obtain ⟨n5, en5⟩ : ∃ z9, z9 = (fX3_setOfStool T x1 2 (if ((fX3_ofStool T x1 2) + 1) < 9 then ((fX3_ofStool T x1 2) + 1) else 9)) := ⟨_, rfl⟩
        have k9 := (kX3_setOfStool l D cI cC cT h a b T x1 2 (if ((fX3_ofStool T x1 2) + 1) < 9 then ((fX3_ofStool T x1 2) + 1) else 9))
        rw [← en5] at k9
        refine fUV (As := [.int x1, .int 2, .int (if ((fX3_ofStool T x1 2) + 1) < 9 then ((fX3_ofStool T x1 2) + 1) else 9)]) (rest := []) (st' := []) ⟨hx, hb, hml, hown, hts⟩ k9 (cwV 3 hts gX3_wearStool_X3_setOfStool rfl rfl rfl (by decide +kernel) ⟨Nat.le_of_ble_eq_true rfl, Nat.le_of_ble_eq_true rfl⟩) hP hK hD hS [0, 1, 2] rfl rfl (by decide) rfl [(h, .inr (4, [.ref a, .ref b, .int n5.2.2.1, .int n5.2.2.2.1, .int n5.2.2.2.2.1, .int n5.2.2.2.2.2.1, .int n5.2.2.2.2.2.2.1, .int n5.2.2.2.2.2.2.2])), (a, .inl (cI, 72, .inl n5.1)), (b, .inl (cI, 36, .inl n5.2.1))] rfl rfl 0 (ci := 4) rfl rfl rfl rfl hl.1 rfl rfl (Nat.le_of_ble_eq_true rfl) ⟨Nat.zero_le _, Nat.zero_le _⟩ dX3_wearStool_51 (fun H locs hP hD hS => ?_)
        refine lv_iload_n hx hb dX3_wearStool_54 rfl (lv_at hl 0 rfl) ?_
        refine lv_if_le (tgt := 77) hx hb dX3_wearStool_55 (by decide) (fun c_55 => ?_) (fun c_55 => ?_)
        · refine lv_iload hx hb dX3_wearStool_77 (lv_at hl 1 rfl) ?_
          have e9 : fX3_wearStool T x1 x2 = (0, n5) := by rw [fX3_wearStool, if_pos c_8, if_pos c_17, if_neg c_35, ← en5, if_pos c_55]
          exact rUi hx hb hr hlk hQ hP hS (by rw [e9]) (congrArg (fun z9 : (Int32 × TV) => w3 cI h a b z9.2) e9).symm rfl dX3_wearStool_79
        · refine lv_aload_n hx hb dX3_wearStool_58 rfl (lv_at hl 2 rfl) ?_
          refine lv_iload_n hx hb dX3_wearStool_59 rfl (lv_at hl 3 rfl) ?_
          refine lv_iconst (v := 1) hx hb dX3_wearStool_60 (by decide) ?_
          refine lv_bipush (v := 9) hx hb dX3_wearStool_61 (by decide) ?_
          refine lv_aload_n hx hb dX3_wearStool_63 rfl (lv_at hl 2 rfl) ?_
          refine lv_iload_n hx hb dX3_wearStool_64 rfl (lv_at hl 3 rfl) ?_
          refine lv_iconst (v := 1) hx hb dX3_wearStool_65 (by decide) ?_
          refine fRV (As := [.int x1, .int 1]) (rest := [.int 9, .int 1, .int x1, .ref h]) (st' := [.int (fX3_ofStool n5 x1 1), .int 9, .int 1, .int x1, .ref h]) ⟨hx, hb, hml, hown, hts⟩ (kX3_ofStool l D cI cC cT h a b n5 x1 1) (cwV 2 hts gX3_wearStool_X3_ofStool rfl rfl rfl (by decide +kernel) ⟨Nat.le_of_ble_eq_true rfl, Nat.le_of_ble_eq_true rfl⟩) hP hK [0, 1, 2] rfl 0 (ci := 4) rfl rfl rfl rfl hl.1 rfl rfl (Nat.le_of_ble_eq_true rfl) ⟨Nat.zero_le _, Nat.zero_le _⟩ dX3_wearStool_66 ?_
          refine lv_iconst (v := 1) hx hb dX3_wearStool_69 (by decide) ?_
          refine lv_iadd hx hb dX3_wearStool_70 ?_
          refine va_mmin (y := ((fX3_ofStool n5 x1 1) + 1)) (x := 9) hx hb (hml.trans hl.1.symm) hown q0 q1 q2 q3 (Nat.le_of_ble_eq_true rfl) (Nat.le_of_ble_eq_true rfl) (Nat.zero_le _) (Nat.zero_le _) dX3_wearStool_71 ?_
          obtain ⟨n6, en6⟩ : ∃ z9, z9 = (fX3_setOfStool n5 x1 1 (if ((fX3_ofStool n5 x1 1) + 1) < 9 then ((fX3_ofStool n5 x1 1) + 1) else 9)) := ⟨_, rfl⟩
          have k9 := (kX3_setOfStool l D cI cC cT h a b n5 x1 1 (if ((fX3_ofStool n5 x1 1) + 1) < 9 then ((fX3_ofStool n5 x1 1) + 1) else 9))
          rw [← en6] at k9
          refine fUV (As := [.int x1, .int 1, .int (if ((fX3_ofStool n5 x1 1) + 1) < 9 then ((fX3_ofStool n5 x1 1) + 1) else 9)]) (rest := []) (st' := []) ⟨hx, hb, hml, hown, hts⟩ k9 (cwV 3 hts gX3_wearStool_X3_setOfStool rfl rfl rfl (by decide +kernel) ⟨Nat.le_of_ble_eq_true rfl, Nat.le_of_ble_eq_true rfl⟩) hP hK hD hS [0, 1, 2] rfl rfl (by decide) rfl [(h, .inr (4, [.ref a, .ref b, .int n6.2.2.1, .int n6.2.2.2.1, .int n6.2.2.2.2.1, .int n6.2.2.2.2.2.1, .int n6.2.2.2.2.2.2.1, .int n6.2.2.2.2.2.2.2])), (a, .inl (cI, 72, .inl n6.1)), (b, .inl (cI, 36, .inl n6.2.1))] rfl rfl 0 (ci := 4) rfl rfl rfl rfl hl.1 rfl rfl (Nat.le_of_ble_eq_true rfl) ⟨Nat.zero_le _, Nat.zero_le _⟩ dX3_wearStool_74 (fun H locs hP hD hS => ?_)
          refine lv_iload hx hb dX3_wearStool_77 (lv_at hl 1 rfl) ?_
          have e9 : fX3_wearStool T x1 x2 = (0, n6) := by rw [fX3_wearStool, if_pos c_8, if_pos c_17, if_neg c_35, ← en5, if_neg c_55, ← en6]
          exact rUi hx hb hr hlk hQ hP hS (by rw [e9]) (congrArg (fun z9 : (Int32 × TV) => w3 cI h a b z9.2) e9).symm rfl dX3_wearStool_79
    · refine lv_iconst (v := 1) hx hb dX3_wearStool_20 (by decide) ?_
      refine lv_goto (tgt := 25) hx hb dX3_wearStool_21 (by decide) ?_
      refine lv_istore (lv' := [(4, .int 1), (3, .int (fX3_ofStool T x1 2)), (0, .ref h), (1, .int x1), (2, .int x2)]) hx hb dX3_wearStool_25 hl (by decide) rfl (fun ls hl => ?_)
      refine lv_aload_n hx hb dX3_wearStool_27 rfl (lv_at hl 2 rfl) ?_
      refine lv_iload_n hx hb dX3_wearStool_28 rfl (lv_at hl 4 rfl) ?_
      refine lv_iconst (v := 1) hx hb dX3_wearStool_29 (by decide) ?_
      refine fRV (As := [.int x2, .int 1]) (rest := []) (st' := [.int (fX3_ofSitter T x2 1)]) ⟨hx, hb, hml, hown, hts⟩ (kX3_ofSitter l D cI cC cT h a b T x2 1) (cwV 2 hts gX3_wearStool_X3_ofSitter rfl rfl rfl (by decide +kernel) ⟨Nat.le_of_ble_eq_true rfl, Nat.le_of_ble_eq_true rfl⟩) hP hK [0, 1, 2] rfl 0 (ci := 4) rfl rfl rfl rfl hl.1 rfl rfl (Nat.le_of_ble_eq_true rfl) ⟨Nat.zero_le _, Nat.zero_le _⟩ dX3_wearStool_30 ?_
      refine lv_bipush (v := 100) hx hb dX3_wearStool_33 (by decide) ?_
      refine lv_icmp_le (tgt := 54) hx hb dX3_wearStool_35 (by decide) (fun c_35 => ?_) (fun c_35 => ?_)
      · refine lv_iload_n hx hb dX3_wearStool_54 rfl (lv_at hl 1 rfl) ?_
        refine lv_if_le (tgt := 77) hx hb dX3_wearStool_55 (by decide) (fun c_55 => ?_) (fun c_55 => ?_)
        · refine lv_iload hx hb dX3_wearStool_77 (lv_at hl 0 rfl) ?_
          have e9 : fX3_wearStool T x1 x2 = (1, T) := by rw [fX3_wearStool, if_pos c_8, if_neg c_17, if_pos c_35, if_pos c_55]
          exact rUi hx hb hr hlk hQ hP hS (by rw [e9]) (congrArg (fun z9 : (Int32 × TV) => w3 cI h a b z9.2) e9).symm rfl dX3_wearStool_79
        · refine lv_aload_n hx hb dX3_wearStool_58 rfl (lv_at hl 2 rfl) ?_
          refine lv_iload_n hx hb dX3_wearStool_59 rfl (lv_at hl 3 rfl) ?_
          refine lv_iconst (v := 1) hx hb dX3_wearStool_60 (by decide) ?_
          refine lv_bipush (v := 9) hx hb dX3_wearStool_61 (by decide) ?_
          refine lv_aload_n hx hb dX3_wearStool_63 rfl (lv_at hl 2 rfl) ?_
          refine lv_iload_n hx hb dX3_wearStool_64 rfl (lv_at hl 3 rfl) ?_
          refine lv_iconst (v := 1) hx hb dX3_wearStool_65 (by decide) ?_
          refine fRV (As := [.int x1, .int 1]) (rest := [.int 9, .int 1, .int x1, .ref h]) (st' := [.int (fX3_ofStool T x1 1), .int 9, .int 1, .int x1, .ref h]) ⟨hx, hb, hml, hown, hts⟩ (kX3_ofStool l D cI cC cT h a b T x1 1) (cwV 2 hts gX3_wearStool_X3_ofStool rfl rfl rfl (by decide +kernel) ⟨Nat.le_of_ble_eq_true rfl, Nat.le_of_ble_eq_true rfl⟩) hP hK [0, 1, 2] rfl 0 (ci := 4) rfl rfl rfl rfl hl.1 rfl rfl (Nat.le_of_ble_eq_true rfl) ⟨Nat.zero_le _, Nat.zero_le _⟩ dX3_wearStool_66 ?_
          refine lv_iconst (v := 1) hx hb dX3_wearStool_69 (by decide) ?_
          refine lv_iadd hx hb dX3_wearStool_70 ?_
          refine va_mmin (y := ((fX3_ofStool T x1 1) + 1)) (x := 9) hx hb (hml.trans hl.1.symm) hown q0 q1 q2 q3 (Nat.le_of_ble_eq_true rfl) (Nat.le_of_ble_eq_true rfl) (Nat.zero_le _) (Nat.zero_le _) dX3_wearStool_71 ?_
          obtain ⟨n7, en7⟩ : ∃ z9, z9 = (fX3_setOfStool T x1 1 (if ((fX3_ofStool T x1 1) + 1) < 9 then ((fX3_ofStool T x1 1) + 1) else 9)) := ⟨_, rfl⟩
          have k9 := (kX3_setOfStool l D cI cC cT h a b T x1 1 (if ((fX3_ofStool T x1 1) + 1) < 9 then ((fX3_ofStool T x1 1) + 1) else 9))
          rw [← en7] at k9
          refine fUV (As := [.int x1, .int 1, .int (if ((fX3_ofStool T x1 1) + 1) < 9 then ((fX3_ofStool T x1 1) + 1) else 9)]) (rest := []) (st' := []) ⟨hx, hb, hml, hown, hts⟩ k9 (cwV 3 hts gX3_wearStool_X3_setOfStool rfl rfl rfl (by decide +kernel) ⟨Nat.le_of_ble_eq_true rfl, Nat.le_of_ble_eq_true rfl⟩) hP hK hD hS [0, 1, 2] rfl rfl (by decide) rfl [(h, .inr (4, [.ref a, .ref b, .int n7.2.2.1, .int n7.2.2.2.1, .int n7.2.2.2.2.1, .int n7.2.2.2.2.2.1, .int n7.2.2.2.2.2.2.1, .int n7.2.2.2.2.2.2.2])), (a, .inl (cI, 72, .inl n7.1)), (b, .inl (cI, 36, .inl n7.2.1))] rfl rfl 0 (ci := 4) rfl rfl rfl rfl hl.1 rfl rfl (Nat.le_of_ble_eq_true rfl) ⟨Nat.zero_le _, Nat.zero_le _⟩ dX3_wearStool_74 (fun H locs hP hD hS => ?_)
          refine lv_iload hx hb dX3_wearStool_77 (lv_at hl 0 rfl) ?_
          have e9 : fX3_wearStool T x1 x2 = (1, n7) := by rw [fX3_wearStool, if_pos c_8, if_neg c_17, if_pos c_35, if_neg c_55, ← en7]
          exact rUi hx hb hr hlk hQ hP hS (by rw [e9]) (congrArg (fun z9 : (Int32 × TV) => w3 cI h a b z9.2) e9).symm rfl dX3_wearStool_79
      · refine lv_bipush (v := 9) hx hb dX3_wearStool_38 (by decide) ?_
        refine lv_iload_n hx hb dX3_wearStool_40 rfl (lv_at hl 1 rfl) ?_
        refine lv_iconst (v := 1) hx hb dX3_wearStool_41 (by decide) ?_
        refine lv_iadd hx hb dX3_wearStool_42 ?_
        refine va_mmin (y := ((fX3_ofStool T x1 2) + 1)) (x := 9) hx hb (hml.trans hl.1.symm) hown q0 q1 q2 q3 (Nat.le_of_ble_eq_true rfl) (Nat.le_of_ble_eq_true rfl) (Nat.zero_le _) (Nat.zero_le _) dX3_wearStool_43 ?_
        refine lv_istore_n (lv' := [(3, .int (if ((fX3_ofStool T x1 2) + 1) < 9 then ((fX3_ofStool T x1 2) + 1) else 9)), (4, .int 1), (0, .ref h), (1, .int x1), (2, .int x2)]) hx hb dX3_wearStool_46 rfl hl (by decide) rfl (fun ls hl => ?_)
        refine lv_aload_n hx hb dX3_wearStool_47 rfl (lv_at hl 2 rfl) ?_
        refine lv_iload_n hx hb dX3_wearStool_48 rfl (lv_at hl 3 rfl) ?_
        refine lv_iconst (v := 2) hx hb dX3_wearStool_49 (by decide) ?_
        refine lv_iload_n hx hb dX3_wearStool_50 rfl (lv_at hl 0 rfl) ?_
        obtain ⟨n8, en8⟩ : ∃ z9, z9 = (fX3_setOfStool T x1 2 (if ((fX3_ofStool T x1 2) + 1) < 9 then ((fX3_ofStool T x1 2) + 1) else 9)) := ⟨_, rfl⟩
        have k9 := (kX3_setOfStool l D cI cC cT h a b T x1 2 (if ((fX3_ofStool T x1 2) + 1) < 9 then ((fX3_ofStool T x1 2) + 1) else 9))
        rw [← en8] at k9
        refine fUV (As := [.int x1, .int 2, .int (if ((fX3_ofStool T x1 2) + 1) < 9 then ((fX3_ofStool T x1 2) + 1) else 9)]) (rest := []) (st' := []) ⟨hx, hb, hml, hown, hts⟩ k9 (cwV 3 hts gX3_wearStool_X3_setOfStool rfl rfl rfl (by decide +kernel) ⟨Nat.le_of_ble_eq_true rfl, Nat.le_of_ble_eq_true rfl⟩) hP hK hD hS [0, 1, 2] rfl rfl (by decide) rfl [(h, .inr (4, [.ref a, .ref b, .int n8.2.2.1, .int n8.2.2.2.1, .int n8.2.2.2.2.1, .int n8.2.2.2.2.2.1, .int n8.2.2.2.2.2.2.1, .int n8.2.2.2.2.2.2.2])), (a, .inl (cI, 72, .inl n8.1)), (b, .inl (cI, 36, .inl n8.2.1))] rfl rfl 0 (ci := 4) rfl rfl rfl rfl hl.1 rfl rfl (Nat.le_of_ble_eq_true rfl) ⟨Nat.zero_le _, Nat.zero_le _⟩ dX3_wearStool_51 (fun H locs hP hD hS => ?_)
        refine lv_iload_n hx hb dX3_wearStool_54 rfl (lv_at hl 0 rfl) ?_
        refine lv_if_le (tgt := 77) hx hb dX3_wearStool_55 (by decide) (fun c_55 => ?_) (fun c_55 => ?_)
        · refine lv_iload hx hb dX3_wearStool_77 (lv_at hl 1 rfl) ?_
          have e9 : fX3_wearStool T x1 x2 = (1, n8) := by rw [fX3_wearStool, if_pos c_8, if_neg c_17, if_neg c_35, ← en8, if_pos c_55]
          exact rUi hx hb hr hlk hQ hP hS (by rw [e9]) (congrArg (fun z9 : (Int32 × TV) => w3 cI h a b z9.2) e9).symm rfl dX3_wearStool_79
        · refine lv_aload_n hx hb dX3_wearStool_58 rfl (lv_at hl 2 rfl) ?_
          refine lv_iload_n hx hb dX3_wearStool_59 rfl (lv_at hl 3 rfl) ?_
          refine lv_iconst (v := 1) hx hb dX3_wearStool_60 (by decide) ?_
          refine lv_bipush (v := 9) hx hb dX3_wearStool_61 (by decide) ?_
          refine lv_aload_n hx hb dX3_wearStool_63 rfl (lv_at hl 2 rfl) ?_
          refine lv_iload_n hx hb dX3_wearStool_64 rfl (lv_at hl 3 rfl) ?_
          refine lv_iconst (v := 1) hx hb dX3_wearStool_65 (by decide) ?_
          refine fRV (As := [.int x1, .int 1]) (rest := [.int 9, .int 1, .int x1, .ref h]) (st' := [.int (fX3_ofStool n8 x1 1), .int 9, .int 1, .int x1, .ref h]) ⟨hx, hb, hml, hown, hts⟩ (kX3_ofStool l D cI cC cT h a b n8 x1 1) (cwV 2 hts gX3_wearStool_X3_ofStool rfl rfl rfl (by decide +kernel) ⟨Nat.le_of_ble_eq_true rfl, Nat.le_of_ble_eq_true rfl⟩) hP hK [0, 1, 2] rfl 0 (ci := 4) rfl rfl rfl rfl hl.1 rfl rfl (Nat.le_of_ble_eq_true rfl) ⟨Nat.zero_le _, Nat.zero_le _⟩ dX3_wearStool_66 ?_
          refine lv_iconst (v := 1) hx hb dX3_wearStool_69 (by decide) ?_
          refine lv_iadd hx hb dX3_wearStool_70 ?_
          refine va_mmin (y := ((fX3_ofStool n8 x1 1) + 1)) (x := 9) hx hb (hml.trans hl.1.symm) hown q0 q1 q2 q3 (Nat.le_of_ble_eq_true rfl) (Nat.le_of_ble_eq_true rfl) (Nat.zero_le _) (Nat.zero_le _) dX3_wearStool_71 ?_
          obtain ⟨n9, en9⟩ : ∃ z9, z9 = (fX3_setOfStool n8 x1 1 (if ((fX3_ofStool n8 x1 1) + 1) < 9 then ((fX3_ofStool n8 x1 1) + 1) else 9)) := ⟨_, rfl⟩
          have k9 := (kX3_setOfStool l D cI cC cT h a b n8 x1 1 (if ((fX3_ofStool n8 x1 1) + 1) < 9 then ((fX3_ofStool n8 x1 1) + 1) else 9))
          rw [← en9] at k9
          refine fUV (As := [.int x1, .int 1, .int (if ((fX3_ofStool n8 x1 1) + 1) < 9 then ((fX3_ofStool n8 x1 1) + 1) else 9)]) (rest := []) (st' := []) ⟨hx, hb, hml, hown, hts⟩ k9 (cwV 3 hts gX3_wearStool_X3_setOfStool rfl rfl rfl (by decide +kernel) ⟨Nat.le_of_ble_eq_true rfl, Nat.le_of_ble_eq_true rfl⟩) hP hK hD hS [0, 1, 2] rfl rfl (by decide) rfl [(h, .inr (4, [.ref a, .ref b, .int n9.2.2.1, .int n9.2.2.2.1, .int n9.2.2.2.2.1, .int n9.2.2.2.2.2.1, .int n9.2.2.2.2.2.2.1, .int n9.2.2.2.2.2.2.2])), (a, .inl (cI, 72, .inl n9.1)), (b, .inl (cI, 36, .inl n9.2.1))] rfl rfl 0 (ci := 4) rfl rfl rfl rfl hl.1 rfl rfl (Nat.le_of_ble_eq_true rfl) ⟨Nat.zero_le _, Nat.zero_le _⟩ dX3_wearStool_74 (fun H locs hP hD hS => ?_)
          refine lv_iload hx hb dX3_wearStool_77 (lv_at hl 1 rfl) ?_
          have e9 : fX3_wearStool T x1 x2 = (1, n9) := by rw [fX3_wearStool, if_pos c_8, if_neg c_17, if_neg c_35, ← en8, if_neg c_55, ← en9]
          exact rUi hx hb hr hlk hQ hP hS (by rw [e9]) (congrArg (fun z9 : (Int32 × TV) => w3 cI h a b z9.2) e9).symm rfl dX3_wearStool_79
theorem sX3_wearStool (T : TV) (x1 x2 : Int32) : (fX3_wearStool T x1 x2).2.2 = T.2 := by
  unfold fX3_wearStool
  repeat' split
  all_goals first | rfl | simp only [sX3_setOfStool]
def lX3_passNight_4 (T : TV) (v : (TV × Int32 × Int32)) : (TV × Int32 × Int32) ⊕ ((TV × Int32 × Int32)) := (if v.1.2.2.1 ≤ v.2.2 then (.inr (v.1, v.2.1, v.2.2)) else (if (fX3_ofStool v.1 v.2.2 5) = (-1) then (.inl (v.1, v.2.1, (v.2.2 + 1))) else (.inl ((fX3_wearStool v.1 v.2.2 (fX3_ofStool v.1 v.2.2 5)).2, (v.2.1 + (fX3_wearStool v.1 v.2.2 (fX3_ofStool v.1 v.2.2 5)).1), (v.2.2 + 1)))))
def fX3_passNight (T : TV)  : (Int32 × TV) := ((itv (T, 0, 0) (lX3_passNight_4 T) ((fun v : (TV × Int32 × Int32) => (v.1.2.2.1.toInt - v.2.2.toInt).toNat) (T, 0, 0) + 1) (T, 0, 0)).2.1, ((itv (T, 0, 0) (lX3_passNight_4 T) ((fun v : (TV × Int32 × Int32) => (v.1.2.2.1.toInt - v.2.2.toInt).toNat) (T, 0, 0) + 1) (T, 0, 0)).1.1, (itv (T, 0, 0) (lX3_passNight_4 T) ((fun v : (TV × Int32 × Int32) => (v.1.2.2.1.toInt - v.2.2.toInt).toNat) (T, 0, 0) + 1) (T, 0, 0)).1.2.1, (itv (T, 0, 0) (lX3_passNight_4 T) ((fun v : (TV × Int32 × Int32) => (v.1.2.2.1.toInt - v.2.2.toInt).toNat) (T, 0, 0) + 1) (T, 0, 0)).1.2.2.1, (itv (T, 0, 0) (lX3_passNight_4 T) ((fun v : (TV × Int32 × Int32) => (v.1.2.2.1.toInt - v.2.2.toInt).toNat) (T, 0, 0) + 1) (T, 0, 0)).1.2.2.2.1, ((itv (T, 0, 0) (lX3_passNight_4 T) ((fun v : (TV × Int32 × Int32) => (v.1.2.2.1.toInt - v.2.2.toInt).toNat) (T, 0, 0) + 1) (T, 0, 0)).1.2.2.2.2.1 + (itv (T, 0, 0) (lX3_passNight_4 T) ((fun v : (TV × Int32 × Int32) => (v.1.2.2.1.toInt - v.2.2.toInt).toNat) (T, 0, 0) + 1) (T, 0, 0)).2.1), ((itv (T, 0, 0) (lX3_passNight_4 T) ((fun v : (TV × Int32 × Int32) => (v.1.2.2.1.toInt - v.2.2.toInt).toNat) (T, 0, 0) + 1) (T, 0, 0)).1.2.2.2.2.2.1 + 1), (itv (T, 0, 0) (lX3_passNight_4 T) ((fun v : (TV × Int32 × Int32) => (v.1.2.2.1.toInt - v.2.2.toInt).toNat) (T, 0, 0) + 1) (T, 0, 0)).1.2.2.2.2.2.2.1, ((itv (T, 0, 0) (lX3_passNight_4 T) ((fun v : (TV × Int32 × Int32) => (v.1.2.2.1.toInt - v.2.2.toInt).toNat) (T, 0, 0) + 1) (T, 0, 0)).1.2.2.2.2.2.2.2 + (itv (T, 0, 0) (lX3_passNight_4 T) ((fun v : (TV × Int32 × Int32) => (v.1.2.2.1.toInt - v.2.2.toInt).toNat) (T, 0, 0) + 1) (T, 0, 0)).2.1)))
abbrev rmX3_passNight : Room := { frames := 2, cells := 0, slots := 0, locals := 47 }
set_option maxHeartbeats 4000000 in
set_option maxRecDepth 100000 in
theorem kX3_passNight (l : Launch) (D : va_G) (cI cC cT : ClassId) (h a b : Nat) (T : TV)   : mU l D (TY cI cC cT) yX3_passNight wsX3_passNight rmX3_passNight [.ref h] (w3 cI h a b T) (some (.int (fX3_passNight T).1)) (w3 cI h a b (fX3_passNight T).2) := by
  refine mU.ofW (cc := cX3_passNight) (maxL := 4) (ret := (some .int)) (by decide) rfl (Nat.le_of_ble_eq_true rfl) ?_
  intro p e s m args below meth c Q ls A hx hb hml hr hlk hts hown hP hK hD hS hl hQ
  have hown : s.vm.findClass RX3 = some m.cls := hown
  have hP : va_P D vwCl [(h, .inr (4, [.ref a, .ref b, .int T.2.2.1, .int T.2.2.2.1, .int T.2.2.2.2.1, .int T.2.2.2.2.2.1, .int T.2.2.2.2.2.2.1, .int T.2.2.2.2.2.2.2])), (a, .inl (cI, 72, .inl T.1)), (b, .inl (cI, 36, .inl T.2.1))] s.heap := hP
  have hD : va_D A [(h, .inr (4, [.ref a, .ref b, .int T.2.2.1, .int T.2.2.2.1, .int T.2.2.2.2.1, .int T.2.2.2.2.2.1, .int T.2.2.2.2.2.2.1, .int T.2.2.2.2.2.2.2])), (a, .inl (cI, 72, .inl T.1)), (b, .inl (cI, 36, .inl T.2.1))] := hD
  have hl : lv_has ls 4 [(0, .ref h)] := hl
  have q0 := hts (Cond.fieldLink RX3 18 "TavernStools$Tavern" "stools" "I") (by decide +kernel)
  have q1 : ∀ w ∈ u_ws RX3 TX3 8, w ∈ wsX3_passNight := by decide +kernel
  have q2 := hts (Cond.fieldLink RX3 28 "TavernStools$Tavern" "nights" "I") (by decide +kernel)
  have q3 := hts (Cond.fieldLink RX3 25 "TavernStools$Tavern" "purse" "I") (by decide +kernel)
  have q4 := hts (Cond.fieldLink RX3 34 "TavernStools$Tavern" "brought" "I") (by decide +kernel)
  generalize hHe : s.heap = H at hP ⊢
  have hS : va_S A s.heap H [] := hHe ▸ hS
  generalize hLe : ([] : List Loc) = locs at hS ⊢
  refine lv_iconst (v := 0) hx hb dX3_passNight_0 (by decide) ?_
  refine lv_istore_n (lv' := [(1, .int 0), (0, .ref h)]) hx hb dX3_passNight_1 rfl hl (by decide) rfl (fun ls hl => ?_)
  refine lv_iconst (v := 0) hx hb dX3_passNight_2 (by decide) ?_
  refine lv_istore_n (lv' := [(2, .int 0), (1, .int 0), (0, .ref h)]) hx hb dX3_passNight_3 rfl hl (by decide) rfl (fun ls hl => ?_)
  have hE_4 : itr (lX3_passNight_4 T) ((fun v : (TV × Int32 × Int32) => (v.1.2.2.1.toInt - v.2.2.toInt).toNat) (T, 0, 0) + 1) (T, 0, 0) = .inr (itv (T, 0, 0) (lX3_passNight_4 T) ((fun v : (TV × Int32 × Int32) => (v.1.2.2.1.toInt - v.2.2.toInt).toNat) (T, 0, 0) + 1) (T, 0, 0)) := by
    refine itv_ends (itr_ends (lX3_passNight_4 T) (fun v : (TV × Int32 × Int32) => True) (fun v : (TV × Int32 × Int32) => (v.1.2.2.1.toInt - v.2.2.toInt).toNat) ?_ _ _ trivial (Nat.lt_succ_self _))
    intro a b h0 h
    unfold lX3_passNight_4 at h
    repeat' split at h
    all_goals first | (cases h; done) | (cases h; exact ⟨trivial, by first | exact rk_ge (by assumption) | (rw [sX3_wearStool]; exact rk_ge (by assumption))⟩)
  refine loopW (lX3_passNight_4 T) (fun v : (TV × Int32 × Int32) => True) (fun v : (TV × Int32 × Int32) => ∀ (H : Heap) (locs : List Loc) ls, va_P D vwCl [(h, .inr (4, [.ref a, .ref b, .int v.1.2.2.1, .int v.1.2.2.2.1, .int v.1.2.2.2.2.1, .int v.1.2.2.2.2.2.1, .int v.1.2.2.2.2.2.2.1, .int v.1.2.2.2.2.2.2.2])), (a, .inl (cI, 72, .inl v.1.1)), (b, .inl (cI, 36, .inl v.1.2.1))] H → va_D A [(h, .inr (4, [.ref a, .ref b, .int v.1.2.2.1, .int v.1.2.2.2.1, .int v.1.2.2.2.2.1, .int v.1.2.2.2.2.2.1, .int v.1.2.2.2.2.2.2.1, .int v.1.2.2.2.2.2.2.2])), (a, .inl (cI, 72, .inl v.1.1)), (b, .inl (cI, 36, .inl v.1.2.1))] → va_S A s.heap H locs → lv_has ls 4 [(0, .ref h), (1, .int v.2.1), (2, .int v.2.2)] → W p l e rmX3_passNight s m args below meth c H locs 0 0 Q (F0 m 4 ls [])) (fun r9 : (TV × Int32 × Int32) => ∀ (H : Heap) (locs : List Loc) ls, va_P D vwCl [(h, .inr (4, [.ref a, .ref b, .int r9.1.2.2.1, .int r9.1.2.2.2.1, .int r9.1.2.2.2.2.1, .int r9.1.2.2.2.2.2.1, .int r9.1.2.2.2.2.2.2.1, .int r9.1.2.2.2.2.2.2.2])), (a, .inl (cI, 72, .inl r9.1.1)), (b, .inl (cI, 36, .inl r9.1.2.1))] H → va_D A [(h, .inr (4, [.ref a, .ref b, .int r9.1.2.2.1, .int r9.1.2.2.2.1, .int r9.1.2.2.2.2.1, .int r9.1.2.2.2.2.2.1, .int r9.1.2.2.2.2.2.2.1, .int r9.1.2.2.2.2.2.2.2])), (a, .inl (cI, 72, .inl r9.1.1)), (b, .inl (cI, 36, .inl r9.1.2.1))] → va_S A s.heap H locs → lv_has ls 4 [(0, .ref h), (1, .int r9.2.1), (2, .int r9.2.2)] → W p l e rmX3_passNight s m args below meth c H locs 0 0 Q (F0 m 39 ls [])) ?_ (fun _ _ _ _ => trivial) _ (T, 0, 0) (itv (T, 0, 0) (lX3_passNight_4 T) ((fun v : (TV × Int32 × Int32) => (v.1.2.2.1.toInt - v.2.2.toInt).toNat) (T, 0, 0) + 1) (T, 0, 0)) trivial hE_4 ?_ _ _ ls hP hD hS (lv_sub hl [2, 1, 0] rfl)
  · intro v _ kb kx H locs ls hP hD hS hl
    refine lv_iload_n hx hb dX3_passNight_4 rfl (lv_at hl 2 rfl) ?_
    refine lv_aload_n hx hb dX3_passNight_5 rfl (lv_at hl 0 rfl) ?_
    refine va_get (D := D) (ci := 4) (v := .int v.1.2.2.1) (C := RX3) (T := TX3) (N := 8) hx hb hts q1 hown hK hP 0 rfl rfl 2 (by decide) q0 (fun _ h9 => h9) rfl dX3_passNight_6 ?_
    refine lv_icmp_ge (tgt := 39) hx hb dX3_passNight_9 (by decide) (fun c_9 => ?_) (fun c_9 => ?_)
    · exact kx (v.1, v.2.1, v.2.2) (by rw [lX3_passNight_4, if_pos c_9]) H locs ls hP hD hS (lv_sub hl [0, 1, 2] rfl)
    · refine lv_aload_n hx hb dX3_passNight_12 rfl (lv_at hl 0 rfl) ?_
      refine lv_iload_n hx hb dX3_passNight_13 rfl (lv_at hl 2 rfl) ?_
      refine lv_iconst (v := 5) hx hb dX3_passNight_14 (by decide) ?_
      refine fRV (As := [.int v.2.2, .int 5]) (rest := []) (st' := [.int (fX3_ofStool v.1 v.2.2 5)]) ⟨hx, hb, hml, hown, hts⟩ (kX3_ofStool l D cI cC cT h a b v.1 v.2.2 5) (cwV 2 hts gX3_passNight_X3_ofStool rfl rfl rfl (by decide +kernel) ⟨Nat.le_of_ble_eq_true rfl, Nat.le_of_ble_eq_true rfl⟩) hP hK [0, 1, 2] rfl 0 (ci := 4) rfl rfl rfl rfl hl.1 rfl rfl (Nat.le_of_ble_eq_true rfl) ⟨Nat.zero_le _, Nat.zero_le _⟩ dX3_passNight_15 ?_
      refine lv_istore_n (lv' := [(3, .int (fX3_ofStool v.1 v.2.2 5)), (0, .ref h), (1, .int v.2.1), (2, .int v.2.2)]) hx hb dX3_passNight_18 rfl hl (by decide) rfl (fun ls hl => ?_)
      refine lv_iload_n hx hb dX3_passNight_19 rfl (lv_at hl 0 rfl) ?_
      refine lv_iconst (v := (-1)) hx hb dX3_passNight_20 (by decide) ?_
      refine lv_icmp_eq (tgt := 33) hx hb dX3_passNight_21 (by decide) (fun c_21 => ?_) (fun c_21 => ?_)
      · refine lv_iinc (v := (v.2.2 + 1)) (lv' := [(2, .int (v.2.2 + 1)), (3, .int (fX3_ofStool v.1 v.2.2 5)), (0, .ref h), (1, .int v.2.1)]) hx hb dX3_passNight_33 hl (k := 3) rfl rfl (by decide) rfl (fun ls hl => ?_)
        refine lv_goto (tgt := 4) hx hb dX3_passNight_36 (by decide) ?_
        exact kb (v.1, v.2.1, (v.2.2 + 1)) (by rw [lX3_passNight_4, if_neg c_9, if_pos c_21]) H locs ls hP hD hS (lv_sub hl [2, 3, 0] rfl)
      · refine lv_iload_n hx hb dX3_passNight_24 rfl (lv_at hl 2 rfl) ?_
        refine lv_aload_n hx hb dX3_passNight_25 rfl (lv_at hl 1 rfl) ?_
        refine lv_iload_n hx hb dX3_passNight_26 rfl (lv_at hl 3 rfl) ?_
        refine lv_iload_n hx hb dX3_passNight_27 rfl (lv_at hl 0 rfl) ?_
        obtain ⟨n1, en1⟩ : ∃ z9, z9 = (fX3_wearStool v.1 v.2.2 (fX3_ofStool v.1 v.2.2 5)) := ⟨_, rfl⟩
        have k9 := (kX3_wearStool l D cI cC cT h a b v.1 v.2.2 (fX3_ofStool v.1 v.2.2 5))
        rw [← en1] at k9
        refine fUV (As := [.int v.2.2, .int (fX3_ofStool v.1 v.2.2 5)]) (rest := [.int v.2.1]) (st' := [.int n1.1, .int v.2.1]) ⟨hx, hb, hml, hown, hts⟩ k9 (cwV 2 hts gX3_passNight_X3_wearStool rfl rfl rfl (by decide +kernel) ⟨Nat.le_of_ble_eq_true rfl, Nat.le_of_ble_eq_true rfl⟩) hP hK hD hS [0, 1, 2] rfl rfl (by decide) rfl [(h, .inr (4, [.ref a, .ref b, .int n1.2.2.2.1, .int n1.2.2.2.2.1, .int n1.2.2.2.2.2.1, .int n1.2.2.2.2.2.2.1, .int n1.2.2.2.2.2.2.2.1, .int n1.2.2.2.2.2.2.2.2])), (a, .inl (cI, 72, .inl n1.2.1)), (b, .inl (cI, 36, .inl n1.2.2.1))] rfl rfl 0 (ci := 4) rfl rfl rfl rfl hl.1 rfl rfl (Nat.le_of_ble_eq_true rfl) ⟨Nat.zero_le _, Nat.zero_le _⟩ dX3_passNight_28 (fun H locs hP hD hS => ?_)
        refine lv_iadd hx hb dX3_passNight_31 ?_
        refine lv_istore_n (lv' := [(1, .int (v.2.1 + n1.1)), (3, .int (fX3_ofStool v.1 v.2.2 5)), (0, .ref h), (2, .int v.2.2)]) hx hb dX3_passNight_32 rfl hl (by decide) rfl (fun ls hl => ?_)
        refine lv_iinc (v := (v.2.2 + 1)) (lv' := [(2, .int (v.2.2 + 1)), (1, .int (v.2.1 + n1.1)), (3, .int (fX3_ofStool v.1 v.2.2 5)), (0, .ref h)]) hx hb dX3_passNight_33 hl (k := 3) rfl rfl (by decide) rfl (fun ls hl => ?_)
        refine lv_goto (tgt := 4) hx hb dX3_passNight_36 (by decide) ?_
        exact kb (n1.2, (v.2.1 + n1.1), (v.2.2 + 1)) (by rw [lX3_passNight_4, if_neg c_9, if_neg c_21, ← en1]) H locs ls hP hD hS (lv_sub hl [3, 1, 0] rfl)
  · intro H locs ls hP hD hS hl
    refine lv_aload_n hx hb dX3_passNight_39 rfl (lv_at hl 0 rfl) ?_
    refine lv_dup hx hb dX3_passNight_40 rfl ?_
    refine va_get (D := D) (ci := 4) (v := .int (itv (T, 0, 0) (lX3_passNight_4 T) ((fun v : (TV × Int32 × Int32) => (v.1.2.2.1.toInt - v.2.2.toInt).toNat) (T, 0, 0) + 1) (T, 0, 0)).1.2.2.2.2.2.1) (C := RX3) (T := TX3) (N := 8) hx hb hts q1 hown hK hP 0 rfl rfl 5 (by decide) q2 (fun _ h9 => h9) rfl dX3_passNight_41 ?_
    refine lv_iconst (v := 1) hx hb dX3_passNight_44 (by decide) ?_
    refine lv_iadd hx hb dX3_passNight_45 ?_
    refine va_put (D := D) (ci := 4) (v := .int ((itv (T, 0, 0) (lX3_passNight_4 T) ((fun v : (TV × Int32 × Int32) => (v.1.2.2.1.toInt - v.2.2.toInt).toNat) (T, 0, 0) + 1) (T, 0, 0)).1.2.2.2.2.2.1 + 1)) (ty := .int) (C := RX3) (T := TX3) (N := 8) hx hb hts q1 tyX3 tyX3_ok nmX3 hown hK hP hD hS 0 rfl rfl 5 (by decide) q2 (fun _ h9 => h9) rfl (by decide +kernel) rfl rfl (Nat.le_of_ble_eq_true rfl) dX3_passNight_46 (fun H locs hP hD hS => ?_)
    have hP : va_P D vwCl [(h, .inr (4, [.ref a, .ref b, .int (itv (T, 0, 0) (lX3_passNight_4 T) ((fun v : (TV × Int32 × Int32) => (v.1.2.2.1.toInt - v.2.2.toInt).toNat) (T, 0, 0) + 1) (T, 0, 0)).1.2.2.1, .int (itv (T, 0, 0) (lX3_passNight_4 T) ((fun v : (TV × Int32 × Int32) => (v.1.2.2.1.toInt - v.2.2.toInt).toNat) (T, 0, 0) + 1) (T, 0, 0)).1.2.2.2.1, .int (itv (T, 0, 0) (lX3_passNight_4 T) ((fun v : (TV × Int32 × Int32) => (v.1.2.2.1.toInt - v.2.2.toInt).toNat) (T, 0, 0) + 1) (T, 0, 0)).1.2.2.2.2.1, .int ((itv (T, 0, 0) (lX3_passNight_4 T) ((fun v : (TV × Int32 × Int32) => (v.1.2.2.1.toInt - v.2.2.toInt).toNat) (T, 0, 0) + 1) (T, 0, 0)).1.2.2.2.2.2.1 + 1), .int (itv (T, 0, 0) (lX3_passNight_4 T) ((fun v : (TV × Int32 × Int32) => (v.1.2.2.1.toInt - v.2.2.toInt).toNat) (T, 0, 0) + 1) (T, 0, 0)).1.2.2.2.2.2.2.1, .int (itv (T, 0, 0) (lX3_passNight_4 T) ((fun v : (TV × Int32 × Int32) => (v.1.2.2.1.toInt - v.2.2.toInt).toNat) (T, 0, 0) + 1) (T, 0, 0)).1.2.2.2.2.2.2.2])), (a, .inl (cI, 72, .inl (itv (T, 0, 0) (lX3_passNight_4 T) ((fun v : (TV × Int32 × Int32) => (v.1.2.2.1.toInt - v.2.2.toInt).toNat) (T, 0, 0) + 1) (T, 0, 0)).1.1)), (b, .inl (cI, 36, .inl (itv (T, 0, 0) (lX3_passNight_4 T) ((fun v : (TV × Int32 × Int32) => (v.1.2.2.1.toInt - v.2.2.toInt).toNat) (T, 0, 0) + 1) (T, 0, 0)).1.2.1))] H := hP
    have hD : va_D A [(h, .inr (4, [.ref a, .ref b, .int (itv (T, 0, 0) (lX3_passNight_4 T) ((fun v : (TV × Int32 × Int32) => (v.1.2.2.1.toInt - v.2.2.toInt).toNat) (T, 0, 0) + 1) (T, 0, 0)).1.2.2.1, .int (itv (T, 0, 0) (lX3_passNight_4 T) ((fun v : (TV × Int32 × Int32) => (v.1.2.2.1.toInt - v.2.2.toInt).toNat) (T, 0, 0) + 1) (T, 0, 0)).1.2.2.2.1, .int (itv (T, 0, 0) (lX3_passNight_4 T) ((fun v : (TV × Int32 × Int32) => (v.1.2.2.1.toInt - v.2.2.toInt).toNat) (T, 0, 0) + 1) (T, 0, 0)).1.2.2.2.2.1, .int ((itv (T, 0, 0) (lX3_passNight_4 T) ((fun v : (TV × Int32 × Int32) => (v.1.2.2.1.toInt - v.2.2.toInt).toNat) (T, 0, 0) + 1) (T, 0, 0)).1.2.2.2.2.2.1 + 1), .int (itv (T, 0, 0) (lX3_passNight_4 T) ((fun v : (TV × Int32 × Int32) => (v.1.2.2.1.toInt - v.2.2.toInt).toNat) (T, 0, 0) + 1) (T, 0, 0)).1.2.2.2.2.2.2.1, .int (itv (T, 0, 0) (lX3_passNight_4 T) ((fun v : (TV × Int32 × Int32) => (v.1.2.2.1.toInt - v.2.2.toInt).toNat) (T, 0, 0) + 1) (T, 0, 0)).1.2.2.2.2.2.2.2])), (a, .inl (cI, 72, .inl (itv (T, 0, 0) (lX3_passNight_4 T) ((fun v : (TV × Int32 × Int32) => (v.1.2.2.1.toInt - v.2.2.toInt).toNat) (T, 0, 0) + 1) (T, 0, 0)).1.1)), (b, .inl (cI, 36, .inl (itv (T, 0, 0) (lX3_passNight_4 T) ((fun v : (TV × Int32 × Int32) => (v.1.2.2.1.toInt - v.2.2.toInt).toNat) (T, 0, 0) + 1) (T, 0, 0)).1.2.1))] := hD
    refine lv_aload_n hx hb dX3_passNight_49 rfl (lv_at hl 0 rfl) ?_
    refine lv_dup hx hb dX3_passNight_50 rfl ?_
    refine va_get (D := D) (ci := 4) (v := .int (itv (T, 0, 0) (lX3_passNight_4 T) ((fun v : (TV × Int32 × Int32) => (v.1.2.2.1.toInt - v.2.2.toInt).toNat) (T, 0, 0) + 1) (T, 0, 0)).1.2.2.2.2.1) (C := RX3) (T := TX3) (N := 8) hx hb hts q1 hown hK hP 0 rfl rfl 4 (by decide) q3 (fun _ h9 => h9) rfl dX3_passNight_51 ?_
    refine lv_iload_n hx hb dX3_passNight_54 rfl (lv_at hl 1 rfl) ?_
    refine lv_iadd hx hb dX3_passNight_55 ?_
    refine va_put (D := D) (ci := 4) (v := .int ((itv (T, 0, 0) (lX3_passNight_4 T) ((fun v : (TV × Int32 × Int32) => (v.1.2.2.1.toInt - v.2.2.toInt).toNat) (T, 0, 0) + 1) (T, 0, 0)).1.2.2.2.2.1 + (itv (T, 0, 0) (lX3_passNight_4 T) ((fun v : (TV × Int32 × Int32) => (v.1.2.2.1.toInt - v.2.2.toInt).toNat) (T, 0, 0) + 1) (T, 0, 0)).2.1)) (ty := .int) (C := RX3) (T := TX3) (N := 8) hx hb hts q1 tyX3 tyX3_ok nmX3 hown hK hP hD hS 0 rfl rfl 4 (by decide) q3 (fun _ h9 => h9) rfl (by decide +kernel) rfl rfl (Nat.le_of_ble_eq_true rfl) dX3_passNight_56 (fun H locs hP hD hS => ?_)
    have hP : va_P D vwCl [(h, .inr (4, [.ref a, .ref b, .int (itv (T, 0, 0) (lX3_passNight_4 T) ((fun v : (TV × Int32 × Int32) => (v.1.2.2.1.toInt - v.2.2.toInt).toNat) (T, 0, 0) + 1) (T, 0, 0)).1.2.2.1, .int (itv (T, 0, 0) (lX3_passNight_4 T) ((fun v : (TV × Int32 × Int32) => (v.1.2.2.1.toInt - v.2.2.toInt).toNat) (T, 0, 0) + 1) (T, 0, 0)).1.2.2.2.1, .int ((itv (T, 0, 0) (lX3_passNight_4 T) ((fun v : (TV × Int32 × Int32) => (v.1.2.2.1.toInt - v.2.2.toInt).toNat) (T, 0, 0) + 1) (T, 0, 0)).1.2.2.2.2.1 + (itv (T, 0, 0) (lX3_passNight_4 T) ((fun v : (TV × Int32 × Int32) => (v.1.2.2.1.toInt - v.2.2.toInt).toNat) (T, 0, 0) + 1) (T, 0, 0)).2.1), .int ((itv (T, 0, 0) (lX3_passNight_4 T) ((fun v : (TV × Int32 × Int32) => (v.1.2.2.1.toInt - v.2.2.toInt).toNat) (T, 0, 0) + 1) (T, 0, 0)).1.2.2.2.2.2.1 + 1), .int (itv (T, 0, 0) (lX3_passNight_4 T) ((fun v : (TV × Int32 × Int32) => (v.1.2.2.1.toInt - v.2.2.toInt).toNat) (T, 0, 0) + 1) (T, 0, 0)).1.2.2.2.2.2.2.1, .int (itv (T, 0, 0) (lX3_passNight_4 T) ((fun v : (TV × Int32 × Int32) => (v.1.2.2.1.toInt - v.2.2.toInt).toNat) (T, 0, 0) + 1) (T, 0, 0)).1.2.2.2.2.2.2.2])), (a, .inl (cI, 72, .inl (itv (T, 0, 0) (lX3_passNight_4 T) ((fun v : (TV × Int32 × Int32) => (v.1.2.2.1.toInt - v.2.2.toInt).toNat) (T, 0, 0) + 1) (T, 0, 0)).1.1)), (b, .inl (cI, 36, .inl (itv (T, 0, 0) (lX3_passNight_4 T) ((fun v : (TV × Int32 × Int32) => (v.1.2.2.1.toInt - v.2.2.toInt).toNat) (T, 0, 0) + 1) (T, 0, 0)).1.2.1))] H := hP
    have hD : va_D A [(h, .inr (4, [.ref a, .ref b, .int (itv (T, 0, 0) (lX3_passNight_4 T) ((fun v : (TV × Int32 × Int32) => (v.1.2.2.1.toInt - v.2.2.toInt).toNat) (T, 0, 0) + 1) (T, 0, 0)).1.2.2.1, .int (itv (T, 0, 0) (lX3_passNight_4 T) ((fun v : (TV × Int32 × Int32) => (v.1.2.2.1.toInt - v.2.2.toInt).toNat) (T, 0, 0) + 1) (T, 0, 0)).1.2.2.2.1, .int ((itv (T, 0, 0) (lX3_passNight_4 T) ((fun v : (TV × Int32 × Int32) => (v.1.2.2.1.toInt - v.2.2.toInt).toNat) (T, 0, 0) + 1) (T, 0, 0)).1.2.2.2.2.1 + (itv (T, 0, 0) (lX3_passNight_4 T) ((fun v : (TV × Int32 × Int32) => (v.1.2.2.1.toInt - v.2.2.toInt).toNat) (T, 0, 0) + 1) (T, 0, 0)).2.1), .int ((itv (T, 0, 0) (lX3_passNight_4 T) ((fun v : (TV × Int32 × Int32) => (v.1.2.2.1.toInt - v.2.2.toInt).toNat) (T, 0, 0) + 1) (T, 0, 0)).1.2.2.2.2.2.1 + 1), .int (itv (T, 0, 0) (lX3_passNight_4 T) ((fun v : (TV × Int32 × Int32) => (v.1.2.2.1.toInt - v.2.2.toInt).toNat) (T, 0, 0) + 1) (T, 0, 0)).1.2.2.2.2.2.2.1, .int (itv (T, 0, 0) (lX3_passNight_4 T) ((fun v : (TV × Int32 × Int32) => (v.1.2.2.1.toInt - v.2.2.toInt).toNat) (T, 0, 0) + 1) (T, 0, 0)).1.2.2.2.2.2.2.2])), (a, .inl (cI, 72, .inl (itv (T, 0, 0) (lX3_passNight_4 T) ((fun v : (TV × Int32 × Int32) => (v.1.2.2.1.toInt - v.2.2.toInt).toNat) (T, 0, 0) + 1) (T, 0, 0)).1.1)), (b, .inl (cI, 36, .inl (itv (T, 0, 0) (lX3_passNight_4 T) ((fun v : (TV × Int32 × Int32) => (v.1.2.2.1.toInt - v.2.2.toInt).toNat) (T, 0, 0) + 1) (T, 0, 0)).1.2.1))] := hD
    refine lv_aload_n hx hb dX3_passNight_59 rfl (lv_at hl 0 rfl) ?_
    refine lv_dup hx hb dX3_passNight_60 rfl ?_
    refine va_get (D := D) (ci := 4) (v := .int (itv (T, 0, 0) (lX3_passNight_4 T) ((fun v : (TV × Int32 × Int32) => (v.1.2.2.1.toInt - v.2.2.toInt).toNat) (T, 0, 0) + 1) (T, 0, 0)).1.2.2.2.2.2.2.2) (C := RX3) (T := TX3) (N := 8) hx hb hts q1 hown hK hP 0 rfl rfl 7 (by decide) q4 (fun _ h9 => h9) rfl dX3_passNight_61 ?_
    refine lv_iload_n hx hb dX3_passNight_64 rfl (lv_at hl 1 rfl) ?_
    refine lv_iadd hx hb dX3_passNight_65 ?_
    refine va_put (D := D) (ci := 4) (v := .int ((itv (T, 0, 0) (lX3_passNight_4 T) ((fun v : (TV × Int32 × Int32) => (v.1.2.2.1.toInt - v.2.2.toInt).toNat) (T, 0, 0) + 1) (T, 0, 0)).1.2.2.2.2.2.2.2 + (itv (T, 0, 0) (lX3_passNight_4 T) ((fun v : (TV × Int32 × Int32) => (v.1.2.2.1.toInt - v.2.2.toInt).toNat) (T, 0, 0) + 1) (T, 0, 0)).2.1)) (ty := .int) (C := RX3) (T := TX3) (N := 8) hx hb hts q1 tyX3 tyX3_ok nmX3 hown hK hP hD hS 0 rfl rfl 7 (by decide) q4 (fun _ h9 => h9) rfl (by decide +kernel) rfl rfl (Nat.le_of_ble_eq_true rfl) dX3_passNight_66 (fun H locs hP hD hS => ?_)
    have hP : va_P D vwCl [(h, .inr (4, [.ref a, .ref b, .int (itv (T, 0, 0) (lX3_passNight_4 T) ((fun v : (TV × Int32 × Int32) => (v.1.2.2.1.toInt - v.2.2.toInt).toNat) (T, 0, 0) + 1) (T, 0, 0)).1.2.2.1, .int (itv (T, 0, 0) (lX3_passNight_4 T) ((fun v : (TV × Int32 × Int32) => (v.1.2.2.1.toInt - v.2.2.toInt).toNat) (T, 0, 0) + 1) (T, 0, 0)).1.2.2.2.1, .int ((itv (T, 0, 0) (lX3_passNight_4 T) ((fun v : (TV × Int32 × Int32) => (v.1.2.2.1.toInt - v.2.2.toInt).toNat) (T, 0, 0) + 1) (T, 0, 0)).1.2.2.2.2.1 + (itv (T, 0, 0) (lX3_passNight_4 T) ((fun v : (TV × Int32 × Int32) => (v.1.2.2.1.toInt - v.2.2.toInt).toNat) (T, 0, 0) + 1) (T, 0, 0)).2.1), .int ((itv (T, 0, 0) (lX3_passNight_4 T) ((fun v : (TV × Int32 × Int32) => (v.1.2.2.1.toInt - v.2.2.toInt).toNat) (T, 0, 0) + 1) (T, 0, 0)).1.2.2.2.2.2.1 + 1), .int (itv (T, 0, 0) (lX3_passNight_4 T) ((fun v : (TV × Int32 × Int32) => (v.1.2.2.1.toInt - v.2.2.toInt).toNat) (T, 0, 0) + 1) (T, 0, 0)).1.2.2.2.2.2.2.1, .int ((itv (T, 0, 0) (lX3_passNight_4 T) ((fun v : (TV × Int32 × Int32) => (v.1.2.2.1.toInt - v.2.2.toInt).toNat) (T, 0, 0) + 1) (T, 0, 0)).1.2.2.2.2.2.2.2 + (itv (T, 0, 0) (lX3_passNight_4 T) ((fun v : (TV × Int32 × Int32) => (v.1.2.2.1.toInt - v.2.2.toInt).toNat) (T, 0, 0) + 1) (T, 0, 0)).2.1)])), (a, .inl (cI, 72, .inl (itv (T, 0, 0) (lX3_passNight_4 T) ((fun v : (TV × Int32 × Int32) => (v.1.2.2.1.toInt - v.2.2.toInt).toNat) (T, 0, 0) + 1) (T, 0, 0)).1.1)), (b, .inl (cI, 36, .inl (itv (T, 0, 0) (lX3_passNight_4 T) ((fun v : (TV × Int32 × Int32) => (v.1.2.2.1.toInt - v.2.2.toInt).toNat) (T, 0, 0) + 1) (T, 0, 0)).1.2.1))] H := hP
    have hD : va_D A [(h, .inr (4, [.ref a, .ref b, .int (itv (T, 0, 0) (lX3_passNight_4 T) ((fun v : (TV × Int32 × Int32) => (v.1.2.2.1.toInt - v.2.2.toInt).toNat) (T, 0, 0) + 1) (T, 0, 0)).1.2.2.1, .int (itv (T, 0, 0) (lX3_passNight_4 T) ((fun v : (TV × Int32 × Int32) => (v.1.2.2.1.toInt - v.2.2.toInt).toNat) (T, 0, 0) + 1) (T, 0, 0)).1.2.2.2.1, .int ((itv (T, 0, 0) (lX3_passNight_4 T) ((fun v : (TV × Int32 × Int32) => (v.1.2.2.1.toInt - v.2.2.toInt).toNat) (T, 0, 0) + 1) (T, 0, 0)).1.2.2.2.2.1 + (itv (T, 0, 0) (lX3_passNight_4 T) ((fun v : (TV × Int32 × Int32) => (v.1.2.2.1.toInt - v.2.2.toInt).toNat) (T, 0, 0) + 1) (T, 0, 0)).2.1), .int ((itv (T, 0, 0) (lX3_passNight_4 T) ((fun v : (TV × Int32 × Int32) => (v.1.2.2.1.toInt - v.2.2.toInt).toNat) (T, 0, 0) + 1) (T, 0, 0)).1.2.2.2.2.2.1 + 1), .int (itv (T, 0, 0) (lX3_passNight_4 T) ((fun v : (TV × Int32 × Int32) => (v.1.2.2.1.toInt - v.2.2.toInt).toNat) (T, 0, 0) + 1) (T, 0, 0)).1.2.2.2.2.2.2.1, .int ((itv (T, 0, 0) (lX3_passNight_4 T) ((fun v : (TV × Int32 × Int32) => (v.1.2.2.1.toInt - v.2.2.toInt).toNat) (T, 0, 0) + 1) (T, 0, 0)).1.2.2.2.2.2.2.2 + (itv (T, 0, 0) (lX3_passNight_4 T) ((fun v : (TV × Int32 × Int32) => (v.1.2.2.1.toInt - v.2.2.toInt).toNat) (T, 0, 0) + 1) (T, 0, 0)).2.1)])), (a, .inl (cI, 72, .inl (itv (T, 0, 0) (lX3_passNight_4 T) ((fun v : (TV × Int32 × Int32) => (v.1.2.2.1.toInt - v.2.2.toInt).toNat) (T, 0, 0) + 1) (T, 0, 0)).1.1)), (b, .inl (cI, 36, .inl (itv (T, 0, 0) (lX3_passNight_4 T) ((fun v : (TV × Int32 × Int32) => (v.1.2.2.1.toInt - v.2.2.toInt).toNat) (T, 0, 0) + 1) (T, 0, 0)).1.2.1))] := hD
    refine lv_iload_n hx hb dX3_passNight_69 rfl (lv_at hl 1 rfl) ?_
    have e9 : fX3_passNight T = ((itv (T, 0, 0) (lX3_passNight_4 T) ((fun v : (TV × Int32 × Int32) => (v.1.2.2.1.toInt - v.2.2.toInt).toNat) (T, 0, 0) + 1) (T, 0, 0)).2.1, ((itv (T, 0, 0) (lX3_passNight_4 T) ((fun v : (TV × Int32 × Int32) => (v.1.2.2.1.toInt - v.2.2.toInt).toNat) (T, 0, 0) + 1) (T, 0, 0)).1.1, (itv (T, 0, 0) (lX3_passNight_4 T) ((fun v : (TV × Int32 × Int32) => (v.1.2.2.1.toInt - v.2.2.toInt).toNat) (T, 0, 0) + 1) (T, 0, 0)).1.2.1, (itv (T, 0, 0) (lX3_passNight_4 T) ((fun v : (TV × Int32 × Int32) => (v.1.2.2.1.toInt - v.2.2.toInt).toNat) (T, 0, 0) + 1) (T, 0, 0)).1.2.2.1, (itv (T, 0, 0) (lX3_passNight_4 T) ((fun v : (TV × Int32 × Int32) => (v.1.2.2.1.toInt - v.2.2.toInt).toNat) (T, 0, 0) + 1) (T, 0, 0)).1.2.2.2.1, ((itv (T, 0, 0) (lX3_passNight_4 T) ((fun v : (TV × Int32 × Int32) => (v.1.2.2.1.toInt - v.2.2.toInt).toNat) (T, 0, 0) + 1) (T, 0, 0)).1.2.2.2.2.1 + (itv (T, 0, 0) (lX3_passNight_4 T) ((fun v : (TV × Int32 × Int32) => (v.1.2.2.1.toInt - v.2.2.toInt).toNat) (T, 0, 0) + 1) (T, 0, 0)).2.1), ((itv (T, 0, 0) (lX3_passNight_4 T) ((fun v : (TV × Int32 × Int32) => (v.1.2.2.1.toInt - v.2.2.toInt).toNat) (T, 0, 0) + 1) (T, 0, 0)).1.2.2.2.2.2.1 + 1), (itv (T, 0, 0) (lX3_passNight_4 T) ((fun v : (TV × Int32 × Int32) => (v.1.2.2.1.toInt - v.2.2.toInt).toNat) (T, 0, 0) + 1) (T, 0, 0)).1.2.2.2.2.2.2.1, ((itv (T, 0, 0) (lX3_passNight_4 T) ((fun v : (TV × Int32 × Int32) => (v.1.2.2.1.toInt - v.2.2.toInt).toNat) (T, 0, 0) + 1) (T, 0, 0)).1.2.2.2.2.2.2.2 + (itv (T, 0, 0) (lX3_passNight_4 T) ((fun v : (TV × Int32 × Int32) => (v.1.2.2.1.toInt - v.2.2.toInt).toNat) (T, 0, 0) + 1) (T, 0, 0)).2.1))) := by rw [fX3_passNight]
    exact rUi hx hb hr hlk hQ hP hS (by rw [e9]) (congrArg (fun z9 : (Int32 × TV) => w3 cI h a b z9.2) e9).symm rfl dX3_passNight_70
def lX3_takenStools_5 (T : TV) (x1 : Int32) (x2 : Int32) (v : (Int32 × Int32)) : (Int32 × Int32) ⊕ ((Int32 × Int32)) := (if x2 < v.2 then (.inr (v.1, v.2)) else (if T.2.2.1 ≤ v.2 then (.inr (v.1, v.2)) else (if (fX3_ofStool T v.2 5) = (-1) then (.inl ((v.1 + 0), (v.2 + 1))) else (.inl ((v.1 + 1), (v.2 + 1))))))
def fX3_takenStools (T : TV) (x1 : Int32) (x2 : Int32) : Int32 := (itv (0, x1) (lX3_takenStools_5 T x1 x2) ((fun v : (Int32 × Int32) => (T.2.2.1.toInt - v.2.toInt).toNat) (0, x1) + 1) (0, x1)).1
abbrev rmX3_takenStools : Room := { frames := 1, cells := 0, slots := 0, locals := 22 }
set_option maxHeartbeats 4000000 in
set_option maxRecDepth 100000 in
theorem kX3_takenStools (l : Launch) (D : va_G) (cI cC cT : ClassId) (h a b : Nat) (T : TV) (x1 : Int32) (x2 : Int32)  : mR l D (TY cI cC cT) yX3_takenStools wsX3_takenStools rmX3_takenStools [.ref h, .int x1, .int x2] (w3 cI h a b T) (some (.int (fX3_takenStools T x1 x2))) := by
  refine mR.ofW (cc := cX3_takenStools) (maxL := 5) (ret := (some .int)) (by decide) rfl (Nat.le_of_ble_eq_true rfl) ?_
  intro p e s m args below meth c Q ls hx hb hml hr hlk hts hown hP hK hl hQ
  have hown : s.vm.findClass RX3 = some m.cls := hown
  have hP : va_P D vwCl [(h, .inr (4, [.ref a, .ref b, .int T.2.2.1, .int T.2.2.2.1, .int T.2.2.2.2.1, .int T.2.2.2.2.2.1, .int T.2.2.2.2.2.2.1, .int T.2.2.2.2.2.2.2])), (a, .inl (cI, 72, .inl T.1)), (b, .inl (cI, 36, .inl T.2.1))] s.heap := hP
  have hl : lv_has ls 5 [(0, .ref h), (1, .int x1), (2, .int x2)] := hl
  have q0 := hts (Cond.fieldLink RX3 18 "TavernStools$Tavern" "stools" "I") (by decide +kernel)
  have q1 : ∀ w ∈ u_ws RX3 TX3 8, w ∈ wsX3_takenStools := by decide +kernel
  refine lv_iconst (v := 0) hx hb dX3_takenStools_0 (by decide) ?_
  refine lv_istore_n (lv' := [(3, .int 0), (0, .ref h), (1, .int x1), (2, .int x2)]) hx hb dX3_takenStools_1 rfl hl (by decide) rfl (fun ls hl => ?_)
  refine lv_iload_n hx hb dX3_takenStools_2 rfl (lv_at hl 2 rfl) ?_
  refine lv_istore (lv' := [(4, .int x1), (3, .int 0), (0, .ref h), (1, .int x1), (2, .int x2)]) hx hb dX3_takenStools_3 hl (by decide) rfl (fun ls hl => ?_)
  have hE_5 : itr (lX3_takenStools_5 T x1 x2) ((fun v : (Int32 × Int32) => (T.2.2.1.toInt - v.2.toInt).toNat) (0, x1) + 1) (0, x1) = .inr (itv (0, x1) (lX3_takenStools_5 T x1 x2) ((fun v : (Int32 × Int32) => (T.2.2.1.toInt - v.2.toInt).toNat) (0, x1) + 1) (0, x1)) := by
    refine itv_ends (itr_ends (lX3_takenStools_5 T x1 x2) (fun v : (Int32 × Int32) => True) (fun v : (Int32 × Int32) => (T.2.2.1.toInt - v.2.toInt).toNat) ?_ _ _ trivial (Nat.lt_succ_self _))
    intro a b h0 h
    unfold lX3_takenStools_5 at h
    repeat' split at h
    all_goals first | (cases h; done) | (cases h; exact ⟨trivial, rk_ge (by assumption)⟩) | (cases h; exact ⟨trivial, rk_gt (by assumption)⟩)
  refine loopW (lX3_takenStools_5 T x1 x2) (fun v : (Int32 × Int32) => True) (fun v : (Int32 × Int32) => ∀ ls, lv_has ls 5 [(0, .ref h), (1, .int x1), (2, .int x2), (3, .int v.1), (4, .int v.2)] → W p l e rmX3_takenStools s m args below meth c s.heap [] 0 0 Q (F0 m 5 ls [])) (fun r9 : (Int32 × Int32) => ∀ ls, lv_has ls 5 [(0, .ref h), (1, .int x1), (2, .int x2), (3, .int r9.1), (4, .int r9.2)] → W p l e rmX3_takenStools s m args below meth c s.heap [] 0 0 Q (F0 m 45 ls [])) ?_ (fun _ _ _ _ => trivial) _ (0, x1) (itv (0, x1) (lX3_takenStools_5 T x1 x2) ((fun v : (Int32 × Int32) => (T.2.2.1.toInt - v.2.toInt).toNat) (0, x1) + 1) (0, x1)) trivial hE_5 ?_ ls (lv_sub hl [2, 3, 4, 1, 0] rfl)
  · intro v _ kb kx ls hl
    refine lv_iload hx hb dX3_takenStools_5 (lv_at hl 4 rfl) ?_
    refine lv_iload_n hx hb dX3_takenStools_7 rfl (lv_at hl 2 rfl) ?_
    refine lv_icmp_gt (tgt := 45) hx hb dX3_takenStools_8 (by decide) (fun c_8 => ?_) (fun c_8 => ?_)
    · exact kx (v.1, v.2) (by rw [lX3_takenStools_5, if_pos c_8]) ls (lv_sub hl [0, 1, 2, 3, 4] rfl)
    · refine lv_iload hx hb dX3_takenStools_11 (lv_at hl 4 rfl) ?_
      refine lv_aload_n hx hb dX3_takenStools_13 rfl (lv_at hl 0 rfl) ?_
      refine va_get (D := D) (ci := 4) (v := .int T.2.2.1) (C := RX3) (T := TX3) (N := 8) hx hb hts q1 hown hK hP 0 rfl rfl 2 (by decide) q0 (fun _ h9 => h9) rfl dX3_takenStools_14 ?_
      refine lv_icmp_ge (tgt := 45) hx hb dX3_takenStools_17 (by decide) (fun c_17 => ?_) (fun c_17 => ?_)
      · exact kx (v.1, v.2) (by rw [lX3_takenStools_5, if_neg c_8, if_pos c_17]) ls (lv_sub hl [0, 1, 2, 3, 4] rfl)
      · refine lv_iload_n hx hb dX3_takenStools_20 rfl (lv_at hl 3 rfl) ?_
        refine lv_aload_n hx hb dX3_takenStools_21 rfl (lv_at hl 0 rfl) ?_
        refine lv_iload hx hb dX3_takenStools_22 (lv_at hl 4 rfl) ?_
        refine lv_iconst (v := 5) hx hb dX3_takenStools_24 (by decide) ?_
        refine fRV (As := [.int v.2, .int 5]) (rest := [.int v.1]) (st' := [.int (fX3_ofStool T v.2 5), .int v.1]) ⟨hx, hb, hml, hown, hts⟩ (kX3_ofStool l D cI cC cT h a b T v.2 5) (cwV 2 hts gX3_takenStools_X3_ofStool rfl rfl rfl (by decide +kernel) ⟨Nat.le_of_ble_eq_true rfl, Nat.le_of_ble_eq_true rfl⟩) hP hK [0, 1, 2] rfl 0 (ci := 4) rfl rfl rfl rfl hl.1 rfl rfl (Nat.le_of_ble_eq_true rfl) ⟨Nat.zero_le _, Nat.zero_le _⟩ dX3_takenStools_25 ?_
        refine lv_iconst (v := (-1)) hx hb dX3_takenStools_28 (by decide) ?_
        refine lv_icmp_ne (tgt := 36) hx hb dX3_takenStools_29 (by decide) (fun c_29 => ?_) (fun c_29 => ?_)
        · refine lv_iconst (v := 1) hx hb dX3_takenStools_36 (by decide) ?_
          refine lv_iadd hx hb dX3_takenStools_37 ?_
          refine lv_istore_n (lv' := [(3, .int (v.1 + 1)), (0, .ref h), (1, .int x1), (2, .int x2), (4, .int v.2)]) hx hb dX3_takenStools_38 rfl hl (by decide) rfl (fun ls hl => ?_)
          refine lv_iinc (v := (v.2 + 1)) (lv' := [(4, .int (v.2 + 1)), (3, .int (v.1 + 1)), (0, .ref h), (1, .int x1), (2, .int x2)]) hx hb dX3_takenStools_39 hl (k := 4) rfl rfl (by decide) rfl (fun ls hl => ?_)
          refine lv_goto (tgt := 5) hx hb dX3_takenStools_42 (by decide) ?_
          exact kb ((v.1 + 1), (v.2 + 1)) (by rw [lX3_takenStools_5, if_neg c_8, if_neg c_17, if_neg c_29]) ls (lv_sub hl [2, 3, 4, 1, 0] rfl)
        · refine lv_iconst (v := 0) hx hb dX3_takenStools_32 (by decide) ?_
          refine lv_goto (tgt := 37) hx hb dX3_takenStools_33 (by decide) ?_
          refine lv_iadd hx hb dX3_takenStools_37 ?_
          refine lv_istore_n (lv' := [(3, .int (v.1 + 0)), (0, .ref h), (1, .int x1), (2, .int x2), (4, .int v.2)]) hx hb dX3_takenStools_38 rfl hl (by decide) rfl (fun ls hl => ?_)
          refine lv_iinc (v := (v.2 + 1)) (lv' := [(4, .int (v.2 + 1)), (3, .int (v.1 + 0)), (0, .ref h), (1, .int x1), (2, .int x2)]) hx hb dX3_takenStools_39 hl (k := 4) rfl rfl (by decide) rfl (fun ls hl => ?_)
          refine lv_goto (tgt := 5) hx hb dX3_takenStools_42 (by decide) ?_
          exact kb ((v.1 + 0), (v.2 + 1)) (by rw [lX3_takenStools_5, if_neg c_8, if_neg c_17, if_pos c_29]) ls (lv_sub hl [2, 3, 4, 1, 0] rfl)
  · intro ls hl
    refine lv_iload_n hx hb dX3_takenStools_45 rfl (lv_at hl 3 rfl) ?_
    exact rRi hx hb hr hlk hQ (by rw [fX3_takenStools]) rfl dX3_takenStools_46
def lX3_sumOfTakenHeights_4 (T : TV) (v : (Int32 × Int32)) : (Int32 × Int32) ⊕ ((Int32 × Int32)) := (if T.2.2.1 ≤ v.2 then (.inr (v.1, v.2)) else (if (fX3_ofStool T v.2 5) = (-1) then (.inl ((v.1 + 0), (v.2 + 1))) else (.inl ((v.1 + (fX3_ofStool T v.2 0)), (v.2 + 1)))))
def fX3_sumOfTakenHeights (T : TV)  : Int32 := (itv (0, 0) (lX3_sumOfTakenHeights_4 T) ((fun v : (Int32 × Int32) => (T.2.2.1.toInt - v.2.toInt).toNat) (0, 0) + 1) (0, 0)).1
abbrev rmX3_sumOfTakenHeights : Room := { frames := 1, cells := 0, slots := 0, locals := 22 }
set_option maxHeartbeats 4000000 in
set_option maxRecDepth 100000 in
theorem kX3_sumOfTakenHeights (l : Launch) (D : va_G) (cI cC cT : ClassId) (h a b : Nat) (T : TV)   : mR l D (TY cI cC cT) yX3_sumOfTakenHeights wsX3_sumOfTakenHeights rmX3_sumOfTakenHeights [.ref h] (w3 cI h a b T) (some (.int (fX3_sumOfTakenHeights T))) := by
  refine mR.ofW (cc := cX3_sumOfTakenHeights) (maxL := 3) (ret := (some .int)) (by decide) rfl (Nat.le_of_ble_eq_true rfl) ?_
  intro p e s m args below meth c Q ls hx hb hml hr hlk hts hown hP hK hl hQ
  have hown : s.vm.findClass RX3 = some m.cls := hown
  have hP : va_P D vwCl [(h, .inr (4, [.ref a, .ref b, .int T.2.2.1, .int T.2.2.2.1, .int T.2.2.2.2.1, .int T.2.2.2.2.2.1, .int T.2.2.2.2.2.2.1, .int T.2.2.2.2.2.2.2])), (a, .inl (cI, 72, .inl T.1)), (b, .inl (cI, 36, .inl T.2.1))] s.heap := hP
  have hl : lv_has ls 3 [(0, .ref h)] := hl
  have q0 := hts (Cond.fieldLink RX3 18 "TavernStools$Tavern" "stools" "I") (by decide +kernel)
  have q1 : ∀ w ∈ u_ws RX3 TX3 8, w ∈ wsX3_sumOfTakenHeights := by decide +kernel
  refine lv_iconst (v := 0) hx hb dX3_sumOfTakenHeights_0 (by decide) ?_
  refine lv_istore_n (lv' := [(1, .int 0), (0, .ref h)]) hx hb dX3_sumOfTakenHeights_1 rfl hl (by decide) rfl (fun ls hl => ?_)
  refine lv_iconst (v := 0) hx hb dX3_sumOfTakenHeights_2 (by decide) ?_
  refine lv_istore_n (lv' := [(2, .int 0), (1, .int 0), (0, .ref h)]) hx hb dX3_sumOfTakenHeights_3 rfl hl (by decide) rfl (fun ls hl => ?_)
  have hE_4 : itr (lX3_sumOfTakenHeights_4 T) ((fun v : (Int32 × Int32) => (T.2.2.1.toInt - v.2.toInt).toNat) (0, 0) + 1) (0, 0) = .inr (itv (0, 0) (lX3_sumOfTakenHeights_4 T) ((fun v : (Int32 × Int32) => (T.2.2.1.toInt - v.2.toInt).toNat) (0, 0) + 1) (0, 0)) := by
    refine itv_ends (itr_ends (lX3_sumOfTakenHeights_4 T) (fun v : (Int32 × Int32) => True) (fun v : (Int32 × Int32) => (T.2.2.1.toInt - v.2.toInt).toNat) ?_ _ _ trivial (Nat.lt_succ_self _))
    intro a b h0 h
    unfold lX3_sumOfTakenHeights_4 at h
    repeat' split at h
    all_goals first | (cases h; done) | (cases h; exact ⟨trivial, rk_ge (by assumption)⟩) | (cases h; exact ⟨trivial, rk_gt (by assumption)⟩)
  refine loopW (lX3_sumOfTakenHeights_4 T) (fun v : (Int32 × Int32) => True) (fun v : (Int32 × Int32) => ∀ ls, lv_has ls 3 [(0, .ref h), (1, .int v.1), (2, .int v.2)] → W p l e rmX3_sumOfTakenHeights s m args below meth c s.heap [] 0 0 Q (F0 m 4 ls [])) (fun r9 : (Int32 × Int32) => ∀ ls, lv_has ls 3 [(0, .ref h), (1, .int r9.1), (2, .int r9.2)] → W p l e rmX3_sumOfTakenHeights s m args below meth c s.heap [] 0 0 Q (F0 m 41 ls [])) ?_ (fun _ _ _ _ => trivial) _ (0, 0) (itv (0, 0) (lX3_sumOfTakenHeights_4 T) ((fun v : (Int32 × Int32) => (T.2.2.1.toInt - v.2.toInt).toNat) (0, 0) + 1) (0, 0)) trivial hE_4 ?_ ls (lv_sub hl [2, 1, 0] rfl)
  · intro v _ kb kx ls hl
    refine lv_iload_n hx hb dX3_sumOfTakenHeights_4 rfl (lv_at hl 2 rfl) ?_
    refine lv_aload_n hx hb dX3_sumOfTakenHeights_5 rfl (lv_at hl 0 rfl) ?_
    refine va_get (D := D) (ci := 4) (v := .int T.2.2.1) (C := RX3) (T := TX3) (N := 8) hx hb hts q1 hown hK hP 0 rfl rfl 2 (by decide) q0 (fun _ h9 => h9) rfl dX3_sumOfTakenHeights_6 ?_
    refine lv_icmp_ge (tgt := 41) hx hb dX3_sumOfTakenHeights_9 (by decide) (fun c_9 => ?_) (fun c_9 => ?_)
    · exact kx (v.1, v.2) (by rw [lX3_sumOfTakenHeights_4, if_pos c_9]) ls (lv_sub hl [0, 1, 2] rfl)
    · refine lv_iload_n hx hb dX3_sumOfTakenHeights_12 rfl (lv_at hl 1 rfl) ?_
      refine lv_aload_n hx hb dX3_sumOfTakenHeights_13 rfl (lv_at hl 0 rfl) ?_
      refine lv_iload_n hx hb dX3_sumOfTakenHeights_14 rfl (lv_at hl 2 rfl) ?_
      refine lv_iconst (v := 5) hx hb dX3_sumOfTakenHeights_15 (by decide) ?_
      refine fRV (As := [.int v.2, .int 5]) (rest := [.int v.1]) (st' := [.int (fX3_ofStool T v.2 5), .int v.1]) ⟨hx, hb, hml, hown, hts⟩ (kX3_ofStool l D cI cC cT h a b T v.2 5) (cwV 2 hts gX3_sumOfTakenHeights_X3_ofStool rfl rfl rfl (by decide +kernel) ⟨Nat.le_of_ble_eq_true rfl, Nat.le_of_ble_eq_true rfl⟩) hP hK [0, 1, 2] rfl 0 (ci := 4) rfl rfl rfl rfl hl.1 rfl rfl (Nat.le_of_ble_eq_true rfl) ⟨Nat.zero_le _, Nat.zero_le _⟩ dX3_sumOfTakenHeights_16 ?_
      refine lv_iconst (v := (-1)) hx hb dX3_sumOfTakenHeights_19 (by decide) ?_
      refine lv_icmp_ne (tgt := 27) hx hb dX3_sumOfTakenHeights_20 (by decide) (fun c_20 => ?_) (fun c_20 => ?_)
      · refine lv_aload_n hx hb dX3_sumOfTakenHeights_27 rfl (lv_at hl 0 rfl) ?_
        refine lv_iload_n hx hb dX3_sumOfTakenHeights_28 rfl (lv_at hl 2 rfl) ?_
        refine lv_iconst (v := 0) hx hb dX3_sumOfTakenHeights_29 (by decide) ?_
        refine fRV (As := [.int v.2, .int 0]) (rest := [.int v.1]) (st' := [.int (fX3_ofStool T v.2 0), .int v.1]) ⟨hx, hb, hml, hown, hts⟩ (kX3_ofStool l D cI cC cT h a b T v.2 0) (cwV 2 hts gX3_sumOfTakenHeights_X3_ofStool rfl rfl rfl (by decide +kernel) ⟨Nat.le_of_ble_eq_true rfl, Nat.le_of_ble_eq_true rfl⟩) hP hK [0, 1, 2] rfl 0 (ci := 4) rfl rfl rfl rfl hl.1 rfl rfl (Nat.le_of_ble_eq_true rfl) ⟨Nat.zero_le _, Nat.zero_le _⟩ dX3_sumOfTakenHeights_30 ?_
        refine lv_iadd hx hb dX3_sumOfTakenHeights_33 ?_
        refine lv_istore_n (lv' := [(1, .int (v.1 + (fX3_ofStool T v.2 0))), (0, .ref h), (2, .int v.2)]) hx hb dX3_sumOfTakenHeights_34 rfl hl (by decide) rfl (fun ls hl => ?_)
        refine lv_iinc (v := (v.2 + 1)) (lv' := [(2, .int (v.2 + 1)), (1, .int (v.1 + (fX3_ofStool T v.2 0))), (0, .ref h)]) hx hb dX3_sumOfTakenHeights_35 hl (k := 2) rfl rfl (by decide) rfl (fun ls hl => ?_)
        refine lv_goto (tgt := 4) hx hb dX3_sumOfTakenHeights_38 (by decide) ?_
        exact kb ((v.1 + (fX3_ofStool T v.2 0)), (v.2 + 1)) (by rw [lX3_sumOfTakenHeights_4, if_neg c_9, if_neg c_20]) ls (lv_sub hl [2, 1, 0] rfl)
      · refine lv_iconst (v := 0) hx hb dX3_sumOfTakenHeights_23 (by decide) ?_
        refine lv_goto (tgt := 33) hx hb dX3_sumOfTakenHeights_24 (by decide) ?_
        refine lv_iadd hx hb dX3_sumOfTakenHeights_33 ?_
        refine lv_istore_n (lv' := [(1, .int (v.1 + 0)), (0, .ref h), (2, .int v.2)]) hx hb dX3_sumOfTakenHeights_34 rfl hl (by decide) rfl (fun ls hl => ?_)
        refine lv_iinc (v := (v.2 + 1)) (lv' := [(2, .int (v.2 + 1)), (1, .int (v.1 + 0)), (0, .ref h)]) hx hb dX3_sumOfTakenHeights_35 hl (k := 2) rfl rfl (by decide) rfl (fun ls hl => ?_)
        refine lv_goto (tgt := 4) hx hb dX3_sumOfTakenHeights_38 (by decide) ?_
        exact kb ((v.1 + 0), (v.2 + 1)) (by rw [lX3_sumOfTakenHeights_4, if_neg c_9, if_pos c_20]) ls (lv_sub hl [2, 1, 0] rfl)
  · intro ls hl
    refine lv_iload_n hx hb dX3_sumOfTakenHeights_41 rfl (lv_at hl 1 rfl) ?_
    exact rRi hx hb hr hlk hQ (by rw [fX3_sumOfTakenHeights]) rfl dX3_sumOfTakenHeights_42
def lX3_sumOfStools_4 (T : TV) (x1 : Int32) (v : (Int32 × Int32)) : (Int32 × Int32) ⊕ ((Int32 × Int32)) := (if T.2.2.1 ≤ v.2 then (.inr (v.1, v.2)) else (.inl ((v.1 + (fX3_ofStool T v.2 x1)), (v.2 + 1))))
def fX3_sumOfStools (T : TV) (x1 : Int32) : Int32 := (itv (0, 0) (lX3_sumOfStools_4 T x1) ((fun v : (Int32 × Int32) => (T.2.2.1.toInt - v.2.toInt).toNat) (0, 0) + 1) (0, 0)).1
abbrev rmX3_sumOfStools : Room := { frames := 1, cells := 0, slots := 0, locals := 22 }
set_option maxHeartbeats 4000000 in
set_option maxRecDepth 100000 in
theorem kX3_sumOfStools (l : Launch) (D : va_G) (cI cC cT : ClassId) (h a b : Nat) (T : TV) (x1 : Int32)  : mR l D (TY cI cC cT) yX3_sumOfStools wsX3_sumOfStools rmX3_sumOfStools [.ref h, .int x1] (w3 cI h a b T) (some (.int (fX3_sumOfStools T x1))) := by
  refine mR.ofW (cc := cX3_sumOfStools) (maxL := 4) (ret := (some .int)) (by decide) rfl (Nat.le_of_ble_eq_true rfl) ?_
  intro p e s m args below meth c Q ls hx hb hml hr hlk hts hown hP hK hl hQ
  have hown : s.vm.findClass RX3 = some m.cls := hown
  have hP : va_P D vwCl [(h, .inr (4, [.ref a, .ref b, .int T.2.2.1, .int T.2.2.2.1, .int T.2.2.2.2.1, .int T.2.2.2.2.2.1, .int T.2.2.2.2.2.2.1, .int T.2.2.2.2.2.2.2])), (a, .inl (cI, 72, .inl T.1)), (b, .inl (cI, 36, .inl T.2.1))] s.heap := hP
  have hl : lv_has ls 4 [(0, .ref h), (1, .int x1)] := hl
  have q0 := hts (Cond.fieldLink RX3 18 "TavernStools$Tavern" "stools" "I") (by decide +kernel)
  have q1 : ∀ w ∈ u_ws RX3 TX3 8, w ∈ wsX3_sumOfStools := by decide +kernel
  refine lv_iconst (v := 0) hx hb dX3_sumOfStools_0 (by decide) ?_
  refine lv_istore_n (lv' := [(2, .int 0), (0, .ref h), (1, .int x1)]) hx hb dX3_sumOfStools_1 rfl hl (by decide) rfl (fun ls hl => ?_)
  refine lv_iconst (v := 0) hx hb dX3_sumOfStools_2 (by decide) ?_
  refine lv_istore_n (lv' := [(3, .int 0), (2, .int 0), (0, .ref h), (1, .int x1)]) hx hb dX3_sumOfStools_3 rfl hl (by decide) rfl (fun ls hl => ?_)
  have hE_4 : itr (lX3_sumOfStools_4 T x1) ((fun v : (Int32 × Int32) => (T.2.2.1.toInt - v.2.toInt).toNat) (0, 0) + 1) (0, 0) = .inr (itv (0, 0) (lX3_sumOfStools_4 T x1) ((fun v : (Int32 × Int32) => (T.2.2.1.toInt - v.2.toInt).toNat) (0, 0) + 1) (0, 0)) := by
    refine itv_ends (itr_ends (lX3_sumOfStools_4 T x1) (fun v : (Int32 × Int32) => True) (fun v : (Int32 × Int32) => (T.2.2.1.toInt - v.2.toInt).toNat) ?_ _ _ trivial (Nat.lt_succ_self _))
    intro a b h0 h
    unfold lX3_sumOfStools_4 at h
    repeat' split at h
    all_goals first | (cases h; done) | (cases h; exact ⟨trivial, rk_ge (by assumption)⟩) | (cases h; exact ⟨trivial, rk_gt (by assumption)⟩)
  refine loopW (lX3_sumOfStools_4 T x1) (fun v : (Int32 × Int32) => True) (fun v : (Int32 × Int32) => ∀ ls, lv_has ls 4 [(0, .ref h), (1, .int x1), (2, .int v.1), (3, .int v.2)] → W p l e rmX3_sumOfStools s m args below meth c s.heap [] 0 0 Q (F0 m 4 ls [])) (fun r9 : (Int32 × Int32) => ∀ ls, lv_has ls 4 [(0, .ref h), (1, .int x1), (2, .int r9.1), (3, .int r9.2)] → W p l e rmX3_sumOfStools s m args below meth c s.heap [] 0 0 Q (F0 m 27 ls [])) ?_ (fun _ _ _ _ => trivial) _ (0, 0) (itv (0, 0) (lX3_sumOfStools_4 T x1) ((fun v : (Int32 × Int32) => (T.2.2.1.toInt - v.2.toInt).toNat) (0, 0) + 1) (0, 0)) trivial hE_4 ?_ ls (lv_sub hl [2, 3, 1, 0] rfl)
  · intro v _ kb kx ls hl
    refine lv_iload_n hx hb dX3_sumOfStools_4 rfl (lv_at hl 3 rfl) ?_
    refine lv_aload_n hx hb dX3_sumOfStools_5 rfl (lv_at hl 0 rfl) ?_
    refine va_get (D := D) (ci := 4) (v := .int T.2.2.1) (C := RX3) (T := TX3) (N := 8) hx hb hts q1 hown hK hP 0 rfl rfl 2 (by decide) q0 (fun _ h9 => h9) rfl dX3_sumOfStools_6 ?_
    refine lv_icmp_ge (tgt := 27) hx hb dX3_sumOfStools_9 (by decide) (fun c_9 => ?_) (fun c_9 => ?_)
    · exact kx (v.1, v.2) (by rw [lX3_sumOfStools_4, if_pos c_9]) ls (lv_sub hl [0, 1, 2, 3] rfl)
    · refine lv_iload_n hx hb dX3_sumOfStools_12 rfl (lv_at hl 2 rfl) ?_
      refine lv_aload_n hx hb dX3_sumOfStools_13 rfl (lv_at hl 0 rfl) ?_
      refine lv_iload_n hx hb dX3_sumOfStools_14 rfl (lv_at hl 3 rfl) ?_
      refine lv_iload_n hx hb dX3_sumOfStools_15 rfl (lv_at hl 1 rfl) ?_
      refine fRV (As := [.int v.2, .int x1]) (rest := [.int v.1]) (st' := [.int (fX3_ofStool T v.2 x1), .int v.1]) ⟨hx, hb, hml, hown, hts⟩ (kX3_ofStool l D cI cC cT h a b T v.2 x1) (cwV 2 hts gX3_sumOfStools_X3_ofStool rfl rfl rfl (by decide +kernel) ⟨Nat.le_of_ble_eq_true rfl, Nat.le_of_ble_eq_true rfl⟩) hP hK [0, 1, 2] rfl 0 (ci := 4) rfl rfl rfl rfl hl.1 rfl rfl (Nat.le_of_ble_eq_true rfl) ⟨Nat.zero_le _, Nat.zero_le _⟩ dX3_sumOfStools_16 ?_
      refine lv_iadd hx hb dX3_sumOfStools_19 ?_
      refine lv_istore_n (lv' := [(2, .int (v.1 + (fX3_ofStool T v.2 x1))), (0, .ref h), (1, .int x1), (3, .int v.2)]) hx hb dX3_sumOfStools_20 rfl hl (by decide) rfl (fun ls hl => ?_)
      refine lv_iinc (v := (v.2 + 1)) (lv' := [(3, .int (v.2 + 1)), (2, .int (v.1 + (fX3_ofStool T v.2 x1))), (0, .ref h), (1, .int x1)]) hx hb dX3_sumOfStools_21 hl (k := 3) rfl rfl (by decide) rfl (fun ls hl => ?_)
      refine lv_goto (tgt := 4) hx hb dX3_sumOfStools_24 (by decide) ?_
      exact kb ((v.1 + (fX3_ofStool T v.2 x1)), (v.2 + 1)) (by rw [lX3_sumOfStools_4, if_neg c_9]) ls (lv_sub hl [2, 3, 1, 0] rfl)
  · intro ls hl
    refine lv_iload_n hx hb dX3_sumOfStools_27 rfl (lv_at hl 2 rfl) ?_
    exact rRi hx hb hr hlk hQ (by rw [fX3_sumOfStools]) rfl dX3_sumOfStools_28
def lX3_cats_4 (T : TV) (v : (Int32 × Int32)) : (Int32 × Int32) ⊕ ((Int32 × Int32)) := (if T.2.2.2.1 ≤ v.2 then (.inr (v.1, v.2)) else (if (fX3_ofSitter T v.2 0) = 0 then (.inl ((v.1 + 1), (v.2 + 1))) else (.inl ((v.1 + 0), (v.2 + 1)))))
def fX3_cats (T : TV)  : Int32 := (itv (0, 0) (lX3_cats_4 T) ((fun v : (Int32 × Int32) => (T.2.2.2.1.toInt - v.2.toInt).toNat) (0, 0) + 1) (0, 0)).1
abbrev rmX3_cats : Room := { frames := 1, cells := 0, slots := 0, locals := 22 }
set_option maxHeartbeats 4000000 in
set_option maxRecDepth 100000 in
theorem kX3_cats (l : Launch) (D : va_G) (cI cC cT : ClassId) (h a b : Nat) (T : TV)   : mR l D (TY cI cC cT) yX3_cats wsX3_cats rmX3_cats [.ref h] (w3 cI h a b T) (some (.int (fX3_cats T))) := by
  refine mR.ofW (cc := cX3_cats) (maxL := 3) (ret := (some .int)) (by decide) rfl (Nat.le_of_ble_eq_true rfl) ?_
  intro p e s m args below meth c Q ls hx hb hml hr hlk hts hown hP hK hl hQ
  have hown : s.vm.findClass RX3 = some m.cls := hown
  have hP : va_P D vwCl [(h, .inr (4, [.ref a, .ref b, .int T.2.2.1, .int T.2.2.2.1, .int T.2.2.2.2.1, .int T.2.2.2.2.2.1, .int T.2.2.2.2.2.2.1, .int T.2.2.2.2.2.2.2])), (a, .inl (cI, 72, .inl T.1)), (b, .inl (cI, 36, .inl T.2.1))] s.heap := hP
  have hl : lv_has ls 3 [(0, .ref h)] := hl
  have q0 := hts (Cond.fieldLink RX3 22 "TavernStools$Tavern" "sitters" "I") (by decide +kernel)
  have q1 : ∀ w ∈ u_ws RX3 TX3 8, w ∈ wsX3_cats := by decide +kernel
  refine lv_iconst (v := 0) hx hb dX3_cats_0 (by decide) ?_
  refine lv_istore_n (lv' := [(1, .int 0), (0, .ref h)]) hx hb dX3_cats_1 rfl hl (by decide) rfl (fun ls hl => ?_)
  refine lv_iconst (v := 0) hx hb dX3_cats_2 (by decide) ?_
  refine lv_istore_n (lv' := [(2, .int 0), (1, .int 0), (0, .ref h)]) hx hb dX3_cats_3 rfl hl (by decide) rfl (fun ls hl => ?_)
  have hE_4 : itr (lX3_cats_4 T) ((fun v : (Int32 × Int32) => (T.2.2.2.1.toInt - v.2.toInt).toNat) (0, 0) + 1) (0, 0) = .inr (itv (0, 0) (lX3_cats_4 T) ((fun v : (Int32 × Int32) => (T.2.2.2.1.toInt - v.2.toInt).toNat) (0, 0) + 1) (0, 0)) := by
    refine itv_ends (itr_ends (lX3_cats_4 T) (fun v : (Int32 × Int32) => True) (fun v : (Int32 × Int32) => (T.2.2.2.1.toInt - v.2.toInt).toNat) ?_ _ _ trivial (Nat.lt_succ_self _))
    intro a b h0 h
    unfold lX3_cats_4 at h
    repeat' split at h
    all_goals first | (cases h; done) | (cases h; exact ⟨trivial, rk_ge (by assumption)⟩) | (cases h; exact ⟨trivial, rk_gt (by assumption)⟩)
  refine loopW (lX3_cats_4 T) (fun v : (Int32 × Int32) => True) (fun v : (Int32 × Int32) => ∀ ls, lv_has ls 3 [(0, .ref h), (1, .int v.1), (2, .int v.2)] → W p l e rmX3_cats s m args below meth c s.heap [] 0 0 Q (F0 m 4 ls [])) (fun r9 : (Int32 × Int32) => ∀ ls, lv_has ls 3 [(0, .ref h), (1, .int r9.1), (2, .int r9.2)] → W p l e rmX3_cats s m args below meth c s.heap [] 0 0 Q (F0 m 35 ls [])) ?_ (fun _ _ _ _ => trivial) _ (0, 0) (itv (0, 0) (lX3_cats_4 T) ((fun v : (Int32 × Int32) => (T.2.2.2.1.toInt - v.2.toInt).toNat) (0, 0) + 1) (0, 0)) trivial hE_4 ?_ ls (lv_sub hl [2, 1, 0] rfl)
  · intro v _ kb kx ls hl
    refine lv_iload_n hx hb dX3_cats_4 rfl (lv_at hl 2 rfl) ?_
    refine lv_aload_n hx hb dX3_cats_5 rfl (lv_at hl 0 rfl) ?_
    refine va_get (D := D) (ci := 4) (v := .int T.2.2.2.1) (C := RX3) (T := TX3) (N := 8) hx hb hts q1 hown hK hP 0 rfl rfl 3 (by decide) q0 (fun _ h9 => h9) rfl dX3_cats_6 ?_
    refine lv_icmp_ge (tgt := 35) hx hb dX3_cats_9 (by decide) (fun c_9 => ?_) (fun c_9 => ?_)
    · exact kx (v.1, v.2) (by rw [lX3_cats_4, if_pos c_9]) ls (lv_sub hl [0, 1, 2] rfl)
    · refine lv_iload_n hx hb dX3_cats_12 rfl (lv_at hl 1 rfl) ?_
      refine lv_aload_n hx hb dX3_cats_13 rfl (lv_at hl 0 rfl) ?_
      refine lv_iload_n hx hb dX3_cats_14 rfl (lv_at hl 2 rfl) ?_
      refine lv_iconst (v := 0) hx hb dX3_cats_15 (by decide) ?_
      refine fRV (As := [.int v.2, .int 0]) (rest := [.int v.1]) (st' := [.int (fX3_ofSitter T v.2 0), .int v.1]) ⟨hx, hb, hml, hown, hts⟩ (kX3_ofSitter l D cI cC cT h a b T v.2 0) (cwV 2 hts gX3_cats_X3_ofSitter rfl rfl rfl (by decide +kernel) ⟨Nat.le_of_ble_eq_true rfl, Nat.le_of_ble_eq_true rfl⟩) hP hK [0, 1, 2] rfl 0 (ci := 4) rfl rfl rfl rfl hl.1 rfl rfl (Nat.le_of_ble_eq_true rfl) ⟨Nat.zero_le _, Nat.zero_le _⟩ dX3_cats_16 ?_
      refine lv_if_ne (tgt := 26) hx hb dX3_cats_19 (by decide) (fun c_19 => ?_) (fun c_19 => ?_)
      · refine lv_iconst (v := 0) hx hb dX3_cats_26 (by decide) ?_
        refine lv_iadd hx hb dX3_cats_27 ?_
        refine lv_istore_n (lv' := [(1, .int (v.1 + 0)), (0, .ref h), (2, .int v.2)]) hx hb dX3_cats_28 rfl hl (by decide) rfl (fun ls hl => ?_)
        refine lv_iinc (v := (v.2 + 1)) (lv' := [(2, .int (v.2 + 1)), (1, .int (v.1 + 0)), (0, .ref h)]) hx hb dX3_cats_29 hl (k := 2) rfl rfl (by decide) rfl (fun ls hl => ?_)
        refine lv_goto (tgt := 4) hx hb dX3_cats_32 (by decide) ?_
        exact kb ((v.1 + 0), (v.2 + 1)) (by rw [lX3_cats_4, if_neg c_9, if_neg c_19]) ls (lv_sub hl [2, 1, 0] rfl)
      · refine lv_iconst (v := 1) hx hb dX3_cats_22 (by decide) ?_
        refine lv_goto (tgt := 27) hx hb dX3_cats_23 (by decide) ?_
        refine lv_iadd hx hb dX3_cats_27 ?_
        refine lv_istore_n (lv' := [(1, .int (v.1 + 1)), (0, .ref h), (2, .int v.2)]) hx hb dX3_cats_28 rfl hl (by decide) rfl (fun ls hl => ?_)
        refine lv_iinc (v := (v.2 + 1)) (lv' := [(2, .int (v.2 + 1)), (1, .int (v.1 + 1)), (0, .ref h)]) hx hb dX3_cats_29 hl (k := 2) rfl rfl (by decide) rfl (fun ls hl => ?_)
        refine lv_goto (tgt := 4) hx hb dX3_cats_32 (by decide) ?_
        exact kb ((v.1 + 1), (v.2 + 1)) (by rw [lX3_cats_4, if_neg c_9, if_pos c_19]) ls (lv_sub hl [2, 1, 0] rfl)
  · intro ls hl
    refine lv_iload_n hx hb dX3_cats_35 rfl (lv_at hl 1 rfl) ?_
    exact rRi hx hb hr hlk hQ (by rw [fX3_cats]) rfl dX3_cats_36
def lX3_stoolsAreWell_2 (T : TV) (v : Int32) : Int32 ⊕ (Int32 ⊕ Int32) := (if T.2.2.1 ≤ v then (.inr (.inl v)) else (if (fX3_ofStool T v 5) = (-1) then (.inl (v + 1)) else (if (fX3_ofSitter T (fX3_ofStool T v 5) 2) = v then (if (fX3_maySit T (fX3_ofStool T v 5) v) = 0 then (.inr (.inr 0)) else (.inl (v + 1))) else (.inr (.inr 0)))))
def fX3_stoolsAreWell (T : TV)  : Int32 := (Sum.elim (fun y9 => 1) (fun q9 => q9) (itv (.inl 0) (lX3_stoolsAreWell_2 T) ((fun v : Int32 => (T.2.2.1.toInt - v.toInt).toNat) 0 + 1) 0))
abbrev rmX3_stoolsAreWell : Room := { frames := 2, cells := 0, slots := 0, locals := 44 }
set_option maxHeartbeats 4000000 in
set_option maxRecDepth 100000 in
theorem kX3_stoolsAreWell (l : Launch) (D : va_G) (cI cC cT : ClassId) (h a b : Nat) (T : TV)   : mR l D (TY cI cC cT) yX3_stoolsAreWell wsX3_stoolsAreWell rmX3_stoolsAreWell [.ref h] (w3 cI h a b T) (some (.int (fX3_stoolsAreWell T))) := by
  refine mR.ofW (cc := cX3_stoolsAreWell) (maxL := 3) (ret := (some .boolean)) (by decide) rfl (Nat.le_of_ble_eq_true rfl) ?_
  intro p e s m args below meth c Q ls hx hb hml hr hlk hts hown hP hK hl hQ
  have hown : s.vm.findClass RX3 = some m.cls := hown
  have hP : va_P D vwCl [(h, .inr (4, [.ref a, .ref b, .int T.2.2.1, .int T.2.2.2.1, .int T.2.2.2.2.1, .int T.2.2.2.2.2.1, .int T.2.2.2.2.2.2.1, .int T.2.2.2.2.2.2.2])), (a, .inl (cI, 72, .inl T.1)), (b, .inl (cI, 36, .inl T.2.1))] s.heap := hP
  have hl : lv_has ls 3 [(0, .ref h)] := hl
  have q0 := hts (Cond.fieldLink RX3 18 "TavernStools$Tavern" "stools" "I") (by decide +kernel)
  have q1 : ∀ w ∈ u_ws RX3 TX3 8, w ∈ wsX3_stoolsAreWell := by decide +kernel
  refine lv_iconst (v := 0) hx hb dX3_stoolsAreWell_0 (by decide) ?_
  refine lv_istore_n (lv' := [(1, .int 0), (0, .ref h)]) hx hb dX3_stoolsAreWell_1 rfl hl (by decide) rfl (fun ls hl => ?_)
  have hE_2 : itr (lX3_stoolsAreWell_2 T) ((fun v : Int32 => (T.2.2.1.toInt - v.toInt).toNat) 0 + 1) 0 = .inr (itv (.inl 0) (lX3_stoolsAreWell_2 T) ((fun v : Int32 => (T.2.2.1.toInt - v.toInt).toNat) 0 + 1) 0) := by
    refine itv_ends (itr_ends (lX3_stoolsAreWell_2 T) (fun v : Int32 => True) (fun v : Int32 => (T.2.2.1.toInt - v.toInt).toNat) ?_ _ _ trivial (Nat.lt_succ_self _))
    intro a b h0 h
    unfold lX3_stoolsAreWell_2 at h
    repeat' split at h
    all_goals first | (cases h; done) | (cases h; exact ⟨trivial, rk_ge (by assumption)⟩) | (cases h; exact ⟨trivial, rk_gt (by assumption)⟩)
  refine loopW (lX3_stoolsAreWell_2 T) (fun v : Int32 => True) (fun v : Int32 => ∀ ls, lv_has ls 3 [(0, .ref h), (1, .int v)] → W p l e rmX3_stoolsAreWell s m args below meth c s.heap [] 0 0 Q (F0 m 2 ls [])) (fun r8 : Int32 ⊕ Int32 => Sum.elim (fun r9 : Int32 => ∀ ls, lv_has ls 3 [(0, .ref h), (1, .int r9)] → W p l e rmX3_stoolsAreWell s m args below meth c s.heap [] 0 0 Q (F0 m 49 ls [])) (fun q9 : Int32 => ∀ (pc : Nat) ls, decode cX3_stoolsAreWell pc = .ok (.ireturn, 1) → narrow (.boolean) (.int q9) = .int q9 → W p l e rmX3_stoolsAreWell s m args below meth c s.heap [] 0 0 Q (F0 m pc ls [.int q9])) r8) ?_ (fun _ _ _ _ => trivial) _ 0 (itv (.inl 0) (lX3_stoolsAreWell_2 T) ((fun v : Int32 => (T.2.2.1.toInt - v.toInt).toNat) 0 + 1) 0) trivial hE_2 ?_ ls (lv_sub hl [1, 0] rfl)
  · intro v _ kb kx ls hl
    refine lv_iload_n hx hb dX3_stoolsAreWell_2 rfl (lv_at hl 1 rfl) ?_
    refine lv_aload_n hx hb dX3_stoolsAreWell_3 rfl (lv_at hl 0 rfl) ?_
    refine va_get (D := D) (ci := 4) (v := .int T.2.2.1) (C := RX3) (T := TX3) (N := 8) hx hb hts q1 hown hK hP 0 rfl rfl 2 (by decide) q0 (fun _ h9 => h9) rfl dX3_stoolsAreWell_4 ?_
    refine lv_icmp_ge (tgt := 49) hx hb dX3_stoolsAreWell_7 (by decide) (fun c_7 => ?_) (fun c_7 => ?_)
    · exact kx (.inl v) (by rw [lX3_stoolsAreWell_2, if_pos c_7]) ls (lv_sub hl [0, 1] rfl)
    · refine lv_aload_n hx hb dX3_stoolsAreWell_10 rfl (lv_at hl 0 rfl) ?_
      refine lv_iload_n hx hb dX3_stoolsAreWell_11 rfl (lv_at hl 1 rfl) ?_
      refine lv_iconst (v := 5) hx hb dX3_stoolsAreWell_12 (by decide) ?_
      refine fRV (As := [.int v, .int 5]) (rest := []) (st' := [.int (fX3_ofStool T v 5)]) ⟨hx, hb, hml, hown, hts⟩ (kX3_ofStool l D cI cC cT h a b T v 5) (cwV 2 hts gX3_stoolsAreWell_X3_ofStool rfl rfl rfl (by decide +kernel) ⟨Nat.le_of_ble_eq_true rfl, Nat.le_of_ble_eq_true rfl⟩) hP hK [0, 1, 2] rfl 0 (ci := 4) rfl rfl rfl rfl hl.1 rfl rfl (Nat.le_of_ble_eq_true rfl) ⟨Nat.zero_le _, Nat.zero_le _⟩ dX3_stoolsAreWell_13 ?_
      refine lv_istore_n (lv' := [(2, .int (fX3_ofStool T v 5)), (0, .ref h), (1, .int v)]) hx hb dX3_stoolsAreWell_16 rfl hl (by decide) rfl (fun ls hl => ?_)
      refine lv_iload_n hx hb dX3_stoolsAreWell_17 rfl (lv_at hl 0 rfl) ?_
      refine lv_iconst (v := (-1)) hx hb dX3_stoolsAreWell_18 (by decide) ?_
      refine lv_icmp_eq (tgt := 43) hx hb dX3_stoolsAreWell_19 (by decide) (fun c_19 => ?_) (fun c_19 => ?_)
      · refine lv_iinc (v := (v + 1)) (lv' := [(1, .int (v + 1)), (2, .int (fX3_ofStool T v 5)), (0, .ref h)]) hx hb dX3_stoolsAreWell_43 hl (k := 2) rfl rfl (by decide) rfl (fun ls hl => ?_)
        refine lv_goto (tgt := 2) hx hb dX3_stoolsAreWell_46 (by decide) ?_
        exact kb (v + 1) (by rw [lX3_stoolsAreWell_2, if_neg c_7, if_pos c_19]) ls (lv_sub hl [2, 0] rfl)
      · refine lv_aload_n hx hb dX3_stoolsAreWell_22 rfl (lv_at hl 1 rfl) ?_
        refine lv_iload_n hx hb dX3_stoolsAreWell_23 rfl (lv_at hl 0 rfl) ?_
        refine lv_iconst (v := 2) hx hb dX3_stoolsAreWell_24 (by decide) ?_
        refine fRV (As := [.int (fX3_ofStool T v 5), .int 2]) (rest := []) (st' := [.int (fX3_ofSitter T (fX3_ofStool T v 5) 2)]) ⟨hx, hb, hml, hown, hts⟩ (kX3_ofSitter l D cI cC cT h a b T (fX3_ofStool T v 5) 2) (cwV 2 hts gX3_stoolsAreWell_X3_ofSitter rfl rfl rfl (by decide +kernel) ⟨Nat.le_of_ble_eq_true rfl, Nat.le_of_ble_eq_true rfl⟩) hP hK [0, 1, 2] rfl 0 (ci := 4) rfl rfl rfl rfl hl.1 rfl rfl (Nat.le_of_ble_eq_true rfl) ⟨Nat.zero_le _, Nat.zero_le _⟩ dX3_stoolsAreWell_25 ?_
        refine lv_iload_n hx hb dX3_stoolsAreWell_28 rfl (lv_at hl 2 rfl) ?_
        refine lv_icmp_ne (tgt := 41) hx hb dX3_stoolsAreWell_29 (by decide) (fun c_29 => ?_) (fun c_29 => ?_)
        · refine lv_iconst (v := 0) hx hb dX3_stoolsAreWell_41 (by decide) ?_
          exact kx (.inr 0) (by rw [lX3_stoolsAreWell_2, if_neg c_7, if_neg c_19, if_neg c_29]) 42 ls dX3_stoolsAreWell_42 rfl
        · refine lv_aload_n hx hb dX3_stoolsAreWell_32 rfl (lv_at hl 1 rfl) ?_
          refine lv_iload_n hx hb dX3_stoolsAreWell_33 rfl (lv_at hl 0 rfl) ?_
          refine lv_iload_n hx hb dX3_stoolsAreWell_34 rfl (lv_at hl 2 rfl) ?_
          refine fRV (As := [.int (fX3_ofStool T v 5), .int v]) (rest := []) (st' := [.int (fX3_maySit T (fX3_ofStool T v 5) v)]) ⟨hx, hb, hml, hown, hts⟩ (kX3_maySit l D cI cC cT h a b T (fX3_ofStool T v 5) v) (cwV 2 hts gX3_stoolsAreWell_X3_maySit rfl rfl rfl (by decide +kernel) ⟨Nat.le_of_ble_eq_true rfl, Nat.le_of_ble_eq_true rfl⟩) hP hK [0, 1, 2] rfl 0 (ci := 4) rfl rfl rfl rfl hl.1 rfl rfl (Nat.le_of_ble_eq_true rfl) ⟨Nat.zero_le _, Nat.zero_le _⟩ dX3_stoolsAreWell_35 ?_
          refine lv_if_ne (tgt := 43) hx hb dX3_stoolsAreWell_38 (by decide) (fun c_38 => ?_) (fun c_38 => ?_)
          · refine lv_iinc (v := (v + 1)) (lv' := [(1, .int (v + 1)), (2, .int (fX3_ofStool T v 5)), (0, .ref h)]) hx hb dX3_stoolsAreWell_43 hl (k := 2) rfl rfl (by decide) rfl (fun ls hl => ?_)
            refine lv_goto (tgt := 2) hx hb dX3_stoolsAreWell_46 (by decide) ?_
            exact kb (v + 1) (by rw [lX3_stoolsAreWell_2, if_neg c_7, if_neg c_19, if_pos c_29, if_neg c_38]) ls (lv_sub hl [2, 0] rfl)
          · refine lv_iconst (v := 0) hx hb dX3_stoolsAreWell_41 (by decide) ?_
            exact kx (.inr 0) (by rw [lX3_stoolsAreWell_2, if_neg c_7, if_neg c_19, if_pos c_29, if_pos c_38]) 42 ls dX3_stoolsAreWell_42 rfl
  · cases hy_2 : (itv (.inl 0) (lX3_stoolsAreWell_2 T) ((fun v : Int32 => (T.2.2.1.toInt - v.toInt).toNat) 0 + 1) 0) with
    | inl y9 =>
      show ∀ ls, lv_has ls 3 [(0, .ref h), (1, .int y9)] → W p l e rmX3_stoolsAreWell s m args below meth c s.heap [] 0 0 Q (F0 m 49 ls [])
      intro ls hl
      refine lv_iconst (v := 1) hx hb dX3_stoolsAreWell_49 (by decide) ?_
      exact rRi hx hb hr hlk hQ (by rw [fX3_stoolsAreWell, hy_2, Sum.elim_inl]) rfl dX3_stoolsAreWell_50
    | inr q9 =>
      intro pc ls hd9 hn9
      exact rRi hx hb hr hlk hQ (by rw [fX3_stoolsAreWell, hy_2, Sum.elim_inr]) hn9 hd9
def lX3_sittersAreWell_2 (T : TV) (v : Int32) : Int32 ⊕ (Int32 ⊕ Int32) := (if T.2.2.2.1 ≤ v then (.inr (.inl v)) else (if (fX3_ofSitter T v 2) = (-1) then (.inl (v + 1)) else (if (fX3_ofStool T (fX3_ofSitter T v 2) 5) = v then (.inl (v + 1)) else (.inr (.inr 0)))))
def fX3_sittersAreWell (T : TV)  : Int32 := (Sum.elim (fun y9 => 1) (fun q9 => q9) (itv (.inl 0) (lX3_sittersAreWell_2 T) ((fun v : Int32 => (T.2.2.2.1.toInt - v.toInt).toNat) 0 + 1) 0))
abbrev rmX3_sittersAreWell : Room := { frames := 1, cells := 0, slots := 0, locals := 22 }
set_option maxHeartbeats 4000000 in
set_option maxRecDepth 100000 in
theorem kX3_sittersAreWell (l : Launch) (D : va_G) (cI cC cT : ClassId) (h a b : Nat) (T : TV)   : mR l D (TY cI cC cT) yX3_sittersAreWell wsX3_sittersAreWell rmX3_sittersAreWell [.ref h] (w3 cI h a b T) (some (.int (fX3_sittersAreWell T))) := by
  refine mR.ofW (cc := cX3_sittersAreWell) (maxL := 3) (ret := (some .boolean)) (by decide) rfl (Nat.le_of_ble_eq_true rfl) ?_
  intro p e s m args below meth c Q ls hx hb hml hr hlk hts hown hP hK hl hQ
  have hown : s.vm.findClass RX3 = some m.cls := hown
  have hP : va_P D vwCl [(h, .inr (4, [.ref a, .ref b, .int T.2.2.1, .int T.2.2.2.1, .int T.2.2.2.2.1, .int T.2.2.2.2.2.1, .int T.2.2.2.2.2.2.1, .int T.2.2.2.2.2.2.2])), (a, .inl (cI, 72, .inl T.1)), (b, .inl (cI, 36, .inl T.2.1))] s.heap := hP
  have hl : lv_has ls 3 [(0, .ref h)] := hl
  have q0 := hts (Cond.fieldLink RX3 22 "TavernStools$Tavern" "sitters" "I") (by decide +kernel)
  have q1 : ∀ w ∈ u_ws RX3 TX3 8, w ∈ wsX3_sittersAreWell := by decide +kernel
  refine lv_iconst (v := 0) hx hb dX3_sittersAreWell_0 (by decide) ?_
  refine lv_istore_n (lv' := [(1, .int 0), (0, .ref h)]) hx hb dX3_sittersAreWell_1 rfl hl (by decide) rfl (fun ls hl => ?_)
  have hE_2 : itr (lX3_sittersAreWell_2 T) ((fun v : Int32 => (T.2.2.2.1.toInt - v.toInt).toNat) 0 + 1) 0 = .inr (itv (.inl 0) (lX3_sittersAreWell_2 T) ((fun v : Int32 => (T.2.2.2.1.toInt - v.toInt).toNat) 0 + 1) 0) := by
    refine itv_ends (itr_ends (lX3_sittersAreWell_2 T) (fun v : Int32 => True) (fun v : Int32 => (T.2.2.2.1.toInt - v.toInt).toNat) ?_ _ _ trivial (Nat.lt_succ_self _))
    intro a b h0 h
    unfold lX3_sittersAreWell_2 at h
    repeat' split at h
    all_goals first | (cases h; done) | (cases h; exact ⟨trivial, rk_ge (by assumption)⟩) | (cases h; exact ⟨trivial, rk_gt (by assumption)⟩)
  refine loopW (lX3_sittersAreWell_2 T) (fun v : Int32 => True) (fun v : Int32 => ∀ ls, lv_has ls 3 [(0, .ref h), (1, .int v)] → W p l e rmX3_sittersAreWell s m args below meth c s.heap [] 0 0 Q (F0 m 2 ls [])) (fun r8 : Int32 ⊕ Int32 => Sum.elim (fun r9 : Int32 => ∀ ls, lv_has ls 3 [(0, .ref h), (1, .int r9)] → W p l e rmX3_sittersAreWell s m args below meth c s.heap [] 0 0 Q (F0 m 40 ls [])) (fun q9 : Int32 => ∀ (pc : Nat) ls, decode cX3_sittersAreWell pc = .ok (.ireturn, 1) → narrow (.boolean) (.int q9) = .int q9 → W p l e rmX3_sittersAreWell s m args below meth c s.heap [] 0 0 Q (F0 m pc ls [.int q9])) r8) ?_ (fun _ _ _ _ => trivial) _ 0 (itv (.inl 0) (lX3_sittersAreWell_2 T) ((fun v : Int32 => (T.2.2.2.1.toInt - v.toInt).toNat) 0 + 1) 0) trivial hE_2 ?_ ls (lv_sub hl [1, 0] rfl)
  · intro v _ kb kx ls hl
    refine lv_iload_n hx hb dX3_sittersAreWell_2 rfl (lv_at hl 1 rfl) ?_
    refine lv_aload_n hx hb dX3_sittersAreWell_3 rfl (lv_at hl 0 rfl) ?_
    refine va_get (D := D) (ci := 4) (v := .int T.2.2.2.1) (C := RX3) (T := TX3) (N := 8) hx hb hts q1 hown hK hP 0 rfl rfl 3 (by decide) q0 (fun _ h9 => h9) rfl dX3_sittersAreWell_4 ?_
    refine lv_icmp_ge (tgt := 40) hx hb dX3_sittersAreWell_7 (by decide) (fun c_7 => ?_) (fun c_7 => ?_)
    · exact kx (.inl v) (by rw [lX3_sittersAreWell_2, if_pos c_7]) ls (lv_sub hl [0, 1] rfl)
    · refine lv_aload_n hx hb dX3_sittersAreWell_10 rfl (lv_at hl 0 rfl) ?_
      refine lv_iload_n hx hb dX3_sittersAreWell_11 rfl (lv_at hl 1 rfl) ?_
      refine lv_iconst (v := 2) hx hb dX3_sittersAreWell_12 (by decide) ?_
      refine fRV (As := [.int v, .int 2]) (rest := []) (st' := [.int (fX3_ofSitter T v 2)]) ⟨hx, hb, hml, hown, hts⟩ (kX3_ofSitter l D cI cC cT h a b T v 2) (cwV 2 hts gX3_sittersAreWell_X3_ofSitter rfl rfl rfl (by decide +kernel) ⟨Nat.le_of_ble_eq_true rfl, Nat.le_of_ble_eq_true rfl⟩) hP hK [0, 1, 2] rfl 0 (ci := 4) rfl rfl rfl rfl hl.1 rfl rfl (Nat.le_of_ble_eq_true rfl) ⟨Nat.zero_le _, Nat.zero_le _⟩ dX3_sittersAreWell_13 ?_
      refine lv_istore_n (lv' := [(2, .int (fX3_ofSitter T v 2)), (0, .ref h), (1, .int v)]) hx hb dX3_sittersAreWell_16 rfl hl (by decide) rfl (fun ls hl => ?_)
      refine lv_iload_n hx hb dX3_sittersAreWell_17 rfl (lv_at hl 0 rfl) ?_
      refine lv_iconst (v := (-1)) hx hb dX3_sittersAreWell_18 (by decide) ?_
      refine lv_icmp_eq (tgt := 34) hx hb dX3_sittersAreWell_19 (by decide) (fun c_19 => ?_) (fun c_19 => ?_)
      · refine lv_iinc (v := (v + 1)) (lv' := [(1, .int (v + 1)), (2, .int (fX3_ofSitter T v 2)), (0, .ref h)]) hx hb dX3_sittersAreWell_34 hl (k := 2) rfl rfl (by decide) rfl (fun ls hl => ?_)
        refine lv_goto (tgt := 2) hx hb dX3_sittersAreWell_37 (by decide) ?_
        exact kb (v + 1) (by rw [lX3_sittersAreWell_2, if_neg c_7, if_pos c_19]) ls (lv_sub hl [2, 0] rfl)
      · refine lv_aload_n hx hb dX3_sittersAreWell_22 rfl (lv_at hl 1 rfl) ?_
        refine lv_iload_n hx hb dX3_sittersAreWell_23 rfl (lv_at hl 0 rfl) ?_
        refine lv_iconst (v := 5) hx hb dX3_sittersAreWell_24 (by decide) ?_
        refine fRV (As := [.int (fX3_ofSitter T v 2), .int 5]) (rest := []) (st' := [.int (fX3_ofStool T (fX3_ofSitter T v 2) 5)]) ⟨hx, hb, hml, hown, hts⟩ (kX3_ofStool l D cI cC cT h a b T (fX3_ofSitter T v 2) 5) (cwV 2 hts gX3_sittersAreWell_X3_ofStool rfl rfl rfl (by decide +kernel) ⟨Nat.le_of_ble_eq_true rfl, Nat.le_of_ble_eq_true rfl⟩) hP hK [0, 1, 2] rfl 0 (ci := 4) rfl rfl rfl rfl hl.1 rfl rfl (Nat.le_of_ble_eq_true rfl) ⟨Nat.zero_le _, Nat.zero_le _⟩ dX3_sittersAreWell_25 ?_
        refine lv_iload_n hx hb dX3_sittersAreWell_28 rfl (lv_at hl 2 rfl) ?_
        refine lv_icmp_eq (tgt := 34) hx hb dX3_sittersAreWell_29 (by decide) (fun c_29 => ?_) (fun c_29 => ?_)
        · refine lv_iinc (v := (v + 1)) (lv' := [(1, .int (v + 1)), (2, .int (fX3_ofSitter T v 2)), (0, .ref h)]) hx hb dX3_sittersAreWell_34 hl (k := 2) rfl rfl (by decide) rfl (fun ls hl => ?_)
          refine lv_goto (tgt := 2) hx hb dX3_sittersAreWell_37 (by decide) ?_
          exact kb (v + 1) (by rw [lX3_sittersAreWell_2, if_neg c_7, if_neg c_19, if_pos c_29]) ls (lv_sub hl [2, 0] rfl)
        · refine lv_iconst (v := 0) hx hb dX3_sittersAreWell_32 (by decide) ?_
          exact kx (.inr 0) (by rw [lX3_sittersAreWell_2, if_neg c_7, if_neg c_19, if_neg c_29]) 33 ls dX3_sittersAreWell_33 rfl
  · cases hy_2 : (itv (.inl 0) (lX3_sittersAreWell_2 T) ((fun v : Int32 => (T.2.2.2.1.toInt - v.toInt).toNat) 0 + 1) 0) with
    | inl y9 =>
      show ∀ ls, lv_has ls 3 [(0, .ref h), (1, .int y9)] → W p l e rmX3_sittersAreWell s m args below meth c s.heap [] 0 0 Q (F0 m 40 ls [])
      intro ls hl
      refine lv_iconst (v := 1) hx hb dX3_sittersAreWell_40 (by decide) ?_
      exact rRi hx hb hr hlk hQ (by rw [fX3_sittersAreWell, hy_2, Sum.elim_inl]) rfl dX3_sittersAreWell_41
    | inr q9 =>
      intro pc ls hd9 hn9
      exact rRi hx hb hr hlk hQ (by rw [fX3_sittersAreWell, hy_2, Sum.elim_inr]) hn9 hd9
