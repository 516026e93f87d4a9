def fX3_hasStool (T : TV) (x1 : Int32) : Int32 := (if x1 < 0 then 0 else (if T.2.2.1 ≤ x1 then 0 else 1))
abbrev rmX3_hasStool : Room := { frames := 0, cells := 0, slots := 0, locals := 0 }
set_option maxHeartbeats 4000000 in
set_option maxRecDepth 100000 in
theorem kX3_hasStool (l : Launch) (D : va_G) (cI cC cT : ClassId) (h a b : Nat) (T : TV) (x1 : Int32)  : mR l D (TY cI cC cT) yX3_hasStool wsX3_hasStool rmX3_hasStool [.ref h, .int x1] (w3 cI h a b T) (some (.int (fX3_hasStool T x1))) := by
  refine mR.ofW (cc := cX3_hasStool) (maxL := 2) (ret := (some .boolean)) (by decide) rfl (Nat.le_of_ble_eq_true rfl) ?_
  intro p e s m args below meth c Q ls hx hb hml hr hlk hts hown hP hK hl hQ
  have hown : s.vm.findClass RX3 = some m.cls := hown
  have hP : va_P D vwCl [(h, .inr (4, [.ref a, .ref b, .int T.2.2.1, .int T.2.2.2.1, .int T.2.2.2.2.1, .int T.2.2.2.2.2.1, .int T.2.2.2.2.2.2.1, .int T.2.2.2.2.2.2.2])), (a, .inl (cI, 72, .inl T.1)), (b, .inl (cI, 36, .inl T.2.1))] s.heap := hP
  have hl : lv_has ls 2 [(0, .ref h), (1, .int x1)] := hl
  have q0 := hts (Cond.fieldLink RX3 18 "TavernStools$Tavern" "stools" "I") (by decide +kernel)
  have q1 : ∀ w ∈ u_ws RX3 TX3 8, w ∈ wsX3_hasStool := by decide +kernel
  refine lv_iload_n hx hb dX3_hasStool_0 rfl (lv_at hl 1 rfl) ?_
  refine lv_if_lt (tgt := 16) hx hb dX3_hasStool_1 (by decide) (fun c_1 => ?_) (fun c_1 => ?_)
  · refine lv_iconst (v := 0) hx hb dX3_hasStool_16 (by decide) ?_
    exact rRi hx hb hr hlk hQ (by rw [fX3_hasStool, if_pos c_1]) rfl dX3_hasStool_17
  · refine lv_iload_n hx hb dX3_hasStool_4 rfl (lv_at hl 1 rfl) ?_
    refine lv_aload_n hx hb dX3_hasStool_5 rfl (lv_at hl 0 rfl) ?_
    refine va_get (D := D) (ci := 4) (v := .int T.2.2.1) (C := RX3) (T := TX3) (N := 8) hx hb hts q1 hown hK hP 0 rfl rfl 2 (by decide) q0 (fun _ h9 => h9) rfl dX3_hasStool_6 ?_
    refine lv_icmp_ge (tgt := 16) hx hb dX3_hasStool_9 (by decide) (fun c_9 => ?_) (fun c_9 => ?_)
    · refine lv_iconst (v := 0) hx hb dX3_hasStool_16 (by decide) ?_
      exact rRi hx hb hr hlk hQ (by rw [fX3_hasStool, if_neg c_1, if_pos c_9]) rfl dX3_hasStool_17
    · refine lv_iconst (v := 1) hx hb dX3_hasStool_12 (by decide) ?_
      refine lv_goto (tgt := 17) hx hb dX3_hasStool_13 (by decide) ?_
      exact rRi hx hb hr hlk hQ (by rw [fX3_hasStool, if_neg c_1, if_neg c_9]) rfl dX3_hasStool_17
theorem zX3_hasStool (T : TV) (x1 : Int32) : (fX3_hasStool T x1) = 0 ∨ (fX3_hasStool T x1) = 1 := by
  unfold fX3_hasStool
  repeat' split
  all_goals first | exact Or.inl rfl | exact Or.inr rfl
def fX3_hasSitter (T : TV) (x1 : Int32) : Int32 := (if x1 < 0 then 0 else (if T.2.2.2.1 ≤ x1 then 0 else 1))
abbrev rmX3_hasSitter : Room := { frames := 0, cells := 0, slots := 0, locals := 0 }
set_option maxHeartbeats 4000000 in
set_option maxRecDepth 100000 in
theorem kX3_hasSitter (l : Launch) (D : va_G) (cI cC cT : ClassId) (h a b : Nat) (T : TV) (x1 : Int32)  : mR l D (TY cI cC cT) yX3_hasSitter wsX3_hasSitter rmX3_hasSitter [.ref h, .int x1] (w3 cI h a b T) (some (.int (fX3_hasSitter T x1))) := by
  refine mR.ofW (cc := cX3_hasSitter) (maxL := 2) (ret := (some .boolean)) (by decide) rfl (Nat.le_of_ble_eq_true rfl) ?_
  intro p e s m args below meth c Q ls hx hb hml hr hlk hts hown hP hK hl hQ
  have hown : s.vm.findClass RX3 = some m.cls := hown
  have hP : va_P D vwCl [(h, .inr (4, [.ref a, .ref b, .int T.2.2.1, .int T.2.2.2.1, .int T.2.2.2.2.1, .int T.2.2.2.2.2.1, .int T.2.2.2.2.2.2.1, .int T.2.2.2.2.2.2.2])), (a, .inl (cI, 72, .inl T.1)), (b, .inl (cI, 36, .inl T.2.1))] s.heap := hP
  have hl : lv_has ls 2 [(0, .ref h), (1, .int x1)] := hl
  have q0 := hts (Cond.fieldLink RX3 22 "TavernStools$Tavern" "sitters" "I") (by decide +kernel)
  have q1 : ∀ w ∈ u_ws RX3 TX3 8, w ∈ wsX3_hasSitter := by decide +kernel
  refine lv_iload_n hx hb dX3_hasSitter_0 rfl (lv_at hl 1 rfl) ?_
  refine lv_if_lt (tgt := 16) hx hb dX3_hasSitter_1 (by decide) (fun c_1 => ?_) (fun c_1 => ?_)
  · refine lv_iconst (v := 0) hx hb dX3_hasSitter_16 (by decide) ?_
    exact rRi hx hb hr hlk hQ (by rw [fX3_hasSitter, if_pos c_1]) rfl dX3_hasSitter_17
  · refine lv_iload_n hx hb dX3_hasSitter_4 rfl (lv_at hl 1 rfl) ?_
    refine lv_aload_n hx hb dX3_hasSitter_5 rfl (lv_at hl 0 rfl) ?_
    refine va_get (D := D) (ci := 4) (v := .int T.2.2.2.1) (C := RX3) (T := TX3) (N := 8) hx hb hts q1 hown hK hP 0 rfl rfl 3 (by decide) q0 (fun _ h9 => h9) rfl dX3_hasSitter_6 ?_
    refine lv_icmp_ge (tgt := 16) hx hb dX3_hasSitter_9 (by decide) (fun c_9 => ?_) (fun c_9 => ?_)
    · refine lv_iconst (v := 0) hx hb dX3_hasSitter_16 (by decide) ?_
      exact rRi hx hb hr hlk hQ (by rw [fX3_hasSitter, if_neg c_1, if_pos c_9]) rfl dX3_hasSitter_17
    · refine lv_iconst (v := 1) hx hb dX3_hasSitter_12 (by decide) ?_
      refine lv_goto (tgt := 17) hx hb dX3_hasSitter_13 (by decide) ?_
      exact rRi hx hb hr hlk hQ (by rw [fX3_hasSitter, if_neg c_1, if_neg c_9]) rfl dX3_hasSitter_17
theorem zX3_hasSitter (T : TV) (x1 : Int32) : (fX3_hasSitter T x1) = 0 ∨ (fX3_hasSitter T x1) = 1 := by
  unfold fX3_hasSitter
  repeat' split
  all_goals first | exact Or.inl rfl | exact Or.inr rfl
def fX3_ofStool (T : TV) (x1 : Int32) (x2 : Int32) : Int32 := (if x1 < 0 then (-1) else (if 12 ≤ x1 then (-1) else (if x2 < 0 then (-1) else (if x2 < 6 then (T.1 (((x1 * 6) + x2)).toNatClampNeg) else (-1)))))
abbrev rmX3_ofStool : Room := { frames := 0, cells := 0, slots := 0, locals := 0 }
set_option maxHeartbeats 4000000 in
set_option maxRecDepth 100000 in
theorem kX3_ofStool (l : Launch) (D : va_G) (cI cC cT : ClassId) (h a b : Nat) (T : TV) (x1 : Int32) (x2 : Int32)  : mR l D (TY cI cC cT) yX3_ofStool wsX3_ofStool rmX3_ofStool [.ref h, .int x1, .int x2] (w3 cI h a b T) (some (.int (fX3_ofStool T x1 x2))) := by
  refine mR.ofW (cc := cX3_ofStool) (maxL := 3) (ret := (some .int)) (by decide) rfl (Nat.le_of_ble_eq_true rfl) ?_
  intro p e s m args below meth c Q ls hx hb hml hr hlk hts hown hP hK hl hQ
  have hown : s.vm.findClass RX3 = some m.cls := hown
  have hP : va_P D vwCl [(h, .inr (4, [.ref a, .ref b, .int T.2.2.1, .int T.2.2.2.1, .int T.2.2.2.2.1, .int T.2.2.2.2.2.1, .int T.2.2.2.2.2.2.1, .int T.2.2.2.2.2.2.2])), (a, .inl (cI, 72, .inl T.1)), (b, .inl (cI, 36, .inl T.2.1))] s.heap := hP
  have hl : lv_has ls 3 [(0, .ref h), (1, .int x1), (2, .int x2)] := hl
  have q0 := hts (Cond.fieldLink RX3 11 "TavernStools$Tavern" "stoolRow" "[I") (by decide +kernel)
  have q1 : ∀ w ∈ u_ws RX3 TX3 8, w ∈ wsX3_ofStool := by decide +kernel
  refine lv_iload_n hx hb dX3_ofStool_0 rfl (lv_at hl 1 rfl) ?_
  refine lv_if_lt (tgt := 20) hx hb dX3_ofStool_1 (by decide) (fun c_1 => ?_) (fun c_1 => ?_)
  · refine lv_iconst (v := (-1)) hx hb dX3_ofStool_20 (by decide) ?_
    exact rRi hx hb hr hlk hQ (by rw [fX3_ofStool, if_pos c_1]) rfl dX3_ofStool_21
  · refine lv_iload_n hx hb dX3_ofStool_4 rfl (lv_at hl 1 rfl) ?_
    refine lv_bipush (v := 12) hx hb dX3_ofStool_5 (by decide) ?_
    refine lv_icmp_ge (tgt := 20) hx hb dX3_ofStool_7 (by decide) (fun c_7 => ?_) (fun c_7 => ?_)
    · refine lv_iconst (v := (-1)) hx hb dX3_ofStool_20 (by decide) ?_
      exact rRi hx hb hr hlk hQ (by rw [fX3_ofStool, if_neg c_1, if_pos c_7]) rfl dX3_ofStool_21
    · refine lv_iload_n hx hb dX3_ofStool_10 rfl (lv_at hl 2 rfl) ?_
      refine lv_if_lt (tgt := 20) hx hb dX3_ofStool_11 (by decide) (fun c_11 => ?_) (fun c_11 => ?_)
      · refine lv_iconst (v := (-1)) hx hb dX3_ofStool_20 (by decide) ?_
        exact rRi hx hb hr hlk hQ (by rw [fX3_ofStool, if_neg c_1, if_neg c_7, if_pos c_11]) rfl dX3_ofStool_21
      · refine lv_iload_n hx hb dX3_ofStool_14 rfl (lv_at hl 2 rfl) ?_
        refine lv_bipush (v := 6) hx hb dX3_ofStool_15 (by decide) ?_
        refine lv_icmp_lt (tgt := 22) hx hb dX3_ofStool_17 (by decide) (fun c_17 => ?_) (fun c_17 => ?_)
        · refine lv_aload_n hx hb dX3_ofStool_22 rfl (lv_at hl 0 rfl) ?_
          refine va_get (D := D) (ci := 4) (v := .ref a) (C := RX3) (T := TX3) (N := 8) hx hb hts q1 hown hK hP 0 rfl rfl 0 (by decide) q0 (fun _ h9 => h9) rfl dX3_ofStool_23 ?_
          refine lv_iload_n hx hb dX3_ofStool_26 rfl (lv_at hl 1 rfl) ?_
          refine lv_bipush (v := 6) hx hb dX3_ofStool_27 (by decide) ?_
          refine lv_imul hx hb dX3_ofStool_29 ?_
          refine lv_iload_n hx hb dX3_ofStool_30 rfl (lv_at hl 2 rfl) ?_
          refine lv_iadd hx hb dX3_ofStool_31 ?_
          refine va_iald hx hb hK hP 1 0 rfl rfl (ix_st c_1 c_7 c_11 c_17) dX3_ofStool_32 ?_
          exact rRi hx hb hr hlk hQ (by rw [fX3_ofStool, if_neg c_1, if_neg c_7, if_neg c_11, if_pos c_17]) rfl dX3_ofStool_33
        · refine lv_iconst (v := (-1)) hx hb dX3_ofStool_20 (by decide) ?_
          exact rRi hx hb hr hlk hQ (by rw [fX3_ofStool, if_neg c_1, if_neg c_7, if_neg c_11, if_neg c_17]) rfl dX3_ofStool_21
def fX3_ofSitter (T : TV) (x1 : Int32) (x2 : Int32) : Int32 := (if x1 < 0 then (-1) else (if 12 ≤ x1 then (-1) else (if x2 < 0 then (-1) else (if x2 < 3 then (T.2.1 (((x1 * 3) + x2)).toNatClampNeg) else (-1)))))
abbrev rmX3_ofSitter : Room := { frames := 0, cells := 0, slots := 0, locals := 0 }
set_option maxHeartbeats 4000000 in
set_option maxRecDepth 100000 in
theorem kX3_ofSitter (l : Launch) (D : va_G) (cI cC cT : ClassId) (h a b : Nat) (T : TV) (x1 : Int32) (x2 : Int32)  : mR l D (TY cI cC cT) yX3_ofSitter wsX3_ofSitter rmX3_ofSitter [.ref h, .int x1, .int x2] (w3 cI h a b T) (some (.int (fX3_ofSitter T x1 x2))) := by
  refine mR.ofW (cc := cX3_ofSitter) (maxL := 3) (ret := (some .int)) (by decide) rfl (Nat.le_of_ble_eq_true rfl) ?_
  intro p e s m args below meth c Q ls hx hb hml hr hlk hts hown hP hK hl hQ
  have hown : s.vm.findClass RX3 = some m.cls := hown
  have hP : va_P D vwCl [(h, .inr (4, [.ref a, .ref b, .int T.2.2.1, .int T.2.2.2.1, .int T.2.2.2.2.1, .int T.2.2.2.2.2.1, .int T.2.2.2.2.2.2.1, .int T.2.2.2.2.2.2.2])), (a, .inl (cI, 72, .inl T.1)), (b, .inl (cI, 36, .inl T.2.1))] s.heap := hP
  have hl : lv_has ls 3 [(0, .ref h), (1, .int x1), (2, .int x2)] := hl
  have q0 := hts (Cond.fieldLink RX3 15 "TavernStools$Tavern" "sitterRow" "[I") (by decide +kernel)
  have q1 : ∀ w ∈ u_ws RX3 TX3 8, w ∈ wsX3_ofSitter := by decide +kernel
  refine lv_iload_n hx hb dX3_ofSitter_0 rfl (lv_at hl 1 rfl) ?_
  refine lv_if_lt (tgt := 19) hx hb dX3_ofSitter_1 (by decide) (fun c_1 => ?_) (fun c_1 => ?_)
  · refine lv_iconst (v := (-1)) hx hb dX3_ofSitter_19 (by decide) ?_
    exact rRi hx hb hr hlk hQ (by rw [fX3_ofSitter, if_pos c_1]) rfl dX3_ofSitter_20
  · refine lv_iload_n hx hb dX3_ofSitter_4 rfl (lv_at hl 1 rfl) ?_
    refine lv_bipush (v := 12) hx hb dX3_ofSitter_5 (by decide) ?_
    refine lv_icmp_ge (tgt := 19) hx hb dX3_ofSitter_7 (by decide) (fun c_7 => ?_) (fun c_7 => ?_)
    · refine lv_iconst (v := (-1)) hx hb dX3_ofSitter_19 (by decide) ?_
      exact rRi hx hb hr hlk hQ (by rw [fX3_ofSitter, if_neg c_1, if_pos c_7]) rfl dX3_ofSitter_20
    · refine lv_iload_n hx hb dX3_ofSitter_10 rfl (lv_at hl 2 rfl) ?_
      refine lv_if_lt (tgt := 19) hx hb dX3_ofSitter_11 (by decide) (fun c_11 => ?_) (fun c_11 => ?_)
      · refine lv_iconst (v := (-1)) hx hb dX3_ofSitter_19 (by decide) ?_
        exact rRi hx hb hr hlk hQ (by rw [fX3_ofSitter, if_neg c_1, if_neg c_7, if_pos c_11]) rfl dX3_ofSitter_20
      · refine lv_iload_n hx hb dX3_ofSitter_14 rfl (lv_at hl 2 rfl) ?_
        refine lv_iconst (v := 3) hx hb dX3_ofSitter_15 (by decide) ?_
        refine lv_icmp_lt (tgt := 21) hx hb dX3_ofSitter_16 (by decide) (fun c_16 => ?_) (fun c_16 => ?_)
        · refine lv_aload_n hx hb dX3_ofSitter_21 rfl (lv_at hl 0 rfl) ?_
          refine va_get (D := D) (ci := 4) (v := .ref b) (C := RX3) (T := TX3) (N := 8) hx hb hts q1 hown hK hP 0 rfl rfl 1 (by decide) q0 (fun _ h9 => h9) rfl dX3_ofSitter_22 ?_
          refine lv_iload_n hx hb dX3_ofSitter_25 rfl (lv_at hl 1 rfl) ?_
          refine lv_iconst (v := 3) hx hb dX3_ofSitter_26 (by decide) ?_
          refine lv_imul hx hb dX3_ofSitter_27 ?_
          refine lv_iload_n hx hb dX3_ofSitter_28 rfl (lv_at hl 2 rfl) ?_
          refine lv_iadd hx hb dX3_ofSitter_29 ?_
          refine va_iald hx hb hK hP 2 0 rfl rfl sorry dX3_ofSitter_30 ?_
          exact rRi hx hb hr hlk hQ (by rw [fX3_ofSitter, if_neg c_1, if_neg c_7, if_neg c_11, if_pos c_16]) rfl dX3_ofSitter_31
        · refine lv_iconst (v := (-1)) hx hb dX3_ofSitter_19 (by decide) ?_
          exact rRi hx hb hr hlk hQ (by rw [fX3_ofSitter, if_neg c_1, if_neg c_7, if_neg c_11, if_neg c_16]) rfl dX3_ofSitter_20
def fX3_setOfStool (T : TV) (x1 : Int32) (x2 : Int32) (x3 : Int32) : TV := (if x1 < 0 then T else (if 12 ≤ x1 then T else (if x2 < 0 then T else (if 6 ≤ x2 then T else ((upd T.1 (((x1 * 6) + x2)).toNatClampNeg x3), T.2.1, T.2.2.1, T.2.2.2.1, T.2.2.2.2.1, T.2.2.2.2.2.1, T.2.2.2.2.2.2.1, T.2.2.2.2.2.2.2)))))
abbrev rmX3_setOfStool : Room := { frames := 0, cells := 0, slots := 0, locals := 0 }
set_option maxHeartbeats 4000000 in
set_option maxRecDepth 100000 in
theorem kX3_setOfStool (l : Launch) (D : va_G) (cI cC cT : ClassId) (h a b : Nat) (T : TV) (x1 : Int32) (x2 : Int32) (x3 : Int32)  : mU l D (TY cI cC cT) yX3_setOfStool wsX3_setOfStool rmX3_setOfStool [.ref h, .int x1, .int x2, .int x3] (w3 cI h a b T) none (w3 cI h a b (fX3_setOfStool T x1 x2 x3)) := by
  refine mU.ofW (cc := cX3_setOfStool) (maxL := 4) (ret := none) (by decide) rfl (Nat.le_of_ble_eq_true rfl) ?_
  intro p e s m args below meth c Q ls A hx hb hml hr hlk hts hown hP hK hD hS hl hQ
  have hown : s.vm.findClass RX3 = some m.cls := hown
  have hP : va_P D vwCl [(h, .inr (4, [.ref a, .ref b, .int T.2.2.1, .int T.2.2.2.1, .int T.2.2.2.2.1, .int T.2.2.2.2.2.1, .int T.2.2.2.2.2.2.1, .int T.2.2.2.2.2.2.2])), (a, .inl (cI, 72, .inl T.1)), (b, .inl (cI, 36, .inl T.2.1))] s.heap := hP
  have hD : va_D A [(h, .inr (4, [.ref a, .ref b, .int T.2.2.1, .int T.2.2.2.1, .int T.2.2.2.2.1, .int T.2.2.2.2.2.1, .int T.2.2.2.2.2.2.1, .int T.2.2.2.2.2.2.2])), (a, .inl (cI, 72, .inl T.1)), (b, .inl (cI, 36, .inl T.2.1))] := hD
  have hl : lv_has ls 4 [(0, .ref h), (1, .int x1), (2, .int x2), (3, .int x3)] := hl
  have q0 := hts (Cond.fieldLink RX3 11 "TavernStools$Tavern" "stoolRow" "[I") (by decide +kernel)
  have q1 : ∀ w ∈ u_ws RX3 TX3 8, w ∈ wsX3_setOfStool := by decide +kernel
  generalize hHe : s.heap = H at hP ⊢
  have hS : va_S A s.heap H [] := hHe ▸ hS
  generalize hLe : ([] : List Loc) = locs at hS ⊢
  refine lv_iload_n hx hb dX3_setOfStool_0 rfl (lv_at hl 1 rfl) ?_
  refine lv_if_lt (tgt := 32) hx hb dX3_setOfStool_1 (by decide) (fun c_1 => ?_) (fun c_1 => ?_)
  · have e9 : fX3_setOfStool T x1 x2 x3 = T := by rw [fX3_setOfStool, if_pos c_1]
    exact rUv hx hb hr hlk hQ hP hS (congrArg (fun z9 : TV => w3 cI h a b z9) e9).symm dX3_setOfStool_32
  · refine lv_iload_n hx hb dX3_setOfStool_4 rfl (lv_at hl 1 rfl) ?_
    refine lv_bipush (v := 12) hx hb dX3_setOfStool_5 (by decide) ?_
    refine lv_icmp_ge (tgt := 32) hx hb dX3_setOfStool_7 (by decide) (fun c_7 => ?_) (fun c_7 => ?_)
    · have e9 : fX3_setOfStool T x1 x2 x3 = T := by rw [fX3_setOfStool, if_neg c_1, if_pos c_7]
      exact rUv hx hb hr hlk hQ hP hS (congrArg (fun z9 : TV => w3 cI h a b z9) e9).symm dX3_setOfStool_32
    · refine lv_iload_n hx hb dX3_setOfStool_10 rfl (lv_at hl 2 rfl) ?_
      refine lv_if_lt (tgt := 32) hx hb dX3_setOfStool_11 (by decide) (fun c_11 => ?_) (fun c_11 => ?_)
      · have e9 : fX3_setOfStool T x1 x2 x3 = T := by rw [fX3_setOfStool, if_neg c_1, if_neg c_7, if_pos c_11]
        exact rUv hx hb hr hlk hQ hP hS (congrArg (fun z9 : TV => w3 cI h a b z9) e9).symm dX3_setOfStool_32
      · refine lv_iload_n hx hb dX3_setOfStool_14 rfl (lv_at hl 2 rfl) ?_
        refine lv_bipush (v := 6) hx hb dX3_setOfStool_15 (by decide) ?_
        refine lv_icmp_ge (tgt := 32) hx hb dX3_setOfStool_17 (by decide) (fun c_17 => ?_) (fun c_17 => ?_)
        · have e9 : fX3_setOfStool T x1 x2 x3 = T := by rw [fX3_setOfStool, if_neg c_1, if_neg c_7, if_neg c_11, if_pos c_17]
          exact rUv hx hb hr hlk hQ hP hS (congrArg (fun z9 : TV => w3 cI h a b z9) e9).symm dX3_setOfStool_32
        · refine lv_aload_n hx hb dX3_setOfStool_20 rfl (lv_at hl 0 rfl) ?_
          refine va_get (D := D) (ci := 4) (v := .ref a) (C := RX3) (T := TX3) (N := 8) hx hb hts q1 hown hK hP 0 rfl rfl 0 (by decide) q0 (fun _ h9 => h9) rfl dX3_setOfStool_21 ?_
          refine lv_iload_n hx hb dX3_setOfStool_24 rfl (lv_at hl 1 rfl) ?_
          refine lv_bipush (v := 6) hx hb dX3_setOfStool_25 (by decide) ?_
          refine lv_imul hx hb dX3_setOfStool_27 ?_
          refine lv_iload_n hx hb dX3_setOfStool_28 rfl (lv_at hl 2 rfl) ?_
          refine lv_iadd hx hb dX3_setOfStool_29 ?_
          refine lv_iload_n hx hb dX3_setOfStool_30 rfl (lv_at hl 3 rfl) ?_
          refine va_iast hx hb hK hP hD hS 1 0 rfl rfl (ix_st c_1 c_7 c_11 (lt_of_nle c_17)) dX3_setOfStool_31 (fun H locs hP hD hS => ?_)
          have hP : va_P D vwCl [(h, .inr (4, [.ref a, .ref b, .int T.2.2.1, .int T.2.2.2.1, .int T.2.2.2.2.1, .int T.2.2.2.2.2.1, .int T.2.2.2.2.2.2.1, .int T.2.2.2.2.2.2.2])), (a, .inl (cI, 72, .inl (upd T.1 (((x1 * 6) + x2)).toNatClampNeg x3))), (b, .inl (cI, 36, .inl T.2.1))] H := hP
          have hD : va_D A [(h, .inr (4, [.ref a, .ref b, .int T.2.2.1, .int T.2.2.2.1, .int T.2.2.2.2.1, .int T.2.2.2.2.2.1, .int T.2.2.2.2.2.2.1, .int T.2.2.2.2.2.2.2])), (a, .inl (cI, 72, .inl (upd T.1 (((x1 * 6) + x2)).toNatClampNeg x3))), (b, .inl (cI, 36, .inl T.2.1))] := hD
          have e9 : fX3_setOfStool T x1 x2 x3 = ((upd T.1 (((x1 * 6) + x2)).toNatClampNeg x3), T.2.1, T.2.2.1, T.2.2.2.1, T.2.2.2.2.1, T.2.2.2.2.2.1, T.2.2.2.2.2.2.1, T.2.2.2.2.2.2.2) := by rw [fX3_setOfStool, if_neg c_1, if_neg c_7, if_neg c_11, if_neg c_17]
          exact rUv hx hb hr hlk hQ hP hS (congrArg (fun z9 : TV => w3 cI h a b z9) e9).symm dX3_setOfStool_32
def fX3_setOfSitter (T : TV) (x1 : Int32) (x2 : Int32) (x3 : Int32) : TV := (if x1 < 0 then T else (if 12 ≤ x1 then T else (if x2 < 0 then T else (if 3 ≤ x2 then T else (T.1, (upd T.2.1 (((x1 * 3) + x2)).toNatClampNeg x3), T.2.2.1, T.2.2.2.1, T.2.2.2.2.1, T.2.2.2.2.2.1, T.2.2.2.2.2.2.1, T.2.2.2.2.2.2.2)))))
abbrev rmX3_setOfSitter : Room := { frames := 0, cells := 0, slots := 0, locals := 0 }
set_option maxHeartbeats 4000000 in
set_option maxRecDepth 100000 in
theorem kX3_setOfSitter (l : Launch) (D : va_G) (cI cC cT : ClassId) (h a b : Nat) (T : TV) (x1 : Int32) (x2 : Int32) (x3 : Int32)  : mU l D (TY cI cC cT) yX3_setOfSitter wsX3_setOfSitter rmX3_setOfSitter [.ref h, .int x1, .int x2, .int x3] (w3 cI h a b T) none (w3 cI h a b (fX3_setOfSitter T x1 x2 x3)) := by
  refine mU.ofW (cc := cX3_setOfSitter) (maxL := 4) (ret := none) (by decide) rfl (Nat.le_of_ble_eq_true rfl) ?_
  intro p e s m args below meth c Q ls A hx hb hml hr hlk hts hown hP hK hD hS hl hQ
  have hown : s.vm.findClass RX3 = some m.cls := hown
  have hP : va_P D vwCl [(h, .inr (4, [.ref a, .ref b, .int T.2.2.1, .int T.2.2.2.1, .int T.2.2.2.2.1, .int T.2.2.2.2.2.1, .int T.2.2.2.2.2.2.1, .int T.2.2.2.2.2.2.2])), (a, .inl (cI, 72, .inl T.1)), (b, .inl (cI, 36, .inl T.2.1))] s.heap := hP
  have hD : va_D A [(h, .inr (4, [.ref a, .ref b, .int T.2.2.1, .int T.2.2.2.1, .int T.2.2.2.2.1, .int T.2.2.2.2.2.1, .int T.2.2.2.2.2.2.1, .int T.2.2.2.2.2.2.2])), (a, .inl (cI, 72, .inl T.1)), (b, .inl (cI, 36, .inl T.2.1))] := hD
  have hl : lv_has ls 4 [(0, .ref h), (1, .int x1), (2, .int x2), (3, .int x3)] := hl
  have q0 := hts (Cond.fieldLink RX3 15 "TavernStools$Tavern" "sitterRow" "[I") (by decide +kernel)
  have q1 : ∀ w ∈ u_ws RX3 TX3 8, w ∈ wsX3_setOfSitter := by decide +kernel
  generalize hHe : s.heap = H at hP ⊢
  have hS : va_S A s.heap H [] := hHe ▸ hS
  generalize hLe : ([] : List Loc) = locs at hS ⊢
  refine lv_iload_n hx hb dX3_setOfSitter_0 rfl (lv_at hl 1 rfl) ?_
  refine lv_if_lt (tgt := 30) hx hb dX3_setOfSitter_1 (by decide) (fun c_1 => ?_) (fun c_1 => ?_)
  · have e9 : fX3_setOfSitter T x1 x2 x3 = T := by rw [fX3_setOfSitter, if_pos c_1]
    exact rUv hx hb hr hlk hQ hP hS (congrArg (fun z9 : TV => w3 cI h a b z9) e9).symm dX3_setOfSitter_30
  · refine lv_iload_n hx hb dX3_setOfSitter_4 rfl (lv_at hl 1 rfl) ?_
    refine lv_bipush (v := 12) hx hb dX3_setOfSitter_5 (by decide) ?_
    refine lv_icmp_ge (tgt := 30) hx hb dX3_setOfSitter_7 (by decide) (fun c_7 => ?_) (fun c_7 => ?_)
    · have e9 : fX3_setOfSitter T x1 x2 x3 = T := by rw [fX3_setOfSitter, if_neg c_1, if_pos c_7]
      exact rUv hx hb hr hlk hQ hP hS (congrArg (fun z9 : TV => w3 cI h a b z9) e9).symm dX3_setOfSitter_30
    · refine lv_iload_n hx hb dX3_setOfSitter_10 rfl (lv_at hl 2 rfl) ?_
      refine lv_if_lt (tgt := 30) hx hb dX3_setOfSitter_11 (by decide) (fun c_11 => ?_) (fun c_11 => ?_)
      · have e9 : fX3_setOfSitter T x1 x2 x3 = T := by rw [fX3_setOfSitter, if_neg c_1, if_neg c_7, if_pos c_11]
        exact rUv hx hb hr hlk hQ hP hS (congrArg (fun z9 : TV => w3 cI h a b z9) e9).symm dX3_setOfSitter_30
      · refine lv_iload_n hx hb dX3_setOfSitter_14 rfl (lv_at hl 2 rfl) ?_
        refine lv_iconst (v := 3) hx hb dX3_setOfSitter_15 (by decide) ?_
        refine lv_icmp_ge (tgt := 30) hx hb dX3_setOfSitter_16 (by decide) (fun c_16 => ?_) (fun c_16 => ?_)
        · have e9 : fX3_setOfSitter T x1 x2 x3 = T := by rw [fX3_setOfSitter, if_neg c_1, if_neg c_7, if_neg c_11, if_pos c_16]
          exact rUv hx hb hr hlk hQ hP hS (congrArg (fun z9 : TV => w3 cI h a b z9) e9).symm dX3_setOfSitter_30
        · refine lv_aload_n hx hb dX3_setOfSitter_19 rfl (lv_at hl 0 rfl) ?_
          refine va_get (D := D) (ci := 4) (v := .ref b) (C := RX3) (T := TX3) (N := 8) hx hb hts q1 hown hK hP 0 rfl rfl 1 (by decide) q0 (fun _ h9 => h9) rfl dX3_setOfSitter_20 ?_
          refine lv_iload_n hx hb dX3_setOfSitter_23 rfl (lv_at hl 1 rfl) ?_
          refine lv_iconst (v := 3) hx hb dX3_setOfSitter_24 (by decide) ?_
          refine lv_imul hx hb dX3_setOfSitter_25 ?_
          refine lv_iload_n hx hb dX3_setOfSitter_26 rfl (lv_at hl 2 rfl) ?_
          refine lv_iadd hx hb dX3_setOfSitter_27 ?_
          refine lv_iload_n hx hb dX3_setOfSitter_28 rfl (lv_at hl 3 rfl) ?_
          refine va_iast hx hb hK hP hD hS 2 0 rfl rfl sorry dX3_setOfSitter_29 (fun H locs hP hD hS => ?_)
          have hP : va_P D vwCl [(h, .inr (4, [.ref a, .ref b, .int T.2.2.1, .int T.2.2.2.1, .int T.2.2.2.2.1, .int T.2.2.2.2.2.1, .int T.2.2.2.2.2.2.1, .int T.2.2.2.2.2.2.2])), (a, .inl (cI, 72, .inl T.1)), (b, .inl (cI, 36, .inl (upd T.2.1 (((x1 * 3) + x2)).toNatClampNeg x3)))] H := hP
          have hD : va_D A [(h, .inr (4, [.ref a, .ref b, .int T.2.2.1, .int T.2.2.2.1, .int T.2.2.2.2.1, .int T.2.2.2.2.2.1, .int T.2.2.2.2.2.2.1, .int T.2.2.2.2.2.2.2])), (a, .inl (cI, 72, .inl T.1)), (b, .inl (cI, 36, .inl (upd T.2.1 (((x1 * 3) + x2)).toNatClampNeg x3)))] := hD
          have e9 : fX3_setOfSitter T x1 x2 x3 = (T.1, (upd T.2.1 (((x1 * 3) + x2)).toNatClampNeg x3), T.2.2.1, T.2.2.2.1, T.2.2.2.2.1, T.2.2.2.2.2.1, T.2.2.2.2.2.2.1, T.2.2.2.2.2.2.2) := by rw [fX3_setOfSitter, if_neg c_1, if_neg c_7, if_neg c_11, if_neg c_16]
          exact rUv hx hb hr hlk hQ hP hS (congrArg (fun z9 : TV => w3 cI h a b z9) e9).symm dX3_setOfSitter_30
def fX3_addStool (T : TV) (x1 : Int32) (x2 : Int32) (x3 : Int32) (x4 : Int32) : (Int32 × TV) := (if x4 = 0 then (T.2.2.1, ((fX3_setOfStool (fX3_setOfStool (fX3_setOfStool (fX3_setOfStool (fX3_setOfStool (fX3_setOfStool T T.2.2.1 0 x1) T.2.2.1 1 x2) T.2.2.1 2 x3) T.2.2.1 3 0) T.2.2.1 4 0) T.2.2.1 5 (-1)).1, (fX3_setOfStool (fX3_setOfStool (fX3_setOfStool (fX3_setOfStool (fX3_setOfStool (fX3_setOfStool T T.2.2.1 0 x1) T.2.2.1 1 x2) T.2.2.1 2 x3) T.2.2.1 3 0) T.2.2.1 4 0) T.2.2.1 5 (-1)).2.1, ((fX3_setOfStool (fX3_setOfStool (fX3_setOfStool (fX3_setOfStool (fX3_setOfStool (fX3_setOfStool T T.2.2.1 0 x1) T.2.2.1 1 x2) T.2.2.1 2 x3) T.2.2.1 3 0) T.2.2.1 4 0) T.2.2.1 5 (-1)).2.2.1 + 1), (fX3_setOfStool (fX3_setOfStool (fX3_setOfStool (fX3_setOfStool (fX3_setOfStool (fX3_setOfStool T T.2.2.1 0 x1) T.2.2.1 1 x2) T.2.2.1 2 x3) T.2.2.1 3 0) T.2.2.1 4 0) T.2.2.1 5 (-1)).2.2.2.1, (fX3_setOfStool (fX3_setOfStool (fX3_setOfStool (fX3_setOfStool (fX3_setOfStool (fX3_setOfStool T T.2.2.1 0 x1) T.2.2.1 1 x2) T.2.2.1 2 x3) T.2.2.1 3 0) T.2.2.1 4 0) T.2.2.1 5 (-1)).2.2.2.2.1, (fX3_setOfStool (fX3_setOfStool (fX3_setOfStool (fX3_setOfStool (fX3_setOfStool (fX3_setOfStool T T.2.2.1 0 x1) T.2.2.1 1 x2) T.2.2.1 2 x3) T.2.2.1 3 0) T.2.2.1 4 0) T.2.2.1 5 (-1)).2.2.2.2.2.1, (fX3_setOfStool (fX3_setOfStool (fX3_setOfStool (fX3_setOfStool (fX3_setOfStool (fX3_setOfStool T T.2.2.1 0 x1) T.2.2.1 1 x2) T.2.2.1 2 x3) T.2.2.1 3 0) T.2.2.1 4 0) T.2.2.1 5 (-1)).2.2.2.2.2.2.1, (fX3_setOfStool (fX3_setOfStool (fX3_setOfStool (fX3_setOfStool (fX3_setOfStool (fX3_setOfStool T T.2.2.1 0 x1) T.2.2.1 1 x2) T.2.2.1 2 x3) T.2.2.1 3 0) T.2.2.1 4 0) T.2.2.1 5 (-1)).2.2.2.2.2.2.2)) else (T.2.2.1, ((fX3_setOfStool (fX3_setOfStool (fX3_setOfStool (fX3_setOfStool (fX3_setOfStool (fX3_setOfStool T T.2.2.1 0 x1) T.2.2.1 1 x2) T.2.2.1 2 x3) T.2.2.1 3 1) T.2.2.1 4 0) T.2.2.1 5 (-1)).1, (fX3_setOfStool (fX3_setOfStool (fX3_setOfStool (fX3_setOfStool (fX3_setOfStool (fX3_setOfStool T T.2.2.1 0 x1) T.2.2.1 1 x2) T.2.2.1 2 x3) T.2.2.1 3 1) T.2.2.1 4 0) T.2.2.1 5 (-1)).2.1, ((fX3_setOfStool (fX3_setOfStool (fX3_setOfStool (fX3_setOfStool (fX3_setOfStool (fX3_setOfStool T T.2.2.1 0 x1) T.2.2.1 1 x2) T.2.2.1 2 x3) T.2.2.1 3 1) T.2.2.1 4 0) T.2.2.1 5 (-1)).2.2.1 + 1), (fX3_setOfStool (fX3_setOfStool (fX3_setOfStool (fX3_setOfStool (fX3_setOfStool (fX3_setOfStool T T.2.2.1 0 x1) T.2.2.1 1 x2) T.2.2.1 2 x3) T.2.2.1 3 1) T.2.2.1 4 0) T.2.2.1 5 (-1)).2.2.2.1, (fX3_setOfStool (fX3_setOfStool (fX3_setOfStool (fX3_setOfStool (fX3_setOfStool (fX3_setOfStool T T.2.2.1 0 x1) T.2.2.1 1 x2) T.2.2.1 2 x3) T.2.2.1 3 1) T.2.2.1 4 0) T.2.2.1 5 (-1)).2.2.2.2.1, (fX3_setOfStool (fX3_setOfStool (fX3_setOfStool (fX3_setOfStool (fX3_setOfStool (fX3_setOfStool T T.2.2.1 0 x1) T.2.2.1 1 x2) T.2.2.1 2 x3) T.2.2.1 3 1) T.2.2.1 4 0) T.2.2.1 5 (-1)).2.2.2.2.2.1, (fX3_setOfStool (fX3_setOfStool (fX3_setOfStool (fX3_setOfStool (fX3_setOfStool (fX3_setOfStool T T.2.2.1 0 x1) T.2.2.1 1 x2) T.2.2.1 2 x3) T.2.2.1 3 1) T.2.2.1 4 0) T.2.2.1 5 (-1)).2.2.2.2.2.2.1, (fX3_setOfStool (fX3_setOfStool (fX3_setOfStool (fX3_setOfStool (fX3_setOfStool (fX3_setOfStool T T.2.2.1 0 x1) T.2.2.1 1 x2) T.2.2.1 2 x3) T.2.2.1 3 1) T.2.2.1 4 0) T.2.2.1 5 (-1)).2.2.2.2.2.2.2)))
abbrev rmX3_addStool : Room := { frames := 1, cells := 0, slots := 0, locals := 23 }
set_option maxHeartbeats 4000000 in
set_option maxRecDepth 100000 in
theorem kX3_addStool (l : Launch) (D : va_G) (cI cC cT : ClassId) (h a b : Nat) (T : TV) (x1 : Int32) (x2 : Int32) (x3 : Int32) (x4 : Int32)  : mU l D (TY cI cC cT) yX3_addStool wsX3_addStool rmX3_addStool [.ref h, .int x1, .int x2, .int x3, .int x4] (w3 cI h a b T) (some (.int (fX3_addStool T x1 x2 x3 x4).1)) (w3 cI h a b (fX3_addStool T x1 x2 x3 x4).2) := by
  refine mU.ofW (cc := cX3_addStool) (maxL := 6) (ret := (some .int)) (by decide) rfl (Nat.le_of_ble_eq_true rfl) ?_
  intro p e s m args below meth c Q ls A hx hb hml hr hlk hts hown hP hK hD hS hl hQ
  have hown : s.vm.findClass RX3 = some m.cls := hown
  have hP : va_P D vwCl [(h, .inr (4, [.ref a, .ref b, .int T.2.2.1, .int T.2.2.2.1, .int T.2.2.2.2.1, .int T.2.2.2.2.2.1, .int T.2.2.2.2.2.2.1, .int T.2.2.2.2.2.2.2])), (a, .inl (cI, 72, .inl T.1)), (b, .inl (cI, 36, .inl T.2.1))] s.heap := hP
  have hD : va_D A [(h, .inr (4, [.ref a, .ref b, .int T.2.2.1, .int T.2.2.2.1, .int T.2.2.2.2.1, .int T.2.2.2.2.2.1, .int T.2.2.2.2.2.2.1, .int T.2.2.2.2.2.2.2])), (a, .inl (cI, 72, .inl T.1)), (b, .inl (cI, 36, .inl T.2.1))] := hD
  have hl : lv_has ls 6 [(0, .ref h), (1, .int x1), (2, .int x2), (3, .int x3), (4, .int x4)] := hl
  have q0 := hts (Cond.fieldLink RX3 18 "TavernStools$Tavern" "stools" "I") (by decide +kernel)
  have q1 : ∀ w ∈ u_ws RX3 TX3 8, w ∈ wsX3_addStool := by decide +kernel
  generalize hHe : s.heap = H at hP ⊢
  have hS : va_S A s.heap H [] := hHe ▸ hS
  generalize hLe : ([] : List Loc) = locs at hS ⊢
  refine lv_aload_n hx hb dX3_addStool_0 rfl (lv_at hl 0 rfl) ?_
  refine va_get (D := D) (ci := 4) (v := .int T.2.2.1) (C := RX3) (T := TX3) (N := 8) hx hb hts q1 hown hK hP 0 rfl rfl 2 (by decide) q0 (fun _ h9 => h9) rfl dX3_addStool_1 ?_
  refine lv_istore (lv' := [(5, .int T.2.2.1), (0, .ref h), (1, .int x1), (2, .int x2), (3, .int x3), (4, .int x4)]) hx hb dX3_addStool_4 hl (by decide) rfl (fun ls hl => ?_)
  refine lv_aload_n hx hb dX3_addStool_6 rfl (lv_at hl 1 rfl) ?_
  refine lv_iload hx hb dX3_addStool_7 (lv_at hl 0 rfl) ?_
  refine lv_iconst (v := 0) hx hb dX3_addStool_9 (by decide) ?_
  refine lv_iload_n hx hb dX3_addStool_10 rfl (lv_at hl 2 rfl) ?_
  obtain ⟨n1, en1⟩ : ∃ z9, z9 = (fX3_setOfStool T T.2.2.1 0 x1) := ⟨_, rfl⟩
  have k9 := (kX3_setOfStool l D cI cC cT h a b T T.2.2.1 0 x1)
  rw [← en1] at k9
  refine fUV (As := [.int T.2.2.1, .int 0, .int x1]) (rest := []) (st' := []) ⟨hx, hb, hml, hown, hts⟩ k9 (cwV 3 hts gX3_addStool_X3_setOfStool rfl rfl rfl (by decide +kernel) ⟨Nat.le_of_ble_eq_true rfl, Nat.le_of_ble_eq_true rfl⟩) hP hK hD hS [0, 1, 2] rfl rfl (by decide) rfl [(h, .inr (4, [.ref a, .ref b, .int n1.2.2.1, .int n1.2.2.2.1, .int n1.2.2.2.2.1, .int n1.2.2.2.2.2.1, .int n1.2.2.2.2.2.2.1, .int n1.2.2.2.2.2.2.2])), (a, .inl (cI, 72, .inl n1.1)), (b, .inl (cI, 36, .inl n1.2.1))] rfl rfl 0 (ci := 4) rfl rfl rfl rfl hl.1 rfl rfl (Nat.le_of_ble_eq_true rfl) ⟨Nat.zero_le _, Nat.zero_le _⟩ dX3_addStool_11 (fun H locs hP hD hS => ?_)
  refine lv_aload_n hx hb dX3_addStool_14 rfl (lv_at hl 1 rfl) ?_
  refine lv_iload hx hb dX3_addStool_15 (lv_at hl 0 rfl) ?_
  refine lv_iconst (v := 1) hx hb dX3_addStool_17 (by decide) ?_
  refine lv_iload_n hx hb dX3_addStool_18 rfl (lv_at hl 3 rfl) ?_
  obtain ⟨n2, en2⟩ : ∃ z9, z9 = (fX3_setOfStool n1 T.2.2.1 1 x2) := ⟨_, rfl⟩
  have k9 := (kX3_setOfStool l D cI cC cT h a b n1 T.2.2.1 1 x2)
  rw [← en2] at k9
  refine fUV (As := [.int T.2.2.1, .int 1, .int x2]) (rest := []) (st' := []) ⟨hx, hb, hml, hown, hts⟩ k9 (cwV 3 hts gX3_addStool_X3_setOfStool rfl rfl rfl (by decide +kernel) ⟨Nat.le_of_ble_eq_true rfl, Nat.le_of_ble_eq_true rfl⟩) hP hK hD hS [0, 1, 2] rfl rfl (by decide) rfl [(h, .inr (4, [.ref a, .ref b, .int n2.2.2.1, .int n2.2.2.2.1, .int n2.2.2.2.2.1, .int n2.2.2.2.2.2.1, .int n2.2.2.2.2.2.2.1, .int n2.2.2.2.2.2.2.2])), (a, .inl (cI, 72, .inl n2.1)), (b, .inl (cI, 36, .inl n2.2.1))] rfl rfl 0 (ci := 4) rfl rfl rfl rfl hl.1 rfl rfl (Nat.le_of_ble_eq_true rfl) ⟨Nat.zero_le _, Nat.zero_le _⟩ dX3_addStool_19 (fun H locs hP hD hS => ?_)
  refine lv_aload_n hx hb dX3_addStool_22 rfl (lv_at hl 1 rfl) ?_
  refine lv_iload hx hb dX3_addStool_23 (lv_at hl 0 rfl) ?_
  refine lv_iconst (v := 2) hx hb dX3_addStool_25 (by decide) ?_
  refine lv_iload_n hx hb dX3_addStool_26 rfl (lv_at hl 4 rfl) ?_
  obtain ⟨n3, en3⟩ : ∃ z9, z9 = (fX3_setOfStool n2 T.2.2.1 2 x3) := ⟨_, rfl⟩
  have k9 := (kX3_setOfStool l D cI cC cT h a b n2 T.2.2.1 2 x3)
  rw [← en3] at k9
  refine fUV (As := [.int T.2.2.1, .int 2, .int x3]) (rest := []) (st' := []) ⟨hx, hb, hml, hown, hts⟩ k9 (cwV 3 hts gX3_addStool_X3_setOfStool rfl rfl rfl (by decide +kernel) ⟨Nat.le_of_ble_eq_true rfl, Nat.le_of_ble_eq_true rfl⟩) hP hK hD hS [0, 1, 2] rfl rfl (by decide) rfl [(h, .inr (4, [.ref a, .ref b, .int n3.2.2.1, .int n3.2.2.2.1, .int n3.2.2.2.2.1, .int n3.2.2.2.2.2.1, .int n3.2.2.2.2.2.2.1, .int n3.2.2.2.2.2.2.2])), (a, .inl (cI, 72, .inl n3.1)), (b, .inl (cI, 36, .inl n3.2.1))] rfl rfl 0 (ci := 4) rfl rfl rfl rfl hl.1 rfl rfl (Nat.le_of_ble_eq_true rfl) ⟨Nat.zero_le _, Nat.zero_le _⟩ dX3_addStool_27 (fun H locs hP hD hS => ?_)
  refine lv_aload_n hx hb dX3_addStool_30 rfl (lv_at hl 1 rfl) ?_
  refine lv_iload hx hb dX3_addStool_31 (lv_at hl 0 rfl) ?_
  refine lv_iconst (v := 3) hx hb dX3_addStool_33 (by decide) ?_
  refine lv_iload hx hb dX3_addStool_34 (lv_at hl 5 rfl) ?_
  refine lv_if_eq (tgt := 43) hx hb dX3_addStool_36 (by decide) (fun c_36 => ?_) (fun c_36 => ?_)
  · refine lv_iconst (v := 0) hx hb dX3_addStool_43 (by decide) ?_
    obtain ⟨n4, en4⟩ : ∃ z9, z9 = (fX3_setOfStool n3 T.2.2.1 3 0) := ⟨_, rfl⟩
    have k9 := (kX3_setOfStool l D cI cC cT h a b n3 T.2.2.1 3 0)
    rw [← en4] at k9
    refine fUV (As := [.int T.2.2.1, .int 3, .int 0]) (rest := []) (st' := []) ⟨hx, hb, hml, hown, hts⟩ k9 (cwV 3 hts gX3_addStool_X3_setOfStool rfl rfl rfl (by decide +kernel) ⟨Nat.le_of_ble_eq_true rfl, Nat.le_of_ble_eq_true rfl⟩) hP hK hD hS [0, 1, 2] rfl rfl (by decide) rfl [(h, .inr (4, [.ref a, .ref b, .int n4.2.2.1, .int n4.2.2.2.1, .int n4.2.2.2.2.1, .int n4.2.2.2.2.2.1, .int n4.2.2.2.2.2.2.1, .int n4.2.2.2.2.2.2.2])), (a, .inl (cI, 72, .inl n4.1)), (b, .inl (cI, 36, .inl n4.2.1))] rfl rfl 0 (ci := 4) rfl rfl rfl rfl hl.1 rfl rfl (Nat.le_of_ble_eq_true rfl) ⟨Nat.zero_le _, Nat.zero_le _⟩ dX3_addStool_44 (fun H locs hP hD hS => ?_)
    refine lv_aload_n hx hb dX3_addStool_47 rfl (lv_at hl 1 rfl) ?_
    refine lv_iload hx hb dX3_addStool_48 (lv_at hl 0 rfl) ?_
    refine lv_iconst (v := 4) hx hb dX3_addStool_50 (by decide) ?_
    refine lv_iconst (v := 0) hx hb dX3_addStool_51 (by decide) ?_
    obtain ⟨n5, en5⟩ : ∃ z9, z9 = (fX3_setOfStool n4 T.2.2.1 4 0) := ⟨_, rfl⟩
    have k9 := (kX3_setOfStool l D cI cC cT h a b n4 T.2.2.1 4 0)
    rw [← en5] at k9
    refine fUV (As := [.int T.2.2.1, .int 4, .int 0]) (rest := []) (st' := []) ⟨hx, hb, hml, hown, hts⟩ k9 (cwV 3 hts gX3_addStool_X3_setOfStool rfl rfl rfl (by decide +kernel) ⟨Nat.le_of_ble_eq_true rfl, Nat.le_of_ble_eq_true rfl⟩) hP hK hD hS [0, 1, 2] rfl rfl (by decide) rfl [(h, .inr (4, [.ref a, .ref b, .int n5.2.2.1, .int n5.2.2.2.1, .int n5.2.2.2.2.1, .int n5.2.2.2.2.2.1, .int n5.2.2.2.2.2.2.1, .int n5.2.2.2.2.2.2.2])), (a, .inl (cI, 72, .inl n5.1)), (b, .inl (cI, 36, .inl n5.2.1))] rfl rfl 0 (ci := 4) rfl rfl rfl rfl hl.1 rfl rfl (Nat.le_of_ble_eq_true rfl) ⟨Nat.zero_le _, Nat.zero_le _⟩ dX3_addStool_52 (fun H locs hP hD hS => ?_)
    refine lv_aload_n hx hb dX3_addStool_55 rfl (lv_at hl 1 rfl) ?_
    refine lv_iload hx hb dX3_addStool_56 (lv_at hl 0 rfl) ?_
    refine lv_iconst (v := 5) hx hb dX3_addStool_58 (by decide) ?_
    refine lv_iconst (v := (-1)) hx hb dX3_addStool_59 (by decide) ?_
    obtain ⟨n6, en6⟩ : ∃ z9, z9 = (fX3_setOfStool n5 T.2.2.1 5 (-1)) := ⟨_, rfl⟩
    have k9 := (kX3_setOfStool l D cI cC cT h a b n5 T.2.2.1 5 (-1))
    rw [← en6] at k9
    refine fUV (As := [.int T.2.2.1, .int 5, .int (-1)]) (rest := []) (st' := []) ⟨hx, hb, hml, hown, hts⟩ k9 (cwV 3 hts gX3_addStool_X3_setOfStool rfl rfl rfl (by decide +kernel) ⟨Nat.le_of_ble_eq_true rfl, Nat.le_of_ble_eq_true rfl⟩) hP hK hD hS [0, 1, 2] rfl rfl (by decide) rfl [(h, .inr (4, [.ref a, .ref b, .int n6.2.2.1, .int n6.2.2.2.1, .int n6.2.2.2.2.1, .int n6.2.2.2.2.2.1, .int n6.2.2.2.2.2.2.1, .int n6.2.2.2.2.2.2.2])), (a, .inl (cI, 72, .inl n6.1)), (b, .inl (cI, 36, .inl n6.2.1))] rfl rfl 0 (ci := 4) rfl rfl rfl rfl hl.1 rfl rfl (Nat.le_of_ble_eq_true rfl) ⟨Nat.zero_le _, Nat.zero_le _⟩ dX3_addStool_60 (fun H locs hP hD hS => ?_)
    refine lv_aload_n hx hb dX3_addStool_63 rfl (lv_at hl 1 rfl) ?_
    refine lv_dup hx hb dX3_addStool_64 rfl ?_
    refine va_get (D := D) (ci := 4) (v := .int n6.2.2.1) (C := RX3) (T := TX3) (N := 8) hx hb hts q1 hown hK hP 0 rfl rfl 2 (by decide) q0 (fun _ h9 => h9) rfl dX3_addStool_65 ?_
    refine lv_iconst (v := 1) hx hb dX3_addStool_68 (by decide) ?_
    refine lv_iadd hx hb dX3_addStool_69 ?_
    refine va_put (D := D) (ci := 4) (v := .int (n6.2.2.1 + 1)) (ty := .int) (C := RX3) (T := TX3) (N := 8) hx hb hts q1 tyX3 tyX3_ok nmX3 hown hK hP hD hS 0 rfl rfl 2 (by decide) q0 (fun _ h9 => h9) rfl (by decide +kernel) rfl rfl (Nat.le_of_ble_eq_true rfl) dX3_addStool_70 (fun H locs hP hD hS => ?_)
    have hP : va_P D vwCl [(h, .inr (4, [.ref a, .ref b, .int (n6.2.2.1 + 1), .int n6.2.2.2.1, .int n6.2.2.2.2.1, .int n6.2.2.2.2.2.1, .int n6.2.2.2.2.2.2.1, .int n6.2.2.2.2.2.2.2])), (a, .inl (cI, 72, .inl n6.1)), (b, .inl (cI, 36, .inl n6.2.1))] H := hP
    have hD : va_D A [(h, .inr (4, [.ref a, .ref b, .int (n6.2.2.1 + 1), .int n6.2.2.2.1, .int n6.2.2.2.2.1, .int n6.2.2.2.2.2.1, .int n6.2.2.2.2.2.2.1, .int n6.2.2.2.2.2.2.2])), (a, .inl (cI, 72, .inl n6.1)), (b, .inl (cI, 36, .inl n6.2.1))] := hD
    refine lv_iload hx hb dX3_addStool_73 (lv_at hl 0 rfl) ?_
    have e9 : fX3_addStool T x1 x2 x3 x4 = (T.2.2.1, (n6.1, n6.2.1, (n6.2.2.1 + 1), n6.2.2.2.1, n6.2.2.2.2.1, n6.2.2.2.2.2.1, n6.2.2.2.2.2.2.1, n6.2.2.2.2.2.2.2)) := by rw [fX3_addStool, ← en1, ← en2, ← en3, if_pos c_36, ← en4, ← en5, ← en6]
    exact rUi hx hb hr hlk hQ hP hS (by rw [e9]) (congrArg (fun z9 : (Int32 × TV) => w3 cI h a b z9.2) e9).symm rfl dX3_addStool_75
  · refine lv_iconst (v := 1) hx hb dX3_addStool_39 (by decide) ?_
    refine lv_goto (tgt := 44) hx hb dX3_addStool_40 (by decide) ?_
    obtain ⟨n7, en7⟩ : ∃ z9, z9 = (fX3_setOfStool n3 T.2.2.1 3 1) := ⟨_, rfl⟩
    have k9 := (kX3_setOfStool l D cI cC cT h a b n3 T.2.2.1 3 1)
    rw [← en7] at k9
    refine fUV (As := [.int T.2.2.1, .int 3, .int 1]) (rest := []) (st' := []) ⟨hx, hb, hml, hown, hts⟩ k9 (cwV 3 hts gX3_addStool_X3_setOfStool rfl rfl rfl (by decide +kernel) ⟨Nat.le_of_ble_eq_true rfl, Nat.le_of_ble_eq_true rfl⟩) hP hK hD hS [0, 1, 2] rfl rfl (by decide) rfl [(h, .inr (4, [.ref a, .ref b, .int n7.2.2.1, .int n7.2.2.2.1, .int n7.2.2.2.2.1, .int n7.2.2.2.2.2.1, .int n7.2.2.2.2.2.2.1, .int n7.2.2.2.2.2.2.2])), (a, .inl (cI, 72, .inl n7.1)), (b, .inl (cI, 36, .inl n7.2.1))] rfl rfl 0 (ci := 4) rfl rfl rfl rfl hl.1 rfl rfl (Nat.le_of_ble_eq_true rfl) ⟨Nat.zero_le _, Nat.zero_le _⟩ dX3_addStool_44 (fun H locs hP hD hS => ?_)
    refine lv_aload_n hx hb dX3_addStool_47 rfl (lv_at hl 1 rfl) ?_
    refine lv_iload hx hb dX3_addStool_48 (lv_at hl 0 rfl) ?_
    refine lv_iconst (v := 4) hx hb dX3_addStool_50 (by decide) ?_
    refine lv_iconst (v := 0) hx hb dX3_addStool_51 (by decide) ?_
    obtain ⟨n8, en8⟩ : ∃ z9, z9 = (fX3_setOfStool n7 T.2.2.1 4 0) := ⟨_, rfl⟩
    have k9 := (kX3_setOfStool l D cI cC cT h a b n7 T.2.2.1 4 0)
    rw [← en8] at k9
    refine fUV (As := [.int T.2.2.1, .int 4, .int 0]) (rest := []) (st' := []) ⟨hx, hb, hml, hown, hts⟩ k9 (cwV 3 hts gX3_addStool_X3_setOfStool rfl rfl rfl (by decide +kernel) ⟨Nat.le_of_ble_eq_true rfl, Nat.le_of_ble_eq_true rfl⟩) hP hK hD hS [0, 1, 2] rfl rfl (by decide) rfl [(h, .inr (4, [.ref a, .ref b, .int n8.2.2.1, .int n8.2.2.2.1, .int n8.2.2.2.2.1, .int n8.2.2.2.2.2.1, .int n8.2.2.2.2.2.2.1, .int n8.2.2.2.2.2.2.2])), (a, .inl (cI, 72, .inl n8.1)), (b, .inl (cI, 36, .inl n8.2.1))] rfl rfl 0 (ci := 4) rfl rfl rfl rfl hl.1 rfl rfl (Nat.le_of_ble_eq_true rfl) ⟨Nat.zero_le _, Nat.zero_le _⟩ dX3_addStool_52 (fun H locs hP hD hS => ?_)
    refine lv_aload_n hx hb dX3_addStool_55 rfl (lv_at hl 1 rfl) ?_
    refine lv_iload hx hb dX3_addStool_56 (lv_at hl 0 rfl) ?_
    refine lv_iconst (v := 5) hx hb dX3_addStool_58 (by decide) ?_
    refine lv_iconst (v := (-1)) hx hb dX3_addStool_59 (by decide) ?_
    obtain ⟨n9, en9⟩ : ∃ z9, z9 = (fX3_setOfStool n8 T.2.2.1 5 (-1)) := ⟨_, rfl⟩
    have k9 := (kX3_setOfStool l D cI cC cT h a b n8 T.2.2.1 5 (-1))
    rw [← en9] at k9
    refine fUV (As := [.int T.2.2.1, .int 5, .int (-1)]) (rest := []) (st' := []) ⟨hx, hb, hml, hown, hts⟩ k9 (cwV 3 hts gX3_addStool_X3_setOfStool rfl rfl rfl (by decide +kernel) ⟨Nat.le_of_ble_eq_true rfl, Nat.le_of_ble_eq_true rfl⟩) hP hK hD hS [0, 1, 2] rfl rfl (by decide) rfl [(h, .inr (4, [.ref a, .ref b, .int n9.2.2.1, .int n9.2.2.2.1, .int n9.2.2.2.2.1, .int n9.2.2.2.2.2.1, .int n9.2.2.2.2.2.2.1, .int n9.2.2.2.2.2.2.2])), (a, .inl (cI, 72, .inl n9.1)), (b, .inl (cI, 36, .inl n9.2.1))] rfl rfl 0 (ci := 4) rfl rfl rfl rfl hl.1 rfl rfl (Nat.le_of_ble_eq_true rfl) ⟨Nat.zero_le _, Nat.zero_le _⟩ dX3_addStool_60 (fun H locs hP hD hS => ?_)
    refine lv_aload_n hx hb dX3_addStool_63 rfl (lv_at hl 1 rfl) ?_
    refine lv_dup hx hb dX3_addStool_64 rfl ?_
    refine va_get (D := D) (ci := 4) (v := .int n9.2.2.1) (C := RX3) (T := TX3) (N := 8) hx hb hts q1 hown hK hP 0 rfl rfl 2 (by decide) q0 (fun _ h9 => h9) rfl dX3_addStool_65 ?_
    refine lv_iconst (v := 1) hx hb dX3_addStool_68 (by decide) ?_
    refine lv_iadd hx hb dX3_addStool_69 ?_
    refine va_put (D := D) (ci := 4) (v := .int (n9.2.2.1 + 1)) (ty := .int) (C := RX3) (T := TX3) (N := 8) hx hb hts q1 tyX3 tyX3_ok nmX3 hown hK hP hD hS 0 rfl rfl 2 (by decide) q0 (fun _ h9 => h9) rfl (by decide +kernel) rfl rfl (Nat.le_of_ble_eq_true rfl) dX3_addStool_70 (fun H locs hP hD hS => ?_)
    have hP : va_P D vwCl [(h, .inr (4, [.ref a, .ref b, .int (n9.2.2.1 + 1), .int n9.2.2.2.1, .int n9.2.2.2.2.1, .int n9.2.2.2.2.2.1, .int n9.2.2.2.2.2.2.1, .int n9.2.2.2.2.2.2.2])), (a, .inl (cI, 72, .inl n9.1)), (b, .inl (cI, 36, .inl n9.2.1))] H := hP
    have hD : va_D A [(h, .inr (4, [.ref a, .ref b, .int (n9.2.2.1 + 1), .int n9.2.2.2.1, .int n9.2.2.2.2.1, .int n9.2.2.2.2.2.1, .int n9.2.2.2.2.2.2.1, .int n9.2.2.2.2.2.2.2])), (a, .inl (cI, 72, .inl n9.1)), (b, .inl (cI, 36, .inl n9.2.1))] := hD
    refine lv_iload hx hb dX3_addStool_73 (lv_at hl 0 rfl) ?_
    have e9 : fX3_addStool T x1 x2 x3 x4 = (T.2.2.1, (n9.1, n9.2.1, (n9.2.2.1 + 1), n9.2.2.2.1, n9.2.2.2.2.1, n9.2.2.2.2.2.1, n9.2.2.2.2.2.2.1, n9.2.2.2.2.2.2.2)) := by rw [fX3_addStool, ← en1, ← en2, ← en3, if_neg c_36, ← en7, ← en8, ← en9]
    exact rUi hx hb hr hlk hQ hP hS (by rw [e9]) (congrArg (fun z9 : (Int32 × TV) => w3 cI h a b z9.2) e9).symm rfl dX3_addStool_75
def fX3_sits (T : TV) (x1 : Int32) : Int32 := (if (fX3_ofSitter T x1 2) = (-1) then 0 else 1)
abbrev rmX3_sits : Room := { frames := 1, cells := 0, slots := 0, locals := 22 }
set_option maxHeartbeats 4000000 in
set_option maxRecDepth 100000 in
theorem kX3_sits (l : Launch) (D : va_G) (cI cC cT : ClassId) (h a b : Nat) (T : TV) (x1 : Int32)  : mR l D (TY cI cC cT) yX3_sits wsX3_sits rmX3_sits [.ref h, .int x1] (w3 cI h a b T) (some (.int (fX3_sits T x1))) := by
  refine mR.ofW (cc := cX3_sits) (maxL := 2) (ret := (some .boolean)) (by decide) rfl (Nat.le_of_ble_eq_true rfl) ?_
  intro p e s m args below meth c Q ls hx hb hml hr hlk hts hown hP hK hl hQ
  have hown : s.vm.findClass RX3 = some m.cls := hown
  have hP : va_P D vwCl [(h, .inr (4, [.ref a, .ref b, .int T.2.2.1, .int T.2.2.2.1, .int T.2.2.2.2.1, .int T.2.2.2.2.2.1, .int T.2.2.2.2.2.2.1, .int T.2.2.2.2.2.2.2])), (a, .inl (cI, 72, .inl T.1)), (b, .inl (cI, 36, .inl T.2.1))] s.heap := hP
  have hl : lv_has ls 2 [(0, .ref h), (1, .int x1)] := hl
  refine lv_aload_n hx hb dX3_sits_0 rfl (lv_at hl 0 rfl) ?_
  refine lv_iload_n hx hb dX3_sits_1 rfl (lv_at hl 1 rfl) ?_
  refine lv_iconst (v := 2) hx hb dX3_sits_2 (by decide) ?_
  refine fRV (As := [.int x1, .int 2]) (rest := []) (st' := [.int (fX3_ofSitter T x1 2)]) ⟨hx, hb, hml, hown, hts⟩ (kX3_ofSitter l D cI cC cT h a b T x1 2) (cwV 2 hts gX3_sits_X3_ofSitter rfl rfl rfl (by decide +kernel) ⟨Nat.le_of_ble_eq_true rfl, Nat.le_of_ble_eq_true rfl⟩) hP hK [0, 1, 2] rfl 0 (ci := 4) rfl rfl rfl rfl hl.1 rfl rfl (Nat.le_of_ble_eq_true rfl) ⟨Nat.zero_le _, Nat.zero_le _⟩ dX3_sits_3 ?_
  refine lv_iconst (v := (-1)) hx hb dX3_sits_6 (by decide) ?_
  refine lv_icmp_eq (tgt := 14) hx hb dX3_sits_7 (by decide) (fun c_7 => ?_) (fun c_7 => ?_)
  · refine lv_iconst (v := 0) hx hb dX3_sits_14 (by decide) ?_
    exact rRi hx hb hr hlk hQ (by rw [fX3_sits, if_pos c_7]) rfl dX3_sits_15
  · refine lv_iconst (v := 1) hx hb dX3_sits_10 (by decide) ?_
    refine lv_goto (tgt := 15) hx hb dX3_sits_11 (by decide) ?_
    exact rRi hx hb hr hlk hQ (by rw [fX3_sits, if_neg c_7]) rfl dX3_sits_15
theorem zX3_sits (T : TV) (x1 : Int32) : (fX3_sits T x1) = 0 ∨ (fX3_sits T x1) = 1 := by
  unfold fX3_sits
  repeat' split
  all_goals first | exact Or.inl rfl | exact Or.inr rfl
def fX3_maySit (T : TV) (x1 : Int32) (x2 : Int32) : Int32 := (if 0 < (fX3_ofSitter T x1 0) then 1 else (if (fX3_ofStool T x2 3) = 0 then 1 else 0))
abbrev rmX3_maySit : Room := { frames := 1, cells := 0, slots := 0, locals := 22 }
set_option maxHeartbeats 4000000 in
set_option maxRecDepth 100000 in
theorem kX3_maySit (l : Launch) (D : va_G) (cI cC cT : ClassId) (h a b : Nat) (T : TV) (x1 : Int32) (x2 : Int32)  : mR l D (TY cI cC cT) yX3_maySit wsX3_maySit rmX3_maySit [.ref h, .int x1, .int x2] (w3 cI h a b T) (some (.int (fX3_maySit T x1 x2))) := by
  refine mR.ofW (cc := cX3_maySit) (maxL := 3) (ret := (some .boolean)) (by decide) rfl (Nat.le_of_ble_eq_true rfl) ?_
  intro p e s m args below meth c Q ls hx hb hml hr hlk hts hown hP hK hl hQ
  have hown : s.vm.findClass RX3 = some m.cls := hown
  have hP : va_P D vwCl [(h, .inr (4, [.ref a, .ref b, .int T.2.2.1, .int T.2.2.2.1, .int T.2.2.2.2.1, .int T.2.2.2.2.2.1, .int T.2.2.2.2.2.2.1, .int T.2.2.2.2.2.2.2])), (a, .inl (cI, 72, .inl T.1)), (b, .inl (cI, 36, .inl T.2.1))] s.heap := hP
  have hl : lv_has ls 3 [(0, .ref h), (1, .int x1), (2, .int x2)] := hl
  refine lv_aload_n hx hb dX3_maySit_0 rfl (lv_at hl 0 rfl) ?_
  refine lv_iload_n hx hb dX3_maySit_1 rfl (lv_at hl 1 rfl) ?_
  refine lv_iconst (v := 0) hx hb dX3_maySit_2 (by decide) ?_
  refine fRV (As := [.int x1, .int 0]) (rest := []) (st' := [.int (fX3_ofSitter T x1 0)]) ⟨hx, hb, hml, hown, hts⟩ (kX3_ofSitter l D cI cC cT h a b T x1 0) (cwV 2 hts gX3_maySit_X3_ofSitter rfl rfl rfl (by decide +kernel) ⟨Nat.le_of_ble_eq_true rfl, Nat.le_of_ble_eq_true rfl⟩) hP hK [0, 1, 2] rfl 0 (ci := 4) rfl rfl rfl rfl hl.1 rfl rfl (Nat.le_of_ble_eq_true rfl) ⟨Nat.zero_le _, Nat.zero_le _⟩ dX3_maySit_3 ?_
  refine lv_if_gt (tgt := 18) hx hb dX3_maySit_6 (by decide) (fun c_6 => ?_) (fun c_6 => ?_)
  · refine lv_iconst (v := 1) hx hb dX3_maySit_18 (by decide) ?_
    refine lv_goto (tgt := 23) hx hb dX3_maySit_19 (by decide) ?_
    exact rRi hx hb hr hlk hQ (by rw [fX3_maySit, if_pos c_6]) rfl dX3_maySit_23
  · refine lv_aload_n hx hb dX3_maySit_9 rfl (lv_at hl 0 rfl) ?_
    refine lv_iload_n hx hb dX3_maySit_10 rfl (lv_at hl 2 rfl) ?_
    refine lv_iconst (v := 3) hx hb dX3_maySit_11 (by decide) ?_
    refine fRV (As := [.int x2, .int 3]) (rest := []) (st' := [.int (fX3_ofStool T x2 3)]) ⟨hx, hb, hml, hown, hts⟩ (kX3_ofStool l D cI cC cT h a b T x2 3) (cwV 2 hts gX3_maySit_X3_ofStool rfl rfl rfl (by decide +kernel) ⟨Nat.le_of_ble_eq_true rfl, Nat.le_of_ble_eq_true rfl⟩) hP hK [0, 1, 2] rfl 0 (ci := 4) rfl rfl rfl rfl hl.1 rfl rfl (Nat.le_of_ble_eq_true rfl) ⟨Nat.zero_le _, Nat.zero_le _⟩ dX3_maySit_12 ?_
    refine lv_if_ne (tgt := 22) hx hb dX3_maySit_15 (by decide) (fun c_15 => ?_) (fun c_15 => ?_)
    · refine lv_iconst (v := 0) hx hb dX3_maySit_22 (by decide) ?_
      exact rRi hx hb hr hlk hQ (by rw [fX3_maySit, if_neg c_6, if_neg c_15]) rfl dX3_maySit_23
    · refine lv_iconst (v := 1) hx hb dX3_maySit_18 (by decide) ?_
      refine lv_goto (tgt := 23) hx hb dX3_maySit_19 (by decide) ?_
      exact rRi hx hb hr hlk hQ (by rw [fX3_maySit, if_neg c_6, if_pos c_15]) rfl dX3_maySit_23
theorem zX3_maySit (T : TV) (x1 : Int32) (x2 : Int32) : (fX3_maySit T x1 x2) = 0 ∨ (fX3_maySit T x1 x2) = 1 := by
  unfold fX3_maySit
  repeat' split
  all_goals first | exact Or.inl rfl | exact Or.inr rfl
def fX3_areClashing (T : TV) (x1 : Int32) (x2 : Int32) : Int32 := (if (fX3_sits T x1) = 0 then 0 else (if (fX3_sits T x2) = 0 then 0 else (if ((fX3_ofSitter T x1 0) - (fX3_ofSitter T x2 0)) ≤ 0 then (if 0 ≤ ((fX3_ofSitter T x1 0) - (fX3_ofSitter T x2 0)) then 0 else (if ((fX3_ofStool T (fX3_ofSitter T x1 2) 0) - (fX3_ofStool T (fX3_ofSitter T x2 2) 0)) ≤ 0 then 0 else 1)) else (if ((fX3_ofStool T (fX3_ofSitter T x1 2) 0) - (fX3_ofStool T (fX3_ofSitter T x2 2) 0)) < 0 then 1 else (if 0 ≤ ((fX3_ofSitter T x1 0) - (fX3_ofSitter T x2 0)) then 0 else (if ((fX3_ofStool T (fX3_ofSitter T x1 2) 0) - (fX3_ofStool T (fX3_ofSitter T x2 2) 0)) ≤ 0 then 0 else 1))))))
abbrev rmX3_areClashing : Room := { frames := 2, cells := 0, slots := 0, locals := 43 }
set_option maxHeartbeats 4000000 in
set_option maxRecDepth 100000 in
theorem kX3_areClashing (l : Launch) (D : va_G) (cI cC cT : ClassId) (h a b : Nat) (T : TV) (x1 : Int32) (x2 : Int32)  : mR l D (TY cI cC cT) yX3_areClashing wsX3_areClashing rmX3_areClashing [.ref h, .int x1, .int x2] (w3 cI h a b T) (some (.int (fX3_areClashing T x1 x2))) := by
  refine mR.ofW (cc := cX3_areClashing) (maxL := 5) (ret := (some .boolean)) (by decide) rfl (Nat.le_of_ble_eq_true rfl) ?_
  intro p e s m args below meth c Q ls hx hb hml hr hlk hts hown hP hK hl hQ
  have hown : s.vm.findClass RX3 = some m.cls := hown
  have hP : va_P D vwCl [(h, .inr (4, [.ref a, .ref b, .int T.2.2.1, .int T.2.2.2.1, .int T.2.2.2.2.1, .int T.2.2.2.2.2.1, .int T.2.2.2.2.2.2.1, .int T.2.2.2.2.2.2.2])), (a, .inl (cI, 72, .inl T.1)), (b, .inl (cI, 36, .inl T.2.1))] s.heap := hP
  have hl : lv_has ls 5 [(0, .ref h), (1, .int x1), (2, .int x2)] := hl
  refine lv_aload_n hx hb dX3_areClashing_0 rfl (lv_at hl 0 rfl) ?_
  refine lv_iload_n hx hb dX3_areClashing_1 rfl (lv_at hl 1 rfl) ?_
  refine fRV (As := [.int x1]) (rest := []) (st' := [.int (fX3_sits T x1)]) ⟨hx, hb, hml, hown, hts⟩ (kX3_sits l D cI cC cT h a b T x1) (cwV 1 hts gX3_areClashing_X3_sits rfl rfl rfl (by decide +kernel) ⟨Nat.le_of_ble_eq_true rfl, Nat.le_of_ble_eq_true rfl⟩) hP hK [0, 1, 2] rfl 0 (ci := 4) rfl rfl rfl rfl hl.1 rfl rfl (Nat.le_of_ble_eq_true rfl) ⟨Nat.zero_le _, Nat.zero_le _⟩ dX3_areClashing_2 ?_
  refine lv_if_eq (tgt := 16) hx hb dX3_areClashing_5 (by decide) (fun c_5 => ?_) (fun c_5 => ?_)
  · refine lv_iconst (v := 0) hx hb dX3_areClashing_16 (by decide) ?_
    exact rRi hx hb hr hlk hQ (by rw [fX3_areClashing, if_pos c_5]) rfl dX3_areClashing_17
  · refine lv_aload_n hx hb dX3_areClashing_8 rfl (lv_at hl 0 rfl) ?_
    refine lv_iload_n hx hb dX3_areClashing_9 rfl (lv_at hl 2 rfl) ?_
    refine fRV (As := [.int x2]) (rest := []) (st' := [.int (fX3_sits T x2)]) ⟨hx, hb, hml, hown, hts⟩ (kX3_sits l D cI cC cT h a b T x2) (cwV 1 hts gX3_areClashing_X3_sits rfl rfl rfl (by decide +kernel) ⟨Nat.le_of_ble_eq_true rfl, Nat.le_of_ble_eq_true rfl⟩) hP hK [0, 1, 2] rfl 0 (ci := 4) rfl rfl rfl rfl hl.1 rfl rfl (Nat.le_of_ble_eq_true rfl) ⟨Nat.zero_le _, Nat.zero_le _⟩ dX3_areClashing_10 ?_
    refine lv_if_ne (tgt := 18) hx hb dX3_areClashing_13 (by decide) (fun c_13 => ?_) (fun c_13 => ?_)
    · refine lv_aload_n hx hb dX3_areClashing_18 rfl (lv_at hl 0 rfl) ?_
      refine lv_iload_n hx hb dX3_areClashing_19 rfl (lv_at hl 1 rfl) ?_
      refine lv_iconst (v := 0) hx hb dX3_areClashing_20 (by decide) ?_
      refine fRV (As := [.int x1, .int 0]) (rest := []) (st' := [.int (fX3_ofSitter T x1 0)]) ⟨hx, hb, hml, hown, hts⟩ (kX3_ofSitter l D cI cC cT h a b T x1 0) (cwV 2 hts gX3_areClashing_X3_ofSitter rfl rfl rfl (by decide +kernel) ⟨Nat.le_of_ble_eq_true rfl, Nat.le_of_ble_eq_true rfl⟩) hP hK [0, 1, 2] rfl 0 (ci := 4) rfl rfl rfl rfl hl.1 rfl rfl (Nat.le_of_ble_eq_true rfl) ⟨Nat.zero_le _, Nat.zero_le _⟩ dX3_areClashing_21 ?_
      refine lv_aload_n hx hb dX3_areClashing_24 rfl (lv_at hl 0 rfl) ?_
      refine lv_iload_n hx hb dX3_areClashing_25 rfl (lv_at hl 2 rfl) ?_
      refine lv_iconst (v := 0) hx hb dX3_areClashing_26 (by decide) ?_
      refine fRV (As := [.int x2, .int 0]) (rest := [.int (fX3_ofSitter T x1 0)]) (st' := [.int (fX3_ofSitter T x2 0), .int (fX3_ofSitter T x1 0)]) ⟨hx, hb, hml, hown, hts⟩ (kX3_ofSitter l D cI cC cT h a b T x2 0) (cwV 2 hts gX3_areClashing_X3_ofSitter rfl rfl rfl (by decide +kernel) ⟨Nat.le_of_ble_eq_true rfl, Nat.le_of_ble_eq_true rfl⟩) hP hK [0, 1, 2] rfl 0 (ci := 4) rfl rfl rfl rfl hl.1 rfl rfl (Nat.le_of_ble_eq_true rfl) ⟨Nat.zero_le _, Nat.zero_le _⟩ dX3_areClashing_27 ?_
      refine lv_isub hx hb dX3_areClashing_30 ?_
      refine lv_istore_n (lv' := [(3, .int ((fX3_ofSitter T x1 0) - (fX3_ofSitter T x2 0))), (0, .ref h), (1, .int x1), (2, .int x2)]) hx hb dX3_areClashing_31 rfl hl (by decide) rfl (fun ls hl => ?_)
      refine lv_aload_n hx hb dX3_areClashing_32 rfl (lv_at hl 1 rfl) ?_
      refine lv_aload_n hx hb dX3_areClashing_33 rfl (lv_at hl 1 rfl) ?_
      refine lv_iload_n hx hb dX3_areClashing_34 rfl (lv_at hl 2 rfl) ?_
      refine lv_iconst (v := 2) hx hb dX3_areClashing_35 (by decide) ?_
      refine fRV (As := [.int x1, .int 2]) (rest := [.ref h]) (st' := [.int (fX3_ofSitter T x1 2), .ref h]) ⟨hx, hb, hml, hown, hts⟩ (kX3_ofSitter l D cI cC cT h a b T x1 2) (cwV 2 hts gX3_areClashing_X3_ofSitter rfl rfl rfl (by decide +kernel) ⟨Nat.le_of_ble_eq_true rfl, Nat.le_of_ble_eq_true rfl⟩) hP hK [0, 1, 2] rfl 0 (ci := 4) rfl rfl rfl rfl hl.1 rfl rfl (Nat.le_of_ble_eq_true rfl) ⟨Nat.zero_le _, Nat.zero_le _⟩ dX3_areClashing_36 ?_
      refine lv_iconst (v := 0) hx hb dX3_areClashing_39 (by decide) ?_
      refine fRV (As := [.int (fX3_ofSitter T x1 2), .int 0]) (rest := []) (st' := [.int (fX3_ofStool T (fX3_ofSitter T x1 2) 0)]) ⟨hx, hb, hml, hown, hts⟩ (kX3_ofStool l D cI cC cT h a b T (fX3_ofSitter T x1 2) 0) (cwV 2 hts gX3_areClashing_X3_ofStool rfl rfl rfl (by decide +kernel) ⟨Nat.le_of_ble_eq_true rfl, Nat.le_of_ble_eq_true rfl⟩) hP hK [0, 1, 2] rfl 0 (ci := 4) rfl rfl rfl rfl hl.1 rfl rfl (Nat.le_of_ble_eq_true rfl) ⟨Nat.zero_le _, Nat.zero_le _⟩ dX3_areClashing_40 ?_
      refine lv_aload_n hx hb dX3_areClashing_43 rfl (lv_at hl 1 rfl) ?_
      refine lv_aload_n hx hb dX3_areClashing_44 rfl (lv_at hl 1 rfl) ?_
      refine lv_iload_n hx hb dX3_areClashing_45 rfl (lv_at hl 3 rfl) ?_
      refine lv_iconst (v := 2) hx hb dX3_areClashing_46 (by decide) ?_
      refine fRV (As := [.int x2, .int 2]) (rest := [.ref h, .int (fX3_ofStool T (fX3_ofSitter T x1 2) 0)]) (st' := [.int (fX3_ofSitter T x2 2), .ref h, .int (fX3_ofStool T (fX3_ofSitter T x1 2) 0)]) ⟨hx, hb, hml, hown, hts⟩ (kX3_ofSitter l D cI cC cT h a b T x2 2) (cwV 2 hts gX3_areClashing_X3_ofSitter rfl rfl rfl (by decide +kernel) ⟨Nat.le_of_ble_eq_true rfl, Nat.le_of_ble_eq_true rfl⟩) hP hK [0, 1, 2] rfl 0 (ci := 4) rfl rfl rfl rfl hl.1 rfl rfl (Nat.le_of_ble_eq_true rfl) ⟨Nat.zero_le _, Nat.zero_le _⟩ dX3_areClashing_47 ?_
      refine lv_iconst (v := 0) hx hb dX3_areClashing_50 (by decide) ?_
      refine fRV (As := [.int (fX3_ofSitter T x2 2), .int 0]) (rest := [.int (fX3_ofStool T (fX3_ofSitter T x1 2) 0)]) (st' := [.int (fX3_ofStool T (fX3_ofSitter T x2 2) 0), .int (fX3_ofStool T (fX3_ofSitter T x1 2) 0)]) ⟨hx, hb, hml, hown, hts⟩ (kX3_ofStool l D cI cC cT h a b T (fX3_ofSitter T x2 2) 0) (cwV 2 hts gX3_areClashing_X3_ofStool rfl rfl rfl (by decide +kernel) ⟨Nat.le_of_ble_eq_true rfl, Nat.le_of_ble_eq_true rfl⟩) hP hK [0, 1, 2] rfl 0 (ci := 4) rfl rfl rfl rfl hl.1 rfl rfl (Nat.le_of_ble_eq_true rfl) ⟨Nat.zero_le _, Nat.zero_le _⟩ dX3_areClashing_51 ?_
      refine lv_isub hx hb dX3_areClashing_54 ?_
      refine lv_istore (lv' := [(4, .int ((fX3_ofStool T (fX3_ofSitter T x1 2) 0) - (fX3_ofStool T (fX3_ofSitter T x2 2) 0))), (3, .int ((fX3_ofSitter T x1 0) - (fX3_ofSitter T x2 0))), (0, .ref h), (1, .int x1), (2, .int x2)]) hx hb dX3_areClashing_55 hl (by decide) rfl (fun ls hl => ?_)
      refine lv_iload_n hx hb dX3_areClashing_57 rfl (lv_at hl 1 rfl) ?_
      refine lv_if_le (tgt := 66) hx hb dX3_areClashing_58 (by decide) (fun c_58 => ?_) (fun c_58 => ?_)
      · refine lv_iload_n hx hb dX3_areClashing_66 rfl (lv_at hl 1 rfl) ?_
        refine lv_if_ge (tgt := 79) hx hb dX3_areClashing_67 (by decide) (fun c_67 => ?_) (fun c_67 => ?_)
        · refine lv_iconst (v := 0) hx hb dX3_areClashing_79 (by decide) ?_
          exact rRi hx hb hr hlk hQ (by rw [fX3_areClashing, if_neg c_5, if_neg c_13, if_pos c_58, if_pos c_67]) rfl dX3_areClashing_80
        · refine lv_iload hx hb dX3_areClashing_70 (lv_at hl 0 rfl) ?_
          refine lv_if_le (tgt := 79) hx hb dX3_areClashing_72 (by decide) (fun c_72 => ?_) (fun c_72 => ?_)
          · refine lv_iconst (v := 0) hx hb dX3_areClashing_79 (by decide) ?_
            exact rRi hx hb hr hlk hQ (by rw [fX3_areClashing, if_neg c_5, if_neg c_13, if_pos c_58, if_neg c_67, if_pos c_72]) rfl dX3_areClashing_80
          · refine lv_iconst (v := 1) hx hb dX3_areClashing_75 (by decide) ?_
            refine lv_goto (tgt := 80) hx hb dX3_areClashing_76 (by decide) ?_
            exact rRi hx hb hr hlk hQ (by rw [fX3_areClashing, if_neg c_5, if_neg c_13, if_pos c_58, if_neg c_67, if_neg c_72]) rfl dX3_areClashing_80
      · refine lv_iload hx hb dX3_areClashing_61 (lv_at hl 0 rfl) ?_
        refine lv_if_lt (tgt := 75) hx hb dX3_areClashing_63 (by decide) (fun c_63 => ?_) (fun c_63 => ?_)
        · refine lv_iconst (v := 1) hx hb dX3_areClashing_75 (by decide) ?_
          refine lv_goto (tgt := 80) hx hb dX3_areClashing_76 (by decide) ?_
          exact rRi hx hb hr hlk hQ (by rw [fX3_areClashing, if_neg c_5, if_neg c_13, if_neg c_58, if_pos c_63]) rfl dX3_areClashing_80
        · refine lv_iload_n hx hb dX3_areClashing_66 rfl (lv_at hl 1 rfl) ?_
          refine lv_if_ge (tgt := 79) hx hb dX3_areClashing_67 (by decide) (fun c_67 => ?_) (fun c_67 => ?_)
          · refine lv_iconst (v := 0) hx hb dX3_areClashing_79 (by decide) ?_
            exact rRi hx hb hr hlk hQ (by rw [fX3_areClashing, if_neg c_5, if_neg c_13, if_neg c_58, if_neg c_63, if_pos c_67]) rfl dX3_areClashing_80
          · refine lv_iload hx hb dX3_areClashing_70 (lv_at hl 0 rfl) ?_
            refine lv_if_le (tgt := 79) hx hb dX3_areClashing_72 (by decide) (fun c_72 => ?_) (fun c_72 => ?_)
            · refine lv_iconst (v := 0) hx hb dX3_areClashing_79 (by decide) ?_
              exact rRi hx hb hr hlk hQ (by rw [fX3_areClashing, if_neg c_5, if_neg c_13, if_neg c_58, if_neg c_63, if_neg c_67, if_pos c_72]) rfl dX3_areClashing_80
            · refine lv_iconst (v := 1) hx hb dX3_areClashing_75 (by decide) ?_
              refine lv_goto (tgt := 80) hx hb dX3_areClashing_76 (by decide) ?_
              exact rRi hx hb hr hlk hQ (by rw [fX3_areClashing, if_neg c_5, if_neg c_13, if_neg c_58, if_neg c_63, if_neg c_67, if_neg c_72]) rfl dX3_areClashing_80
    · refine lv_iconst (v := 0) hx hb dX3_areClashing_16 (by decide) ?_
      exact rRi hx hb hr hlk hQ (by rw [fX3_areClashing, if_neg c_5, if_pos c_13]) rfl dX3_areClashing_17
theorem zX3_areClashing (T : TV) (x1 : Int32) (x2 : Int32) : (fX3_areClashing T x1 x2) = 0 ∨ (fX3_areClashing T x1 x2) = 1 := by
  unfold fX3_areClashing
  repeat' split
  all_goals first | exact Or.inl rfl | exact Or.inr rfl
def lX3_clashesWith_4 (T : TV) (x1 : Int32) (v : (Int32 × Int32)) : (Int32 × Int32) ⊕ ((Int32 × Int32)) := (if T.2.2.2.1 ≤ v.2 then (.inr (v.1, v.2)) else (if (fX3_areClashing T x1 v.2) = 0 then (.inl (v.1, (v.2 + 1))) else (.inl ((v.1 + 1), (v.2 + 1)))))
def fX3_clashesWith (T : TV) (x1 : Int32) : Int32 := (itv (0, 0) (lX3_clashesWith_4 T x1) ((fun v : (Int32 × Int32) => (T.2.2.2.1.toInt - v.2.toInt).toNat) (0, 0) + 1) (0, 0)).1
abbrev rmX3_clashesWith : Room := { frames := 3, cells := 0, slots := 0, locals := 67 }
set_option maxHeartbeats 4000000 in
set_option maxRecDepth 100000 in
theorem kX3_clashesWith (l : Launch) (D : va_G) (cI cC cT : ClassId) (h a b : Nat) (T : TV) (x1 : Int32)  : mR l D (TY cI cC cT) yX3_clashesWith wsX3_clashesWith rmX3_clashesWith [.ref h, .int x1] (w3 cI h a b T) (some (.int (fX3_clashesWith T x1))) := by
  refine mR.ofW (cc := cX3_clashesWith) (maxL := 4) (ret := (some .int)) (by decide) rfl (Nat.le_of_ble_eq_true rfl) ?_
  intro p e s m args below meth c Q ls hx hb hml hr hlk hts hown hP hK hl hQ
  have hown : s.vm.findClass RX3 = some m.cls := hown
  have hP : va_P D vwCl [(h, .inr (4, [.ref a, .ref b, .int T.2.2.1, .int T.2.2.2.1, .int T.2.2.2.2.1, .int T.2.2.2.2.2.1, .int T.2.2.2.2.2.2.1, .int T.2.2.2.2.2.2.2])), (a, .inl (cI, 72, .inl T.1)), (b, .inl (cI, 36, .inl T.2.1))] s.heap := hP
  have hl : lv_has ls 4 [(0, .ref h), (1, .int x1)] := hl
  have q0 := hts (Cond.fieldLink RX3 22 "TavernStools$Tavern" "sitters" "I") (by decide +kernel)
  have q1 : ∀ w ∈ u_ws RX3 TX3 8, w ∈ wsX3_clashesWith := by decide +kernel
  refine lv_iconst (v := 0) hx hb dX3_clashesWith_0 (by decide) ?_
  refine lv_istore_n (lv' := [(2, .int 0), (0, .ref h), (1, .int x1)]) hx hb dX3_clashesWith_1 rfl hl (by decide) rfl (fun ls hl => ?_)
  refine lv_iconst (v := 0) hx hb dX3_clashesWith_2 (by decide) ?_
  refine lv_istore_n (lv' := [(3, .int 0), (2, .int 0), (0, .ref h), (1, .int x1)]) hx hb dX3_clashesWith_3 rfl hl (by decide) rfl (fun ls hl => ?_)
  have hE_4 : itr (lX3_clashesWith_4 T x1) ((fun v : (Int32 × Int32) => (T.2.2.2.1.toInt - v.2.toInt).toNat) (0, 0) + 1) (0, 0) = .inr (itv (0, 0) (lX3_clashesWith_4 T x1) ((fun v : (Int32 × Int32) => (T.2.2.2.1.toInt - v.2.toInt).toNat) (0, 0) + 1) (0, 0)) := by
    refine itv_ends (itr_ends (lX3_clashesWith_4 T x1) (fun v : (Int32 × Int32) => True) (fun v : (Int32 × Int32) => (T.2.2.2.1.toInt - v.2.toInt).toNat) ?_ _ _ trivial (Nat.lt_succ_self _))
    intro a b h0 h
    unfold lX3_clashesWith_4 at h
    repeat' split at h
    all_goals first | (cases h; done) | (cases h; exact ⟨trivial, rk_ge (by assumption)⟩) | (cases h; exact ⟨trivial, rk_gt (by assumption)⟩)
  refine loopW (lX3_clashesWith_4 T x1) (fun v : (Int32 × Int32) => True) (fun v : (Int32 × Int32) => ∀ ls, lv_has ls 4 [(0, .ref h), (1, .int x1), (2, .int v.1), (3, .int v.2)] → W p l e rmX3_clashesWith s m args below meth c s.heap [] 0 0 Q (F0 m 4 ls [])) (fun r9 : (Int32 × Int32) => ∀ ls, lv_has ls 4 [(0, .ref h), (1, .int x1), (2, .int r9.1), (3, .int r9.2)] → W p l e rmX3_clashesWith s m args below meth c s.heap [] 0 0 Q (F0 m 30 ls [])) ?_ (fun _ _ _ _ => trivial) _ (0, 0) (itv (0, 0) (lX3_clashesWith_4 T x1) ((fun v : (Int32 × Int32) => (T.2.2.2.1.toInt - v.2.toInt).toNat) (0, 0) + 1) (0, 0)) trivial hE_4 ?_ ls (lv_sub hl [2, 3, 1, 0] rfl)
  · intro v _ kb kx ls hl
    refine lv_iload_n hx hb dX3_clashesWith_4 rfl (lv_at hl 3 rfl) ?_
    refine lv_aload_n hx hb dX3_clashesWith_5 rfl (lv_at hl 0 rfl) ?_
    refine va_get (D := D) (ci := 4) (v := .int T.2.2.2.1) (C := RX3) (T := TX3) (N := 8) hx hb hts q1 hown hK hP 0 rfl rfl 3 (by decide) q0 (fun _ h9 => h9) rfl dX3_clashesWith_6 ?_
    refine lv_icmp_ge (tgt := 30) hx hb dX3_clashesWith_9 (by decide) (fun c_9 => ?_) (fun c_9 => ?_)
    · exact kx (v.1, v.2) (by rw [lX3_clashesWith_4, if_pos c_9]) ls (lv_sub hl [0, 1, 2, 3] rfl)
    · refine lv_aload_n hx hb dX3_clashesWith_12 rfl (lv_at hl 0 rfl) ?_
      refine lv_iload_n hx hb dX3_clashesWith_13 rfl (lv_at hl 1 rfl) ?_
      refine lv_iload_n hx hb dX3_clashesWith_14 rfl (lv_at hl 3 rfl) ?_
      refine fRV (As := [.int x1, .int v.2]) (rest := []) (st' := [.int (fX3_areClashing T x1 v.2)]) ⟨hx, hb, hml, hown, hts⟩ (kX3_areClashing l D cI cC cT h a b T x1 v.2) (cwV 2 hts gX3_clashesWith_X3_areClashing rfl rfl rfl (by decide +kernel) ⟨Nat.le_of_ble_eq_true rfl, Nat.le_of_ble_eq_true rfl⟩) hP hK [0, 1, 2] rfl 0 (ci := 4) rfl rfl rfl rfl hl.1 rfl rfl (Nat.le_of_ble_eq_true rfl) ⟨Nat.zero_le _, Nat.zero_le _⟩ dX3_clashesWith_15 ?_
      refine lv_if_eq (tgt := 24) hx hb dX3_clashesWith_18 (by decide) (fun c_18 => ?_) (fun c_18 => ?_)
      · refine lv_iinc (v := (v.2 + 1)) (lv' := [(3, .int (v.2 + 1)), (0, .ref h), (1, .int x1), (2, .int v.1)]) hx hb dX3_clashesWith_24 hl (k := 3) rfl rfl (by decide) rfl (fun ls hl => ?_)
        refine lv_goto (tgt := 4) hx hb dX3_clashesWith_27 (by decide) ?_
        exact kb (v.1, (v.2 + 1)) (by rw [lX3_clashesWith_4, if_neg c_9, if_pos c_18]) ls (lv_sub hl [1, 2, 3, 0] rfl)
      · refine lv_iinc (v := (v.1 + 1)) (lv' := [(2, .int (v.1 + 1)), (0, .ref h), (1, .int x1), (3, .int v.2)]) hx hb dX3_clashesWith_21 hl (k := 2) rfl rfl (by decide) rfl (fun ls hl => ?_)
        refine lv_iinc (v := (v.2 + 1)) (lv' := [(3, .int (v.2 + 1)), (2, .int (v.1 + 1)), (0, .ref h), (1, .int x1)]) hx hb dX3_clashesWith_24 hl (k := 3) rfl rfl (by decide) rfl (fun ls hl => ?_)
        refine lv_goto (tgt := 4) hx hb dX3_clashesWith_27 (by decide) ?_
        exact kb ((v.1 + 1), (v.2 + 1)) (by rw [lX3_clashesWith_4, if_neg c_9, if_neg c_18]) ls (lv_sub hl [2, 3, 1, 0] rfl)
  · intro ls hl
    refine lv_iload_n hx hb dX3_clashesWith_30 rfl (lv_at hl 2 rfl) ?_
    exact rRi hx hb hr hlk hQ (by rw [fX3_clashesWith]) rfl dX3_clashesWith_31
