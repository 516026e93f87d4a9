def tv0 : TV := (fun _ => 0, fun _ => 0, 0, 0, 6, 0, 0, 0)
def lv0 : LV := (fun _ => 0, 0)
def xv0 : XV := (fun _ => 0, fun _ => 0, 0, 0, 0)
def hv0 : HV := (0, 0)
def cv0 : CV := (0, (-1), 0, 0)
def sv0 : SV := (upd (fun _ => 0) (2 : Int32).toNatClampNeg 6, fun _ => 0, fun _ => 0, fun _ => 0, fun _ => 0, fun _ => 0, fun _ => 0, fun _ => 0, 0, 0, 0, 0, 0, 0, 0, 0, (-1), 0, 0, 0)
set_option maxRecDepth 20000 in
theorem gX1_init_X3_init : GoodIn wsX1_init wsX3_init := goodIn_r _ [11, 12, 2, 3, 13, 14, 15, 16, 17, 18, 19, 20, 21, 25, 26, 27, 28, 29, 30, 31, 32] rfl (by decide +kernel)
set_option maxRecDepth 20000 in
theorem gX5_init_X3_init : GoodIn wsX5_init wsX3_init := goodIn_r _ [27, 28, 2, 3, 29, 30, 31, 32, 33, 34, 35, 36, 37, 60, 61, 62, 63, 64, 65, 66, 67] rfl (by decide +kernel)
set_option maxRecDepth 20000 in
theorem gX5_init_X4_init : GoodIn wsX5_init wsX4_init := goodIn_r _ [47, 48, 2, 3, 49, 50, 29, 51, 52, 53, 54, 81, 82, 83, 84, 85] rfl (by decide +kernel)
set_option maxRecDepth 20000 in
theorem gX5_init_X2_init : GoodIn wsX5_init wsX2_init := goodIn_r _ [56, 57, 2, 3, 49, 58, 59, 86, 87] rfl (by decide +kernel)
abbrev rmX3_init : Room := { frames := 1, cells := 2, slots := 108, locals := 12 }
set_option maxHeartbeats 4000000 in
set_option maxRecDepth 100000 in
theorem kX3_init (l : Launch) (D : va_G) (cI cC cT : ClassId) (h sz : Nat) : mC l D (TY cI cC cT) yX3_init wsX3_init rmX3_init [.ref h] sz [(h, .inr (4, [.null, .null, .int 0, .int 0, .int 0, .int 0, .int 0, .int 0]))] (fun ad => w3 cI h (ad 0) (ad 1) tv0) 2 108 := by
  refine mC.ofW (cc := cX3_init) (maxL := 1) (ret := none) (by decide) rfl (Nat.le_of_ble_eq_true rfl) rfl ?_
  intro p e s m args below meth c Q ls A hx hb hml hr hlk hts hown hP hK hD hS hl hin hA hO hQ
  have hown : s.vm.findClass RX3 = some m.cls := hown
  have hP : va_P D vwCl [(h, .inr (4, [.null, .null, .int 0, .int 0, .int 0, .int 0, .int 0, .int 0]))] s.heap := hP
  have hD : va_D A [(h, .inr (4, [.null, .null, .int 0, .int 0, .int 0, .int 0, .int 0, .int 0]))] := hD
  have hl : lv_has ls 1 [(0, .ref h)] := hl
  have q0 := hts (Cond.methodLink RX3 3 objectInit) (by decide +kernel)
  have q1 := hts (Cond.instanceMethod objectInit) (by decide +kernel)
  have q2 := hts (Cond.code objectInit ⟨#[0xb1]⟩ 1 none) (by decide +kernel)
  have q3 := hts (Cond.arrayClass .int) (by decide +kernel)
  have q4 := hts (Cond.fieldLink RX3 11 "TavernStools$Tavern" "stoolRow" "[I") (by decide +kernel)
  have q5 : ∀ w ∈ u_ws RX3 TX3 8, w ∈ wsX3_init := by decide +kernel
  have q6 := hts (Cond.fieldLink RX3 15 "TavernStools$Tavern" "sitterRow" "[I") (by decide +kernel)
  have q7 := hts (Cond.fieldLink RX3 18 "TavernStools$Tavern" "stools" "I") (by decide +kernel)
  have q8 := hts (Cond.fieldLink RX3 22 "TavernStools$Tavern" "sitters" "I") (by decide +kernel)
  have q9 := hts (Cond.fieldLink RX3 25 "TavernStools$Tavern" "purse" "I") (by decide +kernel)
  have q10 := hts (Cond.fieldLink RX3 28 "TavernStools$Tavern" "nights" "I") (by decide +kernel)
  have q11 := hts (Cond.fieldLink RX3 31 "TavernStools$Tavern" "brawls" "I") (by decide +kernel)
  have q12 := hts (Cond.fieldLink RX3 34 "TavernStools$Tavern" "brought" "I") (by decide +kernel)
  generalize hHe : s.heap = H at hP ⊢
  have hS : va_S A s.heap H [] := hHe ▸ hS
  generalize hLe : ([] : List Loc) = locs at hS ⊢
  refine lv_aload_n hx hb dX3_init_0 rfl (lv_at hl 0 rfl) ?_
  refine W.objInit hx hb hown q0 q1 q2 rfl (by rw [hml]; exact hl.1) rfl dX3_init_1 (Nat.le_of_ble_eq_true rfl) (Nat.le_of_ble_eq_true rfl) ?_
  refine W.eq (g2 := F0 m 4 ls []) rfl ?_
  refine lv_aload_n hx hb dX3_init_4 rfl (lv_at hl 0 rfl) ?_
  refine lv_bipush (v := 72) hx hb dX3_init_5 (by decide) ?_
  refine fNA (atype := .int) (ty := .int) 0 ("[" ++ (FieldType.int).toString) hx hb q3 rfl hK hP hD hS hA rfl (fun _ h9 => h9) 72 rfl (by decide) (by decide) (Nat.le_of_ble_eq_true rfl) ⟨Nat.le_of_ble_eq_true rfl, Nat.le_of_ble_eq_true rfl⟩ dX3_init_7 (fun b1 H hP hD hS => ?_)
  have hP : va_P D vwCl [(h, .inr (4, [.null, .null, .int 0, .int 0, .int 0, .int 0, .int 0, .int 0])), (b1, .inl (cI, 72, .inl (fun _ => 0)))] H := hP
  have hD : va_D A [(h, .inr (4, [.null, .null, .int 0, .int 0, .int 0, .int 0, .int 0, .int 0])), (b1, .inl (cI, 72, .inl (fun _ => 0)))] := hD
  refine va_putF (D := D) (ci := 4) (v := .ref b1) (ty := .array .int) (C := RX3) (T := TX3) (N := 8) hx hb hts q5 tyX3 tyX3_ok nmX3 hown hK hP hD hS 0 rfl rfl 0 (by decide) q4 (fun _ h9 => h9) rfl hin rfl (by decide +kernel) rfl rfl (Nat.le_of_ble_eq_true rfl) dX3_init_9 (fun H locs hP hD hS => ?_)
  have hP : va_P D vwCl [(h, .inr (4, [.ref b1, .null, .int 0, .int 0, .int 0, .int 0, .int 0, .int 0])), (b1, .inl (cI, 72, .inl (fun _ => 0)))] H := hP
  have hD : va_D A [(h, .inr (4, [.ref b1, .null, .int 0, .int 0, .int 0, .int 0, .int 0, .int 0])), (b1, .inl (cI, 72, .inl (fun _ => 0)))] := hD
  refine lv_aload_n hx hb dX3_init_12 rfl (lv_at hl 0 rfl) ?_
  refine lv_bipush (v := 36) hx hb dX3_init_13 (by decide) ?_
  refine fNA (atype := .int) (ty := .int) 0 ("[" ++ (FieldType.int).toString) hx hb q3 rfl hK hP hD hS hA rfl (fun _ h9 => h9) 36 rfl (by decide) (by decide) (Nat.le_of_ble_eq_true rfl) ⟨Nat.le_of_ble_eq_true rfl, Nat.le_of_ble_eq_true rfl⟩ dX3_init_15 (fun b2 H hP hD hS => ?_)
  have hP : va_P D vwCl [(h, .inr (4, [.ref b1, .null, .int 0, .int 0, .int 0, .int 0, .int 0, .int 0])), (b1, .inl (cI, 72, .inl (fun _ => 0))), (b2, .inl (cI, 36, .inl (fun _ => 0)))] H := hP
  have hD : va_D A [(h, .inr (4, [.ref b1, .null, .int 0, .int 0, .int 0, .int 0, .int 0, .int 0])), (b1, .inl (cI, 72, .inl (fun _ => 0))), (b2, .inl (cI, 36, .inl (fun _ => 0)))] := hD
  refine va_putF (D := D) (ci := 4) (v := .ref b2) (ty := .array .int) (C := RX3) (T := TX3) (N := 8) hx hb hts q5 tyX3 tyX3_ok nmX3 hown hK hP hD hS 0 rfl rfl 1 (by decide) q6 (fun _ h9 => h9) rfl hin rfl (by decide +kernel) rfl rfl (Nat.le_of_ble_eq_true rfl) dX3_init_17 (fun H locs hP hD hS => ?_)
  have hP : va_P D vwCl [(h, .inr (4, [.ref b1, .ref b2, .int 0, .int 0, .int 0, .int 0, .int 0, .int 0])), (b1, .inl (cI, 72, .inl (fun _ => 0))), (b2, .inl (cI, 36, .inl (fun _ => 0)))] H := hP
  have hD : va_D A [(h, .inr (4, [.ref b1, .ref b2, .int 0, .int 0, .int 0, .int 0, .int 0, .int 0])), (b1, .inl (cI, 72, .inl (fun _ => 0))), (b2, .inl (cI, 36, .inl (fun _ => 0)))] := hD
  refine lv_aload_n hx hb dX3_init_20 rfl (lv_at hl 0 rfl) ?_
  refine lv_iconst (v := 0) hx hb dX3_init_21 (by decide) ?_
  refine va_put (D := D) (ci := 4) (v := .int 0) (ty := .int) (C := RX3) (T := TX3) (N := 8) hx hb hts q5 tyX3 tyX3_ok nmX3 hown hK hP hD hS 0 rfl rfl 2 (by decide) q7 (fun _ h9 => h9) rfl (by decide +kernel) rfl rfl (Nat.le_of_ble_eq_true rfl) dX3_init_22 (fun H locs hP hD hS => ?_)
  have hP : va_P D vwCl [(h, .inr (4, [.ref b1, .ref b2, .int 0, .int 0, .int 0, .int 0, .int 0, .int 0])), (b1, .inl (cI, 72, .inl (fun _ => 0))), (b2, .inl (cI, 36, .inl (fun _ => 0)))] H := hP
  have hD : va_D A [(h, .inr (4, [.ref b1, .ref b2, .int 0, .int 0, .int 0, .int 0, .int 0, .int 0])), (b1, .inl (cI, 72, .inl (fun _ => 0))), (b2, .inl (cI, 36, .inl (fun _ => 0)))] := hD
  refine lv_aload_n hx hb dX3_init_25 rfl (lv_at hl 0 rfl) ?_
  refine lv_iconst (v := 0) hx hb dX3_init_26 (by decide) ?_
  refine va_put (D := D) (ci := 4) (v := .int 0) (ty := .int) (C := RX3) (T := TX3) (N := 8) hx hb hts q5 tyX3 tyX3_ok nmX3 hown hK hP hD hS 0 rfl rfl 3 (by decide) q8 (fun _ h9 => h9) rfl (by decide +kernel) rfl rfl (Nat.le_of_ble_eq_true rfl) dX3_init_27 (fun H locs hP hD hS => ?_)
  have hP : va_P D vwCl [(h, .inr (4, [.ref b1, .ref b2, .int 0, .int 0, .int 0, .int 0, .int 0, .int 0])), (b1, .inl (cI, 72, .inl (fun _ => 0))), (b2, .inl (cI, 36, .inl (fun _ => 0)))] H := hP
  have hD : va_D A [(h, .inr (4, [.ref b1, .ref b2, .int 0, .int 0, .int 0, .int 0, .int 0, .int 0])), (b1, .inl (cI, 72, .inl (fun _ => 0))), (b2, .inl (cI, 36, .inl (fun _ => 0)))] := hD
  refine lv_aload_n hx hb dX3_init_30 rfl (lv_at hl 0 rfl) ?_
  refine lv_bipush (v := 6) hx hb dX3_init_31 (by decide) ?_
  refine va_put (D := D) (ci := 4) (v := .int 6) (ty := .int) (C := RX3) (T := TX3) (N := 8) hx hb hts q5 tyX3 tyX3_ok nmX3 hown hK hP hD hS 0 rfl rfl 4 (by decide) q9 (fun _ h9 => h9) rfl (by decide +kernel) rfl rfl (Nat.le_of_ble_eq_true rfl) dX3_init_33 (fun H locs hP hD hS => ?_)
  have hP : va_P D vwCl [(h, .inr (4, [.ref b1, .ref b2, .int 0, .int 0, .int 6, .int 0, .int 0, .int 0])), (b1, .inl (cI, 72, .inl (fun _ => 0))), (b2, .inl (cI, 36, .inl (fun _ => 0)))] H := hP
  have hD : va_D A [(h, .inr (4, [.ref b1, .ref b2, .int 0, .int 0, .int 6, .int 0, .int 0, .int 0])), (b1, .inl (cI, 72, .inl (fun _ => 0))), (b2, .inl (cI, 36, .inl (fun _ => 0)))] := hD
  refine lv_aload_n hx hb dX3_init_36 rfl (lv_at hl 0 rfl) ?_
  refine lv_iconst (v := 0) hx hb dX3_init_37 (by decide) ?_
  refine va_put (D := D) (ci := 4) (v := .int 0) (ty := .int) (C := RX3) (T := TX3) (N := 8) hx hb hts q5 tyX3 tyX3_ok nmX3 hown hK hP hD hS 0 rfl rfl 5 (by decide) q10 (fun _ h9 => h9) rfl (by decide +kernel) rfl rfl (Nat.le_of_ble_eq_true rfl) dX3_init_38 (fun H locs hP hD hS => ?_)
  have hP : va_P D vwCl [(h, .inr (4, [.ref b1, .ref b2, .int 0, .int 0, .int 6, .int 0, .int 0, .int 0])), (b1, .inl (cI, 72, .inl (fun _ => 0))), (b2, .inl (cI, 36, .inl (fun _ => 0)))] H := hP
  have hD : va_D A [(h, .inr (4, [.ref b1, .ref b2, .int 0, .int 0, .int 6, .int 0, .int 0, .int 0])), (b1, .inl (cI, 72, .inl (fun _ => 0))), (b2, .inl (cI, 36, .inl (fun _ => 0)))] := hD
  refine lv_aload_n hx hb dX3_init_41 rfl (lv_at hl 0 rfl) ?_
  refine lv_iconst (v := 0) hx hb dX3_init_42 (by decide) ?_
  refine va_put (D := D) (ci := 4) (v := .int 0) (ty := .int) (C := RX3) (T := TX3) (N := 8) hx hb hts q5 tyX3 tyX3_ok nmX3 hown hK hP hD hS 0 rfl rfl 6 (by decide) q11 (fun _ h9 => h9) rfl (by decide +kernel) rfl rfl (Nat.le_of_ble_eq_true rfl) dX3_init_43 (fun H locs hP hD hS => ?_)
  have hP : va_P D vwCl [(h, .inr (4, [.ref b1, .ref b2, .int 0, .int 0, .int 6, .int 0, .int 0, .int 0])), (b1, .inl (cI, 72, .inl (fun _ => 0))), (b2, .inl (cI, 36, .inl (fun _ => 0)))] H := hP
  have hD : va_D A [(h, .inr (4, [.ref b1, .ref b2, .int 0, .int 0, .int 6, .int 0, .int 0, .int 0])), (b1, .inl (cI, 72, .inl (fun _ => 0))), (b2, .inl (cI, 36, .inl (fun _ => 0)))] := hD
  refine lv_aload_n hx hb dX3_init_46 rfl (lv_at hl 0 rfl) ?_
  refine lv_iconst (v := 0) hx hb dX3_init_47 (by decide) ?_
  refine va_put (D := D) (ci := 4) (v := .int 0) (ty := .int) (C := RX3) (T := TX3) (N := 8) hx hb hts q5 tyX3 tyX3_ok nmX3 hown hK hP hD hS 0 rfl rfl 7 (by decide) q12 (fun _ h9 => h9) rfl (by decide +kernel) rfl rfl (Nat.le_of_ble_eq_true rfl) dX3_init_48 (fun H locs hP hD hS => ?_)
  have hP : va_P D vwCl [(h, .inr (4, [.ref b1, .ref b2, .int 0, .int 0, .int 6, .int 0, .int 0, .int 0])), (b1, .inl (cI, 72, .inl (fun _ => 0))), (b2, .inl (cI, 36, .inl (fun _ => 0)))] H := hP
  have hD : va_D A [(h, .inr (4, [.ref b1, .ref b2, .int 0, .int 0, .int 6, .int 0, .int 0, .int 0])), (b1, .inl (cI, 72, .inl (fun _ => 0))), (b2, .inl (cI, 36, .inl (fun _ => 0)))] := hD
  exact rCv (fun k => match k with | 0 => b1 | _ => b2) hx hb hr hlk hQ hP hD hS rfl ⟨Nat.le_of_ble_eq_true rfl, Nat.le_of_ble_eq_true rfl⟩ dX3_init_51
abbrev rmX2_init : Room := { frames := 1, cells := 1, slots := 600, locals := 12 }
set_option maxHeartbeats 4000000 in
set_option maxRecDepth 100000 in
theorem kX2_init (l : Launch) (D : va_G) (cI cC cT : ClassId) (h sz : Nat) : mC l D (TY cI cC cT) yX2_init wsX2_init rmX2_init [.ref h] sz [(h, .inr (3, [.null, .int 0]))] (fun ad => w2 cC h (ad 0) lv0) 1 600 := by
  refine mC.ofW (cc := cX2_init) (maxL := 1) (ret := none) (by decide) rfl (Nat.le_of_ble_eq_true rfl) rfl ?_
  intro p e s m args below meth c Q ls A hx hb hml hr hlk hts hown hP hK hD hS hl hin hA hO hQ
  have hown : s.vm.findClass RX2 = some m.cls := hown
  have hP : va_P D vwCl [(h, .inr (3, [.null, .int 0]))] s.heap := hP
  have hD : va_D A [(h, .inr (3, [.null, .int 0]))] := hD
  have hl : lv_has ls 1 [(0, .ref h)] := hl
  have q0 := hts (Cond.methodLink RX2 1 objectInit) (by decide +kernel)
  have q1 := hts (Cond.instanceMethod objectInit) (by decide +kernel)
  have q2 := hts (Cond.code objectInit ⟨#[0xb1]⟩ 1 none) (by decide +kernel)
  have q3 := hts (Cond.arrayClass .char) (by decide +kernel)
  have q4 := hts (Cond.fieldLink RX2 9 "TavernStools$Line" "signs" "[C") (by decide +kernel)
  have q5 : ∀ w ∈ u_ws RX2 TX2 2, w ∈ wsX2_init := by decide +kernel
  have q6 := hts (Cond.fieldLink RX2 13 "TavernStools$Line" "length" "I") (by decide +kernel)
  generalize hHe : s.heap = H at hP ⊢
  have hS : va_S A s.heap H [] := hHe ▸ hS
  generalize hLe : ([] : List Loc) = locs at hS ⊢
  refine lv_aload_n hx hb dX2_init_0 rfl (lv_at hl 0 rfl) ?_
  refine W.objInit hx hb hown q0 q1 q2 rfl (by rw [hml]; exact hl.1) rfl dX2_init_1 (Nat.le_of_ble_eq_true rfl) (Nat.le_of_ble_eq_true rfl) ?_
  refine W.eq (g2 := F0 m 4 ls []) rfl ?_
  refine lv_aload_n hx hb dX2_init_4 rfl (lv_at hl 0 rfl) ?_
  refine lv_sipush (v := 600) hx hb dX2_init_5 (by decide) ?_
  refine fNA (atype := .char) (ty := .char) 1 ("[" ++ (FieldType.char).toString) hx hb q3 rfl hK hP hD hS hA rfl (fun _ h9 => h9) 600 rfl (by decide) (by decide) (Nat.le_of_ble_eq_true rfl) ⟨Nat.le_of_ble_eq_true rfl, Nat.le_of_ble_eq_true rfl⟩ dX2_init_8 (fun b1 H hP hD hS => ?_)
  have hP : va_P D vwCl [(h, .inr (3, [.null, .int 0])), (b1, .inl (cC, 600, .inl (fun _ => 0)))] H := hP
  have hD : va_D A [(h, .inr (3, [.null, .int 0])), (b1, .inl (cC, 600, .inl (fun _ => 0)))] := hD
  refine va_putF (D := D) (ci := 3) (v := .ref b1) (ty := .array .char) (C := RX2) (T := TX2) (N := 2) hx hb hts q5 tyX2 tyX2_ok nmX2 hown hK hP hD hS 0 rfl rfl 0 (by decide) q4 (fun _ h9 => h9) rfl hin rfl (by decide +kernel) rfl rfl (Nat.le_of_ble_eq_true rfl) dX2_init_10 (fun H locs hP hD hS => ?_)
  have hP : va_P D vwCl [(h, .inr (3, [.ref b1, .int 0])), (b1, .inl (cC, 600, .inl (fun _ => 0)))] H := hP
  have hD : va_D A [(h, .inr (3, [.ref b1, .int 0])), (b1, .inl (cC, 600, .inl (fun _ => 0)))] := hD
  refine lv_aload_n hx hb dX2_init_13 rfl (lv_at hl 0 rfl) ?_
  refine lv_iconst (v := 0) hx hb dX2_init_14 (by decide) ?_
  refine va_put (D := D) (ci := 3) (v := .int 0) (ty := .int) (C := RX2) (T := TX2) (N := 2) hx hb hts q5 tyX2 tyX2_ok nmX2 hown hK hP hD hS 0 rfl rfl 1 (by decide) q6 (fun _ h9 => h9) rfl (by decide +kernel) rfl rfl (Nat.le_of_ble_eq_true rfl) dX2_init_15 (fun H locs hP hD hS => ?_)
  have hP : va_P D vwCl [(h, .inr (3, [.ref b1, .int 0])), (b1, .inl (cC, 600, .inl (fun _ => 0)))] H := hP
  have hD : va_D A [(h, .inr (3, [.ref b1, .int 0])), (b1, .inl (cC, 600, .inl (fun _ => 0)))] := hD
  exact rCv (fun _ => b1) hx hb hr hlk hQ hP hD hS rfl ⟨Nat.le_of_ble_eq_true rfl, Nat.le_of_ble_eq_true rfl⟩ dX2_init_18
abbrev rmX4_init : Room := { frames := 1, cells := 2, slots := 210, locals := 12 }
set_option maxHeartbeats 4000000 in
set_option maxRecDepth 100000 in
theorem kX4_init (l : Launch) (D : va_G) (cI cC cT : ClassId) (h sz : Nat) : mC l D (TY cI cC cT) yX4_init wsX4_init rmX4_init [.ref h] sz [(h, .inr (5, [.null, .null, .int 0, .int 0, .int 0]))] (fun ad => w4 cI cC h (ad 0) (ad 1) xv0) 2 210 := by
  refine mC.ofW (cc := cX4_init) (maxL := 1) (ret := none) (by decide) rfl (Nat.le_of_ble_eq_true rfl) rfl ?_
  intro p e s m args below meth c Q ls A hx hb hml hr hlk hts hown hP hK hD hS hl hin hA hO hQ
  have hown : s.vm.findClass RX4 = some m.cls := hown
  have hP : va_P D vwCl [(h, .inr (5, [.null, .null, .int 0, .int 0, .int 0]))] s.heap := hP
  have hD : va_D A [(h, .inr (5, [.null, .null, .int 0, .int 0, .int 0]))] := hD
  have hl : lv_has ls 1 [(0, .ref h)] := hl
  have q0 := hts (Cond.methodLink RX4 3 objectInit) (by decide +kernel)
  have q1 := hts (Cond.instanceMethod objectInit) (by decide +kernel)
  have q2 := hts (Cond.code objectInit ⟨#[0xb1]⟩ 1 none) (by decide +kernel)
  have q3 := hts (Cond.arrayClass .char) (by decide +kernel)
  have q4 := hts (Cond.fieldLink RX4 11 "TavernStools$Text" "signs" "[C") (by decide +kernel)
  have q5 : ∀ w ∈ u_ws RX4 TX4 5, w ∈ wsX4_init := by decide +kernel
  have q6 := hts (Cond.arrayClass .int) (by decide +kernel)
  have q7 := hts (Cond.fieldLink RX4 15 "TavernStools$Text" "orderRow" "[I") (by decide +kernel)
  have q8 := hts (Cond.fieldLink RX4 19 "TavernStools$Text" "length" "I") (by decide +kernel)
  have q9 := hts (Cond.fieldLink RX4 23 "TavernStools$Text" "at" "I") (by decide +kernel)
  have q10 := hts (Cond.fieldLink RX4 26 "TavernStools$Text" "orders" "I") (by decide +kernel)
  generalize hHe : s.heap = H at hP ⊢
  have hS : va_S A s.heap H [] := hHe ▸ hS
  generalize hLe : ([] : List Loc) = locs at hS ⊢
  refine lv_aload_n hx hb dX4_init_0 rfl (lv_at hl 0 rfl) ?_
  refine W.objInit hx hb hown q0 q1 q2 rfl (by rw [hml]; exact hl.1) rfl dX4_init_1 (Nat.le_of_ble_eq_true rfl) (Nat.le_of_ble_eq_true rfl) ?_
  refine W.eq (g2 := F0 m 4 ls []) rfl ?_
  refine lv_aload_n hx hb dX4_init_4 rfl (lv_at hl 0 rfl) ?_
  refine lv_bipush (v := 60) hx hb dX4_init_5 (by decide) ?_
  refine fNA (atype := .char) (ty := .char) 1 ("[" ++ (FieldType.char).toString) hx hb q3 rfl hK hP hD hS hA rfl (fun _ h9 => h9) 60 rfl (by decide) (by decide) (Nat.le_of_ble_eq_true rfl) ⟨Nat.le_of_ble_eq_true rfl, Nat.le_of_ble_eq_true rfl⟩ dX4_init_7 (fun b1 H hP hD hS => ?_)
  have hP : va_P D vwCl [(h, .inr (5, [.null, .null, .int 0, .int 0, .int 0])), (b1, .inl (cC, 60, .inl (fun _ => 0)))] H := hP
  have hD : va_D A [(h, .inr (5, [.null, .null, .int 0, .int 0, .int 0])), (b1, .inl (cC, 60, .inl (fun _ => 0)))] := hD
  refine va_putF (D := D) (ci := 5) (v := .ref b1) (ty := .array .char) (C := RX4) (T := TX4) (N := 5) hx hb hts q5 tyX4 tyX4_ok nmX4 hown hK hP hD hS 0 rfl rfl 0 (by decide) q4 (fun _ h9 => h9) rfl hin rfl (by decide +kernel) rfl rfl (Nat.le_of_ble_eq_true rfl) dX4_init_9 (fun H locs hP hD hS => ?_)
  have hP : va_P D vwCl [(h, .inr (5, [.ref b1, .null, .int 0, .int 0, .int 0])), (b1, .inl (cC, 60, .inl (fun _ => 0)))] H := hP
  have hD : va_D A [(h, .inr (5, [.ref b1, .null, .int 0, .int 0, .int 0])), (b1, .inl (cC, 60, .inl (fun _ => 0)))] := hD
  refine lv_aload_n hx hb dX4_init_12 rfl (lv_at hl 0 rfl) ?_
  refine lv_sipush (v := 150) hx hb dX4_init_13 (by decide) ?_
  refine fNA (atype := .int) (ty := .int) 0 ("[" ++ (FieldType.int).toString) hx hb q6 rfl hK hP hD hS hA rfl (fun _ h9 => h9) 150 rfl (by decide) (by decide) (Nat.le_of_ble_eq_true rfl) ⟨Nat.le_of_ble_eq_true rfl, Nat.le_of_ble_eq_true rfl⟩ dX4_init_16 (fun b2 H hP hD hS => ?_)
  have hP : va_P D vwCl [(h, .inr (5, [.ref b1, .null, .int 0, .int 0, .int 0])), (b1, .inl (cC, 60, .inl (fun _ => 0))), (b2, .inl (cI, 150, .inl (fun _ => 0)))] H := hP
  have hD : va_D A [(h, .inr (5, [.ref b1, .null, .int 0, .int 0, .int 0])), (b1, .inl (cC, 60, .inl (fun _ => 0))), (b2, .inl (cI, 150, .inl (fun _ => 0)))] := hD
  refine va_putF (D := D) (ci := 5) (v := .ref b2) (ty := .array .int) (C := RX4) (T := TX4) (N := 5) hx hb hts q5 tyX4 tyX4_ok nmX4 hown hK hP hD hS 0 rfl rfl 1 (by decide) q7 (fun _ h9 => h9) rfl hin rfl (by decide +kernel) rfl rfl (Nat.le_of_ble_eq_true rfl) dX4_init_18 (fun H locs hP hD hS => ?_)
  have hP : va_P D vwCl [(h, .inr (5, [.ref b1, .ref b2, .int 0, .int 0, .int 0])), (b1, .inl (cC, 60, .inl (fun _ => 0))), (b2, .inl (cI, 150, .inl (fun _ => 0)))] H := hP
  have hD : va_D A [(h, .inr (5, [.ref b1, .ref b2, .int 0, .int 0, .int 0])), (b1, .inl (cC, 60, .inl (fun _ => 0))), (b2, .inl (cI, 150, .inl (fun _ => 0)))] := hD
  refine lv_aload_n hx hb dX4_init_21 rfl (lv_at hl 0 rfl) ?_
  refine lv_iconst (v := 0) hx hb dX4_init_22 (by decide) ?_
  refine va_put (D := D) (ci := 5) (v := .int 0) (ty := .int) (C := RX4) (T := TX4) (N := 5) hx hb hts q5 tyX4 tyX4_ok nmX4 hown hK hP hD hS 0 rfl rfl 2 (by decide) q8 (fun _ h9 => h9) rfl (by decide +kernel) rfl rfl (Nat.le_of_ble_eq_true rfl) dX4_init_23 (fun H locs hP hD hS => ?_)
  have hP : va_P D vwCl [(h, .inr (5, [.ref b1, .ref b2, .int 0, .int 0, .int 0])), (b1, .inl (cC, 60, .inl (fun _ => 0))), (b2, .inl (cI, 150, .inl (fun _ => 0)))] H := hP
  have hD : va_D A [(h, .inr (5, [.ref b1, .ref b2, .int 0, .int 0, .int 0])), (b1, .inl (cC, 60, .inl (fun _ => 0))), (b2, .inl (cI, 150, .inl (fun _ => 0)))] := hD
  refine lv_aload_n hx hb dX4_init_26 rfl (lv_at hl 0 rfl) ?_
  refine lv_iconst (v := 0) hx hb dX4_init_27 (by decide) ?_
  refine va_put (D := D) (ci := 5) (v := .int 0) (ty := .int) (C := RX4) (T := TX4) (N := 5) hx hb hts q5 tyX4 tyX4_ok nmX4 hown hK hP hD hS 0 rfl rfl 3 (by decide) q9 (fun _ h9 => h9) rfl (by decide +kernel) rfl rfl (Nat.le_of_ble_eq_true rfl) dX4_init_28 (fun H locs hP hD hS => ?_)
  have hP : va_P D vwCl [(h, .inr (5, [.ref b1, .ref b2, .int 0, .int 0, .int 0])), (b1, .inl (cC, 60, .inl (fun _ => 0))), (b2, .inl (cI, 150, .inl (fun _ => 0)))] H := hP
  have hD : va_D A [(h, .inr (5, [.ref b1, .ref b2, .int 0, .int 0, .int 0])), (b1, .inl (cC, 60, .inl (fun _ => 0))), (b2, .inl (cI, 150, .inl (fun _ => 0)))] := hD
  refine lv_aload_n hx hb dX4_init_31 rfl (lv_at hl 0 rfl) ?_
  refine lv_iconst (v := 0) hx hb dX4_init_32 (by decide) ?_
  refine va_put (D := D) (ci := 5) (v := .int 0) (ty := .int) (C := RX4) (T := TX4) (N := 5) hx hb hts q5 tyX4 tyX4_ok nmX4 hown hK hP hD hS 0 rfl rfl 4 (by decide) q10 (fun _ h9 => h9) rfl (by decide +kernel) rfl rfl (Nat.le_of_ble_eq_true rfl) dX4_init_33 (fun H locs hP hD hS => ?_)
  have hP : va_P D vwCl [(h, .inr (5, [.ref b1, .ref b2, .int 0, .int 0, .int 0])), (b1, .inl (cC, 60, .inl (fun _ => 0))), (b2, .inl (cI, 150, .inl (fun _ => 0)))] H := hP
  have hD : va_D A [(h, .inr (5, [.ref b1, .ref b2, .int 0, .int 0, .int 0])), (b1, .inl (cC, 60, .inl (fun _ => 0))), (b2, .inl (cI, 150, .inl (fun _ => 0)))] := hD
  exact rCv (fun k => match k with | 0 => b1 | _ => b2) hx hb hr hlk hQ hP hD hS rfl ⟨Nat.le_of_ble_eq_true rfl, Nat.le_of_ble_eq_true rfl⟩ dX4_init_36
abbrev rmX6_init : Room := { frames := 1, cells := 8, slots := 2381, locals := 12 }
set_option maxHeartbeats 4000000 in
set_option maxRecDepth 100000 in
theorem kX6_init (l : Launch) (D : va_G) (cI cC cT : ClassId) (h sz : Nat) : mC l D (TY cI cC cT) yX6_init wsX6_init rmX6_init [.ref h] sz [(h, .inr (7, [.null, .null, .null, .null, .int 0, .int 0, .int 0, .int 0, .int 0, .int 0, .int 0, .null, .int 0, .int 0, .null, .int 0, .null, .int 0, .null, .int 0]))] (fun ad => w6 cI cC h (ad 0) (ad 1) (ad 2) (ad 3) (ad 4) (ad 5) (ad 6) (ad 7) sv0) 8 2381 := by
  refine mC.ofW (cc := cX6_init) (maxL := 1) (ret := none) (by decide) rfl (Nat.le_of_ble_eq_true rfl) rfl ?_
  intro p e s m args below meth c Q ls A hx hb hml hr hlk hts hown hP hK hD hS hl hin hA hO hQ
  have hown : s.vm.findClass RX6 = some m.cls := hown
  have hP : va_P D vwCl [(h, .inr (7, [.null, .null, .null, .null, .int 0, .int 0, .int 0, .int 0, .int 0, .int 0, .int 0, .null, .int 0, .int 0, .null, .int 0, .null, .int 0, .null, .int 0]))] s.heap := hP
  have hD : va_D A [(h, .inr (7, [.null, .null, .null, .null, .int 0, .int 0, .int 0, .int 0, .int 0, .int 0, .int 0, .null, .int 0, .int 0, .null, .int 0, .null, .int 0, .null, .int 0]))] := hD
  have hl : lv_has ls 1 [(0, .ref h)] := hl
  have q0 := hts (Cond.methodLink RX6 1 objectInit) (by decide +kernel)
  have q1 := hts (Cond.instanceMethod objectInit) (by decide +kernel)
  have q2 := hts (Cond.code objectInit ⟨#[0xb1]⟩ 1 none) (by decide +kernel)
  have q3 := hts (Cond.arrayClass .int) (by decide +kernel)
  have q4 := hts (Cond.fieldLink RX6 7 "TavernStoolsModel" "g" "[I") (by decide +kernel)
  have q5 : ∀ w ∈ u_ws RX6 TX6 20, w ∈ wsX6_init := by decide +kernel
  have q6 := hts (Cond.fieldLink RX6 13 "TavernStoolsModel" "kept" "[I") (by decide +kernel)
  have q7 := hts (Cond.fieldLink RX6 16 "TavernStoolsModel" "saved" "[I") (by decide +kernel)
  have q8 := hts (Cond.fieldLink RX6 19 "TavernStoolsModel" "before" "[I") (by decide +kernel)
  have q9 := hts (Cond.fieldLink RX6 22 "TavernStoolsModel" "input" "[I") (by decide +kernel)
  have q10 := hts (Cond.fieldLink RX6 25 "TavernStoolsModel" "error" "I") (by decide +kernel)
  have q11 := hts (Cond.arrayClass .char) (by decide +kernel)
  have q12 := hts (Cond.fieldLink RX6 29 "TavernStoolsModel" "signs" "[C") (by decide +kernel)
  have q13 := hts (Cond.fieldLink RX6 33 "TavernStoolsModel" "seats" "[I") (by decide +kernel)
  have q14 := hts (Cond.fieldLink RX6 36 "TavernStoolsModel" "told" "[I") (by decide +kernel)
  generalize hHe : s.heap = H at hP ⊢
  have hS : va_S A s.heap H [] := hHe ▸ hS
  generalize hLe : ([] : List Loc) = locs at hS ⊢
  refine lv_aload_n hx hb dX6_init_0 rfl (lv_at hl 0 rfl) ?_
  refine W.objInit hx hb hown q0 q1 q2 rfl (by rw [hml]; exact hl.1) rfl dX6_init_1 (Nat.le_of_ble_eq_true rfl) (Nat.le_of_ble_eq_true rfl) ?_
  refine W.eq (g2 := F0 m 4 ls []) rfl ?_
  refine lv_aload_n hx hb dX6_init_4 rfl (lv_at hl 0 rfl) ?_
  refine lv_bipush (v := 114) hx hb dX6_init_5 (by decide) ?_
  refine fNA (atype := .int) (ty := .int) 0 ("[" ++ (FieldType.int).toString) hx hb q3 rfl hK hP hD hS hA rfl (fun _ h9 => h9) 114 rfl (by decide) (by decide) (Nat.le_of_ble_eq_true rfl) ⟨Nat.le_of_ble_eq_true rfl, Nat.le_of_ble_eq_true rfl⟩ dX6_init_7 (fun b1 H hP hD hS => ?_)
  have hP : va_P D vwCl [(h, .inr (7, [.null, .null, .null, .null, .int 0, .int 0, .int 0, .int 0, .int 0, .int 0, .int 0, .null, .int 0, .int 0, .null, .int 0, .null, .int 0, .null, .int 0])), (b1, .inl (cI, 114, .inl (fun _ => 0)))] H := hP
  have hD : va_D A [(h, .inr (7, [.null, .null, .null, .null, .int 0, .int 0, .int 0, .int 0, .int 0, .int 0, .int 0, .null, .int 0, .int 0, .null, .int 0, .null, .int 0, .null, .int 0])), (b1, .inl (cI, 114, .inl (fun _ => 0)))] := hD
  refine va_putF (D := D) (ci := 7) (v := .ref b1) (ty := .array .int) (C := RX6) (T := TX6) (N := 20) hx hb hts q5 tyX6 tyX6_ok nmX6 hown hK hP hD hS 0 rfl rfl 0 (by decide) q4 (fun _ h9 => h9) rfl hin rfl (by decide +kernel) rfl rfl (Nat.le_of_ble_eq_true rfl) dX6_init_9 (fun H locs hP hD hS => ?_)
  have hP : va_P D vwCl [(h, .inr (7, [.ref b1, .null, .null, .null, .int 0, .int 0, .int 0, .int 0, .int 0, .int 0, .int 0, .null, .int 0, .int 0, .null, .int 0, .null, .int 0, .null, .int 0])), (b1, .inl (cI, 114, .inl (fun _ => 0)))] H := hP
  have hD : va_D A [(h, .inr (7, [.ref b1, .null, .null, .null, .int 0, .int 0, .int 0, .int 0, .int 0, .int 0, .int 0, .null, .int 0, .int 0, .null, .int 0, .null, .int 0, .null, .int 0])), (b1, .inl (cI, 114, .inl (fun _ => 0)))] := hD
  refine lv_aload_n hx hb dX6_init_12 rfl (lv_at hl 0 rfl) ?_
  refine lv_sipush (v := 912) hx hb dX6_init_13 (by decide) ?_
  refine fNA (atype := .int) (ty := .int) 0 ("[" ++ (FieldType.int).toString) hx hb q3 rfl hK hP hD hS hA rfl (fun _ h9 => h9) 912 rfl (by decide) (by decide) (Nat.le_of_ble_eq_true rfl) ⟨Nat.le_of_ble_eq_true rfl, Nat.le_of_ble_eq_true rfl⟩ dX6_init_16 (fun b2 H hP hD hS => ?_)
  have hP : va_P D vwCl [(h, .inr (7, [.ref b1, .null, .null, .null, .int 0, .int 0, .int 0, .int 0, .int 0, .int 0, .int 0, .null, .int 0, .int 0, .null, .int 0, .null, .int 0, .null, .int 0])), (b1, .inl (cI, 114, .inl (fun _ => 0))), (b2, .inl (cI, 912, .inl (fun _ => 0)))] H := hP
  have hD : va_D A [(h, .inr (7, [.ref b1, .null, .null, .null, .int 0, .int 0, .int 0, .int 0, .int 0, .int 0, .int 0, .null, .int 0, .int 0, .null, .int 0, .null, .int 0, .null, .int 0])), (b1, .inl (cI, 114, .inl (fun _ => 0))), (b2, .inl (cI, 912, .inl (fun _ => 0)))] := hD
  refine va_putF (D := D) (ci := 7) (v := .ref b2) (ty := .array .int) (C := RX6) (T := TX6) (N := 20) hx hb hts q5 tyX6 tyX6_ok nmX6 hown hK hP hD hS 0 rfl rfl 1 (by decide) q6 (fun _ h9 => h9) rfl hin rfl (by decide +kernel) rfl rfl (Nat.le_of_ble_eq_true rfl) dX6_init_18 (fun H locs hP hD hS => ?_)
  have hP : va_P D vwCl [(h, .inr (7, [.ref b1, .ref b2, .null, .null, .int 0, .int 0, .int 0, .int 0, .int 0, .int 0, .int 0, .null, .int 0, .int 0, .null, .int 0, .null, .int 0, .null, .int 0])), (b1, .inl (cI, 114, .inl (fun _ => 0))), (b2, .inl (cI, 912, .inl (fun _ => 0)))] H := hP
  have hD : va_D A [(h, .inr (7, [.ref b1, .ref b2, .null, .null, .int 0, .int 0, .int 0, .int 0, .int 0, .int 0, .int 0, .null, .int 0, .int 0, .null, .int 0, .null, .int 0, .null, .int 0])), (b1, .inl (cI, 114, .inl (fun _ => 0))), (b2, .inl (cI, 912, .inl (fun _ => 0)))] := hD
  refine lv_aload_n hx hb dX6_init_21 rfl (lv_at hl 0 rfl) ?_
  refine lv_bipush (v := 114) hx hb dX6_init_22 (by decide) ?_
  refine fNA (atype := .int) (ty := .int) 0 ("[" ++ (FieldType.int).toString) hx hb q3 rfl hK hP hD hS hA rfl (fun _ h9 => h9) 114 rfl (by decide) (by decide) (Nat.le_of_ble_eq_true rfl) ⟨Nat.le_of_ble_eq_true rfl, Nat.le_of_ble_eq_true rfl⟩ dX6_init_24 (fun b3 H hP hD hS => ?_)
  have hP : va_P D vwCl [(h, .inr (7, [.ref b1, .ref b2, .null, .null, .int 0, .int 0, .int 0, .int 0, .int 0, .int 0, .int 0, .null, .int 0, .int 0, .null, .int 0, .null, .int 0, .null, .int 0])), (b1, .inl (cI, 114, .inl (fun _ => 0))), (b2, .inl (cI, 912, .inl (fun _ => 0))), (b3, .inl (cI, 114, .inl (fun _ => 0)))] H := hP
  have hD : va_D A [(h, .inr (7, [.ref b1, .ref b2, .null, .null, .int 0, .int 0, .int 0, .int 0, .int 0, .int 0, .int 0, .null, .int 0, .int 0, .null, .int 0, .null, .int 0, .null, .int 0])), (b1, .inl (cI, 114, .inl (fun _ => 0))), (b2, .inl (cI, 912, .inl (fun _ => 0))), (b3, .inl (cI, 114, .inl (fun _ => 0)))] := hD
  refine va_putF (D := D) (ci := 7) (v := .ref b3) (ty := .array .int) (C := RX6) (T := TX6) (N := 20) hx hb hts q5 tyX6 tyX6_ok nmX6 hown hK hP hD hS 0 rfl rfl 2 (by decide) q7 (fun _ h9 => h9) rfl hin rfl (by decide +kernel) rfl rfl (Nat.le_of_ble_eq_true rfl) dX6_init_26 (fun H locs hP hD hS => ?_)
  have hP : va_P D vwCl [(h, .inr (7, [.ref b1, .ref b2, .ref b3, .null, .int 0, .int 0, .int 0, .int 0, .int 0, .int 0, .int 0, .null, .int 0, .int 0, .null, .int 0, .null, .int 0, .null, .int 0])), (b1, .inl (cI, 114, .inl (fun _ => 0))), (b2, .inl (cI, 912, .inl (fun _ => 0))), (b3, .inl (cI, 114, .inl (fun _ => 0)))] H := hP
  have hD : va_D A [(h, .inr (7, [.ref b1, .ref b2, .ref b3, .null, .int 0, .int 0, .int 0, .int 0, .int 0, .int 0, .int 0, .null, .int 0, .int 0, .null, .int 0, .null, .int 0, .null, .int 0])), (b1, .inl (cI, 114, .inl (fun _ => 0))), (b2, .inl (cI, 912, .inl (fun _ => 0))), (b3, .inl (cI, 114, .inl (fun _ => 0)))] := hD
  refine lv_aload_n hx hb dX6_init_29 rfl (lv_at hl 0 rfl) ?_
  refine lv_bipush (v := 114) hx hb dX6_init_30 (by decide) ?_
  refine fNA (atype := .int) (ty := .int) 0 ("[" ++ (FieldType.int).toString) hx hb q3 rfl hK hP hD hS hA rfl (fun _ h9 => h9) 114 rfl (by decide) (by decide) (Nat.le_of_ble_eq_true rfl) ⟨Nat.le_of_ble_eq_true rfl, Nat.le_of_ble_eq_true rfl⟩ dX6_init_32 (fun b4 H hP hD hS => ?_)
  have hP : va_P D vwCl [(h, .inr (7, [.ref b1, .ref b2, .ref b3, .null, .int 0, .int 0, .int 0, .int 0, .int 0, .int 0, .int 0, .null, .int 0, .int 0, .null, .int 0, .null, .int 0, .null, .int 0])), (b1, .inl (cI, 114, .inl (fun _ => 0))), (b2, .inl (cI, 912, .inl (fun _ => 0))), (b3, .inl (cI, 114, .inl (fun _ => 0))), (b4, .inl (cI, 114, .inl (fun _ => 0)))] H := hP
  have hD : va_D A [(h, .inr (7, [.ref b1, .ref b2, .ref b3, .null, .int 0, .int 0, .int 0, .int 0, .int 0, .int 0, .int 0, .null, .int 0, .int 0, .null, .int 0, .null, .int 0, .null, .int 0])), (b1, .inl (cI, 114, .inl (fun _ => 0))), (b2, .inl (cI, 912, .inl (fun _ => 0))), (b3, .inl (cI, 114, .inl (fun _ => 0))), (b4, .inl (cI, 114, .inl (fun _ => 0)))] := hD
  refine va_putF (D := D) (ci := 7) (v := .ref b4) (ty := .array .int) (C := RX6) (T := TX6) (N := 20) hx hb hts q5 tyX6 tyX6_ok nmX6 hown hK hP hD hS 0 rfl rfl 3 (by decide) q8 (fun _ h9 => h9) rfl hin rfl (by decide +kernel) rfl rfl (Nat.le_of_ble_eq_true rfl) dX6_init_34 (fun H locs hP hD hS => ?_)
  have hP : va_P D vwCl [(h, .inr (7, [.ref b1, .ref b2, .ref b3, .ref b4, .int 0, .int 0, .int 0, .int 0, .int 0, .int 0, .int 0, .null, .int 0, .int 0, .null, .int 0, .null, .int 0, .null, .int 0])), (b1, .inl (cI, 114, .inl (fun _ => 0))), (b2, .inl (cI, 912, .inl (fun _ => 0))), (b3, .inl (cI, 114, .inl (fun _ => 0))), (b4, .inl (cI, 114, .inl (fun _ => 0)))] H := hP
  have hD : va_D A [(h, .inr (7, [.ref b1, .ref b2, .ref b3, .ref b4, .int 0, .int 0, .int 0, .int 0, .int 0, .int 0, .int 0, .null, .int 0, .int 0, .null, .int 0, .null, .int 0, .null, .int 0])), (b1, .inl (cI, 114, .inl (fun _ => 0))), (b2, .inl (cI, 912, .inl (fun _ => 0))), (b3, .inl (cI, 114, .inl (fun _ => 0))), (b4, .inl (cI, 114, .inl (fun _ => 0)))] := hD
  refine lv_aload_n hx hb dX6_init_37 rfl (lv_at hl 0 rfl) ?_
  refine lv_bipush (v := 60) hx hb dX6_init_38 (by decide) ?_
  refine fNA (atype := .int) (ty := .int) 0 ("[" ++ (FieldType.int).toString) hx hb q3 rfl hK hP hD hS hA rfl (fun _ h9 => h9) 60 rfl (by decide) (by decide) (Nat.le_of_ble_eq_true rfl) ⟨Nat.le_of_ble_eq_true rfl, Nat.le_of_ble_eq_true rfl⟩ dX6_init_40 (fun b5 H hP hD hS => ?_)
  have hP : va_P D vwCl [(h, .inr (7, [.ref b1, .ref b2, .ref b3, .ref b4, .int 0, .int 0, .int 0, .int 0, .int 0, .int 0, .int 0, .null, .int 0, .int 0, .null, .int 0, .null, .int 0, .null, .int 0])), (b1, .inl (cI, 114, .inl (fun _ => 0))), (b2, .inl (cI, 912, .inl (fun _ => 0))), (b3, .inl (cI, 114, .inl (fun _ => 0))), (b4, .inl (cI, 114, .inl (fun _ => 0))), (b5, .inl (cI, 60, .inl (fun _ => 0)))] H := hP
  have hD : va_D A [(h, .inr (7, [.ref b1, .ref b2, .ref b3, .ref b4, .int 0, .int 0, .int 0, .int 0, .int 0, .int 0, .int 0, .null, .int 0, .int 0, .null, .int 0, .null, .int 0, .null, .int 0])), (b1, .inl (cI, 114, .inl (fun _ => 0))), (b2, .inl (cI, 912, .inl (fun _ => 0))), (b3, .inl (cI, 114, .inl (fun _ => 0))), (b4, .inl (cI, 114, .inl (fun _ => 0))), (b5, .inl (cI, 60, .inl (fun _ => 0)))] := hD
  refine va_putF (D := D) (ci := 7) (v := .ref b5) (ty := .array .int) (C := RX6) (T := TX6) (N := 20) hx hb hts q5 tyX6 tyX6_ok nmX6 hown hK hP hD hS 0 rfl rfl 11 (by decide) q9 (fun _ h9 => h9) rfl hin rfl (by decide +kernel) rfl rfl (Nat.le_of_ble_eq_true rfl) dX6_init_42 (fun H locs hP hD hS => ?_)
  have hP : va_P D vwCl [(h, .inr (7, [.ref b1, .ref b2, .ref b3, .ref b4, .int 0, .int 0, .int 0, .int 0, .int 0, .int 0, .int 0, .ref b5, .int 0, .int 0, .null, .int 0, .null, .int 0, .null, .int 0])), (b1, .inl (cI, 114, .inl (fun _ => 0))), (b2, .inl (cI, 912, .inl (fun _ => 0))), (b3, .inl (cI, 114, .inl (fun _ => 0))), (b4, .inl (cI, 114, .inl (fun _ => 0))), (b5, .inl (cI, 60, .inl (fun _ => 0)))] H := hP
  have hD : va_D A [(h, .inr (7, [.ref b1, .ref b2, .ref b3, .ref b4, .int 0, .int 0, .int 0, .int 0, .int 0, .int 0, .int 0, .ref b5, .int 0, .int 0, .null, .int 0, .null, .int 0, .null, .int 0])), (b1, .inl (cI, 114, .inl (fun _ => 0))), (b2, .inl (cI, 912, .inl (fun _ => 0))), (b3, .inl (cI, 114, .inl (fun _ => 0))), (b4, .inl (cI, 114, .inl (fun _ => 0))), (b5, .inl (cI, 60, .inl (fun _ => 0)))] := hD
  refine lv_aload_n hx hb dX6_init_45 rfl (lv_at hl 0 rfl) ?_
  refine lv_iconst (v := (-1)) hx hb dX6_init_46 (by decide) ?_
  refine va_put (D := D) (ci := 7) (v := .int (-1)) (ty := .int) (C := RX6) (T := TX6) (N := 20) hx hb hts q5 tyX6 tyX6_ok nmX6 hown hK hP hD hS 0 rfl rfl 13 (by decide) q10 (fun _ h9 => h9) rfl (by decide +kernel) rfl rfl (Nat.le_of_ble_eq_true rfl) dX6_init_47 (fun H locs hP hD hS => ?_)
  have hP : va_P D vwCl [(h, .inr (7, [.ref b1, .ref b2, .ref b3, .ref b4, .int 0, .int 0, .int 0, .int 0, .int 0, .int 0, .int 0, .ref b5, .int 0, .int (-1), .null, .int 0, .null, .int 0, .null, .int 0])), (b1, .inl (cI, 114, .inl (fun _ => 0))), (b2, .inl (cI, 912, .inl (fun _ => 0))), (b3, .inl (cI, 114, .inl (fun _ => 0))), (b4, .inl (cI, 114, .inl (fun _ => 0))), (b5, .inl (cI, 60, .inl (fun _ => 0)))] H := hP
  have hD : va_D A [(h, .inr (7, [.ref b1, .ref b2, .ref b3, .ref b4, .int 0, .int 0, .int 0, .int 0, .int 0, .int 0, .int 0, .ref b5, .int 0, .int (-1), .null, .int 0, .null, .int 0, .null, .int 0])), (b1, .inl (cI, 114, .inl (fun _ => 0))), (b2, .inl (cI, 912, .inl (fun _ => 0))), (b3, .inl (cI, 114, .inl (fun _ => 0))), (b4, .inl (cI, 114, .inl (fun _ => 0))), (b5, .inl (cI, 60, .inl (fun _ => 0)))] := hD
  refine lv_aload_n hx hb dX6_init_50 rfl (lv_at hl 0 rfl) ?_
  refine lv_sipush (v := 900) hx hb dX6_init_51 (by decide) ?_
  refine fNA (atype := .char) (ty := .char) 1 ("[" ++ (FieldType.char).toString) hx hb q11 rfl hK hP hD hS hA rfl (fun _ h9 => h9) 900 rfl (by decide) (by decide) (Nat.le_of_ble_eq_true rfl) ⟨Nat.le_of_ble_eq_true rfl, Nat.le_of_ble_eq_true rfl⟩ dX6_init_54 (fun b6 H hP hD hS => ?_)
  have hP : va_P D vwCl [(h, .inr (7, [.ref b1, .ref b2, .ref b3, .ref b4, .int 0, .int 0, .int 0, .int 0, .int 0, .int 0, .int 0, .ref b5, .int 0, .int (-1), .null, .int 0, .null, .int 0, .null, .int 0])), (b1, .inl (cI, 114, .inl (fun _ => 0))), (b2, .inl (cI, 912, .inl (fun _ => 0))), (b3, .inl (cI, 114, .inl (fun _ => 0))), (b4, .inl (cI, 114, .inl (fun _ => 0))), (b5, .inl (cI, 60, .inl (fun _ => 0))), (b6, .inl (cC, 900, .inl (fun _ => 0)))] H := hP
  have hD : va_D A [(h, .inr (7, [.ref b1, .ref b2, .ref b3, .ref b4, .int 0, .int 0, .int 0, .int 0, .int 0, .int 0, .int 0, .ref b5, .int 0, .int (-1), .null, .int 0, .null, .int 0, .null, .int 0])), (b1, .inl (cI, 114, .inl (fun _ => 0))), (b2, .inl (cI, 912, .inl (fun _ => 0))), (b3, .inl (cI, 114, .inl (fun _ => 0))), (b4, .inl (cI, 114, .inl (fun _ => 0))), (b5, .inl (cI, 60, .inl (fun _ => 0))), (b6, .inl (cC, 900, .inl (fun _ => 0)))] := hD
  refine va_putF (D := D) (ci := 7) (v := .ref b6) (ty := .array .char) (C := RX6) (T := TX6) (N := 20) hx hb hts q5 tyX6 tyX6_ok nmX6 hown hK hP hD hS 0 rfl rfl 14 (by decide) q12 (fun _ h9 => h9) rfl hin rfl (by decide +kernel) rfl rfl (Nat.le_of_ble_eq_true rfl) dX6_init_56 (fun H locs hP hD hS => ?_)
  have hP : va_P D vwCl [(h, .inr (7, [.ref b1, .ref b2, .ref b3, .ref b4, .int 0, .int 0, .int 0, .int 0, .int 0, .int 0, .int 0, .ref b5, .int 0, .int (-1), .ref b6, .int 0, .null, .int 0, .null, .int 0])), (b1, .inl (cI, 114, .inl (fun _ => 0))), (b2, .inl (cI, 912, .inl (fun _ => 0))), (b3, .inl (cI, 114, .inl (fun _ => 0))), (b4, .inl (cI, 114, .inl (fun _ => 0))), (b5, .inl (cI, 60, .inl (fun _ => 0))), (b6, .inl (cC, 900, .inl (fun _ => 0)))] H := hP
  have hD : va_D A [(h, .inr (7, [.ref b1, .ref b2, .ref b3, .ref b4, .int 0, .int 0, .int 0, .int 0, .int 0, .int 0, .int 0, .ref b5, .int 0, .int (-1), .ref b6, .int 0, .null, .int 0, .null, .int 0])), (b1, .inl (cI, 114, .inl (fun _ => 0))), (b2, .inl (cI, 912, .inl (fun _ => 0))), (b3, .inl (cI, 114, .inl (fun _ => 0))), (b4, .inl (cI, 114, .inl (fun _ => 0))), (b5, .inl (cI, 60, .inl (fun _ => 0))), (b6, .inl (cC, 900, .inl (fun _ => 0)))] := hD
  refine lv_aload_n hx hb dX6_init_59 rfl (lv_at hl 0 rfl) ?_
  refine lv_bipush (v := 12) hx hb dX6_init_60 (by decide) ?_
  refine fNA (atype := .int) (ty := .int) 0 ("[" ++ (FieldType.int).toString) hx hb q3 rfl hK hP hD hS hA rfl (fun _ h9 => h9) 12 rfl (by decide) (by decide) (Nat.le_of_ble_eq_true rfl) ⟨Nat.le_of_ble_eq_true rfl, Nat.le_of_ble_eq_true rfl⟩ dX6_init_62 (fun b7 H hP hD hS => ?_)
  have hP : va_P D vwCl [(h, .inr (7, [.ref b1, .ref b2, .ref b3, .ref b4, .int 0, .int 0, .int 0, .int 0, .int 0, .int 0, .int 0, .ref b5, .int 0, .int (-1), .ref b6, .int 0, .null, .int 0, .null, .int 0])), (b1, .inl (cI, 114, .inl (fun _ => 0))), (b2, .inl (cI, 912, .inl (fun _ => 0))), (b3, .inl (cI, 114, .inl (fun _ => 0))), (b4, .inl (cI, 114, .inl (fun _ => 0))), (b5, .inl (cI, 60, .inl (fun _ => 0))), (b6, .inl (cC, 900, .inl (fun _ => 0))), (b7, .inl (cI, 12, .inl (fun _ => 0)))] H := hP
  have hD : va_D A [(h, .inr (7, [.ref b1, .ref b2, .ref b3, .ref b4, .int 0, .int 0, .int 0, .int 0, .int 0, .int 0, .int 0, .ref b5, .int 0, .int (-1), .ref b6, .int 0, .null, .int 0, .null, .int 0])), (b1, .inl (cI, 114, .inl (fun _ => 0))), (b2, .inl (cI, 912, .inl (fun _ => 0))), (b3, .inl (cI, 114, .inl (fun _ => 0))), (b4, .inl (cI, 114, .inl (fun _ => 0))), (b5, .inl (cI, 60, .inl (fun _ => 0))), (b6, .inl (cC, 900, .inl (fun _ => 0))), (b7, .inl (cI, 12, .inl (fun _ => 0)))] := hD
  refine va_putF (D := D) (ci := 7) (v := .ref b7) (ty := .array .int) (C := RX6) (T := TX6) (N := 20) hx hb hts q5 tyX6 tyX6_ok nmX6 hown hK hP hD hS 0 rfl rfl 16 (by decide) q13 (fun _ h9 => h9) rfl hin rfl (by decide +kernel) rfl rfl (Nat.le_of_ble_eq_true rfl) dX6_init_64 (fun H locs hP hD hS => ?_)
  have hP : va_P D vwCl [(h, .inr (7, [.ref b1, .ref b2, .ref b3, .ref b4, .int 0, .int 0, .int 0, .int 0, .int 0, .int 0, .int 0, .ref b5, .int 0, .int (-1), .ref b6, .int 0, .ref b7, .int 0, .null, .int 0])), (b1, .inl (cI, 114, .inl (fun _ => 0))), (b2, .inl (cI, 912, .inl (fun _ => 0))), (b3, .inl (cI, 114, .inl (fun _ => 0))), (b4, .inl (cI, 114, .inl (fun _ => 0))), (b5, .inl (cI, 60, .inl (fun _ => 0))), (b6, .inl (cC, 900, .inl (fun _ => 0))), (b7, .inl (cI, 12, .inl (fun _ => 0)))] H := hP
  have hD : va_D A [(h, .inr (7, [.ref b1, .ref b2, .ref b3, .ref b4, .int 0, .int 0, .int 0, .int 0, .int 0, .int 0, .int 0, .ref b5, .int 0, .int (-1), .ref b6, .int 0, .ref b7, .int 0, .null, .int 0])), (b1, .inl (cI, 114, .inl (fun _ => 0))), (b2, .inl (cI, 912, .inl (fun _ => 0))), (b3, .inl (cI, 114, .inl (fun _ => 0))), (b4, .inl (cI, 114, .inl (fun _ => 0))), (b5, .inl (cI, 60, .inl (fun _ => 0))), (b6, .inl (cC, 900, .inl (fun _ => 0))), (b7, .inl (cI, 12, .inl (fun _ => 0)))] := hD
  refine lv_aload_n hx hb dX6_init_67 rfl (lv_at hl 0 rfl) ?_
  refine lv_sipush (v := 155) hx hb dX6_init_68 (by decide) ?_
  refine fNA (atype := .int) (ty := .int) 0 ("[" ++ (FieldType.int).toString) hx hb q3 rfl hK hP hD hS hA rfl (fun _ h9 => h9) 155 rfl (by decide) (by decide) (Nat.le_of_ble_eq_true rfl) ⟨Nat.le_of_ble_eq_true rfl, Nat.le_of_ble_eq_true rfl⟩ dX6_init_71 (fun b8 H hP hD hS => ?_)
  have hP : va_P D vwCl [(h, .inr (7, [.ref b1, .ref b2, .ref b3, .ref b4, .int 0, .int 0, .int 0, .int 0, .int 0, .int 0, .int 0, .ref b5, .int 0, .int (-1), .ref b6, .int 0, .ref b7, .int 0, .null, .int 0])), (b1, .inl (cI, 114, .inl (fun _ => 0))), (b2, .inl (cI, 912, .inl (fun _ => 0))), (b3, .inl (cI, 114, .inl (fun _ => 0))), (b4, .inl (cI, 114, .inl (fun _ => 0))), (b5, .inl (cI, 60, .inl (fun _ => 0))), (b6, .inl (cC, 900, .inl (fun _ => 0))), (b7, .inl (cI, 12, .inl (fun _ => 0))), (b8, .inl (cI, 155, .inl (fun _ => 0)))] H := hP
  have hD : va_D A [(h, .inr (7, [.ref b1, .ref b2, .ref b3, .ref b4, .int 0, .int 0, .int 0, .int 0, .int 0, .int 0, .int 0, .ref b5, .int 0, .int (-1), .ref b6, .int 0, .ref b7, .int 0, .null, .int 0])), (b1, .inl (cI, 114, .inl (fun _ => 0))), (b2, .inl (cI, 912, .inl (fun _ => 0))), (b3, .inl (cI, 114, .inl (fun _ => 0))), (b4, .inl (cI, 114, .inl (fun _ => 0))), (b5, .inl (cI, 60, .inl (fun _ => 0))), (b6, .inl (cC, 900, .inl (fun _ => 0))), (b7, .inl (cI, 12, .inl (fun _ => 0))), (b8, .inl (cI, 155, .inl (fun _ => 0)))] := hD
  refine va_putF (D := D) (ci := 7) (v := .ref b8) (ty := .array .int) (C := RX6) (T := TX6) (N := 20) hx hb hts q5 tyX6 tyX6_ok nmX6 hown hK hP hD hS 0 rfl rfl 18 (by decide) q14 (fun _ h9 => h9) rfl hin rfl (by decide +kernel) rfl rfl (Nat.le_of_ble_eq_true rfl) dX6_init_73 (fun H locs hP hD hS => ?_)
  have hP : va_P D vwCl [(h, .inr (7, [.ref b1, .ref b2, .ref b3, .ref b4, .int 0, .int 0, .int 0, .int 0, .int 0, .int 0, .int 0, .ref b5, .int 0, .int (-1), .ref b6, .int 0, .ref b7, .int 0, .ref b8, .int 0])), (b1, .inl (cI, 114, .inl (fun _ => 0))), (b2, .inl (cI, 912, .inl (fun _ => 0))), (b3, .inl (cI, 114, .inl (fun _ => 0))), (b4, .inl (cI, 114, .inl (fun _ => 0))), (b5, .inl (cI, 60, .inl (fun _ => 0))), (b6, .inl (cC, 900, .inl (fun _ => 0))), (b7, .inl (cI, 12, .inl (fun _ => 0))), (b8, .inl (cI, 155, .inl (fun _ => 0)))] H := hP
  have hD : va_D A [(h, .inr (7, [.ref b1, .ref b2, .ref b3, .ref b4, .int 0, .int 0, .int 0, .int 0, .int 0, .int 0, .int 0, .ref b5, .int 0, .int (-1), .ref b6, .int 0, .ref b7, .int 0, .ref b8, .int 0])), (b1, .inl (cI, 114, .inl (fun _ => 0))), (b2, .inl (cI, 912, .inl (fun _ => 0))), (b3, .inl (cI, 114, .inl (fun _ => 0))), (b4, .inl (cI, 114, .inl (fun _ => 0))), (b5, .inl (cI, 60, .inl (fun _ => 0))), (b6, .inl (cC, 900, .inl (fun _ => 0))), (b7, .inl (cI, 12, .inl (fun _ => 0))), (b8, .inl (cI, 155, .inl (fun _ => 0)))] := hD
  refine lv_aload_n hx hb dX6_init_76 rfl (lv_at hl 0 rfl) ?_
  refine va_get (D := D) (ci := 7) (v := .ref b1) (C := RX6) (T := TX6) (N := 20) hx hb hts q5 hown hK hP 0 rfl rfl 0 (by decide) q4 (fun _ h9 => h9) rfl dX6_init_77 ?_
  refine lv_iconst (v := 2) hx hb dX6_init_80 (by decide) ?_
  refine lv_bipush (v := 6) hx hb dX6_init_81 (by decide) ?_
  refine va_iast hx hb hK hP hD hS 1 0 rfl rfl (ix_lt (m := 114) (by decide) (by decide) (by decide)) dX6_init_83 (fun H locs hP hD hS => ?_)
  have hP : va_P D vwCl [(h, .inr (7, [.ref b1, .ref b2, .ref b3, .ref b4, .int 0, .int 0, .int 0, .int 0, .int 0, .int 0, .int 0, .ref b5, .int 0, .int (-1), .ref b6, .int 0, .ref b7, .int 0, .ref b8, .int 0])), (b1, .inl (cI, 114, .inl (upd (fun _ => 0) (2 : Int32).toNatClampNeg 6))), (b2, .inl (cI, 912, .inl (fun _ => 0))), (b3, .inl (cI, 114, .inl (fun _ => 0))), (b4, .inl (cI, 114, .inl (fun _ => 0))), (b5, .inl (cI, 60, .inl (fun _ => 0))), (b6, .inl (cC, 900, .inl (fun _ => 0))), (b7, .inl (cI, 12, .inl (fun _ => 0))), (b8, .inl (cI, 155, .inl (fun _ => 0)))] H := hP
  have hD : va_D A [(h, .inr (7, [.ref b1, .ref b2, .ref b3, .ref b4, .int 0, .int 0, .int 0, .int 0, .int 0, .int 0, .int 0, .ref b5, .int 0, .int (-1), .ref b6, .int 0, .ref b7, .int 0, .ref b8, .int 0])), (b1, .inl (cI, 114, .inl (upd (fun _ => 0) (2 : Int32).toNatClampNeg 6))), (b2, .inl (cI, 912, .inl (fun _ => 0))), (b3, .inl (cI, 114, .inl (fun _ => 0))), (b4, .inl (cI, 114, .inl (fun _ => 0))), (b5, .inl (cI, 60, .inl (fun _ => 0))), (b6, .inl (cC, 900, .inl (fun _ => 0))), (b7, .inl (cI, 12, .inl (fun _ => 0))), (b8, .inl (cI, 155, .inl (fun _ => 0)))] := hD
  exact rCv (fun k => match k with | 0 => b1 | 1 => b2 | 2 => b3 | 3 => b4 | 4 => b5 | 5 => b6 | 6 => b7 | _ => b8) hx hb hr hlk hQ hP hD hS rfl ⟨Nat.le_of_ble_eq_true rfl, Nat.le_of_ble_eq_true rfl⟩ dX6_init_84
