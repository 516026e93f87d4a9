theorem xb_238_234 : ∀ w ∈ (vx_atS RX5 238 "java/lang/UnsupportedOperationException" xSup).filter (fun w => !goodWord w), w ∈ [Cond.castable "java/lang/UnsupportedOperationException" "java/lang/UnsupportedOperationException", Cond.declares (Bundle.initS "java/lang/RuntimeException"), Cond.declares (Bundle.initS "java/lang/Exception"), Cond.declares (Bundle.initS "java/lang/Throwable")] := by decide +kernel
theorem xg_238_234 : ∀ w ∈ Cond.classLink RX5 234 "java/lang/UnsupportedOperationException" :: Cond.initialized "java/lang/UnsupportedOperationException" :: vx_atS RX5 238 "java/lang/UnsupportedOperationException" xSup, vx_ot w = true := by decide +kernel
theorem xb_90_86 : ∀ w ∈ (vx_atS RX5 90 "java/lang/IllegalArgumentException" xSup).filter (fun w => !goodWord w), w ∈ [Cond.castable "java/lang/IllegalArgumentException" "java/lang/IllegalArgumentException", Cond.declares (Bundle.initS "java/lang/RuntimeException"), Cond.declares (Bundle.initS "java/lang/Exception"), Cond.declares (Bundle.initS "java/lang/Throwable")] := by decide +kernel
theorem xg_90_86 : ∀ w ∈ Cond.classLink RX5 86 "java/lang/IllegalArgumentException" :: Cond.initialized "java/lang/IllegalArgumentException" :: vx_atS RX5 90 "java/lang/IllegalArgumentException" xSup, vx_ot w = true := by decide +kernel
theorem xb_207_203 : ∀ w ∈ (vx_atS RX5 207 "java/lang/IndexOutOfBoundsException" xSup).filter (fun w => !goodWord w), w ∈ [Cond.castable "java/lang/IndexOutOfBoundsException" "java/lang/IndexOutOfBoundsException", Cond.declares (Bundle.initS "java/lang/RuntimeException"), Cond.declares (Bundle.initS "java/lang/Exception"), Cond.declares (Bundle.initS "java/lang/Throwable")] := by decide +kernel
theorem xg_207_203 : ∀ w ∈ Cond.classLink RX5 203 "java/lang/IndexOutOfBoundsException" :: Cond.initialized "java/lang/IndexOutOfBoundsException" :: vx_atS RX5 207 "java/lang/IndexOutOfBoundsException" xSup, vx_ot w = true := by decide +kernel
def fX5_settled (S : CV) (Hs : HV) (x1 : Int32) : ((Option String) × Int32 × HV) := (if x1 = (-1) then (some "java/lang/IndexOutOfBoundsException", 0, Hs) else (if x1 = (-2) then (some "java/lang/IllegalArgumentException", 0, Hs) else (if x1 = (-3) then (some "java/lang/UnsupportedOperationException", 0, Hs) else (none, x1, (fX1_keep Hs)))))
abbrev rmX5_settled : Room := { frames := 6, cells := 1, slots := 6, locals := 82 }
set_option maxHeartbeats 4000000 in
set_option maxRecDepth 100000 in
theorem kX5_settled (l : Launch) (D : va_G) (cI cC cT : ClassId) (x ot ou ov oh ox oy rr : Nat) (S : CV) (Hs : HV) (x1 : Int32) (hst : l.stackTraces = false) : mX l D (TY cI cC cT) yX5_settled wsX5_settled rmX5_settled [.ref x, .int x1] (w5 x ot ou ov oh ox oy S ++ w1 oh rr Hs) ((fX5_settled S Hs x1).1) (some (.int (fX5_settled S Hs x1).2.1)) (w5 x ot ou ov oh ox oy S ++ w1 oh rr (fX5_settled S Hs x1).2.2) 1 := by
  refine mX.ofW (cc := cX5_settled) (maxL := 2) (ret := (some .int)) (by decide) rfl (Nat.le_of_ble_eq_true rfl) ?_
  intro p e s m args below meth c Q ls A hx hb hml hr hlk hts hown hP hK hD hS hl hXE htb hQ hQx
  have hown : s.vm.findClass RX5 = some m.cls := hown
  have hP : va_P D vwCl (w5 x ot ou ov oh ox oy S ++ w1 oh rr Hs) s.heap := hP
  have hD : va_D A (w5 x ot ou ov oh ox oy S ++ w1 oh rr Hs) := hD
  have hl : lv_has ls 2 [(0, .ref x), (1, .int x1)] := hl
  have q0 := hts (Cond.fieldLink RX5 25 "TavernStools" "history" "LTavernStools$History;") (by decide +kernel)
  have q1 : ∀ w ∈ u_ws RX5 TX5 10, w ∈ wsX5_settled := by decide +kernel
  generalize hHe : s.heap = H at hP ⊢
  have hS : va_S A s.heap H [] := hHe ▸ hS
  generalize hLe : ([] : List Loc) = locs at hS ⊢
  refine lv_iload_n hx hb dX5_settled_0 rfl (lv_at hl 1 rfl) ?_
  refine lv_iconst (v := (-1)) hx hb dX5_settled_1 (by decide) ?_
  refine lv_icmp_ne (tgt := 16) hx hb dX5_settled_2 (by decide) (fun c_2 => ?_) (fun c_2 => ?_)
  · refine lv_iload_n hx hb dX5_settled_16 rfl (lv_at hl 1 rfl) ?_
    refine lv_bipush (v := (-2)) hx hb dX5_settled_17 (by decide) ?_
    refine lv_icmp_ne (tgt := 33) hx hb dX5_settled_19 (by decide) (fun c_19 => ?_) (fun c_19 => ?_)
    · refine lv_iload_n hx hb dX5_settled_33 rfl (lv_at hl 1 rfl) ?_
      refine lv_bipush (v := (-3)) hx hb dX5_settled_34 (by decide) ?_
      refine lv_icmp_ne (tgt := 50) hx hb dX5_settled_36 (by decide) (fun c_36 => ?_) (fun c_36 => ?_)
      · refine lv_aload_n hx hb dX5_settled_50 rfl (lv_at hl 0 rfl) ?_
        refine va_get (D := D) (ci := 6) (v := .ref oh) (C := RX5) (T := TX5) (N := 10) hx hb hts q1 hown hK hP 0 rfl rfl 3 (by decide) q0 (fun _ h9 => h9) rfl dX5_settled_51 ?_
        obtain ⟨n1, en1⟩ : ∃ z9, z9 = (fX1_keep Hs) := ⟨_, rfl⟩
        have k9 := (kX1_keep l D cI cC cT oh rr Hs)
        rw [← en1] at k9
        refine fUq (As := []) (rest := []) (st' := []) ⟨hx, hb, hml, hown, hts⟩ k9 (cwV 0 hts gX5_settled_X1_keep rfl rfl rfl (by decide +kernel) ⟨Nat.le_of_ble_eq_true rfl, Nat.le_of_ble_eq_true rfl⟩) hP hK hD hS (w5 x ot ou ov oh ox oy S : va_W) (pmI (fun a => by simp only [cntW_app, cntW_nil] <;> omega)) (w5 x ot ou ov oh ox oy S ++ w1 oh rr n1) (pmI (fun a => by simp only [cntW_app, cntW_nil] <;> omega)) rfl 1 (ci := 2) rfl rfl rfl rfl hl.1 rfl rfl (Nat.le_of_ble_eq_true rfl) ⟨Nat.le_of_ble_eq_true rfl, Nat.le_of_ble_eq_true rfl⟩ dX5_settled_54 (fun H locs hP hD hS => ?_)
        refine lv_iload_n hx hb dX5_settled_57 rfl (lv_at hl 1 rfl) ?_
        have e9 : fX5_settled S Hs x1 = (none, x1, n1) := by rw [fX5_settled, if_neg c_2, if_neg c_19, if_neg c_36, ← en1]
        exact rXi hx hb hr hlk hQ hP hS (by rw [e9]) (by rw [e9]) (congrArg (fun z9 : ((Option String) × Int32 × HV) => (w5 x ot ou ov oh ox oy S ++ w1 oh rr z9.2.2 : va_W)) e9).symm rfl ⟨Nat.le_of_ble_eq_true rfl, Nat.le_of_ble_eq_true rfl⟩ dX5_settled_58
      · have e9 : fX5_settled S Hs x1 = (some "java/lang/UnsupportedOperationException", 0, Hs) := by rw [fX5_settled, if_neg c_2, if_neg c_19, if_pos c_36]
        exact rXt (ik := 234) (is := 315) (ic := 238) (cls := "java/lang/UnsupportedOperationException") (text := "it is refused") hx hb hst hown hlk hts hXE htb hQ hP hS (hml.trans hl.1.symm) (by decide +kernel) (by decide +kernel) (by decide +kernel) (by decide +kernel) (by decide +kernel) (by decide +kernel) xb_238_234 xg_238_234 ⟨⟨Nat.le_of_ble_eq_true rfl, Nat.le_of_ble_eq_true rfl⟩, ⟨Nat.le_of_ble_eq_true rfl, Nat.le_of_ble_eq_true rfl⟩, ⟨Nat.le_of_ble_eq_true rfl, Nat.le_of_ble_eq_true rfl⟩⟩ (by rw [e9]) (congrArg (fun z9 : ((Option String) × Int32 × HV) => (w5 x ot ou ov oh ox oy S ++ w1 oh rr z9.2.2 : va_W)) e9).symm dX5_settled_39 dX5_settled_42 (Or.inr ⟨dX5_settled_43, dX5_settled_46, dX5_settled_49⟩)
    · have e9 : fX5_settled S Hs x1 = (some "java/lang/IllegalArgumentException", 0, Hs) := by rw [fX5_settled, if_neg c_2, if_pos c_19]
      exact rXt (ik := 86) (is := 313) (ic := 90) (cls := "java/lang/IllegalArgumentException") (text := "a number is out of range") hx hb hst hown hlk hts hXE htb hQ hP hS (hml.trans hl.1.symm) (by decide +kernel) (by decide +kernel) (by decide +kernel) (by decide +kernel) (by decide +kernel) (by decide +kernel) xb_90_86 xg_90_86 ⟨⟨Nat.le_of_ble_eq_true rfl, Nat.le_of_ble_eq_true rfl⟩, ⟨Nat.le_of_ble_eq_true rfl, Nat.le_of_ble_eq_true rfl⟩, ⟨Nat.le_of_ble_eq_true rfl, Nat.le_of_ble_eq_true rfl⟩⟩ (by rw [e9]) (congrArg (fun z9 : ((Option String) × Int32 × HV) => (w5 x ot ou ov oh ox oy S ++ w1 oh rr z9.2.2 : va_W)) e9).symm dX5_settled_22 dX5_settled_25 (Or.inr ⟨dX5_settled_26, dX5_settled_29, dX5_settled_32⟩)
  · have e9 : fX5_settled S Hs x1 = (some "java/lang/IndexOutOfBoundsException", 0, Hs) := by rw [fX5_settled, if_pos c_2]
    exact rXt (ik := 203) (is := 311) (ic := 207) (cls := "java/lang/IndexOutOfBoundsException") (text := "no such stool or sitter") hx hb hst hown hlk hts hXE htb hQ hP hS (hml.trans hl.1.symm) (by decide +kernel) (by decide +kernel) (by decide +kernel) (by decide +kernel) (by decide +kernel) (by decide +kernel) xb_207_203 xg_207_203 ⟨⟨Nat.le_of_ble_eq_true rfl, Nat.le_of_ble_eq_true rfl⟩, ⟨Nat.le_of_ble_eq_true rfl, Nat.le_of_ble_eq_true rfl⟩, ⟨Nat.le_of_ble_eq_true rfl, Nat.le_of_ble_eq_true rfl⟩⟩ (by rw [e9]) (congrArg (fun z9 : ((Option String) × Int32 × HV) => (w5 x ot ou ov oh ox oy S ++ w1 oh rr z9.2.2 : va_W)) e9).symm dX5_settled_5 dX5_settled_8 (Or.inr ⟨dX5_settled_9, dX5_settled_12, dX5_settled_15⟩)
def fX5_requireStool (S : CV) (T : TV) (x1 : Int32) : (Option String) := (if (fX3_hasStool T x1) = 0 then some "java/lang/IndexOutOfBoundsException" else none)
abbrev rmX5_requireStool : Room := { frames := 6, cells := 1, slots := 6, locals := 82 }
set_option maxHeartbeats 4000000 in
set_option maxRecDepth 100000 in
theorem kX5_requireStool (l : Launch) (D : va_G) (cI cC cT : ClassId) (x ot ou ov oh ox oy ot1 ot2 : Nat) (S : CV) (T : TV) (x1 : Int32) (hst : l.stackTraces = false) : mX l D (TY cI cC cT) yX5_requireStool wsX5_requireStool rmX5_requireStool [.ref x, .int x1] (w5 x ot ou ov oh ox oy S ++ w3 cI ot ot1 ot2 T) ((fX5_requireStool S T x1)) none (w5 x ot ou ov oh ox oy S ++ w3 cI ot ot1 ot2 T) 1 := by
  refine mX.ofW (cc := cX5_requireStool) (maxL := 2) (ret := none) (by decide) rfl (Nat.le_of_ble_eq_true rfl) ?_
  intro p e s m args below meth c Q ls A hx hb hml hr hlk hts hown hP hK hD hS hl hXE htb hQ hQx
  have hown : s.vm.findClass RX5 = some m.cls := hown
  have hP : va_P D vwCl (w5 x ot ou ov oh ox oy S ++ w3 cI ot ot1 ot2 T) s.heap := hP
  have hD : va_D A (w5 x ot ou ov oh ox oy S ++ w3 cI ot ot1 ot2 T) := hD
  have hl : lv_has ls 2 [(0, .ref x), (1, .int x1)] := hl
  have q0 := hts (Cond.fieldLink RX5 10 "TavernStools" "tavern" "LTavernStools$Tavern;") (by decide +kernel)
  have q1 : ∀ w ∈ u_ws RX5 TX5 10, w ∈ wsX5_requireStool := by decide +kernel
  generalize hHe : s.heap = H at hP ⊢
  have hS : va_S A s.heap H [] := hHe ▸ hS
  generalize hLe : ([] : List Loc) = locs at hS ⊢
  refine lv_aload_n hx hb dX5_requireStool_0 rfl (lv_at hl 0 rfl) ?_
  refine va_get (D := D) (ci := 6) (v := .ref ot) (C := RX5) (T := TX5) (N := 10) hx hb hts q1 hown hK hP 0 rfl rfl 0 (by decide) q0 (fun _ h9 => h9) rfl dX5_requireStool_1 ?_
  refine lv_iload_n hx hb dX5_requireStool_4 rfl (lv_at hl 1 rfl) ?_
  refine fRq (As := [.int x1]) (rest := []) (st' := [.int (fX3_hasStool T x1)]) ⟨hx, hb, hml, hown, hts⟩ (kX3_hasStool l D cI cC cT ot ot1 ot2 T x1) (cwV 1 hts gX5_requireStool_X3_hasStool rfl rfl rfl (by decide +kernel) ⟨Nat.le_of_ble_eq_true rfl, Nat.le_of_ble_eq_true rfl⟩) hP hK (w5 x ot ou ov oh ox oy S : va_W) (pmI (fun a => by simp only [cntW_app, cntW_nil] <;> omega)) 1 (ci := 4) rfl rfl rfl rfl hl.1 rfl rfl (Nat.le_of_ble_eq_true rfl) ⟨Nat.le_of_ble_eq_true rfl, Nat.le_of_ble_eq_true rfl⟩ dX5_requireStool_5 ?_
  refine lv_if_ne (tgt := 22) hx hb dX5_requireStool_8 (by decide) (fun c_8 => ?_) (fun c_8 => ?_)
  · have e9 : fX5_requireStool S T x1 = none := by rw [fX5_requireStool, if_neg c_8]
    exact rXv hx hb hr hlk hQ hP hS (by rw [e9]) rfl rfl ⟨Nat.le_of_ble_eq_true rfl, Nat.le_of_ble_eq_true rfl⟩ dX5_requireStool_22
  · have e9 : fX5_requireStool S T x1 = some "java/lang/IndexOutOfBoundsException" := by rw [fX5_requireStool, if_pos c_8]
    exact rXt (ik := 203) (is := 304) (ic := 207) (cls := "java/lang/IndexOutOfBoundsException") (text := "no such stool") hx hb hst hown hlk hts hXE htb hQ hP hS (hml.trans hl.1.symm) (by decide +kernel) (by decide +kernel) (by decide +kernel) (by decide +kernel) (by decide +kernel) (by decide +kernel) xb_207_203 xg_207_203 ⟨⟨Nat.le_of_ble_eq_true rfl, Nat.le_of_ble_eq_true rfl⟩, ⟨Nat.le_of_ble_eq_true rfl, Nat.le_of_ble_eq_true rfl⟩, ⟨Nat.le_of_ble_eq_true rfl, Nat.le_of_ble_eq_true rfl⟩⟩ (by rw [e9]) rfl dX5_requireStool_11 dX5_requireStool_14 (Or.inr ⟨dX5_requireStool_15, dX5_requireStool_18, dX5_requireStool_21⟩)
def fX5_requireSitter (S : CV) (T : TV) (x1 : Int32) : (Option String) := (if (fX3_hasSitter T x1) = 0 then some "java/lang/IndexOutOfBoundsException" else none)
abbrev rmX5_requireSitter : Room := { frames := 6, cells := 1, slots := 6, locals := 82 }
set_option maxHeartbeats 4000000 in
set_option maxRecDepth 100000 in
theorem kX5_requireSitter (l : Launch) (D : va_G) (cI cC cT : ClassId) (x ot ou ov oh ox oy ot1 ot2 : Nat) (S : CV) (T : TV) (x1 : Int32) (hst : l.stackTraces = false) : mX l D (TY cI cC cT) yX5_requireSitter wsX5_requireSitter rmX5_requireSitter [.ref x, .int x1] (w5 x ot ou ov oh ox oy S ++ w3 cI ot ot1 ot2 T) ((fX5_requireSitter S T x1)) none (w5 x ot ou ov oh ox oy S ++ w3 cI ot ot1 ot2 T) 1 := by
  refine mX.ofW (cc := cX5_requireSitter) (maxL := 2) (ret := none) (by decide) rfl (Nat.le_of_ble_eq_true rfl) ?_
  intro p e s m args below meth c Q ls A hx hb hml hr hlk hts hown hP hK hD hS hl hXE htb hQ hQx
  have hown : s.vm.findClass RX5 = some m.cls := hown
  have hP : va_P D vwCl (w5 x ot ou ov oh ox oy S ++ w3 cI ot ot1 ot2 T) s.heap := hP
  have hD : va_D A (w5 x ot ou ov oh ox oy S ++ w3 cI ot ot1 ot2 T) := hD
  have hl : lv_has ls 2 [(0, .ref x), (1, .int x1)] := hl
  have q0 := hts (Cond.fieldLink RX5 10 "TavernStools" "tavern" "LTavernStools$Tavern;") (by decide +kernel)
  have q1 : ∀ w ∈ u_ws RX5 TX5 10, w ∈ wsX5_requireSitter := by decide +kernel
  generalize hHe : s.heap = H at hP ⊢
  have hS : va_S A s.heap H [] := hHe ▸ hS
  generalize hLe : ([] : List Loc) = locs at hS ⊢
  refine lv_aload_n hx hb dX5_requireSitter_0 rfl (lv_at hl 0 rfl) ?_
  refine va_get (D := D) (ci := 6) (v := .ref ot) (C := RX5) (T := TX5) (N := 10) hx hb hts q1 hown hK hP 0 rfl rfl 0 (by decide) q0 (fun _ h9 => h9) rfl dX5_requireSitter_1 ?_
  refine lv_iload_n hx hb dX5_requireSitter_4 rfl (lv_at hl 1 rfl) ?_
  refine fRq (As := [.int x1]) (rest := []) (st' := [.int (fX3_hasSitter T x1)]) ⟨hx, hb, hml, hown, hts⟩ (kX3_hasSitter l D cI cC cT ot ot1 ot2 T x1) (cwV 1 hts gX5_requireSitter_X3_hasSitter rfl rfl rfl (by decide +kernel) ⟨Nat.le_of_ble_eq_true rfl, Nat.le_of_ble_eq_true rfl⟩) hP hK (w5 x ot ou ov oh ox oy S : va_W) (pmI (fun a => by simp only [cntW_app, cntW_nil] <;> omega)) 1 (ci := 4) rfl rfl rfl rfl hl.1 rfl rfl (Nat.le_of_ble_eq_true rfl) ⟨Nat.le_of_ble_eq_true rfl, Nat.le_of_ble_eq_true rfl⟩ dX5_requireSitter_5 ?_
  refine lv_if_ne (tgt := 22) hx hb dX5_requireSitter_8 (by decide) (fun c_8 => ?_) (fun c_8 => ?_)
  · have e9 : fX5_requireSitter S T x1 = none := by rw [fX5_requireSitter, if_neg c_8]
    exact rXv hx hb hr hlk hQ hP hS (by rw [e9]) rfl rfl ⟨Nat.le_of_ble_eq_true rfl, Nat.le_of_ble_eq_true rfl⟩ dX5_requireSitter_22
  · have e9 : fX5_requireSitter S T x1 = some "java/lang/IndexOutOfBoundsException" := by rw [fX5_requireSitter, if_pos c_8]
    exact rXt (ik := 203) (is := 309) (ic := 207) (cls := "java/lang/IndexOutOfBoundsException") (text := "no such sitter") hx hb hst hown hlk hts hXE htb hQ hP hS (hml.trans hl.1.symm) (by decide +kernel) (by decide +kernel) (by decide +kernel) (by decide +kernel) (by decide +kernel) (by decide +kernel) xb_207_203 xg_207_203 ⟨⟨Nat.le_of_ble_eq_true rfl, Nat.le_of_ble_eq_true rfl⟩, ⟨Nat.le_of_ble_eq_true rfl, Nat.le_of_ble_eq_true rfl⟩, ⟨Nat.le_of_ble_eq_true rfl, Nat.le_of_ble_eq_true rfl⟩⟩ (by rw [e9]) rfl dX5_requireSitter_11 dX5_requireSitter_14 (Or.inr ⟨dX5_requireSitter_15, dX5_requireSitter_18, dX5_requireSitter_21⟩)
def fX5_stool (S : CV) (T : TV) (Hs : HV) (G : (Nat → TV)) (x1 : Int32) (x2 : Int32) (x3 : Int32) (x4 : Int32) : ((Option String) × Int32 × CV × TV × HV × (Nat → TV)) := (if (fX5_settled (fX5_setUpStool S T x1 x2 x3 x4).2.1 Hs (fX5_setUpStool S T x1 x2 x3 x4).1).1 = none then (none, (fX5_settled (fX5_setUpStool S T x1 x2 x3 x4).2.1 Hs (fX5_setUpStool S T x1 x2 x3 x4).1).2.1, (fX5_setUpStool S T x1 x2 x3 x4).2.1, (fX5_setUpStool S T x1 x2 x3 x4).2.2, (fX5_settled (fX5_setUpStool S T x1 x2 x3 x4).2.1 Hs (fX5_setUpStool S T x1 x2 x3 x4).1).2.2, (fX1_prepare Hs G T)) else ((fX5_settled (fX5_setUpStool S T x1 x2 x3 x4).2.1 Hs (fX5_setUpStool S T x1 x2 x3 x4).1).1, 0, (fX5_setUpStool S T x1 x2 x3 x4).2.1, (fX5_setUpStool S T x1 x2 x3 x4).2.2, (fX5_settled (fX5_setUpStool S T x1 x2 x3 x4).2.1 Hs (fX5_setUpStool S T x1 x2 x3 x4).1).2.2, (fX1_prepare Hs G T)))
abbrev rmX5_stool : Room := { frames := 7, cells := 1, slots := 6, locals := 107 }
set_option maxHeartbeats 4000000 in
set_option maxRecDepth 100000 in
theorem kX5_stool (l : Launch) (D : va_G) (cI cC cT : ClassId) (x ot ou ov oh ox oy ot1 ot2 rr : Nat) (ra rb rc : Nat → Nat) (S : CV) (T : TV) (Hs : HV) (G : (Nat → TV)) (x1 : Int32) (x2 : Int32) (x3 : Int32) (x4 : Int32) (hst : l.stackTraces = false) (hn : ∃ j : Nat, j < 9 ∧ Hs.1 = nI j) : mX l D (TY cI cC cT) yX5_stool wsX5_stool rmX5_stool [.ref x, .int x1, .int x2, .int x3, .int x4] (w5 x ot ou ov oh ox oy S ++ w3 cI ot ot1 ot2 T ++ w1 oh rr Hs ++ wR cI cT rr ra rb rc G) ((fX5_stool S T Hs G x1 x2 x3 x4).1) (some (.int (fX5_stool S T Hs G x1 x2 x3 x4).2.1)) (w5 x ot ou ov oh ox oy (fX5_stool S T Hs G x1 x2 x3 x4).2.2.1 ++ w3 cI ot ot1 ot2 (fX5_stool S T Hs G x1 x2 x3 x4).2.2.2.1 ++ w1 oh rr (fX5_stool S T Hs G x1 x2 x3 x4).2.2.2.2.1 ++ wR cI cT rr ra rb rc (fX5_stool S T Hs G x1 x2 x3 x4).2.2.2.2.2) 1 := by
  refine mX.ofW (cc := cX5_stool) (maxL := 5) (ret := (some .int)) (by decide) rfl (Nat.le_of_ble_eq_true rfl) ?_
  intro p e s m args below meth c Q ls A hx hb hml hr hlk hts hown hP hK hD hS hl hXE htb hQ hQx
  have hown : s.vm.findClass RX5 = some m.cls := hown
  have hP : va_P D vwCl (w5 x ot ou ov oh ox oy S ++ w3 cI ot ot1 ot2 T ++ w1 oh rr Hs ++ wR cI cT rr ra rb rc G) s.heap := hP
  have hD : va_D A (w5 x ot ou ov oh ox oy S ++ w3 cI ot ot1 ot2 T ++ w1 oh rr Hs ++ wR cI cT rr ra rb rc G) := hD
  have hl : lv_has ls 5 [(0, .ref x), (1, .int x1), (2, .int x2), (3, .int x3), (4, .int x4)] := hl
  have q0 := hts (Cond.fieldLink RX5 25 "TavernStools" "history" "LTavernStools$History;") (by decide +kernel)
  have q1 : ∀ w ∈ u_ws RX5 TX5 10, w ∈ wsX5_stool := by decide +kernel
  have q2 := hts (Cond.fieldLink RX5 10 "TavernStools" "tavern" "LTavernStools$Tavern;") (by decide +kernel)
  generalize hHe : s.heap = H at hP ⊢
  have hS : va_S A s.heap H [] := hHe ▸ hS
  generalize hLe : ([] : List Loc) = locs at hS ⊢
  refine lv_aload_n hx hb dX5_stool_0 rfl (lv_at hl 0 rfl) ?_
  refine va_get (D := D) (ci := 6) (v := .ref oh) (C := RX5) (T := TX5) (N := 10) hx hb hts q1 hown hK hP 0 rfl rfl 3 (by decide) q0 (fun _ h9 => h9) rfl dX5_stool_1 ?_
  refine lv_aload_n hx hb dX5_stool_4 rfl (lv_at hl 0 rfl) ?_
  refine va_get (D := D) (ci := 6) (v := .ref ot) (C := RX5) (T := TX5) (N := 10) hx hb hts q1 hown hK hP 0 rfl rfl 0 (by decide) q2 (fun _ h9 => h9) rfl dX5_stool_5 ?_
  obtain ⟨n1, en1⟩ : ∃ z9, z9 = (fX1_prepare Hs G T) := ⟨_, rfl⟩
  have k9 := (kX1_prepare l D cI cC cT oh rr ot ot1 ot2 ra rb rc Hs G T hn)
  rw [← en1] at k9
  refine fUq (As := [.ref ot]) (rest := []) (st' := []) ⟨hx, hb, hml, hown, hts⟩ k9 (cwV 1 hts gX5_stool_X1_prepare rfl rfl rfl (by decide +kernel) ⟨Nat.le_of_ble_eq_true rfl, Nat.le_of_ble_eq_true rfl⟩) hP hK hD hS (w5 x ot ou ov oh ox oy S : va_W) (pmI (fun a => by simp only [cntW_app, cntW_nil] <;> omega)) (w5 x ot ou ov oh ox oy S ++ w3 cI ot ot1 ot2 T ++ w1 oh rr Hs ++ wR cI cT rr ra rb rc n1) (pmI (fun a => by simp only [cntW_app, cntW_nil] <;> omega)) rfl 4 (ci := 2) rfl rfl rfl rfl hl.1 rfl rfl (Nat.le_of_ble_eq_true rfl) ⟨Nat.le_of_ble_eq_true rfl, Nat.le_of_ble_eq_true rfl⟩ dX5_stool_8 (fun H locs hP hD hS => ?_)
  refine lv_aload_n hx hb dX5_stool_11 rfl (lv_at hl 0 rfl) ?_
  refine lv_aload_n hx hb dX5_stool_12 rfl (lv_at hl 0 rfl) ?_
  refine lv_iload_n hx hb dX5_stool_13 rfl (lv_at hl 1 rfl) ?_
  refine lv_iload_n hx hb dX5_stool_14 rfl (lv_at hl 2 rfl) ?_
  refine lv_iload_n hx hb dX5_stool_15 rfl (lv_at hl 3 rfl) ?_
  refine lv_iload hx hb dX5_stool_16 (lv_at hl 4 rfl) ?_
  obtain ⟨n2, en2⟩ : ∃ z9, z9 = (fX5_setUpStool S T x1 x2 x3 x4) := ⟨_, rfl⟩
  have k9 := (kX5_setUpStool l D cI cC cT x ot ou ov oh ox oy ot1 ot2 S T x1 x2 x3 x4)
  rw [← en2] at k9
  refine fUq (As := [.int x1, .int x2, .int x3, .int x4]) (rest := [.ref x]) (st' := [.int n2.1, .ref x]) ⟨hx, hb, hml, hown, hts⟩ k9 (cwV 4 hts gX5_stool_X5_setUpStool rfl rfl rfl (by decide +kernel) ⟨Nat.le_of_ble_eq_true rfl, Nat.le_of_ble_eq_true rfl⟩) hP hK hD hS (w1 oh rr Hs ++ wR cI cT rr ra rb rc n1 : va_W) (pmI (fun a => by simp only [cntW_app, cntW_nil] <;> omega)) (w5 x ot ou ov oh ox oy n2.2.1 ++ w3 cI ot ot1 ot2 n2.2.2 ++ w1 oh rr Hs ++ wR cI cT rr ra rb rc n1) (pmI (fun a => by simp only [cntW_app, cntW_nil] <;> omega)) rfl 0 (ci := 6) rfl rfl rfl rfl hl.1 rfl rfl (Nat.le_of_ble_eq_true rfl) ⟨Nat.le_of_ble_eq_true rfl, Nat.le_of_ble_eq_true rfl⟩ dX5_stool_18 (fun H locs hP hD hS => ?_)
  obtain ⟨n3, en3⟩ : ∃ z9, z9 = (fX5_settled n2.2.1 Hs n2.1) := ⟨_, rfl⟩
  have k9 := (kX5_settled l D cI cC cT x ot ou ov oh ox oy rr n2.2.1 Hs n2.1 hst)
  rw [← en3] at k9
  refine fXq (As := [.int n2.1]) (rest := []) (st' := [.int n3.2.1]) ⟨hx, hb, hml, hown, hts⟩ k9 (cwV 1 hts gX5_stool_X5_settled rfl rfl rfl (by decide +kernel) ⟨Nat.le_of_ble_eq_true rfl, Nat.le_of_ble_eq_true rfl⟩) hP hK hD hS hXE (w3 cI ot ot1 ot2 n2.2.2 ++ wR cI cT rr ra rb rc n1 : va_W) (pmI (fun a => by simp only [cntW_app, cntW_nil] <;> omega)) (w5 x ot ou ov oh ox oy n2.2.1 ++ w3 cI ot ot1 ot2 n2.2.2 ++ w1 oh rr n3.2.2 ++ wR cI cT rr ra rb rc n1) (pmI (fun a => by simp only [cntW_app, cntW_nil] <;> omega)) rfl 0 (ci := 6) rfl rfl rfl rfl hl.1 rfl rfl (Nat.le_of_ble_eq_true rfl) ⟨Nat.le_of_ble_eq_true rfl, Nat.le_of_ble_eq_true rfl⟩ dX5_stool_21 (fun C9 ce9 q9 H locs hE9 hP hD hS hq9 hv9 hc9 => ?_) (fun H locs c_21 hP hD hS => ?_)
  · have c_21 : ¬ n3.1 = none := by rw [hE9]; exact fun z => nomatch z
    have e9 : fX5_stool S T Hs G x1 x2 x3 x4 = (n3.1, 0, n2.2.1, n2.2.2, n3.2.2, n1) := by rw [fX5_stool, ← en1, ← en2, ← en3, if_neg c_21]
    exact rXp hlk htb hQx hP hS (by rw [e9]; exact hE9) (congrArg (fun z9 : ((Option String) × Int32 × CV × TV × HV × (Nat → TV)) => (w5 x ot ou ov oh ox oy z9.2.2.1 ++ w3 cI ot ot1 ot2 z9.2.2.2.1 ++ w1 oh rr z9.2.2.2.2.1 ++ wR cI cT rr ra rb rc z9.2.2.2.2.2 : va_W)) e9).symm hq9 hv9 hc9 ⟨Nat.le_of_ble_eq_true rfl, Nat.le_of_ble_eq_true rfl⟩
  · have e9 : fX5_stool S T Hs G x1 x2 x3 x4 = (none, n3.2.1, n2.2.1, n2.2.2, n3.2.2, n1) := by rw [fX5_stool, ← en1, ← en2, ← en3, if_pos c_21]
    exact rXi hx hb hr hlk hQ hP hS (by rw [e9]) (by rw [e9]) (congrArg (fun z9 : ((Option String) × Int32 × CV × TV × HV × (Nat → TV)) => (w5 x ot ou ov oh ox oy z9.2.2.1 ++ w3 cI ot ot1 ot2 z9.2.2.2.1 ++ w1 oh rr z9.2.2.2.2.1 ++ wR cI cT rr ra rb rc z9.2.2.2.2.2 : va_W)) e9).symm rfl ⟨Nat.le_of_ble_eq_true rfl, Nat.le_of_ble_eq_true rfl⟩ dX5_stool_24
def fX5_guest (S : CV) (T : TV) (Hs : HV) (G : (Nat → TV)) (x1 : Int32) (x2 : Int32) : ((Option String) × Int32 × CV × TV × HV × (Nat → TV)) := (if (fX5_settled (fX5_letGuestCome S T x1 x2).2.1 Hs (fX5_letGuestCome S T x1 x2).1).1 = none then (none, (fX5_settled (fX5_letGuestCome S T x1 x2).2.1 Hs (fX5_letGuestCome S T x1 x2).1).2.1, (fX5_letGuestCome S T x1 x2).2.1, (fX5_letGuestCome S T x1 x2).2.2, (fX5_settled (fX5_letGuestCome S T x1 x2).2.1 Hs (fX5_letGuestCome S T x1 x2).1).2.2, (fX1_prepare Hs G T)) else ((fX5_settled (fX5_letGuestCome S T x1 x2).2.1 Hs (fX5_letGuestCome S T x1 x2).1).1, 0, (fX5_letGuestCome S T x1 x2).2.1, (fX5_letGuestCome S T x1 x2).2.2, (fX5_settled (fX5_letGuestCome S T x1 x2).2.1 Hs (fX5_letGuestCome S T x1 x2).1).2.2, (fX1_prepare Hs G T)))
abbrev rmX5_guest : Room := { frames := 7, cells := 1, slots := 6, locals := 107 }
set_option maxHeartbeats 4000000 in
set_option maxRecDepth 100000 in
theorem kX5_guest (l : Launch) (D : va_G) (cI cC cT : ClassId) (x ot ou ov oh ox oy ot1 ot2 rr : Nat) (ra rb rc : Nat → Nat) (S : CV) (T : TV) (Hs : HV) (G : (Nat → TV)) (x1 : Int32) (x2 : Int32) (hst : l.stackTraces = false) (hn : ∃ j : Nat, j < 9 ∧ Hs.1 = nI j) : mX l D (TY cI cC cT) yX5_guest wsX5_guest rmX5_guest [.ref x, .int x1, .int x2] (w5 x ot ou ov oh ox oy S ++ w3 cI ot ot1 ot2 T ++ w1 oh rr Hs ++ wR cI cT rr ra rb rc G) ((fX5_guest S T Hs G x1 x2).1) (some (.int (fX5_guest S T Hs G x1 x2).2.1)) (w5 x ot ou ov oh ox oy (fX5_guest S T Hs G x1 x2).2.2.1 ++ w3 cI ot ot1 ot2 (fX5_guest S T Hs G x1 x2).2.2.2.1 ++ w1 oh rr (fX5_guest S T Hs G x1 x2).2.2.2.2.1 ++ wR cI cT rr ra rb rc (fX5_guest S T Hs G x1 x2).2.2.2.2.2) 1 := by
  refine mX.ofW (cc := cX5_guest) (maxL := 3) (ret := (some .int)) (by decide) rfl (Nat.le_of_ble_eq_true rfl) ?_
  intro p e s m args below meth c Q ls A hx hb hml hr hlk hts hown hP hK hD hS hl hXE htb hQ hQx
  have hown : s.vm.findClass RX5 = some m.cls := hown
  have hP : va_P D vwCl (w5 x ot ou ov oh ox oy S ++ w3 cI ot ot1 ot2 T ++ w1 oh rr Hs ++ wR cI cT rr ra rb rc G) s.heap := hP
  have hD : va_D A (w5 x ot ou ov oh ox oy S ++ w3 cI ot ot1 ot2 T ++ w1 oh rr Hs ++ wR cI cT rr ra rb rc G) := hD
  have hl : lv_has ls 3 [(0, .ref x), (1, .int x1), (2, .int x2)] := hl
  have q0 := hts (Cond.fieldLink RX5 25 "TavernStools" "history" "LTavernStools$History;") (by decide +kernel)
  have q1 : ∀ w ∈ u_ws RX5 TX5 10, w ∈ wsX5_guest := by decide +kernel
  have q2 := hts (Cond.fieldLink RX5 10 "TavernStools" "tavern" "LTavernStools$Tavern;") (by decide +kernel)
  generalize hHe : s.heap = H at hP ⊢
  have hS : va_S A s.heap H [] := hHe ▸ hS
  generalize hLe : ([] : List Loc) = locs at hS ⊢
  refine lv_aload_n hx hb dX5_guest_0 rfl (lv_at hl 0 rfl) ?_
  refine va_get (D := D) (ci := 6) (v := .ref oh) (C := RX5) (T := TX5) (N := 10) hx hb hts q1 hown hK hP 0 rfl rfl 3 (by decide) q0 (fun _ h9 => h9) rfl dX5_guest_1 ?_
  refine lv_aload_n hx hb dX5_guest_4 rfl (lv_at hl 0 rfl) ?_
  refine va_get (D := D) (ci := 6) (v := .ref ot) (C := RX5) (T := TX5) (N := 10) hx hb hts q1 hown hK hP 0 rfl rfl 0 (by decide) q2 (fun _ h9 => h9) rfl dX5_guest_5 ?_
  obtain ⟨n1, en1⟩ : ∃ z9, z9 = (fX1_prepare Hs G T) := ⟨_, rfl⟩
  have k9 := (kX1_prepare l D cI cC cT oh rr ot ot1 ot2 ra rb rc Hs G T hn)
  rw [← en1] at k9
  refine fUq (As := [.ref ot]) (rest := []) (st' := []) ⟨hx, hb, hml, hown, hts⟩ k9 (cwV 1 hts gX5_guest_X1_prepare rfl rfl rfl (by decide +kernel) ⟨Nat.le_of_ble_eq_true rfl, Nat.le_of_ble_eq_true rfl⟩) hP hK hD hS (w5 x ot ou ov oh ox oy S : va_W) (pmI (fun a => by simp only [cntW_app, cntW_nil] <;> omega)) (w5 x ot ou ov oh ox oy S ++ w3 cI ot ot1 ot2 T ++ w1 oh rr Hs ++ wR cI cT rr ra rb rc n1) (pmI (fun a => by simp only [cntW_app, cntW_nil] <;> omega)) rfl 4 (ci := 2) rfl rfl rfl rfl hl.1 rfl rfl (Nat.le_of_ble_eq_true rfl) ⟨Nat.le_of_ble_eq_true rfl, Nat.le_of_ble_eq_true rfl⟩ dX5_guest_8 (fun H locs hP hD hS => ?_)
  refine lv_aload_n hx hb dX5_guest_11 rfl (lv_at hl 0 rfl) ?_
  refine lv_aload_n hx hb dX5_guest_12 rfl (lv_at hl 0 rfl) ?_
  refine lv_iload_n hx hb dX5_guest_13 rfl (lv_at hl 1 rfl) ?_
  refine lv_iload_n hx hb dX5_guest_14 rfl (lv_at hl 2 rfl) ?_
  obtain ⟨n2, en2⟩ : ∃ z9, z9 = (fX5_letGuestCome S T x1 x2) := ⟨_, rfl⟩
  have k9 := (kX5_letGuestCome l D cI cC cT x ot ou ov oh ox oy ot1 ot2 S T x1 x2)
  rw [← en2] at k9
  refine fUq (As := [.int x1, .int x2]) (rest := [.ref x]) (st' := [.int n2.1, .ref x]) ⟨hx, hb, hml, hown, hts⟩ k9 (cwV 2 hts gX5_guest_X5_letGuestCome rfl rfl rfl (by decide +kernel) ⟨Nat.le_of_ble_eq_true rfl, Nat.le_of_ble_eq_true rfl⟩) hP hK hD hS (w1 oh rr Hs ++ wR cI cT rr ra rb rc n1 : va_W) (pmI (fun a => by simp only [cntW_app, cntW_nil] <;> omega)) (w5 x ot ou ov oh ox oy n2.2.1 ++ w3 cI ot ot1 ot2 n2.2.2 ++ w1 oh rr Hs ++ wR cI cT rr ra rb rc n1) (pmI (fun a => by simp only [cntW_app, cntW_nil] <;> omega)) rfl 0 (ci := 6) rfl rfl rfl rfl hl.1 rfl rfl (Nat.le_of_ble_eq_true rfl) ⟨Nat.le_of_ble_eq_true rfl, Nat.le_of_ble_eq_true rfl⟩ dX5_guest_15 (fun H locs hP hD hS => ?_)
  obtain ⟨n3, en3⟩ : ∃ z9, z9 = (fX5_settled n2.2.1 Hs n2.1) := ⟨_, rfl⟩
  have k9 := (kX5_settled l D cI cC cT x ot ou ov oh ox oy rr n2.2.1 Hs n2.1 hst)
  rw [← en3] at k9
  refine fXq (As := [.int n2.1]) (rest := []) (st' := [.int n3.2.1]) ⟨hx, hb, hml, hown, hts⟩ k9 (cwV 1 hts gX5_guest_X5_settled rfl rfl rfl (by decide +kernel) ⟨Nat.le_of_ble_eq_true rfl, Nat.le_of_ble_eq_true rfl⟩) hP hK hD hS hXE (w3 cI ot ot1 ot2 n2.2.2 ++ wR cI cT rr ra rb rc n1 : va_W) (pmI (fun a => by simp only [cntW_app, cntW_nil] <;> omega)) (w5 x ot ou ov oh ox oy n2.2.1 ++ w3 cI ot ot1 ot2 n2.2.2 ++ w1 oh rr n3.2.2 ++ wR cI cT rr ra rb rc n1) (pmI (fun a => by simp only [cntW_app, cntW_nil] <;> omega)) rfl 0 (ci := 6) rfl rfl rfl rfl hl.1 rfl rfl (Nat.le_of_ble_eq_true rfl) ⟨Nat.le_of_ble_eq_true rfl, Nat.le_of_ble_eq_true rfl⟩ dX5_guest_18 (fun C9 ce9 q9 H locs hE9 hP hD hS hq9 hv9 hc9 => ?_) (fun H locs c_18 hP hD hS => ?_)
  · have c_18 : ¬ n3.1 = none := by rw [hE9]; exact fun z => nomatch z
    have e9 : fX5_guest S T Hs G x1 x2 = (n3.1, 0, n2.2.1, n2.2.2, n3.2.2, n1) := by rw [fX5_guest, ← en1, ← en2, ← en3, if_neg c_18]
    exact rXp hlk htb hQx hP hS (by rw [e9]; exact hE9) (congrArg (fun z9 : ((Option String) × Int32 × CV × TV × HV × (Nat → TV)) => (w5 x ot ou ov oh ox oy z9.2.2.1 ++ w3 cI ot ot1 ot2 z9.2.2.2.1 ++ w1 oh rr z9.2.2.2.2.1 ++ wR cI cT rr ra rb rc z9.2.2.2.2.2 : va_W)) e9).symm hq9 hv9 hc9 ⟨Nat.le_of_ble_eq_true rfl, Nat.le_of_ble_eq_true rfl⟩
  · have e9 : fX5_guest S T Hs G x1 x2 = (none, n3.2.1, n2.2.1, n2.2.2, n3.2.2, n1) := by rw [fX5_guest, ← en1, ← en2, ← en3, if_pos c_18]
    exact rXi hx hb hr hlk hQ hP hS (by rw [e9]) (by rw [e9]) (congrArg (fun z9 : ((Option String) × Int32 × CV × TV × HV × (Nat → TV)) => (w5 x ot ou ov oh ox oy z9.2.2.1 ++ w3 cI ot ot1 ot2 z9.2.2.2.1 ++ w1 oh rr z9.2.2.2.2.1 ++ wR cI cT rr ra rb rc z9.2.2.2.2.2 : va_W)) e9).symm rfl ⟨Nat.le_of_ble_eq_true rfl, Nat.le_of_ble_eq_true rfl⟩ dX5_guest_21
def fX5_cat (S : CV) (T : TV) (Hs : HV) (G : (Nat → TV)) (x1 : Int32) : ((Option String) × Int32 × CV × TV × HV × (Nat → TV)) := (if (fX5_settled (fX5_letSitterCome S T 0 x1).2.1 Hs (fX5_letSitterCome S T 0 x1).1).1 = none then (none, (fX5_settled (fX5_letSitterCome S T 0 x1).2.1 Hs (fX5_letSitterCome S T 0 x1).1).2.1, (fX5_letSitterCome S T 0 x1).2.1, (fX5_letSitterCome S T 0 x1).2.2, (fX5_settled (fX5_letSitterCome S T 0 x1).2.1 Hs (fX5_letSitterCome S T 0 x1).1).2.2, (fX1_prepare Hs G T)) else ((fX5_settled (fX5_letSitterCome S T 0 x1).2.1 Hs (fX5_letSitterCome S T 0 x1).1).1, 0, (fX5_letSitterCome S T 0 x1).2.1, (fX5_letSitterCome S T 0 x1).2.2, (fX5_settled (fX5_letSitterCome S T 0 x1).2.1 Hs (fX5_letSitterCome S T 0 x1).1).2.2, (fX1_prepare Hs G T)))
abbrev rmX5_cat : Room := { frames := 7, cells := 1, slots := 6, locals := 107 }
set_option maxHeartbeats 4000000 in
set_option maxRecDepth 100000 in
theorem kX5_cat (l : Launch) (D : va_G) (cI cC cT : ClassId) (x ot ou ov oh ox oy ot1 ot2 rr : Nat) (ra rb rc : Nat → Nat) (S : CV) (T : TV) (Hs : HV) (G : (Nat → TV)) (x1 : Int32) (hst : l.stackTraces = false) (hn : ∃ j : Nat, j < 9 ∧ Hs.1 = nI j) : mX l D (TY cI cC cT) yX5_cat wsX5_cat rmX5_cat [.ref x, .int x1] (w5 x ot ou ov oh ox oy S ++ w3 cI ot ot1 ot2 T ++ w1 oh rr Hs ++ wR cI cT rr ra rb rc G) ((fX5_cat S T Hs G x1).1) (some (.int (fX5_cat S T Hs G x1).2.1)) (w5 x ot ou ov oh ox oy (fX5_cat S T Hs G x1).2.2.1 ++ w3 cI ot ot1 ot2 (fX5_cat S T Hs G x1).2.2.2.1 ++ w1 oh rr (fX5_cat S T Hs G x1).2.2.2.2.1 ++ wR cI cT rr ra rb rc (fX5_cat S T Hs G x1).2.2.2.2.2) 1 := by
  refine mX.ofW (cc := cX5_cat) (maxL := 2) (ret := (some .int)) (by decide) rfl (Nat.le_of_ble_eq_true rfl) ?_
  intro p e s m args below meth c Q ls A hx hb hml hr hlk hts hown hP hK hD hS hl hXE htb hQ hQx
  have hown : s.vm.findClass RX5 = some m.cls := hown
  have hP : va_P D vwCl (w5 x ot ou ov oh ox oy S ++ w3 cI ot ot1 ot2 T ++ w1 oh rr Hs ++ wR cI cT rr ra rb rc G) s.heap := hP
  have hD : va_D A (w5 x ot ou ov oh ox oy S ++ w3 cI ot ot1 ot2 T ++ w1 oh rr Hs ++ wR cI cT rr ra rb rc G) := hD
  have hl : lv_has ls 2 [(0, .ref x), (1, .int x1)] := hl
  have q0 := hts (Cond.fieldLink RX5 25 "TavernStools" "history" "LTavernStools$History;") (by decide +kernel)
  have q1 : ∀ w ∈ u_ws RX5 TX5 10, w ∈ wsX5_cat := by decide +kernel
  have q2 := hts (Cond.fieldLink RX5 10 "TavernStools" "tavern" "LTavernStools$Tavern;") (by decide +kernel)
  generalize hHe : s.heap = H at hP ⊢
  have hS : va_S A s.heap H [] := hHe ▸ hS
  generalize hLe : ([] : List Loc) = locs at hS ⊢
  refine lv_aload_n hx hb dX5_cat_0 rfl (lv_at hl 0 rfl) ?_
  refine va_get (D := D) (ci := 6) (v := .ref oh) (C := RX5) (T := TX5) (N := 10) hx hb hts q1 hown hK hP 0 rfl rfl 3 (by decide) q0 (fun _ h9 => h9) rfl dX5_cat_1 ?_
  refine lv_aload_n hx hb dX5_cat_4 rfl (lv_at hl 0 rfl) ?_
  refine va_get (D := D) (ci := 6) (v := .ref ot) (C := RX5) (T := TX5) (N := 10) hx hb hts q1 hown hK hP 0 rfl rfl 0 (by decide) q2 (fun _ h9 => h9) rfl dX5_cat_5 ?_
  obtain ⟨n1, en1⟩ : ∃ z9, z9 = (fX1_prepare Hs G T) := ⟨_, rfl⟩
  have k9 := (kX1_prepare l D cI cC cT oh rr ot ot1 ot2 ra rb rc Hs G T hn)
  rw [← en1] at k9
  refine fUq (As := [.ref ot]) (rest := []) (st' := []) ⟨hx, hb, hml, hown, hts⟩ k9 (cwV 1 hts gX5_cat_X1_prepare rfl rfl rfl (by decide +kernel) ⟨Nat.le_of_ble_eq_true rfl, Nat.le_of_ble_eq_true rfl⟩) hP hK hD hS (w5 x ot ou ov oh ox oy S : va_W) (pmI (fun a => by simp only [cntW_app, cntW_nil] <;> omega)) (w5 x ot ou ov oh ox oy S ++ w3 cI ot ot1 ot2 T ++ w1 oh rr Hs ++ wR cI cT rr ra rb rc n1) (pmI (fun a => by simp only [cntW_app, cntW_nil] <;> omega)) rfl 4 (ci := 2) rfl rfl rfl rfl hl.1 rfl rfl (Nat.le_of_ble_eq_true rfl) ⟨Nat.le_of_ble_eq_true rfl, Nat.le_of_ble_eq_true rfl⟩ dX5_cat_8 (fun H locs hP hD hS => ?_)
  refine lv_aload_n hx hb dX5_cat_11 rfl (lv_at hl 0 rfl) ?_
  refine lv_aload_n hx hb dX5_cat_12 rfl (lv_at hl 0 rfl) ?_
  refine lv_iconst (v := 0) hx hb dX5_cat_13 (by decide) ?_
  refine lv_iload_n hx hb dX5_cat_14 rfl (lv_at hl 1 rfl) ?_
  obtain ⟨n2, en2⟩ : ∃ z9, z9 = (fX5_letSitterCome S T 0 x1) := ⟨_, rfl⟩
  have k9 := (kX5_letSitterCome l D cI cC cT x ot ou ov oh ox oy ot1 ot2 S T 0 x1)
  rw [← en2] at k9
  refine fUq (As := [.int 0, .int x1]) (rest := [.ref x]) (st' := [.int n2.1, .ref x]) ⟨hx, hb, hml, hown, hts⟩ k9 (cwV 2 hts gX5_cat_X5_letSitterCome rfl rfl rfl (by decide +kernel) ⟨Nat.le_of_ble_eq_true rfl, Nat.le_of_ble_eq_true rfl⟩) hP hK hD hS (w1 oh rr Hs ++ wR cI cT rr ra rb rc n1 : va_W) (pmI (fun a => by simp only [cntW_app, cntW_nil] <;> omega)) (w5 x ot ou ov oh ox oy n2.2.1 ++ w3 cI ot ot1 ot2 n2.2.2 ++ w1 oh rr Hs ++ wR cI cT rr ra rb rc n1) (pmI (fun a => by simp only [cntW_app, cntW_nil] <;> omega)) rfl 0 (ci := 6) rfl rfl rfl rfl hl.1 rfl rfl (Nat.le_of_ble_eq_true rfl) ⟨Nat.le_of_ble_eq_true rfl, Nat.le_of_ble_eq_true rfl⟩ dX5_cat_15 (fun H locs hP hD hS => ?_)
  obtain ⟨n3, en3⟩ : ∃ z9, z9 = (fX5_settled n2.2.1 Hs n2.1) := ⟨_, rfl⟩
  have k9 := (kX5_settled l D cI cC cT x ot ou ov oh ox oy rr n2.2.1 Hs n2.1 hst)
  rw [← en3] at k9
  refine fXq (As := [.int n2.1]) (rest := []) (st' := [.int n3.2.1]) ⟨hx, hb, hml, hown, hts⟩ k9 (cwV 1 hts gX5_cat_X5_settled rfl rfl rfl (by decide +kernel) ⟨Nat.le_of_ble_eq_true rfl, Nat.le_of_ble_eq_true rfl⟩) hP hK hD hS hXE (w3 cI ot ot1 ot2 n2.2.2 ++ wR cI cT rr ra rb rc n1 : va_W) (pmI (fun a => by simp only [cntW_app, cntW_nil] <;> omega)) (w5 x ot ou ov oh ox oy n2.2.1 ++ w3 cI ot ot1 ot2 n2.2.2 ++ w1 oh rr n3.2.2 ++ wR cI cT rr ra rb rc n1) (pmI (fun a => by simp only [cntW_app, cntW_nil] <;> omega)) rfl 0 (ci := 6) rfl rfl rfl rfl hl.1 rfl rfl (Nat.le_of_ble_eq_true rfl) ⟨Nat.le_of_ble_eq_true rfl, Nat.le_of_ble_eq_true rfl⟩ dX5_cat_18 (fun C9 ce9 q9 H locs hE9 hP hD hS hq9 hv9 hc9 => ?_) (fun H locs c_18 hP hD hS => ?_)
  · have c_18 : ¬ n3.1 = none := by rw [hE9]; exact fun z => nomatch z
    have e9 : fX5_cat S T Hs G x1 = (n3.1, 0, n2.2.1, n2.2.2, n3.2.2, n1) := by rw [fX5_cat, ← en1, ← en2, ← en3, if_neg c_18]
    exact rXp hlk htb hQx hP hS (by rw [e9]; exact hE9) (congrArg (fun z9 : ((Option String) × Int32 × CV × TV × HV × (Nat → TV)) => (w5 x ot ou ov oh ox oy z9.2.2.1 ++ w3 cI ot ot1 ot2 z9.2.2.2.1 ++ w1 oh rr z9.2.2.2.2.1 ++ wR cI cT rr ra rb rc z9.2.2.2.2.2 : va_W)) e9).symm hq9 hv9 hc9 ⟨Nat.le_of_ble_eq_true rfl, Nat.le_of_ble_eq_true rfl⟩
  · have e9 : fX5_cat S T Hs G x1 = (none, n3.2.1, n2.2.1, n2.2.2, n3.2.2, n1) := by rw [fX5_cat, ← en1, ← en2, ← en3, if_pos c_18]
    exact rXi hx hb hr hlk hQ hP hS (by rw [e9]) (by rw [e9]) (congrArg (fun z9 : ((Option String) × Int32 × CV × TV × HV × (Nat → TV)) => (w5 x ot ou ov oh ox oy z9.2.2.1 ++ w3 cI ot ot1 ot2 z9.2.2.2.1 ++ w1 oh rr z9.2.2.2.2.1 ++ wR cI cT rr ra rb rc z9.2.2.2.2.2 : va_W)) e9).symm rfl ⟨Nat.le_of_ble_eq_true rfl, Nat.le_of_ble_eq_true rfl⟩ dX5_cat_21
def fX5_sit (S : CV) (T : TV) (Hs : HV) (G : (Nat → TV)) (x1 : Int32) (x2 : Int32) : ((Option String) × Int32 × CV × TV × HV × (Nat → TV)) := (if (fX5_settled (fX5_seat S T x1 x2).2.1 Hs (fX5_seat S T x1 x2).1).1 = none then (none, (fX5_settled (fX5_seat S T x1 x2).2.1 Hs (fX5_seat S T x1 x2).1).2.1, (fX5_seat S T x1 x2).2.1, (fX5_seat S T x1 x2).2.2, (fX5_settled (fX5_seat S T x1 x2).2.1 Hs (fX5_seat S T x1 x2).1).2.2, (fX1_prepare Hs G T)) else ((fX5_settled (fX5_seat S T x1 x2).2.1 Hs (fX5_seat S T x1 x2).1).1, 0, (fX5_seat S T x1 x2).2.1, (fX5_seat S T x1 x2).2.2, (fX5_settled (fX5_seat S T x1 x2).2.1 Hs (fX5_seat S T x1 x2).1).2.2, (fX1_prepare Hs G T)))
abbrev rmX5_sit : Room := { frames := 7, cells := 1, slots := 6, locals := 113 }
set_option maxHeartbeats 4000000 in
set_option maxRecDepth 100000 in
theorem kX5_sit (l : Launch) (D : va_G) (cI cC cT : ClassId) (x ot ou ov oh ox oy ot1 ot2 rr : Nat) (ra rb rc : Nat → Nat) (S : CV) (T : TV) (Hs : HV) (G : (Nat → TV)) (x1 : Int32) (x2 : Int32) (hst : l.stackTraces = false) (hn : ∃ j : Nat, j < 9 ∧ Hs.1 = nI j) : mX l D (TY cI cC cT) yX5_sit wsX5_sit rmX5_sit [.ref x, .int x1, .int x2] (w5 x ot ou ov oh ox oy S ++ w3 cI ot ot1 ot2 T ++ w1 oh rr Hs ++ wR cI cT rr ra rb rc G) ((fX5_sit S T Hs G x1 x2).1) (some (.int (fX5_sit S T Hs G x1 x2).2.1)) (w5 x ot ou ov oh ox oy (fX5_sit S T Hs G x1 x2).2.2.1 ++ w3 cI ot ot1 ot2 (fX5_sit S T Hs G x1 x2).2.2.2.1 ++ w1 oh rr (fX5_sit S T Hs G x1 x2).2.2.2.2.1 ++ wR cI cT rr ra rb rc (fX5_sit S T Hs G x1 x2).2.2.2.2.2) 1 := by
  refine mX.ofW (cc := cX5_sit) (maxL := 3) (ret := (some .int)) (by decide) rfl (Nat.le_of_ble_eq_true rfl) ?_
  intro p e s m args below meth c Q ls A hx hb hml hr hlk hts hown hP hK hD hS hl hXE htb hQ hQx
  have hown : s.vm.findClass RX5 = some m.cls := hown
  have hP : va_P D vwCl (w5 x ot ou ov oh ox oy S ++ w3 cI ot ot1 ot2 T ++ w1 oh rr Hs ++ wR cI cT rr ra rb rc G) s.heap := hP
  have hD : va_D A (w5 x ot ou ov oh ox oy S ++ w3 cI ot ot1 ot2 T ++ w1 oh rr Hs ++ wR cI cT rr ra rb rc G) := hD
  have hl : lv_has ls 3 [(0, .ref x), (1, .int x1), (2, .int x2)] := hl
  have q0 := hts (Cond.fieldLink RX5 25 "TavernStools" "history" "LTavernStools$History;") (by decide +kernel)
  have q1 : ∀ w ∈ u_ws RX5 TX5 10, w ∈ wsX5_sit := by decide +kernel
  have q2 := hts (Cond.fieldLink RX5 10 "TavernStools" "tavern" "LTavernStools$Tavern;") (by decide +kernel)
  generalize hHe : s.heap = H at hP ⊢
  have hS : va_S A s.heap H [] := hHe ▸ hS
  generalize hLe : ([] : List Loc) = locs at hS ⊢
  refine lv_aload_n hx hb dX5_sit_0 rfl (lv_at hl 0 rfl) ?_
  refine va_get (D := D) (ci := 6) (v := .ref oh) (C := RX5) (T := TX5) (N := 10) hx hb hts q1 hown hK hP 0 rfl rfl 3 (by decide) q0 (fun _ h9 => h9) rfl dX5_sit_1 ?_
  refine lv_aload_n hx hb dX5_sit_4 rfl (lv_at hl 0 rfl) ?_
  refine va_get (D := D) (ci := 6) (v := .ref ot) (C := RX5) (T := TX5) (N := 10) hx hb hts q1 hown hK hP 0 rfl rfl 0 (by decide) q2 (fun _ h9 => h9) rfl dX5_sit_5 ?_
  obtain ⟨n1, en1⟩ : ∃ z9, z9 = (fX1_prepare Hs G T) := ⟨_, rfl⟩
  have k9 := (kX1_prepare l D cI cC cT oh rr ot ot1 ot2 ra rb rc Hs G T hn)
  rw [← en1] at k9
  refine fUq (As := [.ref ot]) (rest := []) (st' := []) ⟨hx, hb, hml, hown, hts⟩ k9 (cwV 1 hts gX5_sit_X1_prepare rfl rfl rfl (by decide +kernel) ⟨Nat.le_of_ble_eq_true rfl, Nat.le_of_ble_eq_true rfl⟩) hP hK hD hS (w5 x ot ou ov oh ox oy S : va_W) (pmI (fun a => by simp only [cntW_app, cntW_nil] <;> omega)) (w5 x ot ou ov oh ox oy S ++ w3 cI ot ot1 ot2 T ++ w1 oh rr Hs ++ wR cI cT rr ra rb rc n1) (pmI (fun a => by simp only [cntW_app, cntW_nil] <;> omega)) rfl 4 (ci := 2) rfl rfl rfl rfl hl.1 rfl rfl (Nat.le_of_ble_eq_true rfl) ⟨Nat.le_of_ble_eq_true rfl, Nat.le_of_ble_eq_true rfl⟩ dX5_sit_8 (fun H locs hP hD hS => ?_)
  refine lv_aload_n hx hb dX5_sit_11 rfl (lv_at hl 0 rfl) ?_
  refine lv_aload_n hx hb dX5_sit_12 rfl (lv_at hl 0 rfl) ?_
  refine lv_iload_n hx hb dX5_sit_13 rfl (lv_at hl 1 rfl) ?_
  refine lv_iload_n hx hb dX5_sit_14 rfl (lv_at hl 2 rfl) ?_
  obtain ⟨n2, en2⟩ : ∃ z9, z9 = (fX5_seat S T x1 x2) := ⟨_, rfl⟩
  have k9 := (kX5_seat l D cI cC cT x ot ou ov oh ox oy ot1 ot2 S T x1 x2)
  rw [← en2] at k9
  refine fUq (As := [.int x1, .int x2]) (rest := [.ref x]) (st' := [.int n2.1, .ref x]) ⟨hx, hb, hml, hown, hts⟩ k9 (cwV 2 hts gX5_sit_X5_seat rfl rfl rfl (by decide +kernel) ⟨Nat.le_of_ble_eq_true rfl, Nat.le_of_ble_eq_true rfl⟩) hP hK hD hS (w1 oh rr Hs ++ wR cI cT rr ra rb rc n1 : va_W) (pmI (fun a => by simp only [cntW_app, cntW_nil] <;> omega)) (w5 x ot ou ov oh ox oy n2.2.1 ++ w3 cI ot ot1 ot2 n2.2.2 ++ w1 oh rr Hs ++ wR cI cT rr ra rb rc n1) (pmI (fun a => by simp only [cntW_app, cntW_nil] <;> omega)) rfl 0 (ci := 6) rfl rfl rfl rfl hl.1 rfl rfl (Nat.le_of_ble_eq_true rfl) ⟨Nat.le_of_ble_eq_true rfl, Nat.le_of_ble_eq_true rfl⟩ dX5_sit_15 (fun H locs hP hD hS => ?_)
  obtain ⟨n3, en3⟩ : ∃ z9, z9 = (fX5_settled n2.2.1 Hs n2.1) := ⟨_, rfl⟩
  have k9 := (kX5_settled l D cI cC cT x ot ou ov oh ox oy rr n2.2.1 Hs n2.1 hst)
  rw [← en3] at k9
  refine fXq (As := [.int n2.1]) (rest := []) (st' := [.int n3.2.1]) ⟨hx, hb, hml, hown, hts⟩ k9 (cwV 1 hts gX5_sit_X5_settled rfl rfl rfl (by decide +kernel) ⟨Nat.le_of_ble_eq_true rfl, Nat.le_of_ble_eq_true rfl⟩) hP hK hD hS hXE (w3 cI ot ot1 ot2 n2.2.2 ++ wR cI cT rr ra rb rc n1 : va_W) (pmI (fun a => by simp only [cntW_app, cntW_nil] <;> omega)) (w5 x ot ou ov oh ox oy n2.2.1 ++ w3 cI ot ot1 ot2 n2.2.2 ++ w1 oh rr n3.2.2 ++ wR cI cT rr ra rb rc n1) (pmI (fun a => by simp only [cntW_app, cntW_nil] <;> omega)) rfl 0 (ci := 6) rfl rfl rfl rfl hl.1 rfl rfl (Nat.le_of_ble_eq_true rfl) ⟨Nat.le_of_ble_eq_true rfl, Nat.le_of_ble_eq_true rfl⟩ dX5_sit_18 (fun C9 ce9 q9 H locs hE9 hP hD hS hq9 hv9 hc9 => ?_) (fun H locs c_18 hP hD hS => ?_)
  · have c_18 : ¬ n3.1 = none := by rw [hE9]; exact fun z => nomatch z
    have e9 : fX5_sit S T Hs G x1 x2 = (n3.1, 0, n2.2.1, n2.2.2, n3.2.2, n1) := by rw [fX5_sit, ← en1, ← en2, ← en3, if_neg c_18]
    exact rXp hlk htb hQx hP hS (by rw [e9]; exact hE9) (congrArg (fun z9 : ((Option String) × Int32 × CV × TV × HV × (Nat → TV)) => (w5 x ot ou ov oh ox oy z9.2.2.1 ++ w3 cI ot ot1 ot2 z9.2.2.2.1 ++ w1 oh rr z9.2.2.2.2.1 ++ wR cI cT rr ra rb rc z9.2.2.2.2.2 : va_W)) e9).symm hq9 hv9 hc9 ⟨Nat.le_of_ble_eq_true rfl, Nat.le_of_ble_eq_true rfl⟩
  · have e9 : fX5_sit S T Hs G x1 x2 = (none, n3.2.1, n2.2.1, n2.2.2, n3.2.2, n1) := by rw [fX5_sit, ← en1, ← en2, ← en3, if_pos c_18]
    exact rXi hx hb hr hlk hQ hP hS (by rw [e9]) (by rw [e9]) (congrArg (fun z9 : ((Option String) × Int32 × CV × TV × HV × (Nat → TV)) => (w5 x ot ou ov oh ox oy z9.2.2.1 ++ w3 cI ot ot1 ot2 z9.2.2.2.1 ++ w1 oh rr z9.2.2.2.2.1 ++ wR cI cT rr ra rb rc z9.2.2.2.2.2 : va_W)) e9).symm rfl ⟨Nat.le_of_ble_eq_true rfl, Nat.le_of_ble_eq_true rfl⟩ dX5_sit_21
def fX5_getUp (S : CV) (T : TV) (Hs : HV) (G : (Nat → TV)) (x1 : Int32) : ((Option String) × Int32 × CV × TV × HV × (Nat → TV)) := (if (fX5_settled (fX5_letGetUp S T x1).2.1 Hs (fX5_letGetUp S T x1).1).1 = none then (none, (fX5_settled (fX5_letGetUp S T x1).2.1 Hs (fX5_letGetUp S T x1).1).2.1, (fX5_letGetUp S T x1).2.1, (fX5_letGetUp S T x1).2.2, (fX5_settled (fX5_letGetUp S T x1).2.1 Hs (fX5_letGetUp S T x1).1).2.2, (fX1_prepare Hs G T)) else ((fX5_settled (fX5_letGetUp S T x1).2.1 Hs (fX5_letGetUp S T x1).1).1, 0, (fX5_letGetUp S T x1).2.1, (fX5_letGetUp S T x1).2.2, (fX5_settled (fX5_letGetUp S T x1).2.1 Hs (fX5_letGetUp S T x1).1).2.2, (fX1_prepare Hs G T)))
abbrev rmX5_getUp : Room := { frames := 7, cells := 1, slots := 6, locals := 107 }
set_option maxHeartbeats 4000000 in
set_option maxRecDepth 100000 in
theorem kX5_getUp (l : Launch) (D : va_G) (cI cC cT : ClassId) (x ot ou ov oh ox oy ot1 ot2 rr : Nat) (ra rb rc : Nat → Nat) (S : CV) (T : TV) (Hs : HV) (G : (Nat → TV)) (x1 : Int32) (hst : l.stackTraces = false) (hn : ∃ j : Nat, j < 9 ∧ Hs.1 = nI j) : mX l D (TY cI cC cT) yX5_getUp wsX5_getUp rmX5_getUp [.ref x, .int x1] (w5 x ot ou ov oh ox oy S ++ w3 cI ot ot1 ot2 T ++ w1 oh rr Hs ++ wR cI cT rr ra rb rc G) ((fX5_getUp S T Hs G x1).1) (some (.int (fX5_getUp S T Hs G x1).2.1)) (w5 x ot ou ov oh ox oy (fX5_getUp S T Hs G x1).2.2.1 ++ w3 cI ot ot1 ot2 (fX5_getUp S T Hs G x1).2.2.2.1 ++ w1 oh rr (fX5_getUp S T Hs G x1).2.2.2.2.1 ++ wR cI cT rr ra rb rc (fX5_getUp S T Hs G x1).2.2.2.2.2) 1 := by
  refine mX.ofW (cc := cX5_getUp) (maxL := 2) (ret := (some .int)) (by decide) rfl (Nat.le_of_ble_eq_true rfl) ?_
  intro p e s m args below meth c Q ls A hx hb hml hr hlk hts hown hP hK hD hS hl hXE htb hQ hQx
  have hown : s.vm.findClass RX5 = some m.cls := hown
  have hP : va_P D vwCl (w5 x ot ou ov oh ox oy S ++ w3 cI ot ot1 ot2 T ++ w1 oh rr Hs ++ wR cI cT rr ra rb rc G) s.heap := hP
  have hD : va_D A (w5 x ot ou ov oh ox oy S ++ w3 cI ot ot1 ot2 T ++ w1 oh rr Hs ++ wR cI cT rr ra rb rc G) := hD
  have hl : lv_has ls 2 [(0, .ref x), (1, .int x1)] := hl
  have q0 := hts (Cond.fieldLink RX5 25 "TavernStools" "history" "LTavernStools$History;") (by decide +kernel)
  have q1 : ∀ w ∈ u_ws RX5 TX5 10, w ∈ wsX5_getUp := by decide +kernel
  have q2 := hts (Cond.fieldLink RX5 10 "TavernStools" "tavern" "LTavernStools$Tavern;") (by decide +kernel)
  generalize hHe : s.heap = H at hP ⊢
  have hS : va_S A s.heap H [] := hHe ▸ hS
  generalize hLe : ([] : List Loc) = locs at hS ⊢
  refine lv_aload_n hx hb dX5_getUp_0 rfl (lv_at hl 0 rfl) ?_
  refine va_get (D := D) (ci := 6) (v := .ref oh) (C := RX5) (T := TX5) (N := 10) hx hb hts q1 hown hK hP 0 rfl rfl 3 (by decide) q0 (fun _ h9 => h9) rfl dX5_getUp_1 ?_
  refine lv_aload_n hx hb dX5_getUp_4 rfl (lv_at hl 0 rfl) ?_
  refine va_get (D := D) (ci := 6) (v := .ref ot) (C := RX5) (T := TX5) (N := 10) hx hb hts q1 hown hK hP 0 rfl rfl 0 (by decide) q2 (fun _ h9 => h9) rfl dX5_getUp_5 ?_
  obtain ⟨n1, en1⟩ : ∃ z9, z9 = (fX1_prepare Hs G T) := ⟨_, rfl⟩
  have k9 := (kX1_prepare l D cI cC cT oh rr ot ot1 ot2 ra rb rc Hs G T hn)
  rw [← en1] at k9
  refine fUq (As := [.ref ot]) (rest := []) (st' := []) ⟨hx, hb, hml, hown, hts⟩ k9 (cwV 1 hts gX5_getUp_X1_prepare rfl rfl rfl (by decide +kernel) ⟨Nat.le_of_ble_eq_true rfl, Nat.le_of_ble_eq_true rfl⟩) hP hK hD hS (w5 x ot ou ov oh ox oy S : va_W) (pmI (fun a => by simp only [cntW_app, cntW_nil] <;> omega)) (w5 x ot ou ov oh ox oy S ++ w3 cI ot ot1 ot2 T ++ w1 oh rr Hs ++ wR cI cT rr ra rb rc n1) (pmI (fun a => by simp only [cntW_app, cntW_nil] <;> omega)) rfl 4 (ci := 2) rfl rfl rfl rfl hl.1 rfl rfl (Nat.le_of_ble_eq_true rfl) ⟨Nat.le_of_ble_eq_true rfl, Nat.le_of_ble_eq_true rfl⟩ dX5_getUp_8 (fun H locs hP hD hS => ?_)
  refine lv_aload_n hx hb dX5_getUp_11 rfl (lv_at hl 0 rfl) ?_
  refine lv_aload_n hx hb dX5_getUp_12 rfl (lv_at hl 0 rfl) ?_
  refine lv_iload_n hx hb dX5_getUp_13 rfl (lv_at hl 1 rfl) ?_
  obtain ⟨n2, en2⟩ : ∃ z9, z9 = (fX5_letGetUp S T x1) := ⟨_, rfl⟩
  have k9 := (kX5_letGetUp l D cI cC cT x ot ou ov oh ox oy ot1 ot2 S T x1)
  rw [← en2] at k9
  refine fUq (As := [.int x1]) (rest := [.ref x]) (st' := [.int n2.1, .ref x]) ⟨hx, hb, hml, hown, hts⟩ k9 (cwV 1 hts gX5_getUp_X5_letGetUp rfl rfl rfl (by decide +kernel) ⟨Nat.le_of_ble_eq_true rfl, Nat.le_of_ble_eq_true rfl⟩) hP hK hD hS (w1 oh rr Hs ++ wR cI cT rr ra rb rc n1 : va_W) (pmI (fun a => by simp only [cntW_app, cntW_nil] <;> omega)) (w5 x ot ou ov oh ox oy n2.2.1 ++ w3 cI ot ot1 ot2 n2.2.2 ++ w1 oh rr Hs ++ wR cI cT rr ra rb rc n1) (pmI (fun a => by simp only [cntW_app, cntW_nil] <;> omega)) rfl 0 (ci := 6) rfl rfl rfl rfl hl.1 rfl rfl (Nat.le_of_ble_eq_true rfl) ⟨Nat.le_of_ble_eq_true rfl, Nat.le_of_ble_eq_true rfl⟩ dX5_getUp_14 (fun H locs hP hD hS => ?_)
  obtain ⟨n3, en3⟩ : ∃ z9, z9 = (fX5_settled n2.2.1 Hs n2.1) := ⟨_, rfl⟩
  have k9 := (kX5_settled l D cI cC cT x ot ou ov oh ox oy rr n2.2.1 Hs n2.1 hst)
  rw [← en3] at k9
  refine fXq (As := [.int n2.1]) (rest := []) (st' := [.int n3.2.1]) ⟨hx, hb, hml, hown, hts⟩ k9 (cwV 1 hts gX5_getUp_X5_settled rfl rfl rfl (by decide +kernel) ⟨Nat.le_of_ble_eq_true rfl, Nat.le_of_ble_eq_true rfl⟩) hP hK hD hS hXE (w3 cI ot ot1 ot2 n2.2.2 ++ wR cI cT rr ra rb rc n1 : va_W) (pmI (fun a => by simp only [cntW_app, cntW_nil] <;> omega)) (w5 x ot ou ov oh ox oy n2.2.1 ++ w3 cI ot ot1 ot2 n2.2.2 ++ w1 oh rr n3.2.2 ++ wR cI cT rr ra rb rc n1) (pmI (fun a => by simp only [cntW_app, cntW_nil] <;> omega)) rfl 0 (ci := 6) rfl rfl rfl rfl hl.1 rfl rfl (Nat.le_of_ble_eq_true rfl) ⟨Nat.le_of_ble_eq_true rfl, Nat.le_of_ble_eq_true rfl⟩ dX5_getUp_17 (fun C9 ce9 q9 H locs hE9 hP hD hS hq9 hv9 hc9 => ?_) (fun H locs c_17 hP hD hS => ?_)
  · have c_17 : ¬ n3.1 = none := by rw [hE9]; exact fun z => nomatch z
    have e9 : fX5_getUp S T Hs G x1 = (n3.1, 0, n2.2.1, n2.2.2, n3.2.2, n1) := by rw [fX5_getUp, ← en1, ← en2, ← en3, if_neg c_17]
    exact rXp hlk htb hQx hP hS (by rw [e9]; exact hE9) (congrArg (fun z9 : ((Option String) × Int32 × CV × TV × HV × (Nat → TV)) => (w5 x ot ou ov oh ox oy z9.2.2.1 ++ w3 cI ot ot1 ot2 z9.2.2.2.1 ++ w1 oh rr z9.2.2.2.2.1 ++ wR cI cT rr ra rb rc z9.2.2.2.2.2 : va_W)) e9).symm hq9 hv9 hc9 ⟨Nat.le_of_ble_eq_true rfl, Nat.le_of_ble_eq_true rfl⟩
  · have e9 : fX5_getUp S T Hs G x1 = (none, n3.2.1, n2.2.1, n2.2.2, n3.2.2, n1) := by rw [fX5_getUp, ← en1, ← en2, ← en3, if_pos c_17]
    exact rXi hx hb hr hlk hQ hP hS (by rw [e9]) (by rw [e9]) (congrArg (fun z9 : ((Option String) × Int32 × CV × TV × HV × (Nat → TV)) => (w5 x ot ou ov oh ox oy z9.2.2.1 ++ w3 cI ot ot1 ot2 z9.2.2.2.1 ++ w1 oh rr z9.2.2.2.2.1 ++ wR cI cT rr ra rb rc z9.2.2.2.2.2 : va_W)) e9).symm rfl ⟨Nat.le_of_ble_eq_true rfl, Nat.le_of_ble_eq_true rfl⟩ dX5_getUp_20
def fX5_brawl (S : CV) (T : TV) (Hs : HV) (G : (Nat → TV)) (x1 : Int32) (x2 : Int32) : ((Option String) × Int32 × CV × TV × HV × (Nat → TV)) := (if (fX5_settled (fX5_letBrawl S T x1 x2).2.1 Hs (fX5_letBrawl S T x1 x2).1).1 = none then (none, (fX5_settled (fX5_letBrawl S T x1 x2).2.1 Hs (fX5_letBrawl S T x1 x2).1).2.1, (fX5_letBrawl S T x1 x2).2.1, (fX5_letBrawl S T x1 x2).2.2, (fX5_settled (fX5_letBrawl S T x1 x2).2.1 Hs (fX5_letBrawl S T x1 x2).1).2.2, (fX1_prepare Hs G T)) else ((fX5_settled (fX5_letBrawl S T x1 x2).2.1 Hs (fX5_letBrawl S T x1 x2).1).1, 0, (fX5_letBrawl S T x1 x2).2.1, (fX5_letBrawl S T x1 x2).2.2, (fX5_settled (fX5_letBrawl S T x1 x2).2.1 Hs (fX5_letBrawl S T x1 x2).1).2.2, (fX1_prepare Hs G T)))
abbrev rmX5_brawl : Room := { frames := 7, cells := 1, slots := 6, locals := 119 }
set_option maxHeartbeats 4000000 in
set_option maxRecDepth 100000 in
theorem kX5_brawl (l : Launch) (D : va_G) (cI cC cT : ClassId) (x ot ou ov oh ox oy ot1 ot2 rr : Nat) (ra rb rc : Nat → Nat) (S : CV) (T : TV) (Hs : HV) (G : (Nat → TV)) (x1 : Int32) (x2 : Int32) (hst : l.stackTraces = false) (hn : ∃ j : Nat, j < 9 ∧ Hs.1 = nI j) : mX l D (TY cI cC cT) yX5_brawl wsX5_brawl rmX5_brawl [.ref x, .int x1, .int x2] (w5 x ot ou ov oh ox oy S ++ w3 cI ot ot1 ot2 T ++ w1 oh rr Hs ++ wR cI cT rr ra rb rc G) ((fX5_brawl S T Hs G x1 x2).1) (some (.int (fX5_brawl S T Hs G x1 x2).2.1)) (w5 x ot ou ov oh ox oy (fX5_brawl S T Hs G x1 x2).2.2.1 ++ w3 cI ot ot1 ot2 (fX5_brawl S T Hs G x1 x2).2.2.2.1 ++ w1 oh rr (fX5_brawl S T Hs G x1 x2).2.2.2.2.1 ++ wR cI cT rr ra rb rc (fX5_brawl S T Hs G x1 x2).2.2.2.2.2) 1 := by
  refine mX.ofW (cc := cX5_brawl) (maxL := 3) (ret := (some .int)) (by decide) rfl (Nat.le_of_ble_eq_true rfl) ?_
  intro p e s m args below meth c Q ls A hx hb hml hr hlk hts hown hP hK hD hS hl hXE htb hQ hQx
  have hown : s.vm.findClass RX5 = some m.cls := hown
  have hP : va_P D vwCl (w5 x ot ou ov oh ox oy S ++ w3 cI ot ot1 ot2 T ++ w1 oh rr Hs ++ wR cI cT rr ra rb rc G) s.heap := hP
  have hD : va_D A (w5 x ot ou ov oh ox oy S ++ w3 cI ot ot1 ot2 T ++ w1 oh rr Hs ++ wR cI cT rr ra rb rc G) := hD
  have hl : lv_has ls 3 [(0, .ref x), (1, .int x1), (2, .int x2)] := hl
  have q0 := hts (Cond.fieldLink RX5 25 "TavernStools" "history" "LTavernStools$History;") (by decide +kernel)
  have q1 : ∀ w ∈ u_ws RX5 TX5 10, w ∈ wsX5_brawl := by decide +kernel
  have q2 := hts (Cond.fieldLink RX5 10 "TavernStools" "tavern" "LTavernStools$Tavern;") (by decide +kernel)
  generalize hHe : s.heap = H at hP ⊢
  have hS : va_S A s.heap H [] := hHe ▸ hS
  generalize hLe : ([] : List Loc) = locs at hS ⊢
  refine lv_aload_n hx hb dX5_brawl_0 rfl (lv_at hl 0 rfl) ?_
  refine va_get (D := D) (ci := 6) (v := .ref oh) (C := RX5) (T := TX5) (N := 10) hx hb hts q1 hown hK hP 0 rfl rfl 3 (by decide) q0 (fun _ h9 => h9) rfl dX5_brawl_1 ?_
  refine lv_aload_n hx hb dX5_brawl_4 rfl (lv_at hl 0 rfl) ?_
  refine va_get (D := D) (ci := 6) (v := .ref ot) (C := RX5) (T := TX5) (N := 10) hx hb hts q1 hown hK hP 0 rfl rfl 0 (by decide) q2 (fun _ h9 => h9) rfl dX5_brawl_5 ?_
  obtain ⟨n1, en1⟩ : ∃ z9, z9 = (fX1_prepare Hs G T) := ⟨_, rfl⟩
  have k9 := (kX1_prepare l D cI cC cT oh rr ot ot1 ot2 ra rb rc Hs G T hn)
  rw [← en1] at k9
  refine fUq (As := [.ref ot]) (rest := []) (st' := []) ⟨hx, hb, hml, hown, hts⟩ k9 (cwV 1 hts gX5_brawl_X1_prepare rfl rfl rfl (by decide +kernel) ⟨Nat.le_of_ble_eq_true rfl, Nat.le_of_ble_eq_true rfl⟩) hP hK hD hS (w5 x ot ou ov oh ox oy S : va_W) (pmI (fun a => by simp only [cntW_app, cntW_nil] <;> omega)) (w5 x ot ou ov oh ox oy S ++ w3 cI ot ot1 ot2 T ++ w1 oh rr Hs ++ wR cI cT rr ra rb rc n1) (pmI (fun a => by simp only [cntW_app, cntW_nil] <;> omega)) rfl 4 (ci := 2) rfl rfl rfl rfl hl.1 rfl rfl (Nat.le_of_ble_eq_true rfl) ⟨Nat.le_of_ble_eq_true rfl, Nat.le_of_ble_eq_true rfl⟩ dX5_brawl_8 (fun H locs hP hD hS => ?_)
  refine lv_aload_n hx hb dX5_brawl_11 rfl (lv_at hl 0 rfl) ?_
  refine lv_aload_n hx hb dX5_brawl_12 rfl (lv_at hl 0 rfl) ?_
  refine lv_iload_n hx hb dX5_brawl_13 rfl (lv_at hl 1 rfl) ?_
  refine lv_iload_n hx hb dX5_brawl_14 rfl (lv_at hl 2 rfl) ?_
  obtain ⟨n2, en2⟩ : ∃ z9, z9 = (fX5_letBrawl S T x1 x2) := ⟨_, rfl⟩
  have k9 := (kX5_letBrawl l D cI cC cT x ot ou ov oh ox oy ot1 ot2 S T x1 x2)
  rw [← en2] at k9
  refine fUq (As := [.int x1, .int x2]) (rest := [.ref x]) (st' := [.int n2.1, .ref x]) ⟨hx, hb, hml, hown, hts⟩ k9 (cwV 2 hts gX5_brawl_X5_letBrawl rfl rfl rfl (by decide +kernel) ⟨Nat.le_of_ble_eq_true rfl, Nat.le_of_ble_eq_true rfl⟩) hP hK hD hS (w1 oh rr Hs ++ wR cI cT rr ra rb rc n1 : va_W) (pmI (fun a => by simp only [cntW_app, cntW_nil] <;> omega)) (w5 x ot ou ov oh ox oy n2.2.1 ++ w3 cI ot ot1 ot2 n2.2.2 ++ w1 oh rr Hs ++ wR cI cT rr ra rb rc n1) (pmI (fun a => by simp only [cntW_app, cntW_nil] <;> omega)) rfl 0 (ci := 6) rfl rfl rfl rfl hl.1 rfl rfl (Nat.le_of_ble_eq_true rfl) ⟨Nat.le_of_ble_eq_true rfl, Nat.le_of_ble_eq_true rfl⟩ dX5_brawl_15 (fun H locs hP hD hS => ?_)
  obtain ⟨n3, en3⟩ : ∃ z9, z9 = (fX5_settled n2.2.1 Hs n2.1) := ⟨_, rfl⟩
  have k9 := (kX5_settled l D cI cC cT x ot ou ov oh ox oy rr n2.2.1 Hs n2.1 hst)
  rw [← en3] at k9
  refine fXq (As := [.int n2.1]) (rest := []) (st' := [.int n3.2.1]) ⟨hx, hb, hml, hown, hts⟩ k9 (cwV 1 hts gX5_brawl_X5_settled rfl rfl rfl (by decide +kernel) ⟨Nat.le_of_ble_eq_true rfl, Nat.le_of_ble_eq_true rfl⟩) hP hK hD hS hXE (w3 cI ot ot1 ot2 n2.2.2 ++ wR cI cT rr ra rb rc n1 : va_W) (pmI (fun a => by simp only [cntW_app, cntW_nil] <;> omega)) (w5 x ot ou ov oh ox oy n2.2.1 ++ w3 cI ot ot1 ot2 n2.2.2 ++ w1 oh rr n3.2.2 ++ wR cI cT rr ra rb rc n1) (pmI (fun a => by simp only [cntW_app, cntW_nil] <;> omega)) rfl 0 (ci := 6) rfl rfl rfl rfl hl.1 rfl rfl (Nat.le_of_ble_eq_true rfl) ⟨Nat.le_of_ble_eq_true rfl, Nat.le_of_ble_eq_true rfl⟩ dX5_brawl_18 (fun C9 ce9 q9 H locs hE9 hP hD hS hq9 hv9 hc9 => ?_) (fun H locs c_18 hP hD hS => ?_)
  · have c_18 : ¬ n3.1 = none := by rw [hE9]; exact fun z => nomatch z
    have e9 : fX5_brawl S T Hs G x1 x2 = (n3.1, 0, n2.2.1, n2.2.2, n3.2.2, n1) := by rw [fX5_brawl, ← en1, ← en2, ← en3, if_neg c_18]
    exact rXp hlk htb hQx hP hS (by rw [e9]; exact hE9) (congrArg (fun z9 : ((Option String) × Int32 × CV × TV × HV × (Nat → TV)) => (w5 x ot ou ov oh ox oy z9.2.2.1 ++ w3 cI ot ot1 ot2 z9.2.2.2.1 ++ w1 oh rr z9.2.2.2.2.1 ++ wR cI cT rr ra rb rc z9.2.2.2.2.2 : va_W)) e9).symm hq9 hv9 hc9 ⟨Nat.le_of_ble_eq_true rfl, Nat.le_of_ble_eq_true rfl⟩
  · have e9 : fX5_brawl S T Hs G x1 x2 = (none, n3.2.1, n2.2.1, n2.2.2, n3.2.2, n1) := by rw [fX5_brawl, ← en1, ← en2, ← en3, if_pos c_18]
    exact rXi hx hb hr hlk hQ hP hS (by rw [e9]) (by rw [e9]) (congrArg (fun z9 : ((Option String) × Int32 × CV × TV × HV × (Nat → TV)) => (w5 x ot ou ov oh ox oy z9.2.2.1 ++ w3 cI ot ot1 ot2 z9.2.2.2.1 ++ w1 oh rr z9.2.2.2.2.1 ++ wR cI cT rr ra rb rc z9.2.2.2.2.2 : va_W)) e9).symm rfl ⟨Nat.le_of_ble_eq_true rfl, Nat.le_of_ble_eq_true rfl⟩ dX5_brawl_21
def fX5_swap (S : CV) (T : TV) (Hs : HV) (G : (Nat → TV)) (x1 : Int32) (x2 : Int32) : ((Option String) × Int32 × CV × TV × HV × (Nat → TV)) := (if (fX5_settled (fX5_letSwap S T x1 x2).2.1 Hs (fX5_letSwap S T x1 x2).1).1 = none then (none, (fX5_settled (fX5_letSwap S T x1 x2).2.1 Hs (fX5_letSwap S T x1 x2).1).2.1, (fX5_letSwap S T x1 x2).2.1, (fX5_letSwap S T x1 x2).2.2, (fX5_settled (fX5_letSwap S T x1 x2).2.1 Hs (fX5_letSwap S T x1 x2).1).2.2, (fX1_prepare Hs G T)) else ((fX5_settled (fX5_letSwap S T x1 x2).2.1 Hs (fX5_letSwap S T x1 x2).1).1, 0, (fX5_letSwap S T x1 x2).2.1, (fX5_letSwap S T x1 x2).2.2, (fX5_settled (fX5_letSwap S T x1 x2).2.1 Hs (fX5_letSwap S T x1 x2).1).2.2, (fX1_prepare Hs G T)))
abbrev rmX5_swap : Room := { frames := 7, cells := 1, slots := 6, locals := 114 }
set_option maxHeartbeats 4000000 in
set_option maxRecDepth 100000 in
theorem kX5_swap (l : Launch) (D : va_G) (cI cC cT : ClassId) (x ot ou ov oh ox oy ot1 ot2 rr : Nat) (ra rb rc : Nat → Nat) (S : CV) (T : TV) (Hs : HV) (G : (Nat → TV)) (x1 : Int32) (x2 : Int32) (hst : l.stackTraces = false) (hn : ∃ j : Nat, j < 9 ∧ Hs.1 = nI j) : mX l D (TY cI cC cT) yX5_swap wsX5_swap rmX5_swap [.ref x, .int x1, .int x2] (w5 x ot ou ov oh ox oy S ++ w3 cI ot ot1 ot2 T ++ w1 oh rr Hs ++ wR cI cT rr ra rb rc G) ((fX5_swap S T Hs G x1 x2).1) (some (.int (fX5_swap S T Hs G x1 x2).2.1)) (w5 x ot ou ov oh ox oy (fX5_swap S T Hs G x1 x2).2.2.1 ++ w3 cI ot ot1 ot2 (fX5_swap S T Hs G x1 x2).2.2.2.1 ++ w1 oh rr (fX5_swap S T Hs G x1 x2).2.2.2.2.1 ++ wR cI cT rr ra rb rc (fX5_swap S T Hs G x1 x2).2.2.2.2.2) 1 := by
  refine mX.ofW (cc := cX5_swap) (maxL := 3) (ret := (some .int)) (by decide) rfl (Nat.le_of_ble_eq_true rfl) ?_
  intro p e s m args below meth c Q ls A hx hb hml hr hlk hts hown hP hK hD hS hl hXE htb hQ hQx
  have hown : s.vm.findClass RX5 = some m.cls := hown
  have hP : va_P D vwCl (w5 x ot ou ov oh ox oy S ++ w3 cI ot ot1 ot2 T ++ w1 oh rr Hs ++ wR cI cT rr ra rb rc G) s.heap := hP
  have hD : va_D A (w5 x ot ou ov oh ox oy S ++ w3 cI ot ot1 ot2 T ++ w1 oh rr Hs ++ wR cI cT rr ra rb rc G) := hD
  have hl : lv_has ls 3 [(0, .ref x), (1, .int x1), (2, .int x2)] := hl
  have q0 := hts (Cond.fieldLink RX5 25 "TavernStools" "history" "LTavernStools$History;") (by decide +kernel)
  have q1 : ∀ w ∈ u_ws RX5 TX5 10, w ∈ wsX5_swap := by decide +kernel
  have q2 := hts (Cond.fieldLink RX5 10 "TavernStools" "tavern" "LTavernStools$Tavern;") (by decide +kernel)
  generalize hHe : s.heap = H at hP ⊢
  have hS : va_S A s.heap H [] := hHe ▸ hS
  generalize hLe : ([] : List Loc) = locs at hS ⊢
  refine lv_aload_n hx hb dX5_swap_0 rfl (lv_at hl 0 rfl) ?_
  refine va_get (D := D) (ci := 6) (v := .ref oh) (C := RX5) (T := TX5) (N := 10) hx hb hts q1 hown hK hP 0 rfl rfl 3 (by decide) q0 (fun _ h9 => h9) rfl dX5_swap_1 ?_
  refine lv_aload_n hx hb dX5_swap_4 rfl (lv_at hl 0 rfl) ?_
  refine va_get (D := D) (ci := 6) (v := .ref ot) (C := RX5) (T := TX5) (N := 10) hx hb hts q1 hown hK hP 0 rfl rfl 0 (by decide) q2 (fun _ h9 => h9) rfl dX5_swap_5 ?_
  obtain ⟨n1, en1⟩ : ∃ z9, z9 = (fX1_prepare Hs G T) := ⟨_, rfl⟩
  have k9 := (kX1_prepare l D cI cC cT oh rr ot ot1 ot2 ra rb rc Hs G T hn)
  rw [← en1] at k9
  refine fUq (As := [.ref ot]) (rest := []) (st' := []) ⟨hx, hb, hml, hown, hts⟩ k9 (cwV 1 hts gX5_swap_X1_prepare rfl rfl rfl (by decide +kernel) ⟨Nat.le_of_ble_eq_true rfl, Nat.le_of_ble_eq_true rfl⟩) hP hK hD hS (w5 x ot ou ov oh ox oy S : va_W) (pmI (fun a => by simp only [cntW_app, cntW_nil] <;> omega)) (w5 x ot ou ov oh ox oy S ++ w3 cI ot ot1 ot2 T ++ w1 oh rr Hs ++ wR cI cT rr ra rb rc n1) (pmI (fun a => by simp only [cntW_app, cntW_nil] <;> omega)) rfl 4 (ci := 2) rfl rfl rfl rfl hl.1 rfl rfl (Nat.le_of_ble_eq_true rfl) ⟨Nat.le_of_ble_eq_true rfl, Nat.le_of_ble_eq_true rfl⟩ dX5_swap_8 (fun H locs hP hD hS => ?_)
  refine lv_aload_n hx hb dX5_swap_11 rfl (lv_at hl 0 rfl) ?_
  refine lv_aload_n hx hb dX5_swap_12 rfl (lv_at hl 0 rfl) ?_
  refine lv_iload_n hx hb dX5_swap_13 rfl (lv_at hl 1 rfl) ?_
  refine lv_iload_n hx hb dX5_swap_14 rfl (lv_at hl 2 rfl) ?_
  obtain ⟨n2, en2⟩ : ∃ z9, z9 = (fX5_letSwap S T x1 x2) := ⟨_, rfl⟩
  have k9 := (kX5_letSwap l D cI cC cT x ot ou ov oh ox oy ot1 ot2 S T x1 x2)
  rw [← en2] at k9
  refine fUq (As := [.int x1, .int x2]) (rest := [.ref x]) (st' := [.int n2.1, .ref x]) ⟨hx, hb, hml, hown, hts⟩ k9 (cwV 2 hts gX5_swap_X5_letSwap rfl rfl rfl (by decide +kernel) ⟨Nat.le_of_ble_eq_true rfl, Nat.le_of_ble_eq_true rfl⟩) hP hK hD hS (w1 oh rr Hs ++ wR cI cT rr ra rb rc n1 : va_W) (pmI (fun a => by simp only [cntW_app, cntW_nil] <;> omega)) (w5 x ot ou ov oh ox oy n2.2.1 ++ w3 cI ot ot1 ot2 n2.2.2 ++ w1 oh rr Hs ++ wR cI cT rr ra rb rc n1) (pmI (fun a => by simp only [cntW_app, cntW_nil] <;> omega)) rfl 0 (ci := 6) rfl rfl rfl rfl hl.1 rfl rfl (Nat.le_of_ble_eq_true rfl) ⟨Nat.le_of_ble_eq_true rfl, Nat.le_of_ble_eq_true rfl⟩ dX5_swap_15 (fun H locs hP hD hS => ?_)
  obtain ⟨n3, en3⟩ : ∃ z9, z9 = (fX5_settled n2.2.1 Hs n2.1) := ⟨_, rfl⟩
  have k9 := (kX5_settled l D cI cC cT x ot ou ov oh ox oy rr n2.2.1 Hs n2.1 hst)
  rw [← en3] at k9
  refine fXq (As := [.int n2.1]) (rest := []) (st' := [.int n3.2.1]) ⟨hx, hb, hml, hown, hts⟩ k9 (cwV 1 hts gX5_swap_X5_settled rfl rfl rfl (by decide +kernel) ⟨Nat.le_of_ble_eq_true rfl, Nat.le_of_ble_eq_true rfl⟩) hP hK hD hS hXE (w3 cI ot ot1 ot2 n2.2.2 ++ wR cI cT rr ra rb rc n1 : va_W) (pmI (fun a => by simp only [cntW_app, cntW_nil] <;> omega)) (w5 x ot ou ov oh ox oy n2.2.1 ++ w3 cI ot ot1 ot2 n2.2.2 ++ w1 oh rr n3.2.2 ++ wR cI cT rr ra rb rc n1) (pmI (fun a => by simp only [cntW_app, cntW_nil] <;> omega)) rfl 0 (ci := 6) rfl rfl rfl rfl hl.1 rfl rfl (Nat.le_of_ble_eq_true rfl) ⟨Nat.le_of_ble_eq_true rfl, Nat.le_of_ble_eq_true rfl⟩ dX5_swap_18 (fun C9 ce9 q9 H locs hE9 hP hD hS hq9 hv9 hc9 => ?_) (fun H locs c_18 hP hD hS => ?_)
  · have c_18 : ¬ n3.1 = none := by rw [hE9]; exact fun z => nomatch z
    have e9 : fX5_swap S T Hs G x1 x2 = (n3.1, 0, n2.2.1, n2.2.2, n3.2.2, n1) := by rw [fX5_swap, ← en1, ← en2, ← en3, if_neg c_18]
    exact rXp hlk htb hQx hP hS (by rw [e9]; exact hE9) (congrArg (fun z9 : ((Option String) × Int32 × CV × TV × HV × (Nat → TV)) => (w5 x ot ou ov oh ox oy z9.2.2.1 ++ w3 cI ot ot1 ot2 z9.2.2.2.1 ++ w1 oh rr z9.2.2.2.2.1 ++ wR cI cT rr ra rb rc z9.2.2.2.2.2 : va_W)) e9).symm hq9 hv9 hc9 ⟨Nat.le_of_ble_eq_true rfl, Nat.le_of_ble_eq_true rfl⟩
  · have e9 : fX5_swap S T Hs G x1 x2 = (none, n3.2.1, n2.2.1, n2.2.2, n3.2.2, n1) := by rw [fX5_swap, ← en1, ← en2, ← en3, if_pos c_18]
    exact rXi hx hb hr hlk hQ hP hS (by rw [e9]) (by rw [e9]) (congrArg (fun z9 : ((Option String) × Int32 × CV × TV × HV × (Nat → TV)) => (w5 x ot ou ov oh ox oy z9.2.2.1 ++ w3 cI ot ot1 ot2 z9.2.2.2.1 ++ w1 oh rr z9.2.2.2.2.1 ++ wR cI cT rr ra rb rc z9.2.2.2.2.2 : va_W)) e9).symm rfl ⟨Nat.le_of_ble_eq_true rfl, Nat.le_of_ble_eq_true rfl⟩ dX5_swap_21
def fX5_coin (S : CV) (T : TV) (Hs : HV) (G : (Nat → TV)) (x1 : Int32) : ((Option String) × Int32 × CV × TV × HV × (Nat → TV)) := (if (fX5_settled (fX5_putCoin S T x1).2.1 Hs (fX5_putCoin S T x1).1).1 = none then (none, (fX5_settled (fX5_putCoin S T x1).2.1 Hs (fX5_putCoin S T x1).1).2.1, (fX5_putCoin S T x1).2.1, (fX5_putCoin S T x1).2.2, (fX5_settled (fX5_putCoin S T x1).2.1 Hs (fX5_putCoin S T x1).1).2.2, (fX1_prepare Hs G T)) else ((fX5_settled (fX5_putCoin S T x1).2.1 Hs (fX5_putCoin S T x1).1).1, 0, (fX5_putCoin S T x1).2.1, (fX5_putCoin S T x1).2.2, (fX5_settled (fX5_putCoin S T x1).2.1 Hs (fX5_putCoin S T x1).1).2.2, (fX1_prepare Hs G T)))
abbrev rmX5_coin : Room := { frames := 7, cells := 1, slots := 6, locals := 107 }
set_option maxHeartbeats 4000000 in
set_option maxRecDepth 100000 in
theorem kX5_coin (l : Launch) (D : va_G) (cI cC cT : ClassId) (x ot ou ov oh ox oy ot1 ot2 rr : Nat) (ra rb rc : Nat → Nat) (S : CV) (T : TV) (Hs : HV) (G : (Nat → TV)) (x1 : Int32) (hst : l.stackTraces = false) (hn : ∃ j : Nat, j < 9 ∧ Hs.1 = nI j) : mX l D (TY cI cC cT) yX5_coin wsX5_coin rmX5_coin [.ref x, .int x1] (w5 x ot ou ov oh ox oy S ++ w3 cI ot ot1 ot2 T ++ w1 oh rr Hs ++ wR cI cT rr ra rb rc G) ((fX5_coin S T Hs G x1).1) (some (.int (fX5_coin S T Hs G x1).2.1)) (w5 x ot ou ov oh ox oy (fX5_coin S T Hs G x1).2.2.1 ++ w3 cI ot ot1 ot2 (fX5_coin S T Hs G x1).2.2.2.1 ++ w1 oh rr (fX5_coin S T Hs G x1).2.2.2.2.1 ++ wR cI cT rr ra rb rc (fX5_coin S T Hs G x1).2.2.2.2.2) 1 := by
  refine mX.ofW (cc := cX5_coin) (maxL := 2) (ret := (some .int)) (by decide) rfl (Nat.le_of_ble_eq_true rfl) ?_
  intro p e s m args below meth c Q ls A hx hb hml hr hlk hts hown hP hK hD hS hl hXE htb hQ hQx
  have hown : s.vm.findClass RX5 = some m.cls := hown
  have hP : va_P D vwCl (w5 x ot ou ov oh ox oy S ++ w3 cI ot ot1 ot2 T ++ w1 oh rr Hs ++ wR cI cT rr ra rb rc G) s.heap := hP
  have hD : va_D A (w5 x ot ou ov oh ox oy S ++ w3 cI ot ot1 ot2 T ++ w1 oh rr Hs ++ wR cI cT rr ra rb rc G) := hD
  have hl : lv_has ls 2 [(0, .ref x), (1, .int x1)] := hl
  have q0 := hts (Cond.fieldLink RX5 25 "TavernStools" "history" "LTavernStools$History;") (by decide +kernel)
  have q1 : ∀ w ∈ u_ws RX5 TX5 10, w ∈ wsX5_coin := by decide +kernel
  have q2 := hts (Cond.fieldLink RX5 10 "TavernStools" "tavern" "LTavernStools$Tavern;") (by decide +kernel)
  generalize hHe : s.heap = H at hP ⊢
  have hS : va_S A s.heap H [] := hHe ▸ hS
  generalize hLe : ([] : List Loc) = locs at hS ⊢
  refine lv_aload_n hx hb dX5_coin_0 rfl (lv_at hl 0 rfl) ?_
  refine va_get (D := D) (ci := 6) (v := .ref oh) (C := RX5) (T := TX5) (N := 10) hx hb hts q1 hown hK hP 0 rfl rfl 3 (by decide) q0 (fun _ h9 => h9) rfl dX5_coin_1 ?_
  refine lv_aload_n hx hb dX5_coin_4 rfl (lv_at hl 0 rfl) ?_
  refine va_get (D := D) (ci := 6) (v := .ref ot) (C := RX5) (T := TX5) (N := 10) hx hb hts q1 hown hK hP 0 rfl rfl 0 (by decide) q2 (fun _ h9 => h9) rfl dX5_coin_5 ?_
  obtain ⟨n1, en1⟩ : ∃ z9, z9 = (fX1_prepare Hs G T) := ⟨_, rfl⟩
  have k9 := (kX1_prepare l D cI cC cT oh rr ot ot1 ot2 ra rb rc Hs G T hn)
  rw [← en1] at k9
  refine fUq (As := [.ref ot]) (rest := []) (st' := []) ⟨hx, hb, hml, hown, hts⟩ k9 (cwV 1 hts gX5_coin_X1_prepare rfl rfl rfl (by decide +kernel) ⟨Nat.le_of_ble_eq_true rfl, Nat.le_of_ble_eq_true rfl⟩) hP hK hD hS (w5 x ot ou ov oh ox oy S : va_W) (pmI (fun a => by simp only [cntW_app, cntW_nil] <;> omega)) (w5 x ot ou ov oh ox oy S ++ w3 cI ot ot1 ot2 T ++ w1 oh rr Hs ++ wR cI cT rr ra rb rc n1) (pmI (fun a => by simp only [cntW_app, cntW_nil] <;> omega)) rfl 4 (ci := 2) rfl rfl rfl rfl hl.1 rfl rfl (Nat.le_of_ble_eq_true rfl) ⟨Nat.le_of_ble_eq_true rfl, Nat.le_of_ble_eq_true rfl⟩ dX5_coin_8 (fun H locs hP hD hS => ?_)
  refine lv_aload_n hx hb dX5_coin_11 rfl (lv_at hl 0 rfl) ?_
  refine lv_aload_n hx hb dX5_coin_12 rfl (lv_at hl 0 rfl) ?_
  refine lv_iload_n hx hb dX5_coin_13 rfl (lv_at hl 1 rfl) ?_
  obtain ⟨n2, en2⟩ : ∃ z9, z9 = (fX5_putCoin S T x1) := ⟨_, rfl⟩
  have k9 := (kX5_putCoin l D cI cC cT x ot ou ov oh ox oy ot1 ot2 S T x1)
  rw [← en2] at k9
  refine fUq (As := [.int x1]) (rest := [.ref x]) (st' := [.int n2.1, .ref x]) ⟨hx, hb, hml, hown, hts⟩ k9 (cwV 1 hts gX5_coin_X5_putCoin rfl rfl rfl (by decide +kernel) ⟨Nat.le_of_ble_eq_true rfl, Nat.le_of_ble_eq_true rfl⟩) hP hK hD hS (w1 oh rr Hs ++ wR cI cT rr ra rb rc n1 : va_W) (pmI (fun a => by simp only [cntW_app, cntW_nil] <;> omega)) (w5 x ot ou ov oh ox oy n2.2.1 ++ w3 cI ot ot1 ot2 n2.2.2 ++ w1 oh rr Hs ++ wR cI cT rr ra rb rc n1) (pmI (fun a => by simp only [cntW_app, cntW_nil] <;> omega)) rfl 0 (ci := 6) rfl rfl rfl rfl hl.1 rfl rfl (Nat.le_of_ble_eq_true rfl) ⟨Nat.le_of_ble_eq_true rfl, Nat.le_of_ble_eq_true rfl⟩ dX5_coin_14 (fun H locs hP hD hS => ?_)
  obtain ⟨n3, en3⟩ : ∃ z9, z9 = (fX5_settled n2.2.1 Hs n2.1) := ⟨_, rfl⟩
  have k9 := (kX5_settled l D cI cC cT x ot ou ov oh ox oy rr n2.2.1 Hs n2.1 hst)
  rw [← en3] at k9
  refine fXq (As := [.int n2.1]) (rest := []) (st' := [.int n3.2.1]) ⟨hx, hb, hml, hown, hts⟩ k9 (cwV 1 hts gX5_coin_X5_settled rfl rfl rfl (by decide +kernel) ⟨Nat.le_of_ble_eq_true rfl, Nat.le_of_ble_eq_true rfl⟩) hP hK hD hS hXE (w3 cI ot ot1 ot2 n2.2.2 ++ wR cI cT rr ra rb rc n1 : va_W) (pmI (fun a => by simp only [cntW_app, cntW_nil] <;> omega)) (w5 x ot ou ov oh ox oy n2.2.1 ++ w3 cI ot ot1 ot2 n2.2.2 ++ w1 oh rr n3.2.2 ++ wR cI cT rr ra rb rc n1) (pmI (fun a => by simp only [cntW_app, cntW_nil] <;> omega)) rfl 0 (ci := 6) rfl rfl rfl rfl hl.1 rfl rfl (Nat.le_of_ble_eq_true rfl) ⟨Nat.le_of_ble_eq_true rfl, Nat.le_of_ble_eq_true rfl⟩ dX5_coin_17 (fun C9 ce9 q9 H locs hE9 hP hD hS hq9 hv9 hc9 => ?_) (fun H locs c_17 hP hD hS => ?_)
  · have c_17 : ¬ n3.1 = none := by rw [hE9]; exact fun z => nomatch z
    have e9 : fX5_coin S T Hs G x1 = (n3.1, 0, n2.2.1, n2.2.2, n3.2.2, n1) := by rw [fX5_coin, ← en1, ← en2, ← en3, if_neg c_17]
    exact rXp hlk htb hQx hP hS (by rw [e9]; exact hE9) (congrArg (fun z9 : ((Option String) × Int32 × CV × TV × HV × (Nat → TV)) => (w5 x ot ou ov oh ox oy z9.2.2.1 ++ w3 cI ot ot1 ot2 z9.2.2.2.1 ++ w1 oh rr z9.2.2.2.2.1 ++ wR cI cT rr ra rb rc z9.2.2.2.2.2 : va_W)) e9).symm hq9 hv9 hc9 ⟨Nat.le_of_ble_eq_true rfl, Nat.le_of_ble_eq_true rfl⟩
  · have e9 : fX5_coin S T Hs G x1 = (none, n3.2.1, n2.2.1, n2.2.2, n3.2.2, n1) := by rw [fX5_coin, ← en1, ← en2, ← en3, if_pos c_17]
    exact rXi hx hb hr hlk hQ hP hS (by rw [e9]) (by rw [e9]) (congrArg (fun z9 : ((Option String) × Int32 × CV × TV × HV × (Nat → TV)) => (w5 x ot ou ov oh ox oy z9.2.2.1 ++ w3 cI ot ot1 ot2 z9.2.2.2.1 ++ w1 oh rr z9.2.2.2.2.1 ++ wR cI cT rr ra rb rc z9.2.2.2.2.2 : va_W)) e9).symm rfl ⟨Nat.le_of_ble_eq_true rfl, Nat.le_of_ble_eq_true rfl⟩ dX5_coin_20
def fX5_takeCoin (S : CV) (T : TV) (Hs : HV) (G : (Nat → TV)) (x1 : Int32) : ((Option String) × Int32 × CV × TV × HV × (Nat → TV)) := (if (fX5_settled (fX5_takeCoinBack S T x1).2.1 Hs (fX5_takeCoinBack S T x1).1).1 = none then (none, (fX5_settled (fX5_takeCoinBack S T x1).2.1 Hs (fX5_takeCoinBack S T x1).1).2.1, (fX5_takeCoinBack S T x1).2.1, (fX5_takeCoinBack S T x1).2.2, (fX5_settled (fX5_takeCoinBack S T x1).2.1 Hs (fX5_takeCoinBack S T x1).1).2.2, (fX1_prepare Hs G T)) else ((fX5_settled (fX5_takeCoinBack S T x1).2.1 Hs (fX5_takeCoinBack S T x1).1).1, 0, (fX5_takeCoinBack S T x1).2.1, (fX5_takeCoinBack S T x1).2.2, (fX5_settled (fX5_takeCoinBack S T x1).2.1 Hs (fX5_takeCoinBack S T x1).1).2.2, (fX1_prepare Hs G T)))
abbrev rmX5_takeCoin : Room := { frames := 7, cells := 1, slots := 6, locals := 107 }
set_option maxHeartbeats 4000000 in
set_option maxRecDepth 100000 in
theorem kX5_takeCoin (l : Launch) (D : va_G) (cI cC cT : ClassId) (x ot ou ov oh ox oy ot1 ot2 rr : Nat) (ra rb rc : Nat → Nat) (S : CV) (T : TV) (Hs : HV) (G : (Nat → TV)) (x1 : Int32) (hst : l.stackTraces = false) (hn : ∃ j : Nat, j < 9 ∧ Hs.1 = nI j) : mX l D (TY cI cC cT) yX5_takeCoin wsX5_takeCoin rmX5_takeCoin [.ref x, .int x1] (w5 x ot ou ov oh ox oy S ++ w3 cI ot ot1 ot2 T ++ w1 oh rr Hs ++ wR cI cT rr ra rb rc G) ((fX5_takeCoin S T Hs G x1).1) (some (.int (fX5_takeCoin S T Hs G x1).2.1)) (w5 x ot ou ov oh ox oy (fX5_takeCoin S T Hs G x1).2.2.1 ++ w3 cI ot ot1 ot2 (fX5_takeCoin S T Hs G x1).2.2.2.1 ++ w1 oh rr (fX5_takeCoin S T Hs G x1).2.2.2.2.1 ++ wR cI cT rr ra rb rc (fX5_takeCoin S T Hs G x1).2.2.2.2.2) 1 := by
  refine mX.ofW (cc := cX5_takeCoin) (maxL := 2) (ret := (some .int)) (by decide) rfl (Nat.le_of_ble_eq_true rfl) ?_
  intro p e s m args below meth c Q ls A hx hb hml hr hlk hts hown hP hK hD hS hl hXE htb hQ hQx
  have hown : s.vm.findClass RX5 = some m.cls := hown
  have hP : va_P D vwCl (w5 x ot ou ov oh ox oy S ++ w3 cI ot ot1 ot2 T ++ w1 oh rr Hs ++ wR cI cT rr ra rb rc G) s.heap := hP
  have hD : va_D A (w5 x ot ou ov oh ox oy S ++ w3 cI ot ot1 ot2 T ++ w1 oh rr Hs ++ wR cI cT rr ra rb rc G) := hD
  have hl : lv_has ls 2 [(0, .ref x), (1, .int x1)] := hl
  have q0 := hts (Cond.fieldLink RX5 25 "TavernStools" "history" "LTavernStools$History;") (by decide +kernel)
  have q1 : ∀ w ∈ u_ws RX5 TX5 10, w ∈ wsX5_takeCoin := by decide +kernel
  have q2 := hts (Cond.fieldLink RX5 10 "TavernStools" "tavern" "LTavernStools$Tavern;") (by decide +kernel)
  generalize hHe : s.heap = H at hP ⊢
  have hS : va_S A s.heap H [] := hHe ▸ hS
  generalize hLe : ([] : List Loc) = locs at hS ⊢
  refine lv_aload_n hx hb dX5_takeCoin_0 rfl (lv_at hl 0 rfl) ?_
  refine va_get (D := D) (ci := 6) (v := .ref oh) (C := RX5) (T := TX5) (N := 10) hx hb hts q1 hown hK hP 0 rfl rfl 3 (by decide) q0 (fun _ h9 => h9) rfl dX5_takeCoin_1 ?_
  refine lv_aload_n hx hb dX5_takeCoin_4 rfl (lv_at hl 0 rfl) ?_
  refine va_get (D := D) (ci := 6) (v := .ref ot) (C := RX5) (T := TX5) (N := 10) hx hb hts q1 hown hK hP 0 rfl rfl 0 (by decide) q2 (fun _ h9 => h9) rfl dX5_takeCoin_5 ?_
  obtain ⟨n1, en1⟩ : ∃ z9, z9 = (fX1_prepare Hs G T) := ⟨_, rfl⟩
  have k9 := (kX1_prepare l D cI cC cT oh rr ot ot1 ot2 ra rb rc Hs G T hn)
  rw [← en1] at k9
  refine fUq (As := [.ref ot]) (rest := []) (st' := []) ⟨hx, hb, hml, hown, hts⟩ k9 (cwV 1 hts gX5_takeCoin_X1_prepare rfl rfl rfl (by decide +kernel) ⟨Nat.le_of_ble_eq_true rfl, Nat.le_of_ble_eq_true rfl⟩) hP hK hD hS (w5 x ot ou ov oh ox oy S : va_W) (pmI (fun a => by simp only [cntW_app, cntW_nil] <;> omega)) (w5 x ot ou ov oh ox oy S ++ w3 cI ot ot1 ot2 T ++ w1 oh rr Hs ++ wR cI cT rr ra rb rc n1) (pmI (fun a => by simp only [cntW_app, cntW_nil] <;> omega)) rfl 4 (ci := 2) rfl rfl rfl rfl hl.1 rfl rfl (Nat.le_of_ble_eq_true rfl) ⟨Nat.le_of_ble_eq_true rfl, Nat.le_of_ble_eq_true rfl⟩ dX5_takeCoin_8 (fun H locs hP hD hS => ?_)
  refine lv_aload_n hx hb dX5_takeCoin_11 rfl (lv_at hl 0 rfl) ?_
  refine lv_aload_n hx hb dX5_takeCoin_12 rfl (lv_at hl 0 rfl) ?_
  refine lv_iload_n hx hb dX5_takeCoin_13 rfl (lv_at hl 1 rfl) ?_
  obtain ⟨n2, en2⟩ : ∃ z9, z9 = (fX5_takeCoinBack S T x1) := ⟨_, rfl⟩
  have k9 := (kX5_takeCoinBack l D cI cC cT x ot ou ov oh ox oy ot1 ot2 S T x1)
  rw [← en2] at k9
  refine fUq (As := [.int x1]) (rest := [.ref x]) (st' := [.int n2.1, .ref x]) ⟨hx, hb, hml, hown, hts⟩ k9 (cwV 1 hts gX5_takeCoin_X5_takeCoinBack rfl rfl rfl (by decide +kernel) ⟨Nat.le_of_ble_eq_true rfl, Nat.le_of_ble_eq_true rfl⟩) hP hK hD hS (w1 oh rr Hs ++ wR cI cT rr ra rb rc n1 : va_W) (pmI (fun a => by simp only [cntW_app, cntW_nil] <;> omega)) (w5 x ot ou ov oh ox oy n2.2.1 ++ w3 cI ot ot1 ot2 n2.2.2 ++ w1 oh rr Hs ++ wR cI cT rr ra rb rc n1) (pmI (fun a => by simp only [cntW_app, cntW_nil] <;> omega)) rfl 0 (ci := 6) rfl rfl rfl rfl hl.1 rfl rfl (Nat.le_of_ble_eq_true rfl) ⟨Nat.le_of_ble_eq_true rfl, Nat.le_of_ble_eq_true rfl⟩ dX5_takeCoin_14 (fun H locs hP hD hS => ?_)
  obtain ⟨n3, en3⟩ : ∃ z9, z9 = (fX5_settled n2.2.1 Hs n2.1) := ⟨_, rfl⟩
  have k9 := (kX5_settled l D cI cC cT x ot ou ov oh ox oy rr n2.2.1 Hs n2.1 hst)
  rw [← en3] at k9
  refine fXq (As := [.int n2.1]) (rest := []) (st' := [.int n3.2.1]) ⟨hx, hb, hml, hown, hts⟩ k9 (cwV 1 hts gX5_takeCoin_X5_settled rfl rfl rfl (by decide +kernel) ⟨Nat.le_of_ble_eq_true rfl, Nat.le_of_ble_eq_true rfl⟩) hP hK hD hS hXE (w3 cI ot ot1 ot2 n2.2.2 ++ wR cI cT rr ra rb rc n1 : va_W) (pmI (fun a => by simp only [cntW_app, cntW_nil] <;> omega)) (w5 x ot ou ov oh ox oy n2.2.1 ++ w3 cI ot ot1 ot2 n2.2.2 ++ w1 oh rr n3.2.2 ++ wR cI cT rr ra rb rc n1) (pmI (fun a => by simp only [cntW_app, cntW_nil] <;> omega)) rfl 0 (ci := 6) rfl rfl rfl rfl hl.1 rfl rfl (Nat.le_of_ble_eq_true rfl) ⟨Nat.le_of_ble_eq_true rfl, Nat.le_of_ble_eq_true rfl⟩ dX5_takeCoin_17 (fun C9 ce9 q9 H locs hE9 hP hD hS hq9 hv9 hc9 => ?_) (fun H locs c_17 hP hD hS => ?_)
  · have c_17 : ¬ n3.1 = none := by rw [hE9]; exact fun z => nomatch z
    have e9 : fX5_takeCoin S T Hs G x1 = (n3.1, 0, n2.2.1, n2.2.2, n3.2.2, n1) := by rw [fX5_takeCoin, ← en1, ← en2, ← en3, if_neg c_17]
    exact rXp hlk htb hQx hP hS (by rw [e9]; exact hE9) (congrArg (fun z9 : ((Option String) × Int32 × CV × TV × HV × (Nat → TV)) => (w5 x ot ou ov oh ox oy z9.2.2.1 ++ w3 cI ot ot1 ot2 z9.2.2.2.1 ++ w1 oh rr z9.2.2.2.2.1 ++ wR cI cT rr ra rb rc z9.2.2.2.2.2 : va_W)) e9).symm hq9 hv9 hc9 ⟨Nat.le_of_ble_eq_true rfl, Nat.le_of_ble_eq_true rfl⟩
  · have e9 : fX5_takeCoin S T Hs G x1 = (none, n3.2.1, n2.2.1, n2.2.2, n3.2.2, n1) := by rw [fX5_takeCoin, ← en1, ← en2, ← en3, if_pos c_17]
    exact rXi hx hb hr hlk hQ hP hS (by rw [e9]) (by rw [e9]) (congrArg (fun z9 : ((Option String) × Int32 × CV × TV × HV × (Nat → TV)) => (w5 x ot ou ov oh ox oy z9.2.2.1 ++ w3 cI ot ot1 ot2 z9.2.2.2.1 ++ w1 oh rr z9.2.2.2.2.1 ++ wR cI cT rr ra rb rc z9.2.2.2.2.2 : va_W)) e9).symm rfl ⟨Nat.le_of_ble_eq_true rfl, Nat.le_of_ble_eq_true rfl⟩ dX5_takeCoin_20
def fX5_night (S : CV) (T : TV) (Hs : HV) (G : (Nat → TV))  : ((Option String) × Int32 × TV × HV × (Nat → TV)) := (if (fX5_settled S Hs (fX3_passNight T).1).1 = none then (none, (fX5_settled S Hs (fX3_passNight T).1).2.1, (fX3_passNight T).2, (fX5_settled S Hs (fX3_passNight T).1).2.2, (fX1_prepare Hs G T)) else ((fX5_settled S Hs (fX3_passNight T).1).1, 0, (fX3_passNight T).2, (fX5_settled S Hs (fX3_passNight T).1).2.2, (fX1_prepare Hs G T)))
abbrev rmX5_night : Room := { frames := 7, cells := 1, slots := 6, locals := 107 }
set_option maxHeartbeats 4000000 in
set_option maxRecDepth 100000 in
theorem kX5_night (l : Launch) (D : va_G) (cI cC cT : ClassId) (x ot ou ov oh ox oy ot1 ot2 rr : Nat) (ra rb rc : Nat → Nat) (S : CV) (T : TV) (Hs : HV) (G : (Nat → TV))  (hst : l.stackTraces = false) (hn : ∃ j : Nat, j < 9 ∧ Hs.1 = nI j) : mX l D (TY cI cC cT) yX5_night wsX5_night rmX5_night [.ref x] (w5 x ot ou ov oh ox oy S ++ w3 cI ot ot1 ot2 T ++ w1 oh rr Hs ++ wR cI cT rr ra rb rc G) ((fX5_night S T Hs G).1) (some (.int (fX5_night S T Hs G).2.1)) (w5 x ot ou ov oh ox oy S ++ w3 cI ot ot1 ot2 (fX5_night S T Hs G).2.2.1 ++ w1 oh rr (fX5_night S T Hs G).2.2.2.1 ++ wR cI cT rr ra rb rc (fX5_night S T Hs G).2.2.2.2) 1 := by
  refine mX.ofW (cc := cX5_night) (maxL := 1) (ret := (some .int)) (by decide) rfl (Nat.le_of_ble_eq_true rfl) ?_
  intro p e s m args below meth c Q ls A hx hb hml hr hlk hts hown hP hK hD hS hl hXE htb hQ hQx
  have hown : s.vm.findClass RX5 = some m.cls := hown
  have hP : va_P D vwCl (w5 x ot ou ov oh ox oy S ++ w3 cI ot ot1 ot2 T ++ w1 oh rr Hs ++ wR cI cT rr ra rb rc G) s.heap := hP
  have hD : va_D A (w5 x ot ou ov oh ox oy S ++ w3 cI ot ot1 ot2 T ++ w1 oh rr Hs ++ wR cI cT rr ra rb rc G) := hD
  have hl : lv_has ls 1 [(0, .ref x)] := hl
  have q0 := hts (Cond.fieldLink RX5 25 "TavernStools" "history" "LTavernStools$History;") (by decide +kernel)
  have q1 : ∀ w ∈ u_ws RX5 TX5 10, w ∈ wsX5_night := by decide +kernel
  have q2 := hts (Cond.fieldLink RX5 10 "TavernStools" "tavern" "LTavernStools$Tavern;") (by decide +kernel)
  generalize hHe : s.heap = H at hP ⊢
  have hS : va_S A s.heap H [] := hHe ▸ hS
  generalize hLe : ([] : List Loc) = locs at hS ⊢
  refine lv_aload_n hx hb dX5_night_0 rfl (lv_at hl 0 rfl) ?_
  refine va_get (D := D) (ci := 6) (v := .ref oh) (C := RX5) (T := TX5) (N := 10) hx hb hts q1 hown hK hP 0 rfl rfl 3 (by decide) q0 (fun _ h9 => h9) rfl dX5_night_1 ?_
  refine lv_aload_n hx hb dX5_night_4 rfl (lv_at hl 0 rfl) ?_
  refine va_get (D := D) (ci := 6) (v := .ref ot) (C := RX5) (T := TX5) (N := 10) hx hb hts q1 hown hK hP 0 rfl rfl 0 (by decide) q2 (fun _ h9 => h9) rfl dX5_night_5 ?_
  obtain ⟨n1, en1⟩ : ∃ z9, z9 = (fX1_prepare Hs G T) := ⟨_, rfl⟩
  have k9 := (kX1_prepare l D cI cC cT oh rr ot ot1 ot2 ra rb rc Hs G T hn)
  rw [← en1] at k9
  refine fUq (As := [.ref ot]) (rest := []) (st' := []) ⟨hx, hb, hml, hown, hts⟩ k9 (cwV 1 hts gX5_night_X1_prepare rfl rfl rfl (by decide +kernel) ⟨Nat.le_of_ble_eq_true rfl, Nat.le_of_ble_eq_true rfl⟩) hP hK hD hS (w5 x ot ou ov oh ox oy S : va_W) (pmI (fun a => by simp only [cntW_app, cntW_nil] <;> omega)) (w5 x ot ou ov oh ox oy S ++ w3 cI ot ot1 ot2 T ++ w1 oh rr Hs ++ wR cI cT rr ra rb rc n1) (pmI (fun a => by simp only [cntW_app, cntW_nil] <;> omega)) rfl 4 (ci := 2) rfl rfl rfl rfl hl.1 rfl rfl (Nat.le_of_ble_eq_true rfl) ⟨Nat.le_of_ble_eq_true rfl, Nat.le_of_ble_eq_true rfl⟩ dX5_night_8 (fun H locs hP hD hS => ?_)
  refine lv_aload_n hx hb dX5_night_11 rfl (lv_at hl 0 rfl) ?_
  refine lv_aload_n hx hb dX5_night_12 rfl (lv_at hl 0 rfl) ?_
  refine va_get (D := D) (ci := 6) (v := .ref ot) (C := RX5) (T := TX5) (N := 10) hx hb hts q1 hown hK hP 0 rfl rfl 0 (by decide) q2 (fun _ h9 => h9) rfl dX5_night_13 ?_
  obtain ⟨n2, en2⟩ : ∃ z9, z9 = (fX3_passNight T) := ⟨_, rfl⟩
  have k9 := (kX3_passNight l D cI cC cT ot ot1 ot2 T)
  rw [← en2] at k9
  refine fUq (As := []) (rest := [.ref x]) (st' := [.int n2.1, .ref x]) ⟨hx, hb, hml, hown, hts⟩ k9 (cwV 0 hts gX5_night_X3_passNight rfl rfl rfl (by decide +kernel) ⟨Nat.le_of_ble_eq_true rfl, Nat.le_of_ble_eq_true rfl⟩) hP hK hD hS (w5 x ot ou ov oh ox oy S ++ w1 oh rr Hs ++ wR cI cT rr ra rb rc n1 : va_W) (pmI (fun a => by simp only [cntW_app, cntW_nil] <;> omega)) (w5 x ot ou ov oh ox oy S ++ w3 cI ot ot1 ot2 n2.2 ++ w1 oh rr Hs ++ wR cI cT rr ra rb rc n1) (pmI (fun a => by simp only [cntW_app, cntW_nil] <;> omega)) rfl 1 (ci := 4) rfl rfl rfl rfl hl.1 rfl rfl (Nat.le_of_ble_eq_true rfl) ⟨Nat.le_of_ble_eq_true rfl, Nat.le_of_ble_eq_true rfl⟩ dX5_night_16 (fun H locs hP hD hS => ?_)
  obtain ⟨n3, en3⟩ : ∃ z9, z9 = (fX5_settled S Hs n2.1) := ⟨_, rfl⟩
  have k9 := (kX5_settled l D cI cC cT x ot ou ov oh ox oy rr S Hs n2.1 hst)
  rw [← en3] at k9
  refine fXq (As := [.int n2.1]) (rest := []) (st' := [.int n3.2.1]) ⟨hx, hb, hml, hown, hts⟩ k9 (cwV 1 hts gX5_night_X5_settled rfl rfl rfl (by decide +kernel) ⟨Nat.le_of_ble_eq_true rfl, Nat.le_of_ble_eq_true rfl⟩) hP hK hD hS hXE (w3 cI ot ot1 ot2 n2.2 ++ wR cI cT rr ra rb rc n1 : va_W) (pmI (fun a => by simp only [cntW_app, cntW_nil] <;> omega)) (w5 x ot ou ov oh ox oy S ++ w3 cI ot ot1 ot2 n2.2 ++ w1 oh rr n3.2.2 ++ wR cI cT rr ra rb rc n1) (pmI (fun a => by simp only [cntW_app, cntW_nil] <;> omega)) rfl 0 (ci := 6) rfl rfl rfl rfl hl.1 rfl rfl (Nat.le_of_ble_eq_true rfl) ⟨Nat.le_of_ble_eq_true rfl, Nat.le_of_ble_eq_true rfl⟩ dX5_night_19 (fun C9 ce9 q9 H locs hE9 hP hD hS hq9 hv9 hc9 => ?_) (fun H locs c_19 hP hD hS => ?_)
  · have c_19 : ¬ n3.1 = none := by rw [hE9]; exact fun z => nomatch z
    have e9 : fX5_night S T Hs G = (n3.1, 0, n2.2, n3.2.2, n1) := by rw [fX5_night, ← en1, ← en2, ← en3, if_neg c_19]
    exact rXp hlk htb hQx hP hS (by rw [e9]; exact hE9) (congrArg (fun z9 : ((Option String) × Int32 × TV × HV × (Nat → TV)) => (w5 x ot ou ov oh ox oy S ++ w3 cI ot ot1 ot2 z9.2.2.1 ++ w1 oh rr z9.2.2.2.1 ++ wR cI cT rr ra rb rc z9.2.2.2.2 : va_W)) e9).symm hq9 hv9 hc9 ⟨Nat.le_of_ble_eq_true rfl, Nat.le_of_ble_eq_true rfl⟩
  · have e9 : fX5_night S T Hs G = (none, n3.2.1, n2.2, n3.2.2, n1) := by rw [fX5_night, ← en1, ← en2, ← en3, if_pos c_19]
    exact rXi hx hb hr hlk hQ hP hS (by rw [e9]) (by rw [e9]) (congrArg (fun z9 : ((Option String) × Int32 × TV × HV × (Nat → TV)) => (w5 x ot ou ov oh ox oy S ++ w3 cI ot ot1 ot2 z9.2.2.1 ++ w1 oh rr z9.2.2.2.1 ++ wR cI cT rr ra rb rc z9.2.2.2.2 : va_W)) e9).symm rfl ⟨Nat.le_of_ble_eq_true rfl, Nat.le_of_ble_eq_true rfl⟩ dX5_night_22
