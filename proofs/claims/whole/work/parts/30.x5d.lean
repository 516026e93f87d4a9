def fX5_stoolOf (S : CV) (T : TV) (x1 : Int32) (x2 : Int32) : ((Option String) × Int32) := (if (fX5_requireStool S T x1) = none then (if x2 < 0 then (some "java/lang/IllegalArgumentException", 0) else (if x2 < 6 then (none, (fX3_ofStool T x1 x2)) else (some "java/lang/IllegalArgumentException", 0))) else ((fX5_requireStool S T x1), 0))
abbrev rmX5_stoolOf : Room := { frames := 7, cells := 2, slots := 12, locals := 103 }
set_option maxHeartbeats 4000000 in
set_option maxRecDepth 100000 in
theorem kX5_stoolOf (l : Launch) (D : va_G) (cI cC cT : ClassId) (x ot ou ov oh ox oy ot1 ot2 : Nat) (S : CV) (T : TV) (x1 : Int32) (x2 : Int32) (hst : l.stackTraces = false) : mX l D (TY cI cC cT) yX5_stoolOf wsX5_stoolOf rmX5_stoolOf [.ref x, .int x1, .int x2] (w5 x ot ou ov oh ox oy S ++ w3 cI ot ot1 ot2 T) ((fX5_stoolOf S T x1 x2).1) (some (.int (fX5_stoolOf S T x1 x2).2)) (w5 x ot ou ov oh ox oy S ++ w3 cI ot ot1 ot2 T) 2 := by
  refine mX.ofW (cc := cX5_stoolOf) (maxL := 3) (ret := (some .int)) (by decide) rfl (Nat.le_of_ble_eq_true rfl) ?_
  intro p e s m args below meth c Q ls A hx hb hml hr hlk hts hown hP hK hD hS hl hXE htb hQ hQx
  have hown : s.vm.findClass RX5 = some m.cls := hown
  have hP : va_P D vwCl (w5 x ot ou ov oh ox oy S ++ w3 cI ot ot1 ot2 T) s.heap := hP
  have hD : va_D A (w5 x ot ou ov oh ox oy S ++ w3 cI ot ot1 ot2 T) := hD
  have hl : lv_has ls 3 [(0, .ref x), (1, .int x1), (2, .int x2)] := hl
  have q0 := hts (Cond.fieldLink RX5 10 "TavernStools" "tavern" "LTavernStools$Tavern;") (by decide +kernel)
  have q1 : ∀ w ∈ u_ws RX5 TX5 10, w ∈ wsX5_stoolOf := by decide +kernel
  generalize hHe : s.heap = H at hP ⊢
  have hS : va_S A s.heap H [] := hHe ▸ hS
  generalize hLe : ([] : List Loc) = locs at hS ⊢
  refine lv_aload_n hx hb dX5_stoolOf_0 rfl (lv_at hl 0 rfl) ?_
  refine lv_iload_n hx hb dX5_stoolOf_1 rfl (lv_at hl 1 rfl) ?_
  obtain ⟨n1, en1⟩ : ∃ z9, z9 = (fX5_requireStool S T x1) := ⟨_, rfl⟩
  have k9 := (kX5_requireStool l D cI cC cT x ot ou ov oh ox oy ot1 ot2 S T x1 hst)
  rw [← en1] at k9
  refine fXq (As := [.int x1]) (rest := []) (st' := []) ⟨hx, hb, hml, hown, hts⟩ k9 (cwV 1 hts gX5_stoolOf_X5_requireStool rfl rfl rfl (by decide +kernel) ⟨Nat.le_of_ble_eq_true rfl, Nat.le_of_ble_eq_true rfl⟩) hP hK hD hS hXE ([] : va_W) (pmI (fun a => by simp only [cntW_app, cntW_nil] <;> omega)) (w5 x ot ou ov oh ox oy S ++ w3 cI ot ot1 ot2 T) (pmI (fun a => by simp only [cntW_app, cntW_nil] <;> omega)) rfl 0 (ci := 6) rfl rfl rfl rfl hl.1 rfl rfl (Nat.le_of_ble_eq_true rfl) ⟨Nat.le_of_ble_eq_true rfl, Nat.le_of_ble_eq_true rfl⟩ dX5_stoolOf_2 (fun C9 ce9 q9 H locs hE9 hP hD hS hq9 hv9 hc9 => ?_) (fun H locs c_2 hP hD hS => ?_)
  · have c_2 : ¬ n1 = none := by rw [hE9]; exact fun z => nomatch z
    have e9 : fX5_stoolOf S T x1 x2 = (n1, 0) := by rw [fX5_stoolOf, ← en1, if_neg c_2]
    exact rXp hlk htb hQx hP hS (by rw [e9]; exact hE9) rfl hq9 hv9 hc9 ⟨Nat.le_of_ble_eq_true rfl, Nat.le_of_ble_eq_true rfl⟩
  · refine lv_iload_n hx hb dX5_stoolOf_5 rfl (lv_at hl 2 rfl) ?_
    refine lv_if_lt (tgt := 15) hx hb dX5_stoolOf_6 (by decide) (fun c_6 => ?_) (fun c_6 => ?_)
    · have e9 : fX5_stoolOf S T x1 x2 = (some "java/lang/IllegalArgumentException", 0) := by rw [fX5_stoolOf, ← en1, if_pos c_2, if_pos c_6]
      exact rXt (ik := 86) (is := 88) (ic := 90) (cls := "java/lang/IllegalArgumentException") (text := "no such number of a stool") hx hb hst hown hlk hts hXE htb hQ hP hS (hml.trans hl.1.symm) (by decide +kernel) (by decide +kernel) (by decide +kernel) (by decide +kernel) (by decide +kernel) (by decide +kernel) xb_90_86 xg_90_86 ⟨⟨Nat.le_of_ble_eq_true rfl, Nat.le_of_ble_eq_true rfl⟩, ⟨Nat.le_of_ble_eq_true rfl, Nat.le_of_ble_eq_true rfl⟩, ⟨Nat.le_of_ble_eq_true rfl, Nat.le_of_ble_eq_true rfl⟩⟩ (by rw [e9]) rfl dX5_stoolOf_15 dX5_stoolOf_18 (Or.inl ⟨dX5_stoolOf_19, dX5_stoolOf_21, dX5_stoolOf_24⟩)
    · refine lv_iload_n hx hb dX5_stoolOf_9 rfl (lv_at hl 2 rfl) ?_
      refine lv_bipush (v := 6) hx hb dX5_stoolOf_10 (by decide) ?_
      refine lv_icmp_lt (tgt := 25) hx hb dX5_stoolOf_12 (by decide) (fun c_12 => ?_) (fun c_12 => ?_)
      · refine lv_aload_n hx hb dX5_stoolOf_25 rfl (lv_at hl 0 rfl) ?_
        refine va_get (D := D) (ci := 6) (v := .ref ot) (C := RX5) (T := TX5) (N := 10) hx hb hts q1 hown hK hP 0 rfl rfl 0 (by decide) q0 (fun _ h9 => h9) rfl dX5_stoolOf_26 ?_
        refine lv_iload_n hx hb dX5_stoolOf_29 rfl (lv_at hl 1 rfl) ?_
        refine lv_iload_n hx hb dX5_stoolOf_30 rfl (lv_at hl 2 rfl) ?_
        refine fRq (As := [.int x1, .int x2]) (rest := []) (st' := [.int (fX3_ofStool T x1 x2)]) ⟨hx, hb, hml, hown, hts⟩ (kX3_ofStool l D cI cC cT ot ot1 ot2 T x1 x2) (cwV 2 hts gX5_stoolOf_X3_ofStool rfl rfl rfl (by decide +kernel) ⟨Nat.le_of_ble_eq_true rfl, Nat.le_of_ble_eq_true rfl⟩) hP hK (w5 x ot ou ov oh ox oy S : va_W) (pmI (fun a => by simp only [cntW_app, cntW_nil] <;> omega)) 1 (ci := 4) rfl rfl rfl rfl hl.1 rfl rfl (Nat.le_of_ble_eq_true rfl) ⟨Nat.le_of_ble_eq_true rfl, Nat.le_of_ble_eq_true rfl⟩ dX5_stoolOf_31 ?_
        have e9 : fX5_stoolOf S T x1 x2 = (none, (fX3_ofStool T x1 x2)) := by rw [fX5_stoolOf, ← en1, if_pos c_2, if_neg c_6, if_pos c_12]
        exact rXi hx hb hr hlk hQ hP hS (by rw [e9]) (by rw [e9]) rfl rfl ⟨Nat.le_of_ble_eq_true rfl, Nat.le_of_ble_eq_true rfl⟩ dX5_stoolOf_34
      · have e9 : fX5_stoolOf S T x1 x2 = (some "java/lang/IllegalArgumentException", 0) := by rw [fX5_stoolOf, ← en1, if_pos c_2, if_neg c_6, if_neg c_12]
        exact rXt (ik := 86) (is := 88) (ic := 90) (cls := "java/lang/IllegalArgumentException") (text := "no such number of a stool") hx hb hst hown hlk hts hXE htb hQ hP hS (hml.trans hl.1.symm) (by decide +kernel) (by decide +kernel) (by decide +kernel) (by decide +kernel) (by decide +kernel) (by decide +kernel) xb_90_86 xg_90_86 ⟨⟨Nat.le_of_ble_eq_true rfl, Nat.le_of_ble_eq_true rfl⟩, ⟨Nat.le_of_ble_eq_true rfl, Nat.le_of_ble_eq_true rfl⟩, ⟨Nat.le_of_ble_eq_true rfl, Nat.le_of_ble_eq_true rfl⟩⟩ (by rw [e9]) rfl dX5_stoolOf_15 dX5_stoolOf_18 (Or.inl ⟨dX5_stoolOf_19, dX5_stoolOf_21, dX5_stoolOf_24⟩)
def fX5_sitterOf (S : CV) (T : TV) (x1 : Int32) (x2 : Int32) : ((Option String) × Int32) := (if (fX5_requireSitter S T x1) = none then (if x2 = 0 then (none, (fX3_ofSitter T x1 0)) else (if x2 = 1 then (none, (fX3_ofSitter T x1 1)) else (if x2 = 2 then (none, (fX3_ofSitter T x1 2)) else (if x2 = 3 then (none, (fX3_clashesWith T x1)) else (if x2 = 4 then (if (fX3_ofSitter T x1 0) = 0 then (none, 1) else (none, 0)) else (some "java/lang/IllegalArgumentException", 0)))))) else ((fX5_requireSitter S T x1), 0))
abbrev rmX5_sitterOf : Room := { frames := 7, cells := 2, slots := 12, locals := 103 }
set_option maxHeartbeats 4000000 in
set_option maxRecDepth 100000 in
theorem kX5_sitterOf (l : Launch) (D : va_G) (cI cC cT : ClassId) (x ot ou ov oh ox oy ot1 ot2 : Nat) (S : CV) (T : TV) (x1 : Int32) (x2 : Int32) (hst : l.stackTraces = false) : mX l D (TY cI cC cT) yX5_sitterOf wsX5_sitterOf rmX5_sitterOf [.ref x, .int x1, .int x2] (w5 x ot ou ov oh ox oy S ++ w3 cI ot ot1 ot2 T) ((fX5_sitterOf S T x1 x2).1) (some (.int (fX5_sitterOf S T x1 x2).2)) (w5 x ot ou ov oh ox oy S ++ w3 cI ot ot1 ot2 T) 2 := by
  refine mX.ofW (cc := cX5_sitterOf) (maxL := 3) (ret := (some .int)) (by decide) rfl (Nat.le_of_ble_eq_true rfl) ?_
  intro p e s m args below meth c Q ls A hx hb hml hr hlk hts hown hP hK hD hS hl hXE htb hQ hQx
  have hown : s.vm.findClass RX5 = some m.cls := hown
  have hP : va_P D vwCl (w5 x ot ou ov oh ox oy S ++ w3 cI ot ot1 ot2 T) s.heap := hP
  have hD : va_D A (w5 x ot ou ov oh ox oy S ++ w3 cI ot ot1 ot2 T) := hD
  have hl : lv_has ls 3 [(0, .ref x), (1, .int x1), (2, .int x2)] := hl
  have q0 := hts (Cond.fieldLink RX5 10 "TavernStools" "tavern" "LTavernStools$Tavern;") (by decide +kernel)
  have q1 : ∀ w ∈ u_ws RX5 TX5 10, w ∈ wsX5_sitterOf := by decide +kernel
  generalize hHe : s.heap = H at hP ⊢
  have hS : va_S A s.heap H [] := hHe ▸ hS
  generalize hLe : ([] : List Loc) = locs at hS ⊢
  refine lv_aload_n hx hb dX5_sitterOf_0 rfl (lv_at hl 0 rfl) ?_
  refine lv_iload_n hx hb dX5_sitterOf_1 rfl (lv_at hl 1 rfl) ?_
  obtain ⟨n1, en1⟩ : ∃ z9, z9 = (fX5_requireSitter S T x1) := ⟨_, rfl⟩
  have k9 := (kX5_requireSitter l D cI cC cT x ot ou ov oh ox oy ot1 ot2 S T x1 hst)
  rw [← en1] at k9
  refine fXq (As := [.int x1]) (rest := []) (st' := []) ⟨hx, hb, hml, hown, hts⟩ k9 (cwV 1 hts gX5_sitterOf_X5_requireSitter rfl rfl rfl (by decide +kernel) ⟨Nat.le_of_ble_eq_true rfl, Nat.le_of_ble_eq_true rfl⟩) hP hK hD hS hXE ([] : va_W) (pmI (fun a => by simp only [cntW_app, cntW_nil] <;> omega)) (w5 x ot ou ov oh ox oy S ++ w3 cI ot ot1 ot2 T) (pmI (fun a => by simp only [cntW_app, cntW_nil] <;> omega)) rfl 0 (ci := 6) rfl rfl rfl rfl hl.1 rfl rfl (Nat.le_of_ble_eq_true rfl) ⟨Nat.le_of_ble_eq_true rfl, Nat.le_of_ble_eq_true rfl⟩ dX5_sitterOf_2 (fun C9 ce9 q9 H locs hE9 hP hD hS hq9 hv9 hc9 => ?_) (fun H locs c_2 hP hD hS => ?_)
  · have c_2 : ¬ n1 = none := by rw [hE9]; exact fun z => nomatch z
    have e9 : fX5_sitterOf S T x1 x2 = (n1, 0) := by rw [fX5_sitterOf, ← en1, if_neg c_2]
    exact rXp hlk htb hQx hP hS (by rw [e9]; exact hE9) rfl hq9 hv9 hc9 ⟨Nat.le_of_ble_eq_true rfl, Nat.le_of_ble_eq_true rfl⟩
  · refine lv_iload_n hx hb dX5_sitterOf_5 rfl (lv_at hl 2 rfl) ?_
    by_cases c_6_0 : x2 = 0
    · refine lv_tableIn (off := 34) (tgt := 40) hx hb dX5_sitterOf_6 (by rw [c_6_0]; decide) (by rw [c_6_0]; decide) (by rw [c_6_0]; rfl) (by decide) ?_
      refine lv_aload_n hx hb dX5_sitterOf_40 rfl (lv_at hl 0 rfl) ?_
      refine va_get (D := D) (ci := 6) (v := .ref ot) (C := RX5) (T := TX5) (N := 10) hx hb hts q1 hown hK hP 0 rfl rfl 0 (by decide) q0 (fun _ h9 => h9) rfl dX5_sitterOf_41 ?_
      refine lv_iload_n hx hb dX5_sitterOf_44 rfl (lv_at hl 1 rfl) ?_
      refine lv_iconst (v := 0) hx hb dX5_sitterOf_45 (by decide) ?_
      refine fRq (As := [.int x1, .int 0]) (rest := []) (st' := [.int (fX3_ofSitter T x1 0)]) ⟨hx, hb, hml, hown, hts⟩ (kX3_ofSitter l D cI cC cT ot ot1 ot2 T x1 0) (cwV 2 hts gX5_sitterOf_X3_ofSitter rfl rfl rfl (by decide +kernel) ⟨Nat.le_of_ble_eq_true rfl, Nat.le_of_ble_eq_true rfl⟩) hP hK (w5 x ot ou ov oh ox oy S : va_W) (pmI (fun a => by simp only [cntW_app, cntW_nil] <;> omega)) 1 (ci := 4) rfl rfl rfl rfl hl.1 rfl rfl (Nat.le_of_ble_eq_true rfl) ⟨Nat.le_of_ble_eq_true rfl, Nat.le_of_ble_eq_true rfl⟩ dX5_sitterOf_46 ?_
      have e9 : fX5_sitterOf S T x1 x2 = (none, (fX3_ofSitter T x1 0)) := by rw [fX5_sitterOf, ← en1, if_pos c_2, if_pos c_6_0]
      exact rXi hx hb hr hlk hQ hP hS (by rw [e9]) (by rw [e9]) rfl rfl ⟨Nat.le_of_ble_eq_true rfl, Nat.le_of_ble_eq_true rfl⟩ dX5_sitterOf_49
    · skip
      by_cases c_6_1 : x2 = 1
      · refine lv_tableIn (off := 44) (tgt := 50) hx hb dX5_sitterOf_6 (by rw [c_6_1]; decide) (by rw [c_6_1]; decide) (by rw [c_6_1]; rfl) (by decide) ?_
        refine lv_aload_n hx hb dX5_sitterOf_50 rfl (lv_at hl 0 rfl) ?_
        refine va_get (D := D) (ci := 6) (v := .ref ot) (C := RX5) (T := TX5) (N := 10) hx hb hts q1 hown hK hP 0 rfl rfl 0 (by decide) q0 (fun _ h9 => h9) rfl dX5_sitterOf_51 ?_
        refine lv_iload_n hx hb dX5_sitterOf_54 rfl (lv_at hl 1 rfl) ?_
        refine lv_iconst (v := 1) hx hb dX5_sitterOf_55 (by decide) ?_
        refine fRq (As := [.int x1, .int 1]) (rest := []) (st' := [.int (fX3_ofSitter T x1 1)]) ⟨hx, hb, hml, hown, hts⟩ (kX3_ofSitter l D cI cC cT ot ot1 ot2 T x1 1) (cwV 2 hts gX5_sitterOf_X3_ofSitter rfl rfl rfl (by decide +kernel) ⟨Nat.le_of_ble_eq_true rfl, Nat.le_of_ble_eq_true rfl⟩) hP hK (w5 x ot ou ov oh ox oy S : va_W) (pmI (fun a => by simp only [cntW_app, cntW_nil] <;> omega)) 1 (ci := 4) rfl rfl rfl rfl hl.1 rfl rfl (Nat.le_of_ble_eq_true rfl) ⟨Nat.le_of_ble_eq_true rfl, Nat.le_of_ble_eq_true rfl⟩ dX5_sitterOf_56 ?_
        have e9 : fX5_sitterOf S T x1 x2 = (none, (fX3_ofSitter T x1 1)) := by rw [fX5_sitterOf, ← en1, if_pos c_2, if_neg c_6_0, if_pos c_6_1]
        exact rXi hx hb hr hlk hQ hP hS (by rw [e9]) (by rw [e9]) rfl rfl ⟨Nat.le_of_ble_eq_true rfl, Nat.le_of_ble_eq_true rfl⟩ dX5_sitterOf_59
      · skip
        by_cases c_6_2 : x2 = 2
        · refine lv_tableIn (off := 54) (tgt := 60) hx hb dX5_sitterOf_6 (by rw [c_6_2]; decide) (by rw [c_6_2]; decide) (by rw [c_6_2]; rfl) (by decide) ?_
          refine lv_aload_n hx hb dX5_sitterOf_60 rfl (lv_at hl 0 rfl) ?_
          refine va_get (D := D) (ci := 6) (v := .ref ot) (C := RX5) (T := TX5) (N := 10) hx hb hts q1 hown hK hP 0 rfl rfl 0 (by decide) q0 (fun _ h9 => h9) rfl dX5_sitterOf_61 ?_
          refine lv_iload_n hx hb dX5_sitterOf_64 rfl (lv_at hl 1 rfl) ?_
          refine lv_iconst (v := 2) hx hb dX5_sitterOf_65 (by decide) ?_
          refine fRq (As := [.int x1, .int 2]) (rest := []) (st' := [.int (fX3_ofSitter T x1 2)]) ⟨hx, hb, hml, hown, hts⟩ (kX3_ofSitter l D cI cC cT ot ot1 ot2 T x1 2) (cwV 2 hts gX5_sitterOf_X3_ofSitter rfl rfl rfl (by decide +kernel) ⟨Nat.le_of_ble_eq_true rfl, Nat.le_of_ble_eq_true rfl⟩) hP hK (w5 x ot ou ov oh ox oy S : va_W) (pmI (fun a => by simp only [cntW_app, cntW_nil] <;> omega)) 1 (ci := 4) rfl rfl rfl rfl hl.1 rfl rfl (Nat.le_of_ble_eq_true rfl) ⟨Nat.le_of_ble_eq_true rfl, Nat.le_of_ble_eq_true rfl⟩ dX5_sitterOf_66 ?_
          have e9 : fX5_sitterOf S T x1 x2 = (none, (fX3_ofSitter T x1 2)) := by rw [fX5_sitterOf, ← en1, if_pos c_2, if_neg c_6_0, if_neg c_6_1, if_pos c_6_2]
          exact rXi hx hb hr hlk hQ hP hS (by rw [e9]) (by rw [e9]) rfl rfl ⟨Nat.le_of_ble_eq_true rfl, Nat.le_of_ble_eq_true rfl⟩ dX5_sitterOf_69
        · skip
          by_cases c_6_3 : x2 = 3
          · refine lv_tableIn (off := 64) (tgt := 70) hx hb dX5_sitterOf_6 (by rw [c_6_3]; decide) (by rw [c_6_3]; decide) (by rw [c_6_3]; rfl) (by decide) ?_
            refine lv_aload_n hx hb dX5_sitterOf_70 rfl (lv_at hl 0 rfl) ?_
            refine va_get (D := D) (ci := 6) (v := .ref ot) (C := RX5) (T := TX5) (N := 10) hx hb hts q1 hown hK hP 0 rfl rfl 0 (by decide) q0 (fun _ h9 => h9) rfl dX5_sitterOf_71 ?_
            refine lv_iload_n hx hb dX5_sitterOf_74 rfl (lv_at hl 1 rfl) ?_
            refine fRq (As := [.int x1]) (rest := []) (st' := [.int (fX3_clashesWith T x1)]) ⟨hx, hb, hml, hown, hts⟩ (kX3_clashesWith l D cI cC cT ot ot1 ot2 T x1) (cwV 1 hts gX5_sitterOf_X3_clashesWith rfl rfl rfl (by decide +kernel) ⟨Nat.le_of_ble_eq_true rfl, Nat.le_of_ble_eq_true rfl⟩) hP hK (w5 x ot ou ov oh ox oy S : va_W) (pmI (fun a => by simp only [cntW_app, cntW_nil] <;> omega)) 1 (ci := 4) rfl rfl rfl rfl hl.1 rfl rfl (Nat.le_of_ble_eq_true rfl) ⟨Nat.le_of_ble_eq_true rfl, Nat.le_of_ble_eq_true rfl⟩ dX5_sitterOf_75 ?_
            have e9 : fX5_sitterOf S T x1 x2 = (none, (fX3_clashesWith T x1)) := by rw [fX5_sitterOf, ← en1, if_pos c_2, if_neg c_6_0, if_neg c_6_1, if_neg c_6_2, if_pos c_6_3]
            exact rXi hx hb hr hlk hQ hP hS (by rw [e9]) (by rw [e9]) rfl rfl ⟨Nat.le_of_ble_eq_true rfl, Nat.le_of_ble_eq_true rfl⟩ dX5_sitterOf_78
          · skip
            by_cases c_6_4 : x2 = 4
            · refine lv_tableIn (off := 73) (tgt := 79) hx hb dX5_sitterOf_6 (by rw [c_6_4]; decide) (by rw [c_6_4]; decide) (by rw [c_6_4]; rfl) (by decide) ?_
              refine lv_aload_n hx hb dX5_sitterOf_79 rfl (lv_at hl 0 rfl) ?_
              refine va_get (D := D) (ci := 6) (v := .ref ot) (C := RX5) (T := TX5) (N := 10) hx hb hts q1 hown hK hP 0 rfl rfl 0 (by decide) q0 (fun _ h9 => h9) rfl dX5_sitterOf_80 ?_
              refine lv_iload_n hx hb dX5_sitterOf_83 rfl (lv_at hl 1 rfl) ?_
              refine lv_iconst (v := 0) hx hb dX5_sitterOf_84 (by decide) ?_
              refine fRq (As := [.int x1, .int 0]) (rest := []) (st' := [.int (fX3_ofSitter T x1 0)]) ⟨hx, hb, hml, hown, hts⟩ (kX3_ofSitter l D cI cC cT ot ot1 ot2 T x1 0) (cwV 2 hts gX5_sitterOf_X3_ofSitter rfl rfl rfl (by decide +kernel) ⟨Nat.le_of_ble_eq_true rfl, Nat.le_of_ble_eq_true rfl⟩) hP hK (w5 x ot ou ov oh ox oy S : va_W) (pmI (fun a => by simp only [cntW_app, cntW_nil] <;> omega)) 1 (ci := 4) rfl rfl rfl rfl hl.1 rfl rfl (Nat.le_of_ble_eq_true rfl) ⟨Nat.le_of_ble_eq_true rfl, Nat.le_of_ble_eq_true rfl⟩ dX5_sitterOf_85 ?_
              refine lv_if_ne (tgt := 95) hx hb dX5_sitterOf_88 (by decide) (fun c_88 => ?_) (fun c_88 => ?_)
              · refine lv_iconst (v := 0) hx hb dX5_sitterOf_95 (by decide) ?_
                have e9 : fX5_sitterOf S T x1 x2 = (none, 0) := by rw [fX5_sitterOf, ← en1, if_pos c_2, if_neg c_6_0, if_neg c_6_1, if_neg c_6_2, if_neg c_6_3, if_pos c_6_4, if_neg c_88]
                exact rXi hx hb hr hlk hQ hP hS (by rw [e9]) (by rw [e9]) rfl rfl ⟨Nat.le_of_ble_eq_true rfl, Nat.le_of_ble_eq_true rfl⟩ dX5_sitterOf_96
              · refine lv_iconst (v := 1) hx hb dX5_sitterOf_91 (by decide) ?_
                refine lv_goto (tgt := 96) hx hb dX5_sitterOf_92 (by decide) ?_
                have e9 : fX5_sitterOf S T x1 x2 = (none, 1) := by rw [fX5_sitterOf, ← en1, if_pos c_2, if_neg c_6_0, if_neg c_6_1, if_neg c_6_2, if_neg c_6_3, if_pos c_6_4, if_pos c_88]
                exact rXi hx hb hr hlk hQ hP hS (by rw [e9]) (by rw [e9]) rfl rfl ⟨Nat.le_of_ble_eq_true rfl, Nat.le_of_ble_eq_true rfl⟩ dX5_sitterOf_96
            · skip
              refine lv_tableDef (tgt := 97) [0, 1, 2, 3, 4] hx hb dX5_sitterOf_6 (by decide) (by decide) (List.forall_mem_cons.mpr ⟨tn c_6_0 (by decide), List.forall_mem_cons.mpr ⟨tn c_6_1 (by decide), List.forall_mem_cons.mpr ⟨tn c_6_2 (by decide), List.forall_mem_cons.mpr ⟨tn c_6_3 (by decide), List.forall_mem_cons.mpr ⟨tn c_6_4 (by decide), List.forall_mem_nil _⟩⟩⟩⟩⟩) (by decide) ?_
              have e9 : fX5_sitterOf S T x1 x2 = (some "java/lang/IllegalArgumentException", 0) := by rw [fX5_sitterOf, ← en1, if_pos c_2, if_neg c_6_0, if_neg c_6_1, if_neg c_6_2, if_neg c_6_3, if_neg c_6_4]
              exact rXt (ik := 86) (is := 105) (ic := 90) (cls := "java/lang/IllegalArgumentException") (text := "no such number of a sitter") hx hb hst hown hlk hts hXE htb hQ hP hS (hml.trans hl.1.symm) (by decide +kernel) (by decide +kernel) (by decide +kernel) (by decide +kernel) (by decide +kernel) (by decide +kernel) xb_90_86 xg_90_86 ⟨⟨Nat.le_of_ble_eq_true rfl, Nat.le_of_ble_eq_true rfl⟩, ⟨Nat.le_of_ble_eq_true rfl, Nat.le_of_ble_eq_true rfl⟩, ⟨Nat.le_of_ble_eq_true rfl, Nat.le_of_ble_eq_true rfl⟩⟩ (by rw [e9]) rfl dX5_sitterOf_97 dX5_sitterOf_100 (Or.inl ⟨dX5_sitterOf_101, dX5_sitterOf_103, dX5_sitterOf_106⟩)
def fX5_clash (S : CV) (T : TV) (x1 : Int32) (x2 : Int32) : ((Option String) × Int32) := (if (fX5_requireSitter S T x1) = none then (if (fX5_requireSitter S T x2) = none then (none, (fX3_areClashing T x1 x2)) else ((fX5_requireSitter S T x2), 0)) else ((fX5_requireSitter S T x1), 0))
abbrev rmX5_clash : Room := { frames := 7, cells := 2, slots := 12, locals := 103 }
set_option maxHeartbeats 4000000 in
set_option maxRecDepth 100000 in
theorem kX5_clash (l : Launch) (D : va_G) (cI cC cT : ClassId) (x ot ou ov oh ox oy ot1 ot2 : Nat) (S : CV) (T : TV) (x1 : Int32) (x2 : Int32) (hst : l.stackTraces = false) : mX l D (TY cI cC cT) yX5_clash wsX5_clash rmX5_clash [.ref x, .int x1, .int x2] (w5 x ot ou ov oh ox oy S ++ w3 cI ot ot1 ot2 T) ((fX5_clash S T x1 x2).1) (some (.int (fX5_clash S T x1 x2).2)) (w5 x ot ou ov oh ox oy S ++ w3 cI ot ot1 ot2 T) 2 := by
  refine mX.ofW (cc := cX5_clash) (maxL := 3) (ret := (some .boolean)) (by decide) rfl (Nat.le_of_ble_eq_true rfl) ?_
  intro p e s m args below meth c Q ls A hx hb hml hr hlk hts hown hP hK hD hS hl hXE htb hQ hQx
  have hown : s.vm.findClass RX5 = some m.cls := hown
  have hP : va_P D vwCl (w5 x ot ou ov oh ox oy S ++ w3 cI ot ot1 ot2 T) s.heap := hP
  have hD : va_D A (w5 x ot ou ov oh ox oy S ++ w3 cI ot ot1 ot2 T) := hD
  have hl : lv_has ls 3 [(0, .ref x), (1, .int x1), (2, .int x2)] := hl
  have q0 := hts (Cond.fieldLink RX5 10 "TavernStools" "tavern" "LTavernStools$Tavern;") (by decide +kernel)
  have q1 : ∀ w ∈ u_ws RX5 TX5 10, w ∈ wsX5_clash := by decide +kernel
  generalize hHe : s.heap = H at hP ⊢
  have hS : va_S A s.heap H [] := hHe ▸ hS
  generalize hLe : ([] : List Loc) = locs at hS ⊢
  refine lv_aload_n hx hb dX5_clash_0 rfl (lv_at hl 0 rfl) ?_
  refine lv_iload_n hx hb dX5_clash_1 rfl (lv_at hl 1 rfl) ?_
  obtain ⟨n1, en1⟩ : ∃ z9, z9 = (fX5_requireSitter S T x1) := ⟨_, rfl⟩
  have k9 := (kX5_requireSitter l D cI cC cT x ot ou ov oh ox oy ot1 ot2 S T x1 hst)
  rw [← en1] at k9
  refine fXq (As := [.int x1]) (rest := []) (st' := []) ⟨hx, hb, hml, hown, hts⟩ k9 (cwV 1 hts gX5_clash_X5_requireSitter rfl rfl rfl (by decide +kernel) ⟨Nat.le_of_ble_eq_true rfl, Nat.le_of_ble_eq_true rfl⟩) hP hK hD hS hXE ([] : va_W) (pmI (fun a => by simp only [cntW_app, cntW_nil] <;> omega)) (w5 x ot ou ov oh ox oy S ++ w3 cI ot ot1 ot2 T) (pmI (fun a => by simp only [cntW_app, cntW_nil] <;> omega)) rfl 0 (ci := 6) rfl rfl rfl rfl hl.1 rfl rfl (Nat.le_of_ble_eq_true rfl) ⟨Nat.le_of_ble_eq_true rfl, Nat.le_of_ble_eq_true rfl⟩ dX5_clash_2 (fun C9 ce9 q9 H locs hE9 hP hD hS hq9 hv9 hc9 => ?_) (fun H locs c_2 hP hD hS => ?_)
  · have c_2 : ¬ n1 = none := by rw [hE9]; exact fun z => nomatch z
    have e9 : fX5_clash S T x1 x2 = (n1, 0) := by rw [fX5_clash, ← en1, if_neg c_2]
    exact rXp hlk htb hQx hP hS (by rw [e9]; exact hE9) rfl hq9 hv9 hc9 ⟨Nat.le_of_ble_eq_true rfl, Nat.le_of_ble_eq_true rfl⟩
  · refine lv_aload_n hx hb dX5_clash_5 rfl (lv_at hl 0 rfl) ?_
    refine lv_iload_n hx hb dX5_clash_6 rfl (lv_at hl 2 rfl) ?_
    obtain ⟨n2, en2⟩ : ∃ z9, z9 = (fX5_requireSitter S T x2) := ⟨_, rfl⟩
    have k9 := (kX5_requireSitter l D cI cC cT x ot ou ov oh ox oy ot1 ot2 S T x2 hst)
    rw [← en2] at k9
    refine fXq (As := [.int x2]) (rest := []) (st' := []) ⟨hx, hb, hml, hown, hts⟩ k9 (cwV 1 hts gX5_clash_X5_requireSitter rfl rfl rfl (by decide +kernel) ⟨Nat.le_of_ble_eq_true rfl, Nat.le_of_ble_eq_true rfl⟩) hP hK hD hS hXE ([] : va_W) (pmI (fun a => by simp only [cntW_app, cntW_nil] <;> omega)) (w5 x ot ou ov oh ox oy S ++ w3 cI ot ot1 ot2 T) (pmI (fun a => by simp only [cntW_app, cntW_nil] <;> omega)) rfl 0 (ci := 6) rfl rfl rfl rfl hl.1 rfl rfl (Nat.le_of_ble_eq_true rfl) ⟨Nat.le_of_ble_eq_true rfl, Nat.le_of_ble_eq_true rfl⟩ dX5_clash_7 (fun C9 ce9 q9 H locs hE9 hP hD hS hq9 hv9 hc9 => ?_) (fun H locs c_7 hP hD hS => ?_)
    · have c_7 : ¬ n2 = none := by rw [hE9]; exact fun z => nomatch z
      have e9 : fX5_clash S T x1 x2 = (n2, 0) := by rw [fX5_clash, ← en1, if_pos c_2, ← en2, if_neg c_7]
      exact rXp hlk htb hQx hP hS (by rw [e9]; exact hE9) rfl hq9 hv9 hc9 ⟨Nat.le_of_ble_eq_true rfl, Nat.le_of_ble_eq_true rfl⟩
    · refine lv_aload_n hx hb dX5_clash_10 rfl (lv_at hl 0 rfl) ?_
      refine va_get (D := D) (ci := 6) (v := .ref ot) (C := RX5) (T := TX5) (N := 10) hx hb hts q1 hown hK hP 0 rfl rfl 0 (by decide) q0 (fun _ h9 => h9) rfl dX5_clash_11 ?_
      refine lv_iload_n hx hb dX5_clash_14 rfl (lv_at hl 1 rfl) ?_
      refine lv_iload_n hx hb dX5_clash_15 rfl (lv_at hl 2 rfl) ?_
      refine fRq (As := [.int x1, .int x2]) (rest := []) (st' := [.int (fX3_areClashing T x1 x2)]) ⟨hx, hb, hml, hown, hts⟩ (kX3_areClashing l D cI cC cT ot ot1 ot2 T x1 x2) (cwV 2 hts gX5_clash_X3_areClashing rfl rfl rfl (by decide +kernel) ⟨Nat.le_of_ble_eq_true rfl, Nat.le_of_ble_eq_true rfl⟩) hP hK (w5 x ot ou ov oh ox oy S : va_W) (pmI (fun a => by simp only [cntW_app, cntW_nil] <;> omega)) 1 (ci := 4) rfl rfl rfl rfl hl.1 rfl rfl (Nat.le_of_ble_eq_true rfl) ⟨Nat.le_of_ble_eq_true rfl, Nat.le_of_ble_eq_true rfl⟩ dX5_clash_16 ?_
      have e9 : fX5_clash S T x1 x2 = (none, (fX3_areClashing T x1 x2)) := by rw [fX5_clash, ← en1, if_pos c_2, ← en2, if_pos c_7]
      exact rXi hx hb hr hlk hQ hP hS (by rw [e9]) (by rw [e9]) rfl (nzb (zX3_areClashing T x1 x2)) ⟨Nat.le_of_ble_eq_true rfl, Nat.le_of_ble_eq_true rfl⟩ dX5_clash_19
theorem xb_140_136 : ∀ w ∈ (vx_at13 RX5 140 "java/util/NoSuchElementException" xSup).filter (fun w => !goodWord w), w ∈ [Cond.castable "java/util/NoSuchElementException" "java/util/NoSuchElementException", Cond.declares (Bundle.initS "java/lang/RuntimeException"), Cond.declares (Bundle.initS "java/lang/Exception"), Cond.declares (Bundle.initS "java/lang/Throwable")] := by decide +kernel
theorem xg_140_136 : ∀ w ∈ Cond.classLink RX5 136 "java/util/NoSuchElementException" :: Cond.initialized "java/util/NoSuchElementException" :: vx_at13 RX5 140 "java/util/NoSuchElementException" xSup, vx_ot w = true := by decide +kernel
def fX5_bestSwap (S : CV) (T : TV) (Tr : TV) (x1 : Int32) : ((Option String) × Int32 × TV) := (if (fX5_bestPair S T Tr).1 = (-1) then (some "java/util/NoSuchElementException", 0, (fX5_bestPair S T Tr).2) else (if x1 = 0 then (none, ((fX5_bestPair S T Tr).1 / 12), (fX5_bestPair S T Tr).2) else (none, ((fX5_bestPair S T Tr).1 - (fX5_bestPair S T Tr).1 / 12 * 12), (fX5_bestPair S T Tr).2)))
abbrev rmX5_bestSwap : Room := { frames := 6, cells := 1, slots := 6, locals := 115 }
set_option maxHeartbeats 4000000 in
set_option maxRecDepth 100000 in
theorem kX5_bestSwap (l : Launch) (D : va_G) (cI cC cT : ClassId) (x ot ou ov oh ox oy ot1 ot2 ou1 ou2 : Nat) (S : CV) (T : TV) (Tr : TV) (x1 : Int32) (hst : l.stackTraces = false) : mX l D (TY cI cC cT) yX5_bestSwap wsX5_bestSwap rmX5_bestSwap [.ref x, .int x1] (w5 x ot ou ov oh ox oy S ++ w3 cI ot ot1 ot2 T ++ w3 cI ou ou1 ou2 Tr) ((fX5_bestSwap S T Tr x1).1) (some (.int (fX5_bestSwap S T Tr x1).2.1)) (w5 x ot ou ov oh ox oy S ++ w3 cI ot ot1 ot2 T ++ w3 cI ou ou1 ou2 (fX5_bestSwap S T Tr x1).2.2) 1 := by
  refine mX.ofW (cc := cX5_bestSwap) (maxL := 3) (ret := (some .int)) (by decide) rfl (Nat.le_of_ble_eq_true rfl) ?_
  intro p e s m args below meth c Q ls A hx hb hml hr hlk hts hown hP hK hD hS hl hXE htb hQ hQx
  have hown : s.vm.findClass RX5 = some m.cls := hown
  have hP : va_P D vwCl (w5 x ot ou ov oh ox oy S ++ w3 cI ot ot1 ot2 T ++ w3 cI ou ou1 ou2 Tr) s.heap := hP
  have hD : va_D A (w5 x ot ou ov oh ox oy S ++ w3 cI ot ot1 ot2 T ++ w3 cI ou ou1 ou2 Tr) := hD
  have hl : lv_has ls 3 [(0, .ref x), (1, .int x1)] := hl
  generalize hHe : s.heap = H at hP ⊢
  have hS : va_S A s.heap H [] := hHe ▸ hS
  generalize hLe : ([] : List Loc) = locs at hS ⊢
  refine lv_aload_n hx hb dX5_bestSwap_0 rfl (lv_at hl 0 rfl) ?_
  obtain ⟨n1, en1⟩ : ∃ z9, z9 = (fX5_bestPair S T Tr) := ⟨_, rfl⟩
  have k9 := (kX5_bestPair l D cI cC cT x ot ou ov oh ox oy ot1 ot2 ou1 ou2 S T Tr)
  rw [← en1] at k9
  refine fUq (As := []) (rest := []) (st' := [.int n1.1]) ⟨hx, hb, hml, hown, hts⟩ k9 (cwV 0 hts gX5_bestSwap_X5_bestPair rfl rfl rfl (by decide +kernel) ⟨Nat.le_of_ble_eq_true rfl, Nat.le_of_ble_eq_true rfl⟩) hP hK hD hS ([] : va_W) (pmI (fun a => by simp only [cntW_app, cntW_nil] <;> omega)) (w5 x ot ou ov oh ox oy S ++ w3 cI ot ot1 ot2 T ++ w3 cI ou ou1 ou2 n1.2) (pmI (fun a => by simp only [cntW_app, cntW_nil] <;> omega)) rfl 0 (ci := 6) rfl rfl rfl rfl hl.1 rfl rfl (Nat.le_of_ble_eq_true rfl) ⟨Nat.le_of_ble_eq_true rfl, Nat.le_of_ble_eq_true rfl⟩ dX5_bestSwap_1 (fun H locs hP hD hS => ?_)
  refine lv_istore_n (lv' := [(2, .int n1.1), (0, .ref x), (1, .int x1)]) hx hb dX5_bestSwap_4 rfl hl (by decide) rfl (fun ls hl => ?_)
  refine lv_iload_n hx hb dX5_bestSwap_5 rfl (lv_at hl 0 rfl) ?_
  refine lv_iconst (v := (-1)) hx hb dX5_bestSwap_6 (by decide) ?_
  refine lv_icmp_ne (tgt := 20) hx hb dX5_bestSwap_7 (by decide) (fun c_7 => ?_) (fun c_7 => ?_)
  · refine lv_iload_n hx hb dX5_bestSwap_20 rfl (lv_at hl 2 rfl) ?_
    refine lv_if_eq (tgt := 31) hx hb dX5_bestSwap_21 (by decide) (fun c_21 => ?_) (fun c_21 => ?_)
    · refine lv_iload_n hx hb dX5_bestSwap_31 rfl (lv_at hl 0 rfl) ?_
      refine lv_bipush (v := 12) hx hb dX5_bestSwap_32 (by decide) ?_
      refine lv_idiv hx hb dX5_bestSwap_34 (by decide) ?_
      have e9 : fX5_bestSwap S T Tr x1 = (none, (n1.1 / 12), n1.2) := by rw [fX5_bestSwap, ← en1, if_neg c_7, if_pos c_21]
      exact rXi hx hb hr hlk hQ hP hS (by rw [e9]) (by rw [e9]) (congrArg (fun z9 : ((Option String) × Int32 × TV) => (w5 x ot ou ov oh ox oy S ++ w3 cI ot ot1 ot2 T ++ w3 cI ou ou1 ou2 z9.2.2 : va_W)) e9).symm rfl ⟨Nat.le_of_ble_eq_true rfl, Nat.le_of_ble_eq_true rfl⟩ dX5_bestSwap_35
    · refine lv_iload_n hx hb dX5_bestSwap_24 rfl (lv_at hl 0 rfl) ?_
      refine lv_bipush (v := 12) hx hb dX5_bestSwap_25 (by decide) ?_
      refine lv_irem hx hb dX5_bestSwap_27 (by decide) ?_
      refine lv_goto (tgt := 35) hx hb dX5_bestSwap_28 (by decide) ?_
      have e9 : fX5_bestSwap S T Tr x1 = (none, (n1.1 - n1.1 / 12 * 12), n1.2) := by rw [fX5_bestSwap, ← en1, if_neg c_7, if_neg c_21]
      exact rXi hx hb hr hlk hQ hP hS (by rw [e9]) (by rw [e9]) (congrArg (fun z9 : ((Option String) × Int32 × TV) => (w5 x ot ou ov oh ox oy S ++ w3 cI ot ot1 ot2 T ++ w3 cI ou ou1 ou2 z9.2.2 : va_W)) e9).symm rfl ⟨Nat.le_of_ble_eq_true rfl, Nat.le_of_ble_eq_true rfl⟩ dX5_bestSwap_35
  · have e9 : fX5_bestSwap S T Tr x1 = (some "java/util/NoSuchElementException", 0, n1.2) := by rw [fX5_bestSwap, ← en1, if_pos c_7]
    exact rXt13 (ik := 136) (is := 138) (ic := 140) (cls := "java/util/NoSuchElementException") (text := "no swap leaves fewer clashes") hx hb hst hown hlk hts hXE htb hQ hP hS (hml.trans hl.1.symm) (by decide +kernel) (by decide +kernel) (by decide +kernel) (by decide +kernel) (by decide +kernel) (by decide +kernel) xb_140_136 xg_140_136 ⟨⟨Nat.le_of_ble_eq_true rfl, Nat.le_of_ble_eq_true rfl⟩, ⟨Nat.le_of_ble_eq_true rfl, Nat.le_of_ble_eq_true rfl⟩, ⟨Nat.le_of_ble_eq_true rfl, Nat.le_of_ble_eq_true rfl⟩⟩ (by rw [e9]) (congrArg (fun z9 : ((Option String) × Int32 × TV) => (w5 x ot ou ov oh ox oy S ++ w3 cI ot ot1 ot2 T ++ w3 cI ou ou1 ou2 z9.2.2 : va_W)) e9).symm dX5_bestSwap_10 dX5_bestSwap_13 ⟨dX5_bestSwap_14, dX5_bestSwap_16, dX5_bestSwap_19⟩
def fX5_tilt (S : CV) (T : TV) (x1 : Int32) : ((Option String) × UInt32) := (if (fX5_requireStool S T x1) = none then (none, (fX3_tiltAt T x1)) else ((fX5_requireStool S T x1), 0))
abbrev rmX5_tilt : Room := { frames := 7, cells := 1, slots := 6, locals := 103 }
set_option maxHeartbeats 4000000 in
set_option maxRecDepth 100000 in
theorem kX5_tilt (l : Launch) (D : va_G) (cI cC cT : ClassId) (x ot ou ov oh ox oy ot1 ot2 : Nat) (S : CV) (T : TV) (x1 : Int32) (hst : l.stackTraces = false) : mX l D (TY cI cC cT) yX5_tilt wsX5_tilt rmX5_tilt [.ref x, .int x1] (w5 x ot ou ov oh ox oy S ++ w3 cI ot ot1 ot2 T) ((fX5_tilt S T x1).1) (some (.float (fX5_tilt S T x1).2)) (w5 x ot ou ov oh ox oy S ++ w3 cI ot ot1 ot2 T) 1 := by
  refine mX.ofW (cc := cX5_tilt) (maxL := 2) (ret := (some .float)) (by decide) rfl (Nat.le_of_ble_eq_true rfl) ?_
  intro p e s m args below meth c Q ls A hx hb hml hr hlk hts hown hP hK hD hS hl hXE htb hQ hQx
  have hown : s.vm.findClass RX5 = some m.cls := hown
  have hP : va_P D vwCl (w5 x ot ou ov oh ox oy S ++ w3 cI ot ot1 ot2 T) s.heap := hP
  have hD : va_D A (w5 x ot ou ov oh ox oy S ++ w3 cI ot ot1 ot2 T) := hD
  have hl : lv_has ls 2 [(0, .ref x), (1, .int x1)] := hl
  have q0 := hts (Cond.fieldLink RX5 10 "TavernStools" "tavern" "LTavernStools$Tavern;") (by decide +kernel)
  have q1 : ∀ w ∈ u_ws RX5 TX5 10, w ∈ wsX5_tilt := by decide +kernel
  generalize hHe : s.heap = H at hP ⊢
  have hS : va_S A s.heap H [] := hHe ▸ hS
  generalize hLe : ([] : List Loc) = locs at hS ⊢
  refine lv_aload_n hx hb dX5_tilt_0 rfl (lv_at hl 0 rfl) ?_
  refine lv_iload_n hx hb dX5_tilt_1 rfl (lv_at hl 1 rfl) ?_
  obtain ⟨n1, en1⟩ : ∃ z9, z9 = (fX5_requireStool S T x1) := ⟨_, rfl⟩
  have k9 := (kX5_requireStool l D cI cC cT x ot ou ov oh ox oy ot1 ot2 S T x1 hst)
  rw [← en1] at k9
  refine fXq (As := [.int x1]) (rest := []) (st' := []) ⟨hx, hb, hml, hown, hts⟩ k9 (cwV 1 hts gX5_tilt_X5_requireStool rfl rfl rfl (by decide +kernel) ⟨Nat.le_of_ble_eq_true rfl, Nat.le_of_ble_eq_true rfl⟩) hP hK hD hS hXE ([] : va_W) (pmI (fun a => by simp only [cntW_app, cntW_nil] <;> omega)) (w5 x ot ou ov oh ox oy S ++ w3 cI ot ot1 ot2 T) (pmI (fun a => by simp only [cntW_app, cntW_nil] <;> omega)) rfl 0 (ci := 6) rfl rfl rfl rfl hl.1 rfl rfl (Nat.le_of_ble_eq_true rfl) ⟨Nat.le_of_ble_eq_true rfl, Nat.le_of_ble_eq_true rfl⟩ dX5_tilt_2 (fun C9 ce9 q9 H locs hE9 hP hD hS hq9 hv9 hc9 => ?_) (fun H locs c_2 hP hD hS => ?_)
  · have c_2 : ¬ n1 = none := by rw [hE9]; exact fun z => nomatch z
    have e9 : fX5_tilt S T x1 = (n1, 0) := by rw [fX5_tilt, ← en1, if_neg c_2]
    exact rXp hlk htb hQx hP hS (by rw [e9]; exact hE9) rfl hq9 hv9 hc9 ⟨Nat.le_of_ble_eq_true rfl, Nat.le_of_ble_eq_true rfl⟩
  · refine lv_aload_n hx hb dX5_tilt_5 rfl (lv_at hl 0 rfl) ?_
    refine va_get (D := D) (ci := 6) (v := .ref ot) (C := RX5) (T := TX5) (N := 10) hx hb hts q1 hown hK hP 0 rfl rfl 0 (by decide) q0 (fun _ h9 => h9) rfl dX5_tilt_6 ?_
    refine lv_iload_n hx hb dX5_tilt_9 rfl (lv_at hl 1 rfl) ?_
    refine fRq (As := [.int x1]) (rest := []) (st' := [.float (fX3_tiltAt T x1)]) ⟨hx, hb, hml, hown, hts⟩ (kX3_tiltAt l D cI cC cT ot ot1 ot2 T x1) (cwV 1 hts gX5_tilt_X3_tiltAt rfl rfl rfl (by decide +kernel) ⟨Nat.le_of_ble_eq_true rfl, Nat.le_of_ble_eq_true rfl⟩) hP hK (w5 x ot ou ov oh ox oy S : va_W) (pmI (fun a => by simp only [cntW_app, cntW_nil] <;> omega)) 1 (ci := 4) rfl rfl rfl rfl hl.1 rfl rfl (Nat.le_of_ble_eq_true rfl) ⟨Nat.le_of_ble_eq_true rfl, Nat.le_of_ble_eq_true rfl⟩ dX5_tilt_10 ?_
    have e9 : fX5_tilt S T x1 = (none, (fX3_tiltAt T x1)) := by rw [fX5_tilt, ← en1, if_pos c_2]
    exact rXf hx hb hr hlk hQ hP hS (by rw [e9]) (by rw [e9]) rfl ⟨Nat.le_of_ble_eq_true rfl, Nat.le_of_ble_eq_true rfl⟩ dX5_tilt_13
def fX5_tiltBits (S : CV) (T : TV) (x1 : Int32) : ((Option String) × Int32) := (if (fX5_requireStool S T x1) = none then (none, (fX0_toBits (fX3_tiltAt T x1))) else ((fX5_requireStool S T x1), 0))
abbrev rmX5_tiltBits : Room := { frames := 7, cells := 1, slots := 6, locals := 103 }
set_option maxHeartbeats 4000000 in
set_option maxRecDepth 100000 in
theorem kX5_tiltBits (l : Launch) (D : va_G) (cI cC cT : ClassId) (x ot ou ov oh ox oy ot1 ot2 : Nat) (S : CV) (T : TV) (x1 : Int32) (hst : l.stackTraces = false) : mX l D (TY cI cC cT) yX5_tiltBits wsX5_tiltBits rmX5_tiltBits [.ref x, .int x1] (w5 x ot ou ov oh ox oy S ++ w3 cI ot ot1 ot2 T) ((fX5_tiltBits S T x1).1) (some (.int (fX5_tiltBits S T x1).2)) (w5 x ot ou ov oh ox oy S ++ w3 cI ot ot1 ot2 T) 1 := by
  refine mX.ofW (cc := cX5_tiltBits) (maxL := 2) (ret := (some .int)) (by decide) rfl (Nat.le_of_ble_eq_true rfl) ?_
  intro p e s m args below meth c Q ls A hx hb hml hr hlk hts hown hP hK hD hS hl hXE htb hQ hQx
  have hown : s.vm.findClass RX5 = some m.cls := hown
  have hP : va_P D vwCl (w5 x ot ou ov oh ox oy S ++ w3 cI ot ot1 ot2 T) s.heap := hP
  have hD : va_D A (w5 x ot ou ov oh ox oy S ++ w3 cI ot ot1 ot2 T) := hD
  have hl : lv_has ls 2 [(0, .ref x), (1, .int x1)] := hl
  have q0 := hts (Cond.fieldLink RX5 10 "TavernStools" "tavern" "LTavernStools$Tavern;") (by decide +kernel)
  have q1 : ∀ w ∈ u_ws RX5 TX5 10, w ∈ wsX5_tiltBits := by decide +kernel
  generalize hHe : s.heap = H at hP ⊢
  have hS : va_S A s.heap H [] := hHe ▸ hS
  generalize hLe : ([] : List Loc) = locs at hS ⊢
  refine lv_aload_n hx hb dX5_tiltBits_0 rfl (lv_at hl 0 rfl) ?_
  refine lv_iload_n hx hb dX5_tiltBits_1 rfl (lv_at hl 1 rfl) ?_
  obtain ⟨n1, en1⟩ : ∃ z9, z9 = (fX5_requireStool S T x1) := ⟨_, rfl⟩
  have k9 := (kX5_requireStool l D cI cC cT x ot ou ov oh ox oy ot1 ot2 S T x1 hst)
  rw [← en1] at k9
  refine fXq (As := [.int x1]) (rest := []) (st' := []) ⟨hx, hb, hml, hown, hts⟩ k9 (cwV 1 hts gX5_tiltBits_X5_requireStool rfl rfl rfl (by decide +kernel) ⟨Nat.le_of_ble_eq_true rfl, Nat.le_of_ble_eq_true rfl⟩) hP hK hD hS hXE ([] : va_W) (pmI (fun a => by simp only [cntW_app, cntW_nil] <;> omega)) (w5 x ot ou ov oh ox oy S ++ w3 cI ot ot1 ot2 T) (pmI (fun a => by simp only [cntW_app, cntW_nil] <;> omega)) rfl 0 (ci := 6) rfl rfl rfl rfl hl.1 rfl rfl (Nat.le_of_ble_eq_true rfl) ⟨Nat.le_of_ble_eq_true rfl, Nat.le_of_ble_eq_true rfl⟩ dX5_tiltBits_2 (fun C9 ce9 q9 H locs hE9 hP hD hS hq9 hv9 hc9 => ?_) (fun H locs c_2 hP hD hS => ?_)
  · have c_2 : ¬ n1 = none := by rw [hE9]; exact fun z => nomatch z
    have e9 : fX5_tiltBits S T x1 = (n1, 0) := by rw [fX5_tiltBits, ← en1, if_neg c_2]
    exact rXp hlk htb hQx hP hS (by rw [e9]; exact hE9) rfl hq9 hv9 hc9 ⟨Nat.le_of_ble_eq_true rfl, Nat.le_of_ble_eq_true rfl⟩
  · refine lv_aload_n hx hb dX5_tiltBits_5 rfl (lv_at hl 0 rfl) ?_
    refine va_get (D := D) (ci := 6) (v := .ref ot) (C := RX5) (T := TX5) (N := 10) hx hb hts q1 hown hK hP 0 rfl rfl 0 (by decide) q0 (fun _ h9 => h9) rfl dX5_tiltBits_6 ?_
    refine lv_iload_n hx hb dX5_tiltBits_9 rfl (lv_at hl 1 rfl) ?_
    refine fRq (As := [.int x1]) (rest := []) (st' := [.float (fX3_tiltAt T x1)]) ⟨hx, hb, hml, hown, hts⟩ (kX3_tiltAt l D cI cC cT ot ot1 ot2 T x1) (cwV 1 hts gX5_tiltBits_X3_tiltAt rfl rfl rfl (by decide +kernel) ⟨Nat.le_of_ble_eq_true rfl, Nat.le_of_ble_eq_true rfl⟩) hP hK (w5 x ot ou ov oh ox oy S : va_W) (pmI (fun a => by simp only [cntW_app, cntW_nil] <;> omega)) 1 (ci := 4) rfl rfl rfl rfl hl.1 rfl rfl (Nat.le_of_ble_eq_true rfl) ⟨Nat.le_of_ble_eq_true rfl, Nat.le_of_ble_eq_true rfl⟩ dX5_tiltBits_10 ?_
    refine fRS (As := [.float (fX3_tiltAt T x1)]) (rest := []) (st' := [.int (fX0_toBits (fX3_tiltAt T x1))]) ⟨hx, hb, hml, hown, hts⟩ (kX0_toBits l D cI cC cT (fX3_tiltAt T x1)) (va_cwS 1 hts gX5_tiltBits_X0_toBits rfl rfl rfl (by decide +kernel) ⟨Nat.le_of_ble_eq_true rfl, Nat.le_of_ble_eq_true rfl⟩) hP hK [] rfl rfl hl.1 rfl rfl (Nat.le_of_ble_eq_true rfl) ⟨Nat.le_of_ble_eq_true rfl, Nat.le_of_ble_eq_true rfl⟩ dX5_tiltBits_13 ?_
    have e9 : fX5_tiltBits S T x1 = (none, (fX0_toBits (fX3_tiltAt T x1))) := by rw [fX5_tiltBits, ← en1, if_pos c_2]
    exact rXi hx hb hr hlk hQ hP hS (by rw [e9]) (by rw [e9]) rfl rfl ⟨Nat.le_of_ble_eq_true rfl, Nat.le_of_ble_eq_true rfl⟩ dX5_tiltBits_16
def fX5_plusTilt (S : CV) (T : TV) (x1 : Int32) (x2 : Int32) : ((Option String) × Int32) := (if (fX5_requireStool S T x2) = none then (if x1 < 0 then (some "java/lang/IllegalArgumentException", 0) else (if x1 ≤ 1232348159 then (none, (fX0_toBits (FP.fadd (fX0_fromBits x1) (fX3_tiltAt T x2)))) else (some "java/lang/IllegalArgumentException", 0))) else ((fX5_requireStool S T x2), 0))
def gX5_plusTilt (S : CV) (T : TV) (x1 : Int32) (x2 : Int32) : Prop := (if (fX5_requireStool S T x2) = none then (if x1 < 0 then True else (if x1 ≤ 1232348159 then ((vf_n32 (FP.fadd (fX0_fromBits x1) (fX3_tiltAt T x2))) ∧ True) else True)) else True)
abbrev rmX5_plusTilt : Room := { frames := 7, cells := 2, slots := 12, locals := 103 }
set_option maxHeartbeats 4000000 in
set_option maxRecDepth 100000 in
theorem kX5_plusTilt (l : Launch) (D : va_G) (cI cC cT : ClassId) (x ot ou ov oh ox oy ot1 ot2 : Nat) (S : CV) (T : TV) (x1 : Int32) (x2 : Int32) (hst : l.stackTraces = false) (hg : gX5_plusTilt S T x1 x2) : mX l D (TY cI cC cT) yX5_plusTilt wsX5_plusTilt rmX5_plusTilt [.ref x, .int x1, .int x2] (w5 x ot ou ov oh ox oy S ++ w3 cI ot ot1 ot2 T) ((fX5_plusTilt S T x1 x2).1) (some (.int (fX5_plusTilt S T x1 x2).2)) (w5 x ot ou ov oh ox oy S ++ w3 cI ot ot1 ot2 T) 2 := by
  refine mX.ofW (cc := cX5_plusTilt) (maxL := 3) (ret := (some .int)) (by decide) rfl (Nat.le_of_ble_eq_true rfl) ?_
  intro p e s m args below meth c Q ls A hx hb hml hr hlk hts hown hP hK hD hS hl hXE htb hQ hQx
  have hown : s.vm.findClass RX5 = some m.cls := hown
  have hP : va_P D vwCl (w5 x ot ou ov oh ox oy S ++ w3 cI ot ot1 ot2 T) s.heap := hP
  have hD : va_D A (w5 x ot ou ov oh ox oy S ++ w3 cI ot ot1 ot2 T) := hD
  have hl : lv_has ls 3 [(0, .ref x), (1, .int x1), (2, .int x2)] := hl
  have q0 := hts (Cond.constant RX5 157 (1232348159)) (by decide +kernel)
  have q1 := hts (Cond.fieldLink RX5 10 "TavernStools" "tavern" "LTavernStools$Tavern;") (by decide +kernel)
  have q2 : ∀ w ∈ u_ws RX5 TX5 10, w ∈ wsX5_plusTilt := by decide +kernel
  unfold gX5_plusTilt at hg
  generalize hHe : s.heap = H at hP ⊢
  have hS : va_S A s.heap H [] := hHe ▸ hS
  generalize hLe : ([] : List Loc) = locs at hS ⊢
  refine lv_aload_n hx hb dX5_plusTilt_0 rfl (lv_at hl 0 rfl) ?_
  refine lv_iload_n hx hb dX5_plusTilt_1 rfl (lv_at hl 2 rfl) ?_
  obtain ⟨n1, en1⟩ : ∃ z9, z9 = (fX5_requireStool S T x2) := ⟨_, rfl⟩
  try rw [← en1] at hg
  have k9 := (kX5_requireStool l D cI cC cT x ot ou ov oh ox oy ot1 ot2 S T x2 hst)
  rw [← en1] at k9
  refine fXq (As := [.int x2]) (rest := []) (st' := []) ⟨hx, hb, hml, hown, hts⟩ k9 (cwV 1 hts gX5_plusTilt_X5_requireStool rfl rfl rfl (by decide +kernel) ⟨Nat.le_of_ble_eq_true rfl, Nat.le_of_ble_eq_true rfl⟩) hP hK hD hS hXE ([] : va_W) (pmI (fun a => by simp only [cntW_app, cntW_nil] <;> omega)) (w5 x ot ou ov oh ox oy S ++ w3 cI ot ot1 ot2 T) (pmI (fun a => by simp only [cntW_app, cntW_nil] <;> omega)) rfl 0 (ci := 6) rfl rfl rfl rfl hl.1 rfl rfl (Nat.le_of_ble_eq_true rfl) ⟨Nat.le_of_ble_eq_true rfl, Nat.le_of_ble_eq_true rfl⟩ dX5_plusTilt_2 (fun C9 ce9 q9 H locs hE9 hP hD hS hq9 hv9 hc9 => ?_) (fun H locs c_2 hP hD hS => ?_)
  · have c_2 : ¬ n1 = none := by rw [hE9]; exact fun z => nomatch z
    have e9 : fX5_plusTilt S T x1 x2 = (n1, 0) := by rw [fX5_plusTilt, ← en1, if_neg c_2]
    exact rXp hlk htb hQx hP hS (by rw [e9]; exact hE9) rfl hq9 hv9 hc9 ⟨Nat.le_of_ble_eq_true rfl, Nat.le_of_ble_eq_true rfl⟩
  · rw [if_pos c_2] at hg
    refine lv_iload_n hx hb dX5_plusTilt_5 rfl (lv_at hl 1 rfl) ?_
    refine lv_if_lt (tgt := 15) hx hb dX5_plusTilt_6 (by decide) (fun c_6_1 => ?_) (fun c_6_1 => ?_)
    · rw [if_pos c_6_1] at hg
      have e9 : fX5_plusTilt S T x1 x2 = (some "java/lang/IllegalArgumentException", 0) := by rw [fX5_plusTilt, ← en1, if_pos c_2, if_pos c_6_1]
      exact rXt (ik := 86) (is := 158) (ic := 90) (cls := "java/lang/IllegalArgumentException") (text := "the bits are out of range") hx hb hst hown hlk hts hXE htb hQ hP hS (hml.trans hl.1.symm) (by decide +kernel) (by decide +kernel) (by decide +kernel) (by decide +kernel) (by decide +kernel) (by decide +kernel) xb_90_86 xg_90_86 ⟨⟨Nat.le_of_ble_eq_true rfl, Nat.le_of_ble_eq_true rfl⟩, ⟨Nat.le_of_ble_eq_true rfl, Nat.le_of_ble_eq_true rfl⟩, ⟨Nat.le_of_ble_eq_true rfl, Nat.le_of_ble_eq_true rfl⟩⟩ (by rw [e9]) rfl dX5_plusTilt_15 dX5_plusTilt_18 (Or.inl ⟨dX5_plusTilt_19, dX5_plusTilt_21, dX5_plusTilt_24⟩)
    · rw [if_neg c_6_1] at hg
      refine lv_iload_n hx hb dX5_plusTilt_9 rfl (lv_at hl 1 rfl) ?_
      refine lv_ldc (v := 1232348159) hx hb hown q0 dX5_plusTilt_10 ?_
      refine lv_icmp_le (tgt := 25) hx hb dX5_plusTilt_12 (by decide) (fun c_12_2 => ?_) (fun c_12_2 => ?_)
      · rw [if_pos c_12_2] at hg
        refine lv_iload_n hx hb dX5_plusTilt_25 rfl (lv_at hl 1 rfl) ?_
        refine fRS (As := [.int x1]) (rest := []) (st' := [.float (fX0_fromBits x1)]) ⟨hx, hb, hml, hown, hts⟩ (kX0_fromBits l D cI cC cT x1) (va_cwS 1 hts gX5_plusTilt_X0_fromBits rfl rfl rfl (by decide +kernel) ⟨Nat.le_of_ble_eq_true rfl, Nat.le_of_ble_eq_true rfl⟩) hP hK [] rfl rfl hl.1 rfl rfl (Nat.le_of_ble_eq_true rfl) ⟨Nat.le_of_ble_eq_true rfl, Nat.le_of_ble_eq_true rfl⟩ dX5_plusTilt_26 ?_
        refine lv_aload_n hx hb dX5_plusTilt_29 rfl (lv_at hl 0 rfl) ?_
        refine va_get (D := D) (ci := 6) (v := .ref ot) (C := RX5) (T := TX5) (N := 10) hx hb hts q2 hown hK hP 0 rfl rfl 0 (by decide) q1 (fun _ h9 => h9) rfl dX5_plusTilt_30 ?_
        refine lv_iload_n hx hb dX5_plusTilt_33 rfl (lv_at hl 2 rfl) ?_
        refine fRq (As := [.int x2]) (rest := [.float (fX0_fromBits x1)]) (st' := [.float (fX3_tiltAt T x2), .float (fX0_fromBits x1)]) ⟨hx, hb, hml, hown, hts⟩ (kX3_tiltAt l D cI cC cT ot ot1 ot2 T x2) (cwV 1 hts gX5_plusTilt_X3_tiltAt rfl rfl rfl (by decide +kernel) ⟨Nat.le_of_ble_eq_true rfl, Nat.le_of_ble_eq_true rfl⟩) hP hK (w5 x ot ou ov oh ox oy S : va_W) (pmI (fun a => by simp only [cntW_app, cntW_nil] <;> omega)) 1 (ci := 4) rfl rfl rfl rfl hl.1 rfl rfl (Nat.le_of_ble_eq_true rfl) ⟨Nat.le_of_ble_eq_true rfl, Nat.le_of_ble_eq_true rfl⟩ dX5_plusTilt_34 ?_
        obtain ⟨o1, hg⟩ := hg
        refine lv_fadd hx hb dX5_plusTilt_37 o1 ?_
        refine fRS (As := [.float (FP.fadd (fX0_fromBits x1) (fX3_tiltAt T x2))]) (rest := []) (st' := [.int (fX0_toBits (FP.fadd (fX0_fromBits x1) (fX3_tiltAt T x2)))]) ⟨hx, hb, hml, hown, hts⟩ (kX0_toBits l D cI cC cT (FP.fadd (fX0_fromBits x1) (fX3_tiltAt T x2))) (va_cwS 1 hts gX5_plusTilt_X0_toBits rfl rfl rfl (by decide +kernel) ⟨Nat.le_of_ble_eq_true rfl, Nat.le_of_ble_eq_true rfl⟩) hP hK [] rfl rfl hl.1 rfl rfl (Nat.le_of_ble_eq_true rfl) ⟨Nat.le_of_ble_eq_true rfl, Nat.le_of_ble_eq_true rfl⟩ dX5_plusTilt_38 ?_
        have e9 : fX5_plusTilt S T x1 x2 = (none, (fX0_toBits (FP.fadd (fX0_fromBits x1) (fX3_tiltAt T x2)))) := by rw [fX5_plusTilt, ← en1, if_pos c_2, if_neg c_6_1, if_pos c_12_2]
        exact rXi hx hb hr hlk hQ hP hS (by rw [e9]) (by rw [e9]) rfl rfl ⟨Nat.le_of_ble_eq_true rfl, Nat.le_of_ble_eq_true rfl⟩ dX5_plusTilt_41
      · rw [if_neg c_12_2] at hg
        have e9 : fX5_plusTilt S T x1 x2 = (some "java/lang/IllegalArgumentException", 0) := by rw [fX5_plusTilt, ← en1, if_pos c_2, if_neg c_6_1, if_neg c_12_2]
        exact rXt (ik := 86) (is := 158) (ic := 90) (cls := "java/lang/IllegalArgumentException") (text := "the bits are out of range") hx hb hst hown hlk hts hXE htb hQ hP hS (hml.trans hl.1.symm) (by decide +kernel) (by decide +kernel) (by decide +kernel) (by decide +kernel) (by decide +kernel) (by decide +kernel) xb_90_86 xg_90_86 ⟨⟨Nat.le_of_ble_eq_true rfl, Nat.le_of_ble_eq_true rfl⟩, ⟨Nat.le_of_ble_eq_true rfl, Nat.le_of_ble_eq_true rfl⟩, ⟨Nat.le_of_ble_eq_true rfl, Nat.le_of_ble_eq_true rfl⟩⟩ (by rw [e9]) rfl dX5_plusTilt_15 dX5_plusTilt_18 (Or.inl ⟨dX5_plusTilt_19, dX5_plusTilt_21, dX5_plusTilt_24⟩)
def fX5_noiseOf (S : CV) (T : TV) (x1 : Int32) : ((Option String) × UInt32) := (if (fX5_requireSitter S T x1) = none then (none, (fX3_noiseAt T (fX3_ofSitter T x1 2))) else ((fX5_requireSitter S T x1), 0))
abbrev rmX5_noiseOf : Room := { frames := 7, cells := 1, slots := 6, locals := 103 }
set_option maxHeartbeats 4000000 in
set_option maxRecDepth 100000 in
theorem kX5_noiseOf (l : Launch) (D : va_G) (cI cC cT : ClassId) (x ot ou ov oh ox oy ot1 ot2 : Nat) (S : CV) (T : TV) (x1 : Int32) (hst : l.stackTraces = false) : mX l D (TY cI cC cT) yX5_noiseOf wsX5_noiseOf rmX5_noiseOf [.ref x, .int x1] (w5 x ot ou ov oh ox oy S ++ w3 cI ot ot1 ot2 T) ((fX5_noiseOf S T x1).1) (some (.float (fX5_noiseOf S T x1).2)) (w5 x ot ou ov oh ox oy S ++ w3 cI ot ot1 ot2 T) 1 := by
  refine mX.ofW (cc := cX5_noiseOf) (maxL := 2) (ret := (some .float)) (by decide) rfl (Nat.le_of_ble_eq_true rfl) ?_
  intro p e s m args below meth c Q ls A hx hb hml hr hlk hts hown hP hK hD hS hl hXE htb hQ hQx
  have hown : s.vm.findClass RX5 = some m.cls := hown
  have hP : va_P D vwCl (w5 x ot ou ov oh ox oy S ++ w3 cI ot ot1 ot2 T) s.heap := hP
  have hD : va_D A (w5 x ot ou ov oh ox oy S ++ w3 cI ot ot1 ot2 T) := hD
  have hl : lv_has ls 2 [(0, .ref x), (1, .int x1)] := hl
  have q0 := hts (Cond.fieldLink RX5 10 "TavernStools" "tavern" "LTavernStools$Tavern;") (by decide +kernel)
  have q1 : ∀ w ∈ u_ws RX5 TX5 10, w ∈ wsX5_noiseOf := by decide +kernel
  generalize hHe : s.heap = H at hP ⊢
  have hS : va_S A s.heap H [] := hHe ▸ hS
  generalize hLe : ([] : List Loc) = locs at hS ⊢
  refine lv_aload_n hx hb dX5_noiseOf_0 rfl (lv_at hl 0 rfl) ?_
  refine lv_iload_n hx hb dX5_noiseOf_1 rfl (lv_at hl 1 rfl) ?_
  obtain ⟨n1, en1⟩ : ∃ z9, z9 = (fX5_requireSitter S T x1) := ⟨_, rfl⟩
  have k9 := (kX5_requireSitter l D cI cC cT x ot ou ov oh ox oy ot1 ot2 S T x1 hst)
  rw [← en1] at k9
  refine fXq (As := [.int x1]) (rest := []) (st' := []) ⟨hx, hb, hml, hown, hts⟩ k9 (cwV 1 hts gX5_noiseOf_X5_requireSitter rfl rfl rfl (by decide +kernel) ⟨Nat.le_of_ble_eq_true rfl, Nat.le_of_ble_eq_true rfl⟩) hP hK hD hS hXE ([] : va_W) (pmI (fun a => by simp only [cntW_app, cntW_nil] <;> omega)) (w5 x ot ou ov oh ox oy S ++ w3 cI ot ot1 ot2 T) (pmI (fun a => by simp only [cntW_app, cntW_nil] <;> omega)) rfl 0 (ci := 6) rfl rfl rfl rfl hl.1 rfl rfl (Nat.le_of_ble_eq_true rfl) ⟨Nat.le_of_ble_eq_true rfl, Nat.le_of_ble_eq_true rfl⟩ dX5_noiseOf_2 (fun C9 ce9 q9 H locs hE9 hP hD hS hq9 hv9 hc9 => ?_) (fun H locs c_2 hP hD hS => ?_)
  · have c_2 : ¬ n1 = none := by rw [hE9]; exact fun z => nomatch z
    have e9 : fX5_noiseOf S T x1 = (n1, 0) := by rw [fX5_noiseOf, ← en1, if_neg c_2]
    exact rXp hlk htb hQx hP hS (by rw [e9]; exact hE9) rfl hq9 hv9 hc9 ⟨Nat.le_of_ble_eq_true rfl, Nat.le_of_ble_eq_true rfl⟩
  · refine lv_aload_n hx hb dX5_noiseOf_5 rfl (lv_at hl 0 rfl) ?_
    refine va_get (D := D) (ci := 6) (v := .ref ot) (C := RX5) (T := TX5) (N := 10) hx hb hts q1 hown hK hP 0 rfl rfl 0 (by decide) q0 (fun _ h9 => h9) rfl dX5_noiseOf_6 ?_
    refine lv_aload_n hx hb dX5_noiseOf_9 rfl (lv_at hl 0 rfl) ?_
    refine va_get (D := D) (ci := 6) (v := .ref ot) (C := RX5) (T := TX5) (N := 10) hx hb hts q1 hown hK hP 0 rfl rfl 0 (by decide) q0 (fun _ h9 => h9) rfl dX5_noiseOf_10 ?_
    refine lv_iload_n hx hb dX5_noiseOf_13 rfl (lv_at hl 1 rfl) ?_
    refine lv_iconst (v := 2) hx hb dX5_noiseOf_14 (by decide) ?_
    refine fRq (As := [.int x1, .int 2]) (rest := [.ref ot]) (st' := [.int (fX3_ofSitter T x1 2), .ref ot]) ⟨hx, hb, hml, hown, hts⟩ (kX3_ofSitter l D cI cC cT ot ot1 ot2 T x1 2) (cwV 2 hts gX5_noiseOf_X3_ofSitter rfl rfl rfl (by decide +kernel) ⟨Nat.le_of_ble_eq_true rfl, Nat.le_of_ble_eq_true rfl⟩) hP hK (w5 x ot ou ov oh ox oy S : va_W) (pmI (fun a => by simp only [cntW_app, cntW_nil] <;> omega)) 1 (ci := 4) rfl rfl rfl rfl hl.1 rfl rfl (Nat.le_of_ble_eq_true rfl) ⟨Nat.le_of_ble_eq_true rfl, Nat.le_of_ble_eq_true rfl⟩ dX5_noiseOf_15 ?_
    refine fRq (As := [.int (fX3_ofSitter T x1 2)]) (rest := []) (st' := [.float (fX3_noiseAt T (fX3_ofSitter T x1 2))]) ⟨hx, hb, hml, hown, hts⟩ (kX3_noiseAt l D cI cC cT ot ot1 ot2 T (fX3_ofSitter T x1 2)) (cwV 1 hts gX5_noiseOf_X3_noiseAt rfl rfl rfl (by decide +kernel) ⟨Nat.le_of_ble_eq_true rfl, Nat.le_of_ble_eq_true rfl⟩) hP hK (w5 x ot ou ov oh ox oy S : va_W) (pmI (fun a => by simp only [cntW_app, cntW_nil] <;> omega)) 1 (ci := 4) rfl rfl rfl rfl hl.1 rfl rfl (Nat.le_of_ble_eq_true rfl) ⟨Nat.le_of_ble_eq_true rfl, Nat.le_of_ble_eq_true rfl⟩ dX5_noiseOf_18 ?_
    have e9 : fX5_noiseOf S T x1 = (none, (fX3_noiseAt T (fX3_ofSitter T x1 2))) := by rw [fX5_noiseOf, ← en1, if_pos c_2]
    exact rXf hx hb hr hlk hQ hP hS (by rw [e9]) (by rw [e9]) rfl ⟨Nat.le_of_ble_eq_true rfl, Nat.le_of_ble_eq_true rfl⟩ dX5_noiseOf_21
def fX5_tilted (S : CV) (T : TV) (x1 : Int32) : ((Option String) × Int32) := (if (fX3_tiltedAt T x1) = (-1) then (some "java/util/NoSuchElementException", 0) else (none, (fX3_tiltedAt T x1)))
abbrev rmX5_tilted : Room := { frames := 6, cells := 1, slots := 6, locals := 92 }
set_option maxHeartbeats 4000000 in
set_option maxRecDepth 100000 in
theorem kX5_tilted (l : Launch) (D : va_G) (cI cC cT : ClassId) (x ot ou ov oh ox oy ot1 ot2 : Nat) (S : CV) (T : TV) (x1 : Int32) (hst : l.stackTraces = false) : mX l D (TY cI cC cT) yX5_tilted wsX5_tilted rmX5_tilted [.ref x, .int x1] (w5 x ot ou ov oh ox oy S ++ w3 cI ot ot1 ot2 T) ((fX5_tilted S T x1).1) (some (.int (fX5_tilted S T x1).2)) (w5 x ot ou ov oh ox oy S ++ w3 cI ot ot1 ot2 T) 1 := by
  refine mX.ofW (cc := cX5_tilted) (maxL := 3) (ret := (some .int)) (by decide) rfl (Nat.le_of_ble_eq_true rfl) ?_
  intro p e s m args below meth c Q ls A hx hb hml hr hlk hts hown hP hK hD hS hl hXE htb hQ hQx
  have hown : s.vm.findClass RX5 = some m.cls := hown
  have hP : va_P D vwCl (w5 x ot ou ov oh ox oy S ++ w3 cI ot ot1 ot2 T) s.heap := hP
  have hD : va_D A (w5 x ot ou ov oh ox oy S ++ w3 cI ot ot1 ot2 T) := hD
  have hl : lv_has ls 3 [(0, .ref x), (1, .int x1)] := hl
  have q0 := hts (Cond.fieldLink RX5 10 "TavernStools" "tavern" "LTavernStools$Tavern;") (by decide +kernel)
  have q1 : ∀ w ∈ u_ws RX5 TX5 10, w ∈ wsX5_tilted := by decide +kernel
  generalize hHe : s.heap = H at hP ⊢
  have hS : va_S A s.heap H [] := hHe ▸ hS
  generalize hLe : ([] : List Loc) = locs at hS ⊢
  refine lv_aload_n hx hb dX5_tilted_0 rfl (lv_at hl 0 rfl) ?_
  refine va_get (D := D) (ci := 6) (v := .ref ot) (C := RX5) (T := TX5) (N := 10) hx hb hts q1 hown hK hP 0 rfl rfl 0 (by decide) q0 (fun _ h9 => h9) rfl dX5_tilted_1 ?_
  refine lv_iload_n hx hb dX5_tilted_4 rfl (lv_at hl 1 rfl) ?_
  refine fRq (As := [.int x1]) (rest := []) (st' := [.int (fX3_tiltedAt T x1)]) ⟨hx, hb, hml, hown, hts⟩ (kX3_tiltedAt l D cI cC cT ot ot1 ot2 T x1) (cwV 1 hts gX5_tilted_X3_tiltedAt rfl rfl rfl (by decide +kernel) ⟨Nat.le_of_ble_eq_true rfl, Nat.le_of_ble_eq_true rfl⟩) hP hK (w5 x ot ou ov oh ox oy S : va_W) (pmI (fun a => by simp only [cntW_app, cntW_nil] <;> omega)) 1 (ci := 4) rfl rfl rfl rfl hl.1 rfl rfl (Nat.le_of_ble_eq_true rfl) ⟨Nat.le_of_ble_eq_true rfl, Nat.le_of_ble_eq_true rfl⟩ dX5_tilted_5 ?_
  refine lv_istore_n (lv' := [(2, .int (fX3_tiltedAt T x1)), (0, .ref x), (1, .int x1)]) hx hb dX5_tilted_8 rfl hl (by decide) rfl (fun ls hl => ?_)
  refine lv_iload_n hx hb dX5_tilted_9 rfl (lv_at hl 0 rfl) ?_
  refine lv_iconst (v := (-1)) hx hb dX5_tilted_10 (by decide) ?_
  refine lv_icmp_ne (tgt := 24) hx hb dX5_tilted_11 (by decide) (fun c_11 => ?_) (fun c_11 => ?_)
  · refine lv_iload_n hx hb dX5_tilted_24 rfl (lv_at hl 0 rfl) ?_
    have e9 : fX5_tilted S T x1 = (none, (fX3_tiltedAt T x1)) := by rw [fX5_tilted, if_neg c_11]
    exact rXi hx hb hr hlk hQ hP hS (by rw [e9]) (by rw [e9]) rfl rfl ⟨Nat.le_of_ble_eq_true rfl, Nat.le_of_ble_eq_true rfl⟩ dX5_tilted_25
  · have e9 : fX5_tilted S T x1 = (some "java/util/NoSuchElementException", 0) := by rw [fX5_tilted, if_pos c_11]
    exact rXt13 (ik := 136) (is := 176) (ic := 140) (cls := "java/util/NoSuchElementException") (text := "no such place by tilt") hx hb hst hown hlk hts hXE htb hQ hP hS (hml.trans hl.1.symm) (by decide +kernel) (by decide +kernel) (by decide +kernel) (by decide +kernel) (by decide +kernel) (by decide +kernel) xb_140_136 xg_140_136 ⟨⟨Nat.le_of_ble_eq_true rfl, Nat.le_of_ble_eq_true rfl⟩, ⟨Nat.le_of_ble_eq_true rfl, Nat.le_of_ble_eq_true rfl⟩, ⟨Nat.le_of_ble_eq_true rfl, Nat.le_of_ble_eq_true rfl⟩⟩ (by rw [e9]) rfl dX5_tilted_14 dX5_tilted_17 ⟨dX5_tilted_18, dX5_tilted_20, dX5_tilted_23⟩
def fX5_ranked (S : CV) (T : TV) (x1 : Int32) : ((Option String) × Int32) := (if (fX3_rankedAt T x1) = (-1) then (some "java/util/NoSuchElementException", 0) else (none, (fX3_rankedAt T x1)))
abbrev rmX5_ranked : Room := { frames := 6, cells := 1, slots := 6, locals := 82 }
set_option maxHeartbeats 4000000 in
set_option maxRecDepth 100000 in
theorem kX5_ranked (l : Launch) (D : va_G) (cI cC cT : ClassId) (x ot ou ov oh ox oy ot1 ot2 : Nat) (S : CV) (T : TV) (x1 : Int32) (hst : l.stackTraces = false) : mX l D (TY cI cC cT) yX5_ranked wsX5_ranked rmX5_ranked [.ref x, .int x1] (w5 x ot ou ov oh ox oy S ++ w3 cI ot ot1 ot2 T) ((fX5_ranked S T x1).1) (some (.int (fX5_ranked S T x1).2)) (w5 x ot ou ov oh ox oy S ++ w3 cI ot ot1 ot2 T) 1 := by
  refine mX.ofW (cc := cX5_ranked) (maxL := 3) (ret := (some .int)) (by decide) rfl (Nat.le_of_ble_eq_true rfl) ?_
  intro p e s m args below meth c Q ls A hx hb hml hr hlk hts hown hP hK hD hS hl hXE htb hQ hQx
  have hown : s.vm.findClass RX5 = some m.cls := hown
  have hP : va_P D vwCl (w5 x ot ou ov oh ox oy S ++ w3 cI ot ot1 ot2 T) s.heap := hP
  have hD : va_D A (w5 x ot ou ov oh ox oy S ++ w3 cI ot ot1 ot2 T) := hD
  have hl : lv_has ls 3 [(0, .ref x), (1, .int x1)] := hl
  have q0 := hts (Cond.fieldLink RX5 10 "TavernStools" "tavern" "LTavernStools$Tavern;") (by decide +kernel)
  have q1 : ∀ w ∈ u_ws RX5 TX5 10, w ∈ wsX5_ranked := by decide +kernel
  generalize hHe : s.heap = H at hP ⊢
  have hS : va_S A s.heap H [] := hHe ▸ hS
  generalize hLe : ([] : List Loc) = locs at hS ⊢
  refine lv_aload_n hx hb dX5_ranked_0 rfl (lv_at hl 0 rfl) ?_
  refine va_get (D := D) (ci := 6) (v := .ref ot) (C := RX5) (T := TX5) (N := 10) hx hb hts q1 hown hK hP 0 rfl rfl 0 (by decide) q0 (fun _ h9 => h9) rfl dX5_ranked_1 ?_
  refine lv_iload_n hx hb dX5_ranked_4 rfl (lv_at hl 1 rfl) ?_
  refine fRq (As := [.int x1]) (rest := []) (st' := [.int (fX3_rankedAt T x1)]) ⟨hx, hb, hml, hown, hts⟩ (kX3_rankedAt l D cI cC cT ot ot1 ot2 T x1) (cwV 1 hts gX5_ranked_X3_rankedAt rfl rfl rfl (by decide +kernel) ⟨Nat.le_of_ble_eq_true rfl, Nat.le_of_ble_eq_true rfl⟩) hP hK (w5 x ot ou ov oh ox oy S : va_W) (pmI (fun a => by simp only [cntW_app, cntW_nil] <;> omega)) 1 (ci := 4) rfl rfl rfl rfl hl.1 rfl rfl (Nat.le_of_ble_eq_true rfl) ⟨Nat.le_of_ble_eq_true rfl, Nat.le_of_ble_eq_true rfl⟩ dX5_ranked_5 ?_
  refine lv_istore_n (lv' := [(2, .int (fX3_rankedAt T x1)), (0, .ref x), (1, .int x1)]) hx hb dX5_ranked_8 rfl hl (by decide) rfl (fun ls hl => ?_)
  refine lv_iload_n hx hb dX5_ranked_9 rfl (lv_at hl 0 rfl) ?_
  refine lv_iconst (v := (-1)) hx hb dX5_ranked_10 (by decide) ?_
  refine lv_icmp_ne (tgt := 24) hx hb dX5_ranked_11 (by decide) (fun c_11 => ?_) (fun c_11 => ?_)
  · refine lv_iload_n hx hb dX5_ranked_24 rfl (lv_at hl 0 rfl) ?_
    have e9 : fX5_ranked S T x1 = (none, (fX3_rankedAt T x1)) := by rw [fX5_ranked, if_neg c_11]
    exact rXi hx hb hr hlk hQ hP hS (by rw [e9]) (by rw [e9]) rfl rfl ⟨Nat.le_of_ble_eq_true rfl, Nat.le_of_ble_eq_true rfl⟩ dX5_ranked_25
  · have e9 : fX5_ranked S T x1 = (some "java/util/NoSuchElementException", 0) := by rw [fX5_ranked, if_pos c_11]
    exact rXt13 (ik := 136) (is := 181) (ic := 140) (cls := "java/util/NoSuchElementException") (text := "no such place by rank") hx hb hst hown hlk hts hXE htb hQ hP hS (hml.trans hl.1.symm) (by decide +kernel) (by decide +kernel) (by decide +kernel) (by decide +kernel) (by decide +kernel) (by decide +kernel) xb_140_136 xg_140_136 ⟨⟨Nat.le_of_ble_eq_true rfl, Nat.le_of_ble_eq_true rfl⟩, ⟨Nat.le_of_ble_eq_true rfl, Nat.le_of_ble_eq_true rfl⟩, ⟨Nat.le_of_ble_eq_true rfl, Nat.le_of_ble_eq_true rfl⟩⟩ (by rw [e9]) rfl dX5_ranked_14 dX5_ranked_17 ⟨dX5_ranked_18, dX5_ranked_20, dX5_ranked_23⟩
def fX5_stoolLine (S : CV) (T : TV) (Ln : LV) (x1 : Int32) : ((Option String) × Int32 × LV) := (if (fX5_requireStool S T x1) = none then (none, (fX2_addTimes (fX2_addTimes (fX2_addNumber (fX2_add (fX2_addNumber (fX2_add (fX2_addNumber (fX2_clear Ln) x1) 94) (fX3_ofStool T x1 0)) 126) (fX3_ofStool T x1 2)) 39 (fX3_ofStool T x1 1)) 111 (fX3_ofStool T x1 4)).2, (fX2_addTimes (fX2_addTimes (fX2_addNumber (fX2_add (fX2_addNumber (fX2_add (fX2_addNumber (fX2_clear Ln) x1) 94) (fX3_ofStool T x1 0)) 126) (fX3_ofStool T x1 2)) 39 (fX3_ofStool T x1 1)) 111 (fX3_ofStool T x1 4))) else ((fX5_requireStool S T x1), 0, Ln))
abbrev rmX5_stoolLine : Room := { frames := 7, cells := 1, slots := 6, locals := 103 }
set_option maxHeartbeats 4000000 in
set_option maxRecDepth 100000 in
theorem kX5_stoolLine (l : Launch) (D : va_G) (cI cC cT : ClassId) (x ot ou ov oh ox oy ot1 ot2 oy1 : Nat) (S : CV) (T : TV) (Ln : LV) (x1 : Int32) (hst : l.stackTraces = false) : mX l D (TY cI cC cT) yX5_stoolLine wsX5_stoolLine rmX5_stoolLine [.ref x, .int x1] (w5 x ot ou ov oh ox oy S ++ w3 cI ot ot1 ot2 T ++ w2 cC oy oy1 Ln) ((fX5_stoolLine S T Ln x1).1) (some (.int (fX5_stoolLine S T Ln x1).2.1)) (w5 x ot ou ov oh ox oy S ++ w3 cI ot ot1 ot2 T ++ w2 cC oy oy1 (fX5_stoolLine S T Ln x1).2.2) 1 := by
  refine mX.ofW (cc := cX5_stoolLine) (maxL := 2) (ret := (some .int)) (by decide) rfl (Nat.le_of_ble_eq_true rfl) ?_
  intro p e s m args below meth c Q ls A hx hb hml hr hlk hts hown hP hK hD hS hl hXE htb hQ hQx
  have hown : s.vm.findClass RX5 = some m.cls := hown
  have hP : va_P D vwCl (w5 x ot ou ov oh ox oy S ++ w3 cI ot ot1 ot2 T ++ w2 cC oy oy1 Ln) s.heap := hP
  have hD : va_D A (w5 x ot ou ov oh ox oy S ++ w3 cI ot ot1 ot2 T ++ w2 cC oy oy1 Ln) := hD
  have hl : lv_has ls 2 [(0, .ref x), (1, .int x1)] := hl
  have q0 := hts (Cond.fieldLink RX5 39 "TavernStools" "written" "LTavernStools$Line;") (by decide +kernel)
  have q1 : ∀ w ∈ u_ws RX5 TX5 10, w ∈ wsX5_stoolLine := by decide +kernel
  have q2 := hts (Cond.fieldLink RX5 10 "TavernStools" "tavern" "LTavernStools$Tavern;") (by decide +kernel)
  have q3 := hts (Cond.fieldLink RX5 189 "TavernStools$Line" "length" "I") (by decide +kernel)
  have q4 : ∀ w ∈ u_ws RX2 TX2 2, w ∈ wsX5_stoolLine := by decide +kernel
  generalize hHe : s.heap = H at hP ⊢
  have hS : va_S A s.heap H [] := hHe ▸ hS
  generalize hLe : ([] : List Loc) = locs at hS ⊢
  refine lv_aload_n hx hb dX5_stoolLine_0 rfl (lv_at hl 0 rfl) ?_
  refine lv_iload_n hx hb dX5_stoolLine_1 rfl (lv_at hl 1 rfl) ?_
  obtain ⟨n1, en1⟩ : ∃ z9, z9 = (fX5_requireStool S T x1) := ⟨_, rfl⟩
  have k9 := (kX5_requireStool l D cI cC cT x ot ou ov oh ox oy ot1 ot2 S T x1 hst)
  rw [← en1] at k9
  refine fXq (As := [.int x1]) (rest := []) (st' := []) ⟨hx, hb, hml, hown, hts⟩ k9 (cwV 1 hts gX5_stoolLine_X5_requireStool rfl rfl rfl (by decide +kernel) ⟨Nat.le_of_ble_eq_true rfl, Nat.le_of_ble_eq_true rfl⟩) hP hK hD hS hXE (w2 cC oy oy1 Ln : va_W) (pmI (fun a => by simp only [cntW_app, cntW_nil] <;> omega)) (w5 x ot ou ov oh ox oy S ++ w3 cI ot ot1 ot2 T ++ w2 cC oy oy1 Ln) (pmI (fun a => by simp only [cntW_app, cntW_nil] <;> omega)) rfl 0 (ci := 6) rfl rfl rfl rfl hl.1 rfl rfl (Nat.le_of_ble_eq_true rfl) ⟨Nat.le_of_ble_eq_true rfl, Nat.le_of_ble_eq_true rfl⟩ dX5_stoolLine_2 (fun C9 ce9 q9 H locs hE9 hP hD hS hq9 hv9 hc9 => ?_) (fun H locs c_2 hP hD hS => ?_)
  · have c_2 : ¬ n1 = none := by rw [hE9]; exact fun z => nomatch z
    have e9 : fX5_stoolLine S T Ln x1 = (n1, 0, Ln) := by rw [fX5_stoolLine, ← en1, if_neg c_2]
    exact rXp hlk htb hQx hP hS (by rw [e9]; exact hE9) (congrArg (fun z9 : ((Option String) × Int32 × LV) => (w5 x ot ou ov oh ox oy S ++ w3 cI ot ot1 ot2 T ++ w2 cC oy oy1 z9.2.2 : va_W)) e9).symm hq9 hv9 hc9 ⟨Nat.le_of_ble_eq_true rfl, Nat.le_of_ble_eq_true rfl⟩
  · refine lv_aload_n hx hb dX5_stoolLine_5 rfl (lv_at hl 0 rfl) ?_
    refine va_get (D := D) (ci := 6) (v := .ref oy) (C := RX5) (T := TX5) (N := 10) hx hb hts q1 hown hK hP 0 rfl rfl 5 (by decide) q0 (fun _ h9 => h9) rfl dX5_stoolLine_6 ?_
    obtain ⟨n2, en2⟩ : ∃ z9, z9 = (fX2_clear Ln) := ⟨_, rfl⟩
    have k9 := (kX2_clear l D cI cC cT oy oy1 Ln)
    rw [← en2] at k9
    refine fUq (As := []) (rest := []) (st' := []) ⟨hx, hb, hml, hown, hts⟩ k9 (cwV 0 hts gX5_stoolLine_X2_clear rfl rfl rfl (by decide +kernel) ⟨Nat.le_of_ble_eq_true rfl, Nat.le_of_ble_eq_true rfl⟩) hP hK hD hS (w5 x ot ou ov oh ox oy S ++ w3 cI ot ot1 ot2 T : va_W) (pmI (fun a => by simp only [cntW_app, cntW_nil] <;> omega)) (w5 x ot ou ov oh ox oy S ++ w3 cI ot ot1 ot2 T ++ w2 cC oy oy1 n2) (pmI (fun a => by simp only [cntW_app, cntW_nil] <;> omega)) rfl 4 (ci := 3) rfl rfl rfl rfl hl.1 rfl rfl (Nat.le_of_ble_eq_true rfl) ⟨Nat.le_of_ble_eq_true rfl, Nat.le_of_ble_eq_true rfl⟩ dX5_stoolLine_9 (fun H locs hP hD hS => ?_)
    refine lv_aload_n hx hb dX5_stoolLine_12 rfl (lv_at hl 0 rfl) ?_
    refine va_get (D := D) (ci := 6) (v := .ref oy) (C := RX5) (T := TX5) (N := 10) hx hb hts q1 hown hK hP 0 rfl rfl 5 (by decide) q0 (fun _ h9 => h9) rfl dX5_stoolLine_13 ?_
    refine lv_iload_n hx hb dX5_stoolLine_16 rfl (lv_at hl 1 rfl) ?_
    obtain ⟨n3, en3⟩ : ∃ z9, z9 = (fX2_addNumber n2 x1) := ⟨_, rfl⟩
    have k9 := (kX2_addNumber l D cI cC cT oy oy1 n2 x1)
    rw [← en3] at k9
    refine fUq (As := [.int x1]) (rest := []) (st' := []) ⟨hx, hb, hml, hown, hts⟩ k9 (cwV 1 hts gX5_stoolLine_X2_addNumber rfl rfl rfl (by decide +kernel) ⟨Nat.le_of_ble_eq_true rfl, Nat.le_of_ble_eq_true rfl⟩) hP hK hD hS (w5 x ot ou ov oh ox oy S ++ w3 cI ot ot1 ot2 T : va_W) (pmI (fun a => by simp only [cntW_app, cntW_nil] <;> omega)) (w5 x ot ou ov oh ox oy S ++ w3 cI ot ot1 ot2 T ++ w2 cC oy oy1 n3) (pmI (fun a => by simp only [cntW_app, cntW_nil] <;> omega)) rfl 4 (ci := 3) rfl rfl rfl rfl hl.1 rfl rfl (Nat.le_of_ble_eq_true rfl) ⟨Nat.le_of_ble_eq_true rfl, Nat.le_of_ble_eq_true rfl⟩ dX5_stoolLine_17 (fun H locs hP hD hS => ?_)
    refine lv_aload_n hx hb dX5_stoolLine_20 rfl (lv_at hl 0 rfl) ?_
    refine va_get (D := D) (ci := 6) (v := .ref oy) (C := RX5) (T := TX5) (N := 10) hx hb hts q1 hown hK hP 0 rfl rfl 5 (by decide) q0 (fun _ h9 => h9) rfl dX5_stoolLine_21 ?_
    refine lv_bipush (v := 94) hx hb dX5_stoolLine_24 (by decide) ?_
    obtain ⟨n4, en4⟩ : ∃ z9, z9 = (fX2_add n3 94) := ⟨_, rfl⟩
    have k9 := (kX2_add l D cI cC cT oy oy1 n3 94)
    rw [← en4] at k9
    refine fUq (As := [.int 94]) (rest := []) (st' := []) ⟨hx, hb, hml, hown, hts⟩ k9 (cwV 1 hts gX5_stoolLine_X2_add rfl rfl rfl (by decide +kernel) ⟨Nat.le_of_ble_eq_true rfl, Nat.le_of_ble_eq_true rfl⟩) hP hK hD hS (w5 x ot ou ov oh ox oy S ++ w3 cI ot ot1 ot2 T : va_W) (pmI (fun a => by simp only [cntW_app, cntW_nil] <;> omega)) (w5 x ot ou ov oh ox oy S ++ w3 cI ot ot1 ot2 T ++ w2 cC oy oy1 n4) (pmI (fun a => by simp only [cntW_app, cntW_nil] <;> omega)) rfl 4 (ci := 3) rfl rfl rfl rfl hl.1 rfl rfl (Nat.le_of_ble_eq_true rfl) ⟨Nat.le_of_ble_eq_true rfl, Nat.le_of_ble_eq_true rfl⟩ dX5_stoolLine_26 (fun H locs hP hD hS => ?_)
    refine lv_aload_n hx hb dX5_stoolLine_29 rfl (lv_at hl 0 rfl) ?_
    refine va_get (D := D) (ci := 6) (v := .ref oy) (C := RX5) (T := TX5) (N := 10) hx hb hts q1 hown hK hP 0 rfl rfl 5 (by decide) q0 (fun _ h9 => h9) rfl dX5_stoolLine_30 ?_
    refine lv_aload_n hx hb dX5_stoolLine_33 rfl (lv_at hl 0 rfl) ?_
    refine va_get (D := D) (ci := 6) (v := .ref ot) (C := RX5) (T := TX5) (N := 10) hx hb hts q1 hown hK hP 0 rfl rfl 0 (by decide) q2 (fun _ h9 => h9) rfl dX5_stoolLine_34 ?_
    refine lv_iload_n hx hb dX5_stoolLine_37 rfl (lv_at hl 1 rfl) ?_
    refine lv_iconst (v := 0) hx hb dX5_stoolLine_38 (by decide) ?_
    refine fRq (As := [.int x1, .int 0]) (rest := [.ref oy]) (st' := [.int (fX3_ofStool T x1 0), .ref oy]) ⟨hx, hb, hml, hown, hts⟩ (kX3_ofStool l D cI cC cT ot ot1 ot2 T x1 0) (cwV 2 hts gX5_stoolLine_X3_ofStool rfl rfl rfl (by decide +kernel) ⟨Nat.le_of_ble_eq_true rfl, Nat.le_of_ble_eq_true rfl⟩) hP hK (w5 x ot ou ov oh ox oy S ++ w2 cC oy oy1 n4 : va_W) (pmI (fun a => by simp only [cntW_app, cntW_nil] <;> omega)) 1 (ci := 4) rfl rfl rfl rfl hl.1 rfl rfl (Nat.le_of_ble_eq_true rfl) ⟨Nat.le_of_ble_eq_true rfl, Nat.le_of_ble_eq_true rfl⟩ dX5_stoolLine_39 ?_
    obtain ⟨n5, en5⟩ : ∃ z9, z9 = (fX2_addNumber n4 (fX3_ofStool T x1 0)) := ⟨_, rfl⟩
    have k9 := (kX2_addNumber l D cI cC cT oy oy1 n4 (fX3_ofStool T x1 0))
    rw [← en5] at k9
    refine fUq (As := [.int (fX3_ofStool T x1 0)]) (rest := []) (st' := []) ⟨hx, hb, hml, hown, hts⟩ k9 (cwV 1 hts gX5_stoolLine_X2_addNumber rfl rfl rfl (by decide +kernel) ⟨Nat.le_of_ble_eq_true rfl, Nat.le_of_ble_eq_true rfl⟩) hP hK hD hS (w5 x ot ou ov oh ox oy S ++ w3 cI ot ot1 ot2 T : va_W) (pmI (fun a => by simp only [cntW_app, cntW_nil] <;> omega)) (w5 x ot ou ov oh ox oy S ++ w3 cI ot ot1 ot2 T ++ w2 cC oy oy1 n5) (pmI (fun a => by simp only [cntW_app, cntW_nil] <;> omega)) rfl 4 (ci := 3) rfl rfl rfl rfl hl.1 rfl rfl (Nat.le_of_ble_eq_true rfl) ⟨Nat.le_of_ble_eq_true rfl, Nat.le_of_ble_eq_true rfl⟩ dX5_stoolLine_42 (fun H locs hP hD hS => ?_)
    refine lv_aload_n hx hb dX5_stoolLine_45 rfl (lv_at hl 0 rfl) ?_
    refine va_get (D := D) (ci := 6) (v := .ref oy) (C := RX5) (T := TX5) (N := 10) hx hb hts q1 hown hK hP 0 rfl rfl 5 (by decide) q0 (fun _ h9 => h9) rfl dX5_stoolLine_46 ?_
    refine lv_bipush (v := 126) hx hb dX5_stoolLine_49 (by decide) ?_
    obtain ⟨n6, en6⟩ : ∃ z9, z9 = (fX2_add n5 126) := ⟨_, rfl⟩
    have k9 := (kX2_add l D cI cC cT oy oy1 n5 126)
    rw [← en6] at k9
    refine fUq (As := [.int 126]) (rest := []) (st' := []) ⟨hx, hb, hml, hown, hts⟩ k9 (cwV 1 hts gX5_stoolLine_X2_add rfl rfl rfl (by decide +kernel) ⟨Nat.le_of_ble_eq_true rfl, Nat.le_of_ble_eq_true rfl⟩) hP hK hD hS (w5 x ot ou ov oh ox oy S ++ w3 cI ot ot1 ot2 T : va_W) (pmI (fun a => by simp only [cntW_app, cntW_nil] <;> omega)) (w5 x ot ou ov oh ox oy S ++ w3 cI ot ot1 ot2 T ++ w2 cC oy oy1 n6) (pmI (fun a => by simp only [cntW_app, cntW_nil] <;> omega)) rfl 4 (ci := 3) rfl rfl rfl rfl hl.1 rfl rfl (Nat.le_of_ble_eq_true rfl) ⟨Nat.le_of_ble_eq_true rfl, Nat.le_of_ble_eq_true rfl⟩ dX5_stoolLine_51 (fun H locs hP hD hS => ?_)
    refine lv_aload_n hx hb dX5_stoolLine_54 rfl (lv_at hl 0 rfl) ?_
    refine va_get (D := D) (ci := 6) (v := .ref oy) (C := RX5) (T := TX5) (N := 10) hx hb hts q1 hown hK hP 0 rfl rfl 5 (by decide) q0 (fun _ h9 => h9) rfl dX5_stoolLine_55 ?_
    refine lv_aload_n hx hb dX5_stoolLine_58 rfl (lv_at hl 0 rfl) ?_
    refine va_get (D := D) (ci := 6) (v := .ref ot) (C := RX5) (T := TX5) (N := 10) hx hb hts q1 hown hK hP 0 rfl rfl 0 (by decide) q2 (fun _ h9 => h9) rfl dX5_stoolLine_59 ?_
    refine lv_iload_n hx hb dX5_stoolLine_62 rfl (lv_at hl 1 rfl) ?_
    refine lv_iconst (v := 2) hx hb dX5_stoolLine_63 (by decide) ?_
    refine fRq (As := [.int x1, .int 2]) (rest := [.ref oy]) (st' := [.int (fX3_ofStool T x1 2), .ref oy]) ⟨hx, hb, hml, hown, hts⟩ (kX3_ofStool l D cI cC cT ot ot1 ot2 T x1 2) (cwV 2 hts gX5_stoolLine_X3_ofStool rfl rfl rfl (by decide +kernel) ⟨Nat.le_of_ble_eq_true rfl, Nat.le_of_ble_eq_true rfl⟩) hP hK (w5 x ot ou ov oh ox oy S ++ w2 cC oy oy1 n6 : va_W) (pmI (fun a => by simp only [cntW_app, cntW_nil] <;> omega)) 1 (ci := 4) rfl rfl rfl rfl hl.1 rfl rfl (Nat.le_of_ble_eq_true rfl) ⟨Nat.le_of_ble_eq_true rfl, Nat.le_of_ble_eq_true rfl⟩ dX5_stoolLine_64 ?_
    obtain ⟨n7, en7⟩ : ∃ z9, z9 = (fX2_addNumber n6 (fX3_ofStool T x1 2)) := ⟨_, rfl⟩
    have k9 := (kX2_addNumber l D cI cC cT oy oy1 n6 (fX3_ofStool T x1 2))
    rw [← en7] at k9
    refine fUq (As := [.int (fX3_ofStool T x1 2)]) (rest := []) (st' := []) ⟨hx, hb, hml, hown, hts⟩ k9 (cwV 1 hts gX5_stoolLine_X2_addNumber rfl rfl rfl (by decide +kernel) ⟨Nat.le_of_ble_eq_true rfl, Nat.le_of_ble_eq_true rfl⟩) hP hK hD hS (w5 x ot ou ov oh ox oy S ++ w3 cI ot ot1 ot2 T : va_W) (pmI (fun a => by simp only [cntW_app, cntW_nil] <;> omega)) (w5 x ot ou ov oh ox oy S ++ w3 cI ot ot1 ot2 T ++ w2 cC oy oy1 n7) (pmI (fun a => by simp only [cntW_app, cntW_nil] <;> omega)) rfl 4 (ci := 3) rfl rfl rfl rfl hl.1 rfl rfl (Nat.le_of_ble_eq_true rfl) ⟨Nat.le_of_ble_eq_true rfl, Nat.le_of_ble_eq_true rfl⟩ dX5_stoolLine_67 (fun H locs hP hD hS => ?_)
    refine lv_aload_n hx hb dX5_stoolLine_70 rfl (lv_at hl 0 rfl) ?_
    refine va_get (D := D) (ci := 6) (v := .ref oy) (C := RX5) (T := TX5) (N := 10) hx hb hts q1 hown hK hP 0 rfl rfl 5 (by decide) q0 (fun _ h9 => h9) rfl dX5_stoolLine_71 ?_
    refine lv_bipush (v := 39) hx hb dX5_stoolLine_74 (by decide) ?_
    refine lv_aload_n hx hb dX5_stoolLine_76 rfl (lv_at hl 0 rfl) ?_
    refine va_get (D := D) (ci := 6) (v := .ref ot) (C := RX5) (T := TX5) (N := 10) hx hb hts q1 hown hK hP 0 rfl rfl 0 (by decide) q2 (fun _ h9 => h9) rfl dX5_stoolLine_77 ?_
    refine lv_iload_n hx hb dX5_stoolLine_80 rfl (lv_at hl 1 rfl) ?_
    refine lv_iconst (v := 1) hx hb dX5_stoolLine_81 (by decide) ?_
    refine fRq (As := [.int x1, .int 1]) (rest := [.int 39, .ref oy]) (st' := [.int (fX3_ofStool T x1 1), .int 39, .ref oy]) ⟨hx, hb, hml, hown, hts⟩ (kX3_ofStool l D cI cC cT ot ot1 ot2 T x1 1) (cwV 2 hts gX5_stoolLine_X3_ofStool rfl rfl rfl (by decide +kernel) ⟨Nat.le_of_ble_eq_true rfl, Nat.le_of_ble_eq_true rfl⟩) hP hK (w5 x ot ou ov oh ox oy S ++ w2 cC oy oy1 n7 : va_W) (pmI (fun a => by simp only [cntW_app, cntW_nil] <;> omega)) 1 (ci := 4) rfl rfl rfl rfl hl.1 rfl rfl (Nat.le_of_ble_eq_true rfl) ⟨Nat.le_of_ble_eq_true rfl, Nat.le_of_ble_eq_true rfl⟩ dX5_stoolLine_82 ?_
    obtain ⟨n8, en8⟩ : ∃ z9, z9 = (fX2_addTimes n7 39 (fX3_ofStool T x1 1)) := ⟨_, rfl⟩
    have k9 := (kX2_addTimes l D cI cC cT oy oy1 n7 39 (fX3_ofStool T x1 1))
    rw [← en8] at k9
    refine fUq (As := [.int 39, .int (fX3_ofStool T x1 1)]) (rest := []) (st' := []) ⟨hx, hb, hml, hown, hts⟩ k9 (cwV 2 hts gX5_stoolLine_X2_addTimes rfl rfl rfl (by decide +kernel) ⟨Nat.le_of_ble_eq_true rfl, Nat.le_of_ble_eq_true rfl⟩) hP hK hD hS (w5 x ot ou ov oh ox oy S ++ w3 cI ot ot1 ot2 T : va_W) (pmI (fun a => by simp only [cntW_app, cntW_nil] <;> omega)) (w5 x ot ou ov oh ox oy S ++ w3 cI ot ot1 ot2 T ++ w2 cC oy oy1 n8) (pmI (fun a => by simp only [cntW_app, cntW_nil] <;> omega)) rfl 4 (ci := 3) rfl rfl rfl rfl hl.1 rfl rfl (Nat.le_of_ble_eq_true rfl) ⟨Nat.le_of_ble_eq_true rfl, Nat.le_of_ble_eq_true rfl⟩ dX5_stoolLine_85 (fun H locs hP hD hS => ?_)
    refine lv_aload_n hx hb dX5_stoolLine_88 rfl (lv_at hl 0 rfl) ?_
    refine va_get (D := D) (ci := 6) (v := .ref oy) (C := RX5) (T := TX5) (N := 10) hx hb hts q1 hown hK hP 0 rfl rfl 5 (by decide) q0 (fun _ h9 => h9) rfl dX5_stoolLine_89 ?_
    refine lv_bipush (v := 111) hx hb dX5_stoolLine_92 (by decide) ?_
    refine lv_aload_n hx hb dX5_stoolLine_94 rfl (lv_at hl 0 rfl) ?_
    refine va_get (D := D) (ci := 6) (v := .ref ot) (C := RX5) (T := TX5) (N := 10) hx hb hts q1 hown hK hP 0 rfl rfl 0 (by decide) q2 (fun _ h9 => h9) rfl dX5_stoolLine_95 ?_
    refine lv_iload_n hx hb dX5_stoolLine_98 rfl (lv_at hl 1 rfl) ?_
    refine lv_iconst (v := 4) hx hb dX5_stoolLine_99 (by decide) ?_
    refine fRq (As := [.int x1, .int 4]) (rest := [.int 111, .ref oy]) (st' := [.int (fX3_ofStool T x1 4), .int 111, .ref oy]) ⟨hx, hb, hml, hown, hts⟩ (kX3_ofStool l D cI cC cT ot ot1 ot2 T x1 4) (cwV 2 hts gX5_stoolLine_X3_ofStool rfl rfl rfl (by decide +kernel) ⟨Nat.le_of_ble_eq_true rfl, Nat.le_of_ble_eq_true rfl⟩) hP hK (w5 x ot ou ov oh ox oy S ++ w2 cC oy oy1 n8 : va_W) (pmI (fun a => by simp only [cntW_app, cntW_nil] <;> omega)) 1 (ci := 4) rfl rfl rfl rfl hl.1 rfl rfl (Nat.le_of_ble_eq_true rfl) ⟨Nat.le_of_ble_eq_true rfl, Nat.le_of_ble_eq_true rfl⟩ dX5_stoolLine_100 ?_
    obtain ⟨n9, en9⟩ : ∃ z9, z9 = (fX2_addTimes n8 111 (fX3_ofStool T x1 4)) := ⟨_, rfl⟩
    have k9 := (kX2_addTimes l D cI cC cT oy oy1 n8 111 (fX3_ofStool T x1 4))
    rw [← en9] at k9
    refine fUq (As := [.int 111, .int (fX3_ofStool T x1 4)]) (rest := []) (st' := []) ⟨hx, hb, hml, hown, hts⟩ k9 (cwV 2 hts gX5_stoolLine_X2_addTimes rfl rfl rfl (by decide +kernel) ⟨Nat.le_of_ble_eq_true rfl, Nat.le_of_ble_eq_true rfl⟩) hP hK hD hS (w5 x ot ou ov oh ox oy S ++ w3 cI ot ot1 ot2 T : va_W) (pmI (fun a => by simp only [cntW_app, cntW_nil] <;> omega)) (w5 x ot ou ov oh ox oy S ++ w3 cI ot ot1 ot2 T ++ w2 cC oy oy1 n9) (pmI (fun a => by simp only [cntW_app, cntW_nil] <;> omega)) rfl 4 (ci := 3) rfl rfl rfl rfl hl.1 rfl rfl (Nat.le_of_ble_eq_true rfl) ⟨Nat.le_of_ble_eq_true rfl, Nat.le_of_ble_eq_true rfl⟩ dX5_stoolLine_103 (fun H locs hP hD hS => ?_)
    refine lv_aload_n hx hb dX5_stoolLine_106 rfl (lv_at hl 0 rfl) ?_
    refine va_get (D := D) (ci := 6) (v := .ref oy) (C := RX5) (T := TX5) (N := 10) hx hb hts q1 hown hK hP 0 rfl rfl 5 (by decide) q0 (fun _ h9 => h9) rfl dX5_stoolLine_107 ?_
    refine va_get (D := D) (ci := 3) (v := .int n9.2) (C := RX2) (T := TX2) (N := 2) hx hb hts q4 hown hK hP 4 rfl rfl 1 (by decide) q3 (fun _ h9 => h9) rfl dX5_stoolLine_110 ?_
    have e9 : fX5_stoolLine S T Ln x1 = (none, n9.2, n9) := by rw [fX5_stoolLine, ← en1, if_pos c_2, ← en2, ← en3, ← en4, ← en5, ← en6, ← en7, ← en8, ← en9]
    exact rXi hx hb hr hlk hQ hP hS (by rw [e9]) (by rw [e9]) (congrArg (fun z9 : ((Option String) × Int32 × LV) => (w5 x ot ou ov oh ox oy S ++ w3 cI ot ot1 ot2 T ++ w2 cC oy oy1 z9.2.2 : va_W)) e9).symm rfl ⟨Nat.le_of_ble_eq_true rfl, Nat.le_of_ble_eq_true rfl⟩ dX5_stoolLine_113
def fX5_character (S : CV) (Ln : LV) (x1 : Int32) : ((Option String) × Int32) := (if x1 < 0 then (some "java/lang/IndexOutOfBoundsException", 0) else (if x1 < Ln.2 then (none, (fX2_signAt Ln x1)) else (some "java/lang/IndexOutOfBoundsException", 0)))
def gX5_character (S : CV) (Ln : LV) (x1 : Int32) : Prop := (if x1 < 0 then True else (if x1 < Ln.2 then ((narrow .char (.int (fX2_signAt Ln x1)) = .int (fX2_signAt Ln x1)) ∧ True) else True))
abbrev rmX5_character : Room := { frames := 6, cells := 1, slots := 6, locals := 82 }
set_option maxHeartbeats 4000000 in
set_option maxRecDepth 100000 in
theorem kX5_character (l : Launch) (D : va_G) (cI cC cT : ClassId) (x ot ou ov oh ox oy oy1 : Nat) (S : CV) (Ln : LV) (x1 : Int32) (hst : l.stackTraces = false) (hc : ∀ i, narrow .char (.int (Ln.1 i)) = .int (Ln.1 i)) (hg : gX5_character S Ln x1) : mX l D (TY cI cC cT) yX5_character wsX5_character rmX5_character [.ref x, .int x1] (w5 x ot ou ov oh ox oy S ++ w2 cC oy oy1 Ln) ((fX5_character S Ln x1).1) (some (.int (fX5_character S Ln x1).2)) (w5 x ot ou ov oh ox oy S ++ w2 cC oy oy1 Ln) 1 := by
  refine mX.ofW (cc := cX5_character) (maxL := 2) (ret := (some .char)) (by decide) rfl (Nat.le_of_ble_eq_true rfl) ?_
  intro p e s m args below meth c Q ls A hx hb hml hr hlk hts hown hP hK hD hS hl hXE htb hQ hQx
  have hown : s.vm.findClass RX5 = some m.cls := hown
  have hP : va_P D vwCl (w5 x ot ou ov oh ox oy S ++ w2 cC oy oy1 Ln) s.heap := hP
  have hD : va_D A (w5 x ot ou ov oh ox oy S ++ w2 cC oy oy1 Ln) := hD
  have hl : lv_has ls 2 [(0, .ref x), (1, .int x1)] := hl
  have q0 := hts (Cond.fieldLink RX5 39 "TavernStools" "written" "LTavernStools$Line;") (by decide +kernel)
  have q1 : ∀ w ∈ u_ws RX5 TX5 10, w ∈ wsX5_character := by decide +kernel
  have q2 := hts (Cond.fieldLink RX5 189 "TavernStools$Line" "length" "I") (by decide +kernel)
  have q3 : ∀ w ∈ u_ws RX2 TX2 2, w ∈ wsX5_character := by decide +kernel
  unfold gX5_character at hg
  generalize hHe : s.heap = H at hP ⊢
  have hS : va_S A s.heap H [] := hHe ▸ hS
  generalize hLe : ([] : List Loc) = locs at hS ⊢
  refine lv_iload_n hx hb dX5_character_0 rfl (lv_at hl 1 rfl) ?_
  refine lv_if_lt (tgt := 15) hx hb dX5_character_1 (by decide) (fun c_1_1 => ?_) (fun c_1_1 => ?_)
  · rw [if_pos c_1_1] at hg
    have e9 : fX5_character S Ln x1 = (some "java/lang/IndexOutOfBoundsException", 0) := by rw [fX5_character, if_pos c_1_1]
    exact rXt (ik := 203) (is := 205) (ic := 207) (cls := "java/lang/IndexOutOfBoundsException") (text := "no such index in the line") hx hb hst hown hlk hts hXE htb hQ hP hS (hml.trans hl.1.symm) (by decide +kernel) (by decide +kernel) (by decide +kernel) (by decide +kernel) (by decide +kernel) (by decide +kernel) xb_207_203 xg_207_203 ⟨⟨Nat.le_of_ble_eq_true rfl, Nat.le_of_ble_eq_true rfl⟩, ⟨Nat.le_of_ble_eq_true rfl, Nat.le_of_ble_eq_true rfl⟩, ⟨Nat.le_of_ble_eq_true rfl, Nat.le_of_ble_eq_true rfl⟩⟩ (by rw [e9]) rfl dX5_character_15 dX5_character_18 (Or.inl ⟨dX5_character_19, dX5_character_21, dX5_character_24⟩)
  · rw [if_neg c_1_1] at hg
    refine lv_iload_n hx hb dX5_character_4 rfl (lv_at hl 1 rfl) ?_
    refine lv_aload_n hx hb dX5_character_5 rfl (lv_at hl 0 rfl) ?_
    refine va_get (D := D) (ci := 6) (v := .ref oy) (C := RX5) (T := TX5) (N := 10) hx hb hts q1 hown hK hP 0 rfl rfl 5 (by decide) q0 (fun _ h9 => h9) rfl dX5_character_6 ?_
    refine va_get (D := D) (ci := 3) (v := .int Ln.2) (C := RX2) (T := TX2) (N := 2) hx hb hts q3 hown hK hP 1 rfl rfl 1 (by decide) q2 (fun _ h9 => h9) rfl dX5_character_9 ?_
    refine lv_icmp_lt (tgt := 25) hx hb dX5_character_12 (by decide) (fun c_12_2 => ?_) (fun c_12_2 => ?_)
    · rw [if_pos c_12_2] at hg
      refine lv_aload_n hx hb dX5_character_25 rfl (lv_at hl 0 rfl) ?_
      refine va_get (D := D) (ci := 6) (v := .ref oy) (C := RX5) (T := TX5) (N := 10) hx hb hts q1 hown hK hP 0 rfl rfl 5 (by decide) q0 (fun _ h9 => h9) rfl dX5_character_26 ?_
      refine lv_iload_n hx hb dX5_character_29 rfl (lv_at hl 1 rfl) ?_
      refine fRq (As := [.int x1]) (rest := []) (st' := [.int (fX2_signAt Ln x1)]) ⟨hx, hb, hml, hown, hts⟩ (kX2_signAt l D cI cC cT oy oy1 Ln x1 hc) (cwV 1 hts gX5_character_X2_signAt rfl rfl rfl (by decide +kernel) ⟨Nat.le_of_ble_eq_true rfl, Nat.le_of_ble_eq_true rfl⟩) hP hK (w5 x ot ou ov oh ox oy S : va_W) (pmI (fun a => by simp only [cntW_app, cntW_nil] <;> omega)) 1 (ci := 3) rfl rfl rfl rfl hl.1 rfl rfl (Nat.le_of_ble_eq_true rfl) ⟨Nat.le_of_ble_eq_true rfl, Nat.le_of_ble_eq_true rfl⟩ dX5_character_30 ?_
      obtain ⟨o1, hg⟩ := hg
      have e9 : fX5_character S Ln x1 = (none, (fX2_signAt Ln x1)) := by rw [fX5_character, if_neg c_1_1, if_pos c_12_2]
      exact rXi hx hb hr hlk hQ hP hS (by rw [e9]) (by rw [e9]) rfl o1 ⟨Nat.le_of_ble_eq_true rfl, Nat.le_of_ble_eq_true rfl⟩ dX5_character_33
    · rw [if_neg c_12_2] at hg
      have e9 : fX5_character S Ln x1 = (some "java/lang/IndexOutOfBoundsException", 0) := by rw [fX5_character, if_neg c_1_1, if_neg c_12_2]
      exact rXt (ik := 203) (is := 205) (ic := 207) (cls := "java/lang/IndexOutOfBoundsException") (text := "no such index in the line") hx hb hst hown hlk hts hXE htb hQ hP hS (hml.trans hl.1.symm) (by decide +kernel) (by decide +kernel) (by decide +kernel) (by decide +kernel) (by decide +kernel) (by decide +kernel) xb_207_203 xg_207_203 ⟨⟨Nat.le_of_ble_eq_true rfl, Nat.le_of_ble_eq_true rfl⟩, ⟨Nat.le_of_ble_eq_true rfl, Nat.le_of_ble_eq_true rfl⟩, ⟨Nat.le_of_ble_eq_true rfl, Nat.le_of_ble_eq_true rfl⟩⟩ (by rw [e9]) rfl dX5_character_15 dX5_character_18 (Or.inl ⟨dX5_character_19, dX5_character_21, dX5_character_24⟩)
theorem xb_217_213 : ∀ w ∈ (vx_atS RX5 217 "java/lang/IllegalStateException" xSup).filter (fun w => !goodWord w), w ∈ [Cond.castable "java/lang/IllegalStateException" "java/lang/IllegalStateException", Cond.declares (Bundle.initS "java/lang/RuntimeException"), Cond.declares (Bundle.initS "java/lang/Exception"), Cond.declares (Bundle.initS "java/lang/Throwable")] := by decide +kernel
theorem xg_217_213 : ∀ w ∈ Cond.classLink RX5 213 "java/lang/IllegalStateException" :: Cond.initialized "java/lang/IllegalStateException" :: vx_atS RX5 217 "java/lang/IllegalStateException" xSup, vx_ot w = true := by decide +kernel
def fX5_append (S : CV) (Xt : XV) (x1 : Int32) : ((Option String) × Int32 × XV) := (if Xt.2.2.1 < 60 then (none, (fX4_add Xt x1).2.2.1, (fX4_add Xt x1)) else (some "java/lang/IllegalStateException", 0, Xt))
abbrev rmX5_append : Room := { frames := 6, cells := 1, slots := 6, locals := 82 }
set_option maxHeartbeats 4000000 in
set_option maxRecDepth 100000 in
theorem kX5_append (l : Launch) (D : va_G) (cI cC cT : ClassId) (x ot ou ov oh ox oy ox1 ox2 : Nat) (S : CV) (Xt : XV) (x1 : Int32) (hst : l.stackTraces = false) : mX l D (TY cI cC cT) yX5_append wsX5_append rmX5_append [.ref x, .int x1] (w5 x ot ou ov oh ox oy S ++ w4 cI cC ox ox1 ox2 Xt) ((fX5_append S Xt x1).1) (some (.int (fX5_append S Xt x1).2.1)) (w5 x ot ou ov oh ox oy S ++ w4 cI cC ox ox1 ox2 (fX5_append S Xt x1).2.2) 1 := by
  refine mX.ofW (cc := cX5_append) (maxL := 2) (ret := (some .int)) (by decide) rfl (Nat.le_of_ble_eq_true rfl) ?_
  intro p e s m args below meth c Q ls A hx hb hml hr hlk hts hown hP hK hD hS hl hXE htb hQ hQx
  have hown : s.vm.findClass RX5 = some m.cls := hown
  have hP : va_P D vwCl (w5 x ot ou ov oh ox oy S ++ w4 cI cC ox ox1 ox2 Xt) s.heap := hP
  have hD : va_D A (w5 x ot ou ov oh ox oy S ++ w4 cI cC ox ox1 ox2 Xt) := hD
  have hl : lv_has ls 2 [(0, .ref x), (1, .int x1)] := hl
  have q0 := hts (Cond.fieldLink RX5 32 "TavernStools" "text" "LTavernStools$Text;") (by decide +kernel)
  have q1 : ∀ w ∈ u_ws RX5 TX5 10, w ∈ wsX5_append := by decide +kernel
  have q2 := hts (Cond.fieldLink RX5 212 "TavernStools$Text" "length" "I") (by decide +kernel)
  have q3 : ∀ w ∈ u_ws RX4 TX4 5, w ∈ wsX5_append := by decide +kernel
  generalize hHe : s.heap = H at hP ⊢
  have hS : va_S A s.heap H [] := hHe ▸ hS
  generalize hLe : ([] : List Loc) = locs at hS ⊢
  refine lv_aload_n hx hb dX5_append_0 rfl (lv_at hl 0 rfl) ?_
  refine va_get (D := D) (ci := 6) (v := .ref ox) (C := RX5) (T := TX5) (N := 10) hx hb hts q1 hown hK hP 0 rfl rfl 4 (by decide) q0 (fun _ h9 => h9) rfl dX5_append_1 ?_
  refine va_get (D := D) (ci := 5) (v := .int Xt.2.2.1) (C := RX4) (T := TX4) (N := 5) hx hb hts q3 hown hK hP 1 rfl rfl 2 (by decide) q2 (fun _ h9 => h9) rfl dX5_append_4 ?_
  refine lv_bipush (v := 60) hx hb dX5_append_7 (by decide) ?_
  refine lv_icmp_lt (tgt := 22) hx hb dX5_append_9 (by decide) (fun c_9 => ?_) (fun c_9 => ?_)
  · refine lv_aload_n hx hb dX5_append_22 rfl (lv_at hl 0 rfl) ?_
    refine va_get (D := D) (ci := 6) (v := .ref ox) (C := RX5) (T := TX5) (N := 10) hx hb hts q1 hown hK hP 0 rfl rfl 4 (by decide) q0 (fun _ h9 => h9) rfl dX5_append_23 ?_
    refine lv_iload_n hx hb dX5_append_26 rfl (lv_at hl 1 rfl) ?_
    obtain ⟨n1, en1⟩ : ∃ z9, z9 = (fX4_add Xt x1) := ⟨_, rfl⟩
    have k9 := (kX4_add l D cI cC cT ox ox1 ox2 Xt x1)
    rw [← en1] at k9
    refine fUq (As := [.int x1]) (rest := []) (st' := []) ⟨hx, hb, hml, hown, hts⟩ k9 (cwV 1 hts gX5_append_X4_add rfl rfl rfl (by decide +kernel) ⟨Nat.le_of_ble_eq_true rfl, Nat.le_of_ble_eq_true rfl⟩) hP hK hD hS (w5 x ot ou ov oh ox oy S : va_W) (pmI (fun a => by simp only [cntW_app, cntW_nil] <;> omega)) (w5 x ot ou ov oh ox oy S ++ w4 cI cC ox ox1 ox2 n1) (pmI (fun a => by simp only [cntW_app, cntW_nil] <;> omega)) rfl 1 (ci := 5) rfl rfl rfl rfl hl.1 rfl rfl (Nat.le_of_ble_eq_true rfl) ⟨Nat.le_of_ble_eq_true rfl, Nat.le_of_ble_eq_true rfl⟩ dX5_append_27 (fun H locs hP hD hS => ?_)
    refine lv_aload_n hx hb dX5_append_30 rfl (lv_at hl 0 rfl) ?_
    refine va_get (D := D) (ci := 6) (v := .ref ox) (C := RX5) (T := TX5) (N := 10) hx hb hts q1 hown hK hP 0 rfl rfl 4 (by decide) q0 (fun _ h9 => h9) rfl dX5_append_31 ?_
    refine va_get (D := D) (ci := 5) (v := .int n1.2.2.1) (C := RX4) (T := TX4) (N := 5) hx hb hts q3 hown hK hP 1 rfl rfl 2 (by decide) q2 (fun _ h9 => h9) rfl dX5_append_34 ?_
    have e9 : fX5_append S Xt x1 = (none, n1.2.2.1, n1) := by rw [fX5_append, if_pos c_9, ← en1]
    exact rXi hx hb hr hlk hQ hP hS (by rw [e9]) (by rw [e9]) (congrArg (fun z9 : ((Option String) × Int32 × XV) => (w5 x ot ou ov oh ox oy S ++ w4 cI cC ox ox1 ox2 z9.2.2 : va_W)) e9).symm rfl ⟨Nat.le_of_ble_eq_true rfl, Nat.le_of_ble_eq_true rfl⟩ dX5_append_37
  · have e9 : fX5_append S Xt x1 = (some "java/lang/IllegalStateException", 0, Xt) := by rw [fX5_append, if_neg c_9]
    exact rXt (ik := 213) (is := 215) (ic := 217) (cls := "java/lang/IllegalStateException") (text := "the input is full") hx hb hst hown hlk hts hXE htb hQ hP hS (hml.trans hl.1.symm) (by decide +kernel) (by decide +kernel) (by decide +kernel) (by decide +kernel) (by decide +kernel) (by decide +kernel) xb_217_213 xg_217_213 ⟨⟨Nat.le_of_ble_eq_true rfl, Nat.le_of_ble_eq_true rfl⟩, ⟨Nat.le_of_ble_eq_true rfl, Nat.le_of_ble_eq_true rfl⟩, ⟨Nat.le_of_ble_eq_true rfl, Nat.le_of_ble_eq_true rfl⟩⟩ (by rw [e9]) (congrArg (fun z9 : ((Option String) × Int32 × XV) => (w5 x ot ou ov oh ox oy S ++ w4 cI cC ox ox1 ox2 z9.2.2 : va_W)) e9).symm dX5_append_12 dX5_append_15 (Or.inl ⟨dX5_append_16, dX5_append_18, dX5_append_21⟩)
def lX5_run_51 (S : CV) (T : TV) (Hs : HV) (G : (Nat → TV)) (Xt : XV) (n1 : (Int32 × XV)) (n2 : XV) (n3 : (Nat → TV)) (v : (CV × TV × Int32 × Int32)) : (CV × TV × Int32 × Int32) ⊕ ((CV × TV × Int32 × Int32)) := (if n2.2.2.2.2 ≤ v.2.2.2 then (.inr (v.1, v.2.1, v.2.2.1, v.2.2.2)) else (if v.2.2.1 < 0 then (.inr (v.1, v.2.1, v.2.2.1, v.2.2.2)) else (.inl ((fX5_carryOut v.1 v.2.1 n2 v.2.2.2).2.1, (fX5_carryOut v.1 v.2.1 n2 v.2.2.2).2.2, (fX5_carryOut v.1 v.2.1 n2 v.2.2.2).1, (v.2.2.2 + 1)))))
theorem tlX5_run_51 (S : CV) (T : TV) (Hs : HV) (G : (Nat → TV)) (Xt : XV) (n1 : (Int32 × XV)) (n2 : XV) (n3 : (Nat → TV)) : ∀ (a b : (CV × TV × Int32 × Int32)), (fun v : (CV × TV × Int32 × Int32) => True) a → lX5_run_51 S T Hs G Xt n1 n2 n3 a = .inl b → (fun v : (CV × TV × Int32 × Int32) => True) b ∧ (fun v : (CV × TV × Int32 × Int32) => (n2.2.2.2.2.toInt - v.2.2.2.toInt).toNat) b < (fun v : (CV × TV × Int32 × Int32) => (n2.2.2.2.2.toInt - v.2.2.2.toInt).toNat) a := by
  intro a b h0 h
  unfold lX5_run_51 at h
  repeat' split at h
  all_goals first | (cases h; done) | (cases h; exact ⟨trivial, rk_ge (by assumption)⟩) | (cases h; exact ⟨trivial, rk_gt (by assumption)⟩)
def fX5_run (S : CV) (T : TV) (Hs : HV) (G : (Nat → TV)) (Xt : XV)  : ((Option String) × Int32 × CV × TV × HV × (Nat → TV) × XV) := (if (fX4_readOrders Xt).1 = (-1) then (if 0 ≤ (itv ((S.1, (fX4_readOrders Xt).1, S.2.2.1, S.2.2.2), T, 0, 0) (lX5_run_51 S T Hs G Xt (fX4_readOrders Xt) (fX4_clear (fX4_readOrders Xt).2) (fX1_prepare Hs G T)) ((fun v : (CV × TV × Int32 × Int32) => ((fX4_clear (fX4_readOrders Xt).2).2.2.2.2.toInt - v.2.2.2.toInt).toNat) ((S.1, (fX4_readOrders Xt).1, S.2.2.1, S.2.2.2), T, 0, 0) + 1) ((S.1, (fX4_readOrders Xt).1, S.2.2.1, S.2.2.2), T, 0, 0)).2.2.1 then (if (itv ((S.1, (fX4_readOrders Xt).1, S.2.2.1, S.2.2.2), T, 0, 0) (lX5_run_51 S T Hs G Xt (fX4_readOrders Xt) (fX4_clear (fX4_readOrders Xt).2) (fX1_prepare Hs G T)) ((fun v : (CV × TV × Int32 × Int32) => ((fX4_clear (fX4_readOrders Xt).2).2.2.2.2.toInt - v.2.2.2.toInt).toNat) ((S.1, (fX4_readOrders Xt).1, S.2.2.1, S.2.2.2), T, 0, 0) + 1) ((S.1, (fX4_readOrders Xt).1, S.2.2.1, S.2.2.2), T, 0, 0)).2.2.1 = (-3) then (some "java/lang/UnsupportedOperationException", 0, (itv ((S.1, (fX4_readOrders Xt).1, S.2.2.1, S.2.2.2), T, 0, 0) (lX5_run_51 S T Hs G Xt (fX4_readOrders Xt) (fX4_clear (fX4_readOrders Xt).2) (fX1_prepare Hs G T)) ((fun v : (CV × TV × Int32 × Int32) => ((fX4_clear (fX4_readOrders Xt).2).2.2.2.2.toInt - v.2.2.2.toInt).toNat) ((S.1, (fX4_readOrders Xt).1, S.2.2.1, S.2.2.2), T, 0, 0) + 1) ((S.1, (fX4_readOrders Xt).1, S.2.2.1, S.2.2.2), T, 0, 0)).1, (itv ((S.1, (fX4_readOrders Xt).1, S.2.2.1, S.2.2.2), T, 0, 0) (lX5_run_51 S T Hs G Xt (fX4_readOrders Xt) (fX4_clear (fX4_readOrders Xt).2) (fX1_prepare Hs G T)) ((fun v : (CV × TV × Int32 × Int32) => ((fX4_clear (fX4_readOrders Xt).2).2.2.2.2.toInt - v.2.2.2.toInt).toNat) ((S.1, (fX4_readOrders Xt).1, S.2.2.1, S.2.2.2), T, 0, 0) + 1) ((S.1, (fX4_readOrders Xt).1, S.2.2.1, S.2.2.2), T, 0, 0)).2.1, Hs, (fX1_prepare Hs G T), (fX4_clear (fX4_readOrders Xt).2)) else (if 0 ≤ (itv ((S.1, (fX4_readOrders Xt).1, S.2.2.1, S.2.2.2), T, 0, 0) (lX5_run_51 S T Hs G Xt (fX4_readOrders Xt) (fX4_clear (fX4_readOrders Xt).2) (fX1_prepare Hs G T)) ((fun v : (CV × TV × Int32 × Int32) => ((fX4_clear (fX4_readOrders Xt).2).2.2.2.2.toInt - v.2.2.2.toInt).toNat) ((S.1, (fX4_readOrders Xt).1, S.2.2.1, S.2.2.2), T, 0, 0) + 1) ((S.1, (fX4_readOrders Xt).1, S.2.2.1, S.2.2.2), T, 0, 0)).2.2.1 then (none, (fX4_clear (fX4_readOrders Xt).2).2.2.2.2, (itv ((S.1, (fX4_readOrders Xt).1, S.2.2.1, S.2.2.2), T, 0, 0) (lX5_run_51 S T Hs G Xt (fX4_readOrders Xt) (fX4_clear (fX4_readOrders Xt).2) (fX1_prepare Hs G T)) ((fun v : (CV × TV × Int32 × Int32) => ((fX4_clear (fX4_readOrders Xt).2).2.2.2.2.toInt - v.2.2.2.toInt).toNat) ((S.1, (fX4_readOrders Xt).1, S.2.2.1, S.2.2.2), T, 0, 0) + 1) ((S.1, (fX4_readOrders Xt).1, S.2.2.1, S.2.2.2), T, 0, 0)).1, (itv ((S.1, (fX4_readOrders Xt).1, S.2.2.1, S.2.2.2), T, 0, 0) (lX5_run_51 S T Hs G Xt (fX4_readOrders Xt) (fX4_clear (fX4_readOrders Xt).2) (fX1_prepare Hs G T)) ((fun v : (CV × TV × Int32 × Int32) => ((fX4_clear (fX4_readOrders Xt).2).2.2.2.2.toInt - v.2.2.2.toInt).toNat) ((S.1, (fX4_readOrders Xt).1, S.2.2.1, S.2.2.2), T, 0, 0) + 1) ((S.1, (fX4_readOrders Xt).1, S.2.2.1, S.2.2.2), T, 0, 0)).2.1, (fX1_keep Hs), (fX1_prepare Hs G T), (fX4_clear (fX4_readOrders Xt).2)) else (some "java/lang/IllegalArgumentException", 0, (itv ((S.1, (fX4_readOrders Xt).1, S.2.2.1, S.2.2.2), T, 0, 0) (lX5_run_51 S T Hs G Xt (fX4_readOrders Xt) (fX4_clear (fX4_readOrders Xt).2) (fX1_prepare Hs G T)) ((fun v : (CV × TV × Int32 × Int32) => ((fX4_clear (fX4_readOrders Xt).2).2.2.2.2.toInt - v.2.2.2.toInt).toNat) ((S.1, (fX4_readOrders Xt).1, S.2.2.1, S.2.2.2), T, 0, 0) + 1) ((S.1, (fX4_readOrders Xt).1, S.2.2.1, S.2.2.2), T, 0, 0)).1, (itv ((S.1, (fX4_readOrders Xt).1, S.2.2.1, S.2.2.2), T, 0, 0) (lX5_run_51 S T Hs G Xt (fX4_readOrders Xt) (fX4_clear (fX4_readOrders Xt).2) (fX1_prepare Hs G T)) ((fun v : (CV × TV × Int32 × Int32) => ((fX4_clear (fX4_readOrders Xt).2).2.2.2.2.toInt - v.2.2.2.toInt).toNat) ((S.1, (fX4_readOrders Xt).1, S.2.2.1, S.2.2.2), T, 0, 0) + 1) ((S.1, (fX4_readOrders Xt).1, S.2.2.1, S.2.2.2), T, 0, 0)).2.1, Hs, (fX1_prepare Hs G T), (fX4_clear (fX4_readOrders Xt).2)))) else (if (itv ((S.1, (fX4_readOrders Xt).1, S.2.2.1, S.2.2.2), T, 0, 0) (lX5_run_51 S T Hs G Xt (fX4_readOrders Xt) (fX4_clear (fX4_readOrders Xt).2) (fX1_prepare Hs G T)) ((fun v : (CV × TV × Int32 × Int32) => ((fX4_clear (fX4_readOrders Xt).2).2.2.2.2.toInt - v.2.2.2.toInt).toNat) ((S.1, (fX4_readOrders Xt).1, S.2.2.1, S.2.2.2), T, 0, 0) + 1) ((S.1, (fX4_readOrders Xt).1, S.2.2.1, S.2.2.2), T, 0, 0)).2.2.1 = (-3) then (some "java/lang/UnsupportedOperationException", 0, (itv ((S.1, (fX4_readOrders Xt).1, S.2.2.1, S.2.2.2), T, 0, 0) (lX5_run_51 S T Hs G Xt (fX4_readOrders Xt) (fX4_clear (fX4_readOrders Xt).2) (fX1_prepare Hs G T)) ((fun v : (CV × TV × Int32 × Int32) => ((fX4_clear (fX4_readOrders Xt).2).2.2.2.2.toInt - v.2.2.2.toInt).toNat) ((S.1, (fX4_readOrders Xt).1, S.2.2.1, S.2.2.2), T, 0, 0) + 1) ((S.1, (fX4_readOrders Xt).1, S.2.2.1, S.2.2.2), T, 0, 0)).1, (fX1_takeBack Hs (fX1_prepare Hs G T) (itv ((S.1, (fX4_readOrders Xt).1, S.2.2.1, S.2.2.2), T, 0, 0) (lX5_run_51 S T Hs G Xt (fX4_readOrders Xt) (fX4_clear (fX4_readOrders Xt).2) (fX1_prepare Hs G T)) ((fun v : (CV × TV × Int32 × Int32) => ((fX4_clear (fX4_readOrders Xt).2).2.2.2.2.toInt - v.2.2.2.toInt).toNat) ((S.1, (fX4_readOrders Xt).1, S.2.2.1, S.2.2.2), T, 0, 0) + 1) ((S.1, (fX4_readOrders Xt).1, S.2.2.1, S.2.2.2), T, 0, 0)).2.1), Hs, (fX1_prepare Hs G T), (fX4_clear (fX4_readOrders Xt).2)) else (if 0 ≤ (itv ((S.1, (fX4_readOrders Xt).1, S.2.2.1, S.2.2.2), T, 0, 0) (lX5_run_51 S T Hs G Xt (fX4_readOrders Xt) (fX4_clear (fX4_readOrders Xt).2) (fX1_prepare Hs G T)) ((fun v : (CV × TV × Int32 × Int32) => ((fX4_clear (fX4_readOrders Xt).2).2.2.2.2.toInt - v.2.2.2.toInt).toNat) ((S.1, (fX4_readOrders Xt).1, S.2.2.1, S.2.2.2), T, 0, 0) + 1) ((S.1, (fX4_readOrders Xt).1, S.2.2.1, S.2.2.2), T, 0, 0)).2.2.1 then (none, (fX4_clear (fX4_readOrders Xt).2).2.2.2.2, (itv ((S.1, (fX4_readOrders Xt).1, S.2.2.1, S.2.2.2), T, 0, 0) (lX5_run_51 S T Hs G Xt (fX4_readOrders Xt) (fX4_clear (fX4_readOrders Xt).2) (fX1_prepare Hs G T)) ((fun v : (CV × TV × Int32 × Int32) => ((fX4_clear (fX4_readOrders Xt).2).2.2.2.2.toInt - v.2.2.2.toInt).toNat) ((S.1, (fX4_readOrders Xt).1, S.2.2.1, S.2.2.2), T, 0, 0) + 1) ((S.1, (fX4_readOrders Xt).1, S.2.2.1, S.2.2.2), T, 0, 0)).1, (fX1_takeBack Hs (fX1_prepare Hs G T) (itv ((S.1, (fX4_readOrders Xt).1, S.2.2.1, S.2.2.2), T, 0, 0) (lX5_run_51 S T Hs G Xt (fX4_readOrders Xt) (fX4_clear (fX4_readOrders Xt).2) (fX1_prepare Hs G T)) ((fun v : (CV × TV × Int32 × Int32) => ((fX4_clear (fX4_readOrders Xt).2).2.2.2.2.toInt - v.2.2.2.toInt).toNat) ((S.1, (fX4_readOrders Xt).1, S.2.2.1, S.2.2.2), T, 0, 0) + 1) ((S.1, (fX4_readOrders Xt).1, S.2.2.1, S.2.2.2), T, 0, 0)).2.1), (fX1_keep Hs), (fX1_prepare Hs G T), (fX4_clear (fX4_readOrders Xt).2)) else (some "java/lang/IllegalArgumentException", 0, (itv ((S.1, (fX4_readOrders Xt).1, S.2.2.1, S.2.2.2), T, 0, 0) (lX5_run_51 S T Hs G Xt (fX4_readOrders Xt) (fX4_clear (fX4_readOrders Xt).2) (fX1_prepare Hs G T)) ((fun v : (CV × TV × Int32 × Int32) => ((fX4_clear (fX4_readOrders Xt).2).2.2.2.2.toInt - v.2.2.2.toInt).toNat) ((S.1, (fX4_readOrders Xt).1, S.2.2.1, S.2.2.2), T, 0, 0) + 1) ((S.1, (fX4_readOrders Xt).1, S.2.2.1, S.2.2.2), T, 0, 0)).1, (fX1_takeBack Hs (fX1_prepare Hs G T) (itv ((S.1, (fX4_readOrders Xt).1, S.2.2.1, S.2.2.2), T, 0, 0) (lX5_run_51 S T Hs G Xt (fX4_readOrders Xt) (fX4_clear (fX4_readOrders Xt).2) (fX1_prepare Hs G T)) ((fun v : (CV × TV × Int32 × Int32) => ((fX4_clear (fX4_readOrders Xt).2).2.2.2.2.toInt - v.2.2.2.toInt).toNat) ((S.1, (fX4_readOrders Xt).1, S.2.2.1, S.2.2.2), T, 0, 0) + 1) ((S.1, (fX4_readOrders Xt).1, S.2.2.1, S.2.2.2), T, 0, 0)).2.1), Hs, (fX1_prepare Hs G T), (fX4_clear (fX4_readOrders Xt).2))))) else (some "java/lang/IllegalArgumentException", 0, (S.1, (fX4_readOrders Xt).1, S.2.2.1, S.2.2.2), T, Hs, G, (fX4_clear (fX4_readOrders Xt).2)))
abbrev rmX5_run : Room := { frames := 6, cells := 1, slots := 6, locals := 142 }
set_option maxHeartbeats 4000000 in
set_option maxRecDepth 100000 in
theorem kX5_run (l : Launch) (D : va_G) (cI cC cT : ClassId) (x ot ou ov oh ox oy ot1 ot2 rr ox1 ox2 : Nat) (ra rb rc : Nat → Nat) (S : CV) (T : TV) (Hs : HV) (G : (Nat → TV)) (Xt : XV)  (hst : l.stackTraces = false) (hn : ∃ j : Nat, j < 9 ∧ Hs.1 = nI j) : mX l D (TY cI cC cT) yX5_run wsX5_run rmX5_run [.ref x] (w5 x ot ou ov oh ox oy S ++ w3 cI ot ot1 ot2 T ++ w1 oh rr Hs ++ wR cI cT rr ra rb rc G ++ w4 cI cC ox ox1 ox2 Xt) ((fX5_run S T Hs G Xt).1) (some (.int (fX5_run S T Hs G Xt).2.1)) (w5 x ot ou ov oh ox oy (fX5_run S T Hs G Xt).2.2.1 ++ w3 cI ot ot1 ot2 (fX5_run S T Hs G Xt).2.2.2.1 ++ w1 oh rr (fX5_run S T Hs G Xt).2.2.2.2.1 ++ wR cI cT rr ra rb rc (fX5_run S T Hs G Xt).2.2.2.2.2.1 ++ w4 cI cC ox ox1 ox2 (fX5_run S T Hs G Xt).2.2.2.2.2.2) 1 := by
  refine mX.ofW (cc := cX5_run) (maxL := 3) (ret := (some .int)) (by decide) rfl (Nat.le_of_ble_eq_true rfl) ?_
  intro p e s m args below meth c Q ls A hx hb hml hr hlk hts hown hP hK hD hS hl hXE htb hQ hQx
  have hown : s.vm.findClass RX5 = some m.cls := hown
  have hP : va_P D vwCl (w5 x ot ou ov oh ox oy S ++ w3 cI ot ot1 ot2 T ++ w1 oh rr Hs ++ wR cI cT rr ra rb rc G ++ w4 cI cC ox ox1 ox2 Xt) s.heap := hP
  have hD : va_D A (w5 x ot ou ov oh ox oy S ++ w3 cI ot ot1 ot2 T ++ w1 oh rr Hs ++ wR cI cT rr ra rb rc G ++ w4 cI cC ox ox1 ox2 Xt) := hD
  have hl : lv_has ls 3 [(0, .ref x)] := hl
  have q0 := hts (Cond.fieldLink RX5 32 "TavernStools" "text" "LTavernStools$Text;") (by decide +kernel)
  have q1 : ∀ w ∈ u_ws RX5 TX5 10, w ∈ wsX5_run := by decide +kernel
  have q2 := hts (Cond.fieldLink RX5 47 "TavernStools" "errorAt" "I") (by decide +kernel)
  have q3 := hts (Cond.fieldLink RX5 25 "TavernStools" "history" "LTavernStools$History;") (by decide +kernel)
  have q4 := hts (Cond.fieldLink RX5 10 "TavernStools" "tavern" "LTavernStools$Tavern;") (by decide +kernel)
  have q5 := hts (Cond.fieldLink RX5 225 "TavernStools$Text" "orders" "I") (by decide +kernel)
  have q6 : ∀ w ∈ u_ws RX4 TX4 5, w ∈ wsX5_run := by decide +kernel
  generalize hHe : s.heap = H at hP ⊢
  have hS : va_S A s.heap H [] := hHe ▸ hS
  generalize hLe : ([] : List Loc) = locs at hS ⊢
  refine lv_aload_n hx hb dX5_run_0 rfl (lv_at hl 0 rfl) ?_
  refine lv_aload_n hx hb dX5_run_1 rfl (lv_at hl 0 rfl) ?_
  refine va_get (D := D) (ci := 6) (v := .ref ox) (C := RX5) (T := TX5) (N := 10) hx hb hts q1 hown hK hP 0 rfl rfl 4 (by decide) q0 (fun _ h9 => h9) rfl dX5_run_2 ?_
  obtain ⟨n1, en1⟩ : ∃ z9, z9 = (fX4_readOrders Xt) := ⟨_, rfl⟩
  have k9 := (kX4_readOrders l D cI cC cT ox ox1 ox2 Xt)
  rw [← en1] at k9
  refine fUq (As := []) (rest := [.ref x]) (st' := [.int n1.1, .ref x]) ⟨hx, hb, hml, hown, hts⟩ k9 (cwV 0 hts gX5_run_X4_readOrders rfl rfl rfl (by decide +kernel) ⟨Nat.le_of_ble_eq_true rfl, Nat.le_of_ble_eq_true rfl⟩) hP hK hD hS (w5 x ot ou ov oh ox oy S ++ w3 cI ot ot1 ot2 T ++ w1 oh rr Hs ++ wR cI cT rr ra rb rc G : va_W) (pmI (fun a => by simp only [cntW_app, cntW_nil] <;> omega)) (w5 x ot ou ov oh ox oy S ++ w3 cI ot ot1 ot2 T ++ w1 oh rr Hs ++ wR cI cT rr ra rb rc G ++ w4 cI cC ox ox1 ox2 n1.2) (pmI (fun a => by simp only [cntW_app, cntW_nil] <;> omega)) rfl 33 (ci := 5) rfl rfl rfl rfl hl.1 rfl rfl (Nat.le_of_ble_eq_true rfl) ⟨Nat.le_of_ble_eq_true rfl, Nat.le_of_ble_eq_true rfl⟩ dX5_run_5 (fun H locs hP hD hS => ?_)
  refine va_put (D := D) (ci := 6) (v := .int n1.1) (ty := .int) (C := RX5) (T := TX5) (N := 10) hx hb hts q1 tyX5 tyX5_ok nmX5 hown hK hP hD hS 0 rfl rfl 7 (by decide) q2 (fun _ h9 => h9) rfl (by decide +kernel) rfl rfl (Nat.le_of_ble_eq_true rfl) dX5_run_8 (fun H locs hP hD hS => ?_)
  have hP : va_P D vwCl (w5 x ot ou ov oh ox oy (S.1, n1.1, S.2.2.1, S.2.2.2) ++ w3 cI ot ot1 ot2 T ++ w1 oh rr Hs ++ wR cI cT rr ra rb rc G ++ w4 cI cC ox ox1 ox2 n1.2) H := hP
  have hD : va_D A (w5 x ot ou ov oh ox oy (S.1, n1.1, S.2.2.1, S.2.2.2) ++ w3 cI ot ot1 ot2 T ++ w1 oh rr Hs ++ wR cI cT rr ra rb rc G ++ w4 cI cC ox ox1 ox2 n1.2) := hD
  refine lv_aload_n hx hb dX5_run_11 rfl (lv_at hl 0 rfl) ?_
  refine va_get (D := D) (ci := 6) (v := .ref ox) (C := RX5) (T := TX5) (N := 10) hx hb hts q1 hown hK hP 0 rfl rfl 4 (by decide) q0 (fun _ h9 => h9) rfl dX5_run_12 ?_
  obtain ⟨n2, en2⟩ : ∃ z9, z9 = (fX4_clear n1.2) := ⟨_, rfl⟩
  have k9 := (kX4_clear l D cI cC cT ox ox1 ox2 n1.2)
  rw [← en2] at k9
  refine fUq (As := []) (rest := []) (st' := []) ⟨hx, hb, hml, hown, hts⟩ k9 (cwV 0 hts gX5_run_X4_clear rfl rfl rfl (by decide +kernel) ⟨Nat.le_of_ble_eq_true rfl, Nat.le_of_ble_eq_true rfl⟩) hP hK hD hS (w5 x ot ou ov oh ox oy (S.1, n1.1, S.2.2.1, S.2.2.2) ++ w3 cI ot ot1 ot2 T ++ w1 oh rr Hs ++ wR cI cT rr ra rb rc G : va_W) (pmI (fun a => by simp only [cntW_app, cntW_nil] <;> omega)) (w5 x ot ou ov oh ox oy (S.1, n1.1, S.2.2.1, S.2.2.2) ++ w3 cI ot ot1 ot2 T ++ w1 oh rr Hs ++ wR cI cT rr ra rb rc G ++ w4 cI cC ox ox1 ox2 n2) (pmI (fun a => by simp only [cntW_app, cntW_nil] <;> omega)) rfl 33 (ci := 5) rfl rfl rfl rfl hl.1 rfl rfl (Nat.le_of_ble_eq_true rfl) ⟨Nat.le_of_ble_eq_true rfl, Nat.le_of_ble_eq_true rfl⟩ dX5_run_15 (fun H locs hP hD hS => ?_)
  refine lv_aload_n hx hb dX5_run_18 rfl (lv_at hl 0 rfl) ?_
  refine va_get (D := D) (ci := 6) (v := .int n1.1) (C := RX5) (T := TX5) (N := 10) hx hb hts q1 hown hK hP 0 rfl rfl 7 (by decide) q2 (fun _ h9 => h9) rfl dX5_run_19 ?_
  refine lv_iconst (v := (-1)) hx hb dX5_run_22 (by decide) ?_
  refine lv_icmp_eq (tgt := 36) hx hb dX5_run_23 (by decide) (fun c_23 => ?_) (fun c_23 => ?_)
  · refine lv_aload_n hx hb dX5_run_36 rfl (lv_at hl 0 rfl) ?_
    refine va_get (D := D) (ci := 6) (v := .ref oh) (C := RX5) (T := TX5) (N := 10) hx hb hts q1 hown hK hP 0 rfl rfl 3 (by decide) q3 (fun _ h9 => h9) rfl dX5_run_37 ?_
    refine lv_aload_n hx hb dX5_run_40 rfl (lv_at hl 0 rfl) ?_
    refine va_get (D := D) (ci := 6) (v := .ref ot) (C := RX5) (T := TX5) (N := 10) hx hb hts q1 hown hK hP 0 rfl rfl 0 (by decide) q4 (fun _ h9 => h9) rfl dX5_run_41 ?_
    obtain ⟨n3, en3⟩ : ∃ z9, z9 = (fX1_prepare Hs G T) := ⟨_, rfl⟩
    have k9 := (kX1_prepare l D cI cC cT oh rr ot ot1 ot2 ra rb rc Hs G T hn)
    rw [← en3] at k9
    refine fUq (As := [.ref ot]) (rest := []) (st' := []) ⟨hx, hb, hml, hown, hts⟩ k9 (cwV 1 hts gX5_run_X1_prepare rfl rfl rfl (by decide +kernel) ⟨Nat.le_of_ble_eq_true rfl, Nat.le_of_ble_eq_true rfl⟩) hP hK hD hS (w5 x ot ou ov oh ox oy (S.1, n1.1, S.2.2.1, S.2.2.2) ++ w4 cI cC ox ox1 ox2 n2 : va_W) (pmI (fun a => by simp only [cntW_app, cntW_nil] <;> omega)) (w5 x ot ou ov oh ox oy (S.1, n1.1, S.2.2.1, S.2.2.2) ++ w3 cI ot ot1 ot2 T ++ w1 oh rr Hs ++ wR cI cT rr ra rb rc n3 ++ w4 cI cC ox ox1 ox2 n2) (pmI (fun a => by simp only [cntW_app, cntW_nil] <;> omega)) rfl 4 (ci := 2) rfl rfl rfl rfl hl.1 rfl rfl (Nat.le_of_ble_eq_true rfl) ⟨Nat.le_of_ble_eq_true rfl, Nat.le_of_ble_eq_true rfl⟩ dX5_run_44 (fun H locs hP hD hS => ?_)
    refine lv_iconst (v := 0) hx hb dX5_run_47 (by decide) ?_
    refine lv_istore_n (lv' := [(1, .int 0), (0, .ref x)]) hx hb dX5_run_48 rfl hl (by decide) rfl (fun ls hl => ?_)
    refine lv_iconst (v := 0) hx hb dX5_run_49 (by decide) ?_
    refine lv_istore_n (lv' := [(2, .int 0), (1, .int 0), (0, .ref x)]) hx hb dX5_run_50 rfl hl (by decide) rfl (fun ls hl => ?_)
    have hE_51 : itr (lX5_run_51 S T Hs G Xt n1 n2 n3) ((fun v : (CV × TV × Int32 × Int32) => (n2.2.2.2.2.toInt - v.2.2.2.toInt).toNat) ((S.1, n1.1, S.2.2.1, S.2.2.2), T, 0, 0) + 1) ((S.1, n1.1, S.2.2.1, S.2.2.2), T, 0, 0) = .inr (itv ((S.1, n1.1, S.2.2.1, S.2.2.2), T, 0, 0) (lX5_run_51 S T Hs G Xt n1 n2 n3) ((fun v : (CV × TV × Int32 × Int32) => (n2.2.2.2.2.toInt - v.2.2.2.toInt).toNat) ((S.1, n1.1, S.2.2.1, S.2.2.2), T, 0, 0) + 1) ((S.1, n1.1, S.2.2.1, S.2.2.2), T, 0, 0)) := by
      exact itv_ends (itr_ends (lX5_run_51 S T Hs G Xt n1 n2 n3) (fun v : (CV × TV × Int32 × Int32) => True) (fun v : (CV × TV × Int32 × Int32) => (n2.2.2.2.2.toInt - v.2.2.2.toInt).toNat) (tlX5_run_51 S T Hs G Xt n1 n2 n3) _ _ trivial (Nat.lt_succ_self _))
    refine loopW (lX5_run_51 S T Hs G Xt n1 n2 n3) (fun v : (CV × TV × Int32 × Int32) => True) (fun v : (CV × TV × Int32 × Int32) => ∀ (H : Heap) (locs : List Loc) ls, va_P D vwCl (w5 x ot ou ov oh ox oy v.1 ++ w3 cI ot ot1 ot2 v.2.1 ++ w1 oh rr Hs ++ wR cI cT rr ra rb rc n3 ++ w4 cI cC ox ox1 ox2 n2) H → va_D A (w5 x ot ou ov oh ox oy v.1 ++ w3 cI ot ot1 ot2 v.2.1 ++ w1 oh rr Hs ++ wR cI cT rr ra rb rc n3 ++ w4 cI cC ox ox1 ox2 n2) → va_S A s.heap H locs → lv_has ls 3 [(0, .ref x), (1, .int v.2.2.1), (2, .int v.2.2.2)] → W p l e rmX5_run s m args below meth c H locs 0 0 Q (F0 m 51 ls [])) (fun r9 : (CV × TV × Int32 × Int32) => ∀ (H : Heap) (locs : List Loc) ls, va_P D vwCl (w5 x ot ou ov oh ox oy r9.1 ++ w3 cI ot ot1 ot2 r9.2.1 ++ w1 oh rr Hs ++ wR cI cT rr ra rb rc n3 ++ w4 cI cC ox ox1 ox2 n2) H → va_D A (w5 x ot ou ov oh ox oy r9.1 ++ w3 cI ot ot1 ot2 r9.2.1 ++ w1 oh rr Hs ++ wR cI cT rr ra rb rc n3 ++ w4 cI cC ox ox1 ox2 n2) → va_S A s.heap H locs → lv_has ls 3 [(0, .ref x), (1, .int r9.2.2.1), (2, .int r9.2.2.2)] → W p l e rmX5_run s m args below meth c H locs 0 0 Q (F0 m 78 ls [])) ?_ (fun _ _ _ _ => trivial) _ ((S.1, n1.1, S.2.2.1, S.2.2.2), T, 0, 0) (itv ((S.1, n1.1, S.2.2.1, S.2.2.2), T, 0, 0) (lX5_run_51 S T Hs G Xt n1 n2 n3) ((fun v : (CV × TV × Int32 × Int32) => (n2.2.2.2.2.toInt - v.2.2.2.toInt).toNat) ((S.1, n1.1, S.2.2.1, S.2.2.2), T, 0, 0) + 1) ((S.1, n1.1, S.2.2.1, S.2.2.2), T, 0, 0)) trivial hE_51 ?_ _ _ ls hP hD hS (lv_sub hl [2, 1, 0] rfl)
    · intro v _ kb kx H locs ls hP hD hS hl
      refine lv_iload_n hx hb dX5_run_51 rfl (lv_at hl 2 rfl) ?_
      refine lv_aload_n hx hb dX5_run_52 rfl (lv_at hl 0 rfl) ?_
      refine va_get (D := D) (ci := 6) (v := .ref ox) (C := RX5) (T := TX5) (N := 10) hx hb hts q1 hown hK hP 0 rfl rfl 4 (by decide) q0 (fun _ h9 => h9) rfl dX5_run_53 ?_
      refine va_get (D := D) (ci := 5) (v := .int n2.2.2.2.2) (C := RX4) (T := TX4) (N := 5) hx hb hts q6 hown hK hP 33 rfl rfl 4 (by decide) q5 (fun _ h9 => h9) rfl dX5_run_56 ?_
      refine lv_icmp_ge (tgt := 78) hx hb dX5_run_59 (by decide) (fun c_59 => ?_) (fun c_59 => ?_)
      · exact kx (v.1, v.2.1, v.2.2.1, v.2.2.2) (by rw [lX5_run_51, if_pos c_59]) H locs ls hP hD hS (lv_sub hl [0, 1, 2] rfl)
      · refine lv_iload_n hx hb dX5_run_62 rfl (lv_at hl 1 rfl) ?_
        refine lv_if_lt (tgt := 78) hx hb dX5_run_63 (by decide) (fun c_63 => ?_) (fun c_63 => ?_)
        · exact kx (v.1, v.2.1, v.2.2.1, v.2.2.2) (by rw [lX5_run_51, if_neg c_59, if_pos c_63]) H locs ls hP hD hS (lv_sub hl [0, 1, 2] rfl)
        · refine lv_aload_n hx hb dX5_run_66 rfl (lv_at hl 0 rfl) ?_
          refine lv_iload_n hx hb dX5_run_67 rfl (lv_at hl 2 rfl) ?_
          obtain ⟨n4, en4⟩ : ∃ z9, z9 = (fX5_carryOut v.1 v.2.1 n2 v.2.2.2) := ⟨_, rfl⟩
          have k9 := (kX5_carryOut l D cI cC cT x ot ou ov oh ox oy ot1 ot2 ox1 ox2 v.1 v.2.1 n2 v.2.2.2)
          rw [← en4] at k9
          refine fUq (As := [.int v.2.2.2]) (rest := []) (st' := [.int n4.1]) ⟨hx, hb, hml, hown, hts⟩ k9 (cwV 1 hts gX5_run_X5_carryOut rfl rfl rfl (by decide +kernel) ⟨Nat.le_of_ble_eq_true rfl, Nat.le_of_ble_eq_true rfl⟩) hP hK hD hS (w1 oh rr Hs ++ wR cI cT rr ra rb rc n3 : va_W) (pmI (fun a => by simp only [cntW_app, cntW_nil] <;> omega)) (w5 x ot ou ov oh ox oy n4.2.1 ++ w3 cI ot ot1 ot2 n4.2.2 ++ w1 oh rr Hs ++ wR cI cT rr ra rb rc n3 ++ w4 cI cC ox ox1 ox2 n2) (pmI (fun a => by simp only [cntW_app, cntW_nil] <;> omega)) rfl 0 (ci := 6) rfl rfl rfl rfl hl.1 rfl rfl (Nat.le_of_ble_eq_true rfl) ⟨Nat.le_of_ble_eq_true rfl, Nat.le_of_ble_eq_true rfl⟩ dX5_run_68 (fun H locs hP hD hS => ?_)
          refine lv_istore_n (lv' := [(1, .int n4.1), (0, .ref x), (2, .int v.2.2.2)]) hx hb dX5_run_71 rfl hl (by decide) rfl (fun ls hl => ?_)
          refine lv_iinc (v := (v.2.2.2 + 1)) (lv' := [(2, .int (v.2.2.2 + 1)), (1, .int n4.1), (0, .ref x)]) hx hb dX5_run_72 hl (k := 2) rfl rfl (by decide) rfl (fun ls hl => ?_)
          refine lv_goto (tgt := 51) hx hb dX5_run_75 (by decide) ?_
          exact kb (n4.2.1, n4.2.2, n4.1, (v.2.2.2 + 1)) (by rw [lX5_run_51, if_neg c_59, if_neg c_63, ← en4]) H locs ls hP hD hS (lv_sub hl [2, 1, 0] rfl)
    · intro H locs ls hP hD hS hl
      refine lv_iload_n hx hb dX5_run_78 rfl (lv_at hl 1 rfl) ?_
      refine lv_if_ge (tgt := 93) hx hb dX5_run_79 (by decide) (fun c_79 => ?_) (fun c_79 => ?_)
      · refine lv_iload_n hx hb dX5_run_93 rfl (lv_at hl 1 rfl) ?_
        refine lv_bipush (v := (-3)) hx hb dX5_run_94 (by decide) ?_
        refine lv_icmp_ne (tgt := 109) hx hb dX5_run_96 (by decide) (fun c_96 => ?_) (fun c_96 => ?_)
        · refine lv_iload_n hx hb dX5_run_109 rfl (lv_at hl 1 rfl) ?_
          refine lv_if_ge (tgt := 123) hx hb dX5_run_110 (by decide) (fun c_110 => ?_) (fun c_110 => ?_)
          · refine lv_aload_n hx hb dX5_run_123 rfl (lv_at hl 0 rfl) ?_
            refine va_get (D := D) (ci := 6) (v := .ref oh) (C := RX5) (T := TX5) (N := 10) hx hb hts q1 hown hK hP 0 rfl rfl 3 (by decide) q3 (fun _ h9 => h9) rfl dX5_run_124 ?_
            obtain ⟨n5, en5⟩ : ∃ z9, z9 = (fX1_keep Hs) := ⟨_, rfl⟩
            have k9 := (kX1_keep l D cI cC cT oh rr Hs)
            rw [← en5] at k9
            refine fUq (As := []) (rest := []) (st' := []) ⟨hx, hb, hml, hown, hts⟩ k9 (cwV 0 hts gX5_run_X1_keep rfl rfl rfl (by decide +kernel) ⟨Nat.le_of_ble_eq_true rfl, Nat.le_of_ble_eq_true rfl⟩) hP hK hD hS (w5 x ot ou ov oh ox oy (itv ((S.1, n1.1, S.2.2.1, S.2.2.2), T, 0, 0) (lX5_run_51 S T Hs G Xt n1 n2 n3) ((fun v : (CV × TV × Int32 × Int32) => (n2.2.2.2.2.toInt - v.2.2.2.toInt).toNat) ((S.1, n1.1, S.2.2.1, S.2.2.2), T, 0, 0) + 1) ((S.1, n1.1, S.2.2.1, S.2.2.2), T, 0, 0)).1 ++ w3 cI ot ot1 ot2 (itv ((S.1, n1.1, S.2.2.1, S.2.2.2), T, 0, 0) (lX5_run_51 S T Hs G Xt n1 n2 n3) ((fun v : (CV × TV × Int32 × Int32) => (n2.2.2.2.2.toInt - v.2.2.2.toInt).toNat) ((S.1, n1.1, S.2.2.1, S.2.2.2), T, 0, 0) + 1) ((S.1, n1.1, S.2.2.1, S.2.2.2), T, 0, 0)).2.1 ++ wR cI cT rr ra rb rc n3 ++ w4 cI cC ox ox1 ox2 n2 : va_W) (pmI (fun a => by simp only [cntW_app, cntW_nil] <;> omega)) (w5 x ot ou ov oh ox oy (itv ((S.1, n1.1, S.2.2.1, S.2.2.2), T, 0, 0) (lX5_run_51 S T Hs G Xt n1 n2 n3) ((fun v : (CV × TV × Int32 × Int32) => (n2.2.2.2.2.toInt - v.2.2.2.toInt).toNat) ((S.1, n1.1, S.2.2.1, S.2.2.2), T, 0, 0) + 1) ((S.1, n1.1, S.2.2.1, S.2.2.2), T, 0, 0)).1 ++ w3 cI ot ot1 ot2 (itv ((S.1, n1.1, S.2.2.1, S.2.2.2), T, 0, 0) (lX5_run_51 S T Hs G Xt n1 n2 n3) ((fun v : (CV × TV × Int32 × Int32) => (n2.2.2.2.2.toInt - v.2.2.2.toInt).toNat) ((S.1, n1.1, S.2.2.1, S.2.2.2), T, 0, 0) + 1) ((S.1, n1.1, S.2.2.1, S.2.2.2), T, 0, 0)).2.1 ++ w1 oh rr n5 ++ wR cI cT rr ra rb rc n3 ++ w4 cI cC ox ox1 ox2 n2) (pmI (fun a => by simp only [cntW_app, cntW_nil] <;> omega)) rfl 4 (ci := 2) rfl rfl rfl rfl hl.1 rfl rfl (Nat.le_of_ble_eq_true rfl) ⟨Nat.le_of_ble_eq_true rfl, Nat.le_of_ble_eq_true rfl⟩ dX5_run_127 (fun H locs hP hD hS => ?_)
            refine lv_aload_n hx hb dX5_run_130 rfl (lv_at hl 0 rfl) ?_
            refine va_get (D := D) (ci := 6) (v := .ref ox) (C := RX5) (T := TX5) (N := 10) hx hb hts q1 hown hK hP 0 rfl rfl 4 (by decide) q0 (fun _ h9 => h9) rfl dX5_run_131 ?_
            refine va_get (D := D) (ci := 5) (v := .int n2.2.2.2.2) (C := RX4) (T := TX4) (N := 5) hx hb hts q6 hown hK hP 33 rfl rfl 4 (by decide) q5 (fun _ h9 => h9) rfl dX5_run_134 ?_
            have e9 : fX5_run S T Hs G Xt = (none, n2.2.2.2.2, (itv ((S.1, n1.1, S.2.2.1, S.2.2.2), T, 0, 0) (lX5_run_51 S T Hs G Xt n1 n2 n3) ((fun v : (CV × TV × Int32 × Int32) => (n2.2.2.2.2.toInt - v.2.2.2.toInt).toNat) ((S.1, n1.1, S.2.2.1, S.2.2.2), T, 0, 0) + 1) ((S.1, n1.1, S.2.2.1, S.2.2.2), T, 0, 0)).1, (itv ((S.1, n1.1, S.2.2.1, S.2.2.2), T, 0, 0) (lX5_run_51 S T Hs G Xt n1 n2 n3) ((fun v : (CV × TV × Int32 × Int32) => (n2.2.2.2.2.toInt - v.2.2.2.toInt).toNat) ((S.1, n1.1, S.2.2.1, S.2.2.2), T, 0, 0) + 1) ((S.1, n1.1, S.2.2.1, S.2.2.2), T, 0, 0)).2.1, n5, n3, n2) := by rw [fX5_run, ← en1, ← en2, if_pos c_23, ← en3, if_pos c_79, if_neg c_96, if_pos c_110, ← en5]
            exact rXi hx hb hr hlk hQ hP hS (by rw [e9]) (by rw [e9]) (congrArg (fun z9 : ((Option String) × Int32 × CV × TV × HV × (Nat → TV) × XV) => (w5 x ot ou ov oh ox oy z9.2.2.1 ++ w3 cI ot ot1 ot2 z9.2.2.2.1 ++ w1 oh rr z9.2.2.2.2.1 ++ wR cI cT rr ra rb rc z9.2.2.2.2.2.1 ++ w4 cI cC ox ox1 ox2 z9.2.2.2.2.2.2 : va_W)) e9).symm rfl ⟨Nat.le_of_ble_eq_true rfl, Nat.le_of_ble_eq_true rfl⟩ dX5_run_137
          · have e9 : fX5_run S T Hs G Xt = (some "java/lang/IllegalArgumentException", 0, (itv ((S.1, n1.1, S.2.2.1, S.2.2.2), T, 0, 0) (lX5_run_51 S T Hs G Xt n1 n2 n3) ((fun v : (CV × TV × Int32 × Int32) => (n2.2.2.2.2.toInt - v.2.2.2.toInt).toNat) ((S.1, n1.1, S.2.2.1, S.2.2.2), T, 0, 0) + 1) ((S.1, n1.1, S.2.2.1, S.2.2.2), T, 0, 0)).1, (itv ((S.1, n1.1, S.2.2.1, S.2.2.2), T, 0, 0) (lX5_run_51 S T Hs G Xt n1 n2 n3) ((fun v : (CV × TV × Int32 × Int32) => (n2.2.2.2.2.toInt - v.2.2.2.toInt).toNat) ((S.1, n1.1, S.2.2.1, S.2.2.2), T, 0, 0) + 1) ((S.1, n1.1, S.2.2.1, S.2.2.2), T, 0, 0)).2.1, Hs, n3, n2) := by rw [fX5_run, ← en1, ← en2, if_pos c_23, ← en3, if_pos c_79, if_neg c_96, if_neg c_110]
            exact rXt (ik := 86) (is := 239) (ic := 90) (cls := "java/lang/IllegalArgumentException") (text := "an order has a wrong number") hx hb hst hown hlk hts hXE htb hQ hP hS (hml.trans hl.1.symm) (by decide +kernel) (by decide +kernel) (by decide +kernel) (by decide +kernel) (by decide +kernel) (by decide +kernel) xb_90_86 xg_90_86 ⟨⟨Nat.le_of_ble_eq_true rfl, Nat.le_of_ble_eq_true rfl⟩, ⟨Nat.le_of_ble_eq_true rfl, Nat.le_of_ble_eq_true rfl⟩, ⟨Nat.le_of_ble_eq_true rfl, Nat.le_of_ble_eq_true rfl⟩⟩ (by rw [e9]) (congrArg (fun z9 : ((Option String) × Int32 × CV × TV × HV × (Nat → TV) × XV) => (w5 x ot ou ov oh ox oy z9.2.2.1 ++ w3 cI ot ot1 ot2 z9.2.2.2.1 ++ w1 oh rr z9.2.2.2.2.1 ++ wR cI cT rr ra rb rc z9.2.2.2.2.2.1 ++ w4 cI cC ox ox1 ox2 z9.2.2.2.2.2.2 : va_W)) e9).symm dX5_run_113 dX5_run_116 (Or.inl ⟨dX5_run_117, dX5_run_119, dX5_run_122⟩)
        · have e9 : fX5_run S T Hs G Xt = (some "java/lang/UnsupportedOperationException", 0, (itv ((S.1, n1.1, S.2.2.1, S.2.2.2), T, 0, 0) (lX5_run_51 S T Hs G Xt n1 n2 n3) ((fun v : (CV × TV × Int32 × Int32) => (n2.2.2.2.2.toInt - v.2.2.2.toInt).toNat) ((S.1, n1.1, S.2.2.1, S.2.2.2), T, 0, 0) + 1) ((S.1, n1.1, S.2.2.1, S.2.2.2), T, 0, 0)).1, (itv ((S.1, n1.1, S.2.2.1, S.2.2.2), T, 0, 0) (lX5_run_51 S T Hs G Xt n1 n2 n3) ((fun v : (CV × TV × Int32 × Int32) => (n2.2.2.2.2.toInt - v.2.2.2.toInt).toNat) ((S.1, n1.1, S.2.2.1, S.2.2.2), T, 0, 0) + 1) ((S.1, n1.1, S.2.2.1, S.2.2.2), T, 0, 0)).2.1, Hs, n3, n2) := by rw [fX5_run, ← en1, ← en2, if_pos c_23, ← en3, if_pos c_79, if_pos c_96]
          exact rXt (ik := 234) (is := 236) (ic := 238) (cls := "java/lang/UnsupportedOperationException") (text := "an order is refused") hx hb hst hown hlk hts hXE htb hQ hP hS (hml.trans hl.1.symm) (by decide +kernel) (by decide +kernel) (by decide +kernel) (by decide +kernel) (by decide +kernel) (by decide +kernel) xb_238_234 xg_238_234 ⟨⟨Nat.le_of_ble_eq_true rfl, Nat.le_of_ble_eq_true rfl⟩, ⟨Nat.le_of_ble_eq_true rfl, Nat.le_of_ble_eq_true rfl⟩, ⟨Nat.le_of_ble_eq_true rfl, Nat.le_of_ble_eq_true rfl⟩⟩ (by rw [e9]) (congrArg (fun z9 : ((Option String) × Int32 × CV × TV × HV × (Nat → TV) × XV) => (w5 x ot ou ov oh ox oy z9.2.2.1 ++ w3 cI ot ot1 ot2 z9.2.2.2.1 ++ w1 oh rr z9.2.2.2.2.1 ++ wR cI cT rr ra rb rc z9.2.2.2.2.2.1 ++ w4 cI cC ox ox1 ox2 z9.2.2.2.2.2.2 : va_W)) e9).symm dX5_run_99 dX5_run_102 (Or.inl ⟨dX5_run_103, dX5_run_105, dX5_run_108⟩)
      · refine lv_aload_n hx hb dX5_run_82 rfl (lv_at hl 0 rfl) ?_
        refine va_get (D := D) (ci := 6) (v := .ref oh) (C := RX5) (T := TX5) (N := 10) hx hb hts q1 hown hK hP 0 rfl rfl 3 (by decide) q3 (fun _ h9 => h9) rfl dX5_run_83 ?_
        refine lv_aload_n hx hb dX5_run_86 rfl (lv_at hl 0 rfl) ?_
        refine va_get (D := D) (ci := 6) (v := .ref ot) (C := RX5) (T := TX5) (N := 10) hx hb hts q1 hown hK hP 0 rfl rfl 0 (by decide) q4 (fun _ h9 => h9) rfl dX5_run_87 ?_
        obtain ⟨n6, en6⟩ : ∃ z9, z9 = (fX1_takeBack Hs n3 (itv ((S.1, n1.1, S.2.2.1, S.2.2.2), T, 0, 0) (lX5_run_51 S T Hs G Xt n1 n2 n3) ((fun v : (CV × TV × Int32 × Int32) => (n2.2.2.2.2.toInt - v.2.2.2.toInt).toNat) ((S.1, n1.1, S.2.2.1, S.2.2.2), T, 0, 0) + 1) ((S.1, n1.1, S.2.2.1, S.2.2.2), T, 0, 0)).2.1) := ⟨_, rfl⟩
        have k9 := (kX1_takeBack l D cI cC cT oh rr ot ot1 ot2 ra rb rc Hs n3 (itv ((S.1, n1.1, S.2.2.1, S.2.2.2), T, 0, 0) (lX5_run_51 S T Hs G Xt n1 n2 n3) ((fun v : (CV × TV × Int32 × Int32) => (n2.2.2.2.2.toInt - v.2.2.2.toInt).toNat) ((S.1, n1.1, S.2.2.1, S.2.2.2), T, 0, 0) + 1) ((S.1, n1.1, S.2.2.1, S.2.2.2), T, 0, 0)).2.1 hn)
        rw [← en6] at k9
        refine fUq (As := [.ref ot]) (rest := []) (st' := []) ⟨hx, hb, hml, hown, hts⟩ k9 (cwV 1 hts gX5_run_X1_takeBack rfl rfl rfl (by decide +kernel) ⟨Nat.le_of_ble_eq_true rfl, Nat.le_of_ble_eq_true rfl⟩) hP hK hD hS (w5 x ot ou ov oh ox oy (itv ((S.1, n1.1, S.2.2.1, S.2.2.2), T, 0, 0) (lX5_run_51 S T Hs G Xt n1 n2 n3) ((fun v : (CV × TV × Int32 × Int32) => (n2.2.2.2.2.toInt - v.2.2.2.toInt).toNat) ((S.1, n1.1, S.2.2.1, S.2.2.2), T, 0, 0) + 1) ((S.1, n1.1, S.2.2.1, S.2.2.2), T, 0, 0)).1 ++ w4 cI cC ox ox1 ox2 n2 : va_W) (pmI (fun a => by simp only [cntW_app, cntW_nil] <;> omega)) (w5 x ot ou ov oh ox oy (itv ((S.1, n1.1, S.2.2.1, S.2.2.2), T, 0, 0) (lX5_run_51 S T Hs G Xt n1 n2 n3) ((fun v : (CV × TV × Int32 × Int32) => (n2.2.2.2.2.toInt - v.2.2.2.toInt).toNat) ((S.1, n1.1, S.2.2.1, S.2.2.2), T, 0, 0) + 1) ((S.1, n1.1, S.2.2.1, S.2.2.2), T, 0, 0)).1 ++ w3 cI ot ot1 ot2 n6 ++ w1 oh rr Hs ++ wR cI cT rr ra rb rc n3 ++ w4 cI cC ox ox1 ox2 n2) (pmI (fun a => by simp only [cntW_app, cntW_nil] <;> omega)) rfl 4 (ci := 2) rfl rfl rfl rfl hl.1 rfl rfl (Nat.le_of_ble_eq_true rfl) ⟨Nat.le_of_ble_eq_true rfl, Nat.le_of_ble_eq_true rfl⟩ dX5_run_90 (fun H locs hP hD hS => ?_)
        refine lv_iload_n hx hb dX5_run_93 rfl (lv_at hl 1 rfl) ?_
        refine lv_bipush (v := (-3)) hx hb dX5_run_94 (by decide) ?_
        refine lv_icmp_ne (tgt := 109) hx hb dX5_run_96 (by decide) (fun c_96 => ?_) (fun c_96 => ?_)
        · refine lv_iload_n hx hb dX5_run_109 rfl (lv_at hl 1 rfl) ?_
          refine lv_if_ge (tgt := 123) hx hb dX5_run_110 (by decide) (fun c_110 => ?_) (fun c_110 => ?_)
          · refine lv_aload_n hx hb dX5_run_123 rfl (lv_at hl 0 rfl) ?_
            refine va_get (D := D) (ci := 6) (v := .ref oh) (C := RX5) (T := TX5) (N := 10) hx hb hts q1 hown hK hP 0 rfl rfl 3 (by decide) q3 (fun _ h9 => h9) rfl dX5_run_124 ?_
            obtain ⟨n7, en7⟩ : ∃ z9, z9 = (fX1_keep Hs) := ⟨_, rfl⟩
            have k9 := (kX1_keep l D cI cC cT oh rr Hs)
            rw [← en7] at k9
            refine fUq (As := []) (rest := []) (st' := []) ⟨hx, hb, hml, hown, hts⟩ k9 (cwV 0 hts gX5_run_X1_keep rfl rfl rfl (by decide +kernel) ⟨Nat.le_of_ble_eq_true rfl, Nat.le_of_ble_eq_true rfl⟩) hP hK hD hS (w5 x ot ou ov oh ox oy (itv ((S.1, n1.1, S.2.2.1, S.2.2.2), T, 0, 0) (lX5_run_51 S T Hs G Xt n1 n2 n3) ((fun v : (CV × TV × Int32 × Int32) => (n2.2.2.2.2.toInt - v.2.2.2.toInt).toNat) ((S.1, n1.1, S.2.2.1, S.2.2.2), T, 0, 0) + 1) ((S.1, n1.1, S.2.2.1, S.2.2.2), T, 0, 0)).1 ++ w3 cI ot ot1 ot2 n6 ++ wR cI cT rr ra rb rc n3 ++ w4 cI cC ox ox1 ox2 n2 : va_W) (pmI (fun a => by simp only [cntW_app, cntW_nil] <;> omega)) (w5 x ot ou ov oh ox oy (itv ((S.1, n1.1, S.2.2.1, S.2.2.2), T, 0, 0) (lX5_run_51 S T Hs G Xt n1 n2 n3) ((fun v : (CV × TV × Int32 × Int32) => (n2.2.2.2.2.toInt - v.2.2.2.toInt).toNat) ((S.1, n1.1, S.2.2.1, S.2.2.2), T, 0, 0) + 1) ((S.1, n1.1, S.2.2.1, S.2.2.2), T, 0, 0)).1 ++ w3 cI ot ot1 ot2 n6 ++ w1 oh rr n7 ++ wR cI cT rr ra rb rc n3 ++ w4 cI cC ox ox1 ox2 n2) (pmI (fun a => by simp only [cntW_app, cntW_nil] <;> omega)) rfl 4 (ci := 2) rfl rfl rfl rfl hl.1 rfl rfl (Nat.le_of_ble_eq_true rfl) ⟨Nat.le_of_ble_eq_true rfl, Nat.le_of_ble_eq_true rfl⟩ dX5_run_127 (fun H locs hP hD hS => ?_)
            refine lv_aload_n hx hb dX5_run_130 rfl (lv_at hl 0 rfl) ?_
            refine va_get (D := D) (ci := 6) (v := .ref ox) (C := RX5) (T := TX5) (N := 10) hx hb hts q1 hown hK hP 0 rfl rfl 4 (by decide) q0 (fun _ h9 => h9) rfl dX5_run_131 ?_
            refine va_get (D := D) (ci := 5) (v := .int n2.2.2.2.2) (C := RX4) (T := TX4) (N := 5) hx hb hts q6 hown hK hP 33 rfl rfl 4 (by decide) q5 (fun _ h9 => h9) rfl dX5_run_134 ?_
            have e9 : fX5_run S T Hs G Xt = (none, n2.2.2.2.2, (itv ((S.1, n1.1, S.2.2.1, S.2.2.2), T, 0, 0) (lX5_run_51 S T Hs G Xt n1 n2 n3) ((fun v : (CV × TV × Int32 × Int32) => (n2.2.2.2.2.toInt - v.2.2.2.toInt).toNat) ((S.1, n1.1, S.2.2.1, S.2.2.2), T, 0, 0) + 1) ((S.1, n1.1, S.2.2.1, S.2.2.2), T, 0, 0)).1, n6, n7, n3, n2) := by rw [fX5_run, ← en1, ← en2, if_pos c_23, ← en3, if_neg c_79, ← en6, if_neg c_96, if_pos c_110, ← en7]
            exact rXi hx hb hr hlk hQ hP hS (by rw [e9]) (by rw [e9]) (congrArg (fun z9 : ((Option String) × Int32 × CV × TV × HV × (Nat → TV) × XV) => (w5 x ot ou ov oh ox oy z9.2.2.1 ++ w3 cI ot ot1 ot2 z9.2.2.2.1 ++ w1 oh rr z9.2.2.2.2.1 ++ wR cI cT rr ra rb rc z9.2.2.2.2.2.1 ++ w4 cI cC ox ox1 ox2 z9.2.2.2.2.2.2 : va_W)) e9).symm rfl ⟨Nat.le_of_ble_eq_true rfl, Nat.le_of_ble_eq_true rfl⟩ dX5_run_137
          · have e9 : fX5_run S T Hs G Xt = (some "java/lang/IllegalArgumentException", 0, (itv ((S.1, n1.1, S.2.2.1, S.2.2.2), T, 0, 0) (lX5_run_51 S T Hs G Xt n1 n2 n3) ((fun v : (CV × TV × Int32 × Int32) => (n2.2.2.2.2.toInt - v.2.2.2.toInt).toNat) ((S.1, n1.1, S.2.2.1, S.2.2.2), T, 0, 0) + 1) ((S.1, n1.1, S.2.2.1, S.2.2.2), T, 0, 0)).1, n6, Hs, n3, n2) := by rw [fX5_run, ← en1, ← en2, if_pos c_23, ← en3, if_neg c_79, ← en6, if_neg c_96, if_neg c_110]
            exact rXt (ik := 86) (is := 239) (ic := 90) (cls := "java/lang/IllegalArgumentException") (text := "an order has a wrong number") hx hb hst hown hlk hts hXE htb hQ hP hS (hml.trans hl.1.symm) (by decide +kernel) (by decide +kernel) (by decide +kernel) (by decide +kernel) (by decide +kernel) (by decide +kernel) xb_90_86 xg_90_86 ⟨⟨Nat.le_of_ble_eq_true rfl, Nat.le_of_ble_eq_true rfl⟩, ⟨Nat.le_of_ble_eq_true rfl, Nat.le_of_ble_eq_true rfl⟩, ⟨Nat.le_of_ble_eq_true rfl, Nat.le_of_ble_eq_true rfl⟩⟩ (by rw [e9]) (congrArg (fun z9 : ((Option String) × Int32 × CV × TV × HV × (Nat → TV) × XV) => (w5 x ot ou ov oh ox oy z9.2.2.1 ++ w3 cI ot ot1 ot2 z9.2.2.2.1 ++ w1 oh rr z9.2.2.2.2.1 ++ wR cI cT rr ra rb rc z9.2.2.2.2.2.1 ++ w4 cI cC ox ox1 ox2 z9.2.2.2.2.2.2 : va_W)) e9).symm dX5_run_113 dX5_run_116 (Or.inl ⟨dX5_run_117, dX5_run_119, dX5_run_122⟩)
        · have e9 : fX5_run S T Hs G Xt = (some "java/lang/UnsupportedOperationException", 0, (itv ((S.1, n1.1, S.2.2.1, S.2.2.2), T, 0, 0) (lX5_run_51 S T Hs G Xt n1 n2 n3) ((fun v : (CV × TV × Int32 × Int32) => (n2.2.2.2.2.toInt - v.2.2.2.toInt).toNat) ((S.1, n1.1, S.2.2.1, S.2.2.2), T, 0, 0) + 1) ((S.1, n1.1, S.2.2.1, S.2.2.2), T, 0, 0)).1, n6, Hs, n3, n2) := by rw [fX5_run, ← en1, ← en2, if_pos c_23, ← en3, if_neg c_79, ← en6, if_pos c_96]
          exact rXt (ik := 234) (is := 236) (ic := 238) (cls := "java/lang/UnsupportedOperationException") (text := "an order is refused") hx hb hst hown hlk hts hXE htb hQ hP hS (hml.trans hl.1.symm) (by decide +kernel) (by decide +kernel) (by decide +kernel) (by decide +kernel) (by decide +kernel) (by decide +kernel) xb_238_234 xg_238_234 ⟨⟨Nat.le_of_ble_eq_true rfl, Nat.le_of_ble_eq_true rfl⟩, ⟨Nat.le_of_ble_eq_true rfl, Nat.le_of_ble_eq_true rfl⟩, ⟨Nat.le_of_ble_eq_true rfl, Nat.le_of_ble_eq_true rfl⟩⟩ (by rw [e9]) (congrArg (fun z9 : ((Option String) × Int32 × CV × TV × HV × (Nat → TV) × XV) => (w5 x ot ou ov oh ox oy z9.2.2.1 ++ w3 cI ot ot1 ot2 z9.2.2.2.1 ++ w1 oh rr z9.2.2.2.2.1 ++ wR cI cT rr ra rb rc z9.2.2.2.2.2.1 ++ w4 cI cC ox ox1 ox2 z9.2.2.2.2.2.2 : va_W)) e9).symm dX5_run_99 dX5_run_102 (Or.inl ⟨dX5_run_103, dX5_run_105, dX5_run_108⟩)
  · have e9 : fX5_run S T Hs G Xt = (some "java/lang/IllegalArgumentException", 0, (S.1, n1.1, S.2.2.1, S.2.2.2), T, Hs, G, n2) := by rw [fX5_run, ← en1, ← en2, if_neg c_23]
    exact rXt (ik := 86) (is := 223) (ic := 90) (cls := "java/lang/IllegalArgumentException") (text := "the text has an error") hx hb hst hown hlk hts hXE htb hQ hP hS (hml.trans hl.1.symm) (by decide +kernel) (by decide +kernel) (by decide +kernel) (by decide +kernel) (by decide +kernel) (by decide +kernel) xb_90_86 xg_90_86 ⟨⟨Nat.le_of_ble_eq_true rfl, Nat.le_of_ble_eq_true rfl⟩, ⟨Nat.le_of_ble_eq_true rfl, Nat.le_of_ble_eq_true rfl⟩, ⟨Nat.le_of_ble_eq_true rfl, Nat.le_of_ble_eq_true rfl⟩⟩ (by rw [e9]) (congrArg (fun z9 : ((Option String) × Int32 × CV × TV × HV × (Nat → TV) × XV) => (w5 x ot ou ov oh ox oy z9.2.2.1 ++ w3 cI ot ot1 ot2 z9.2.2.2.1 ++ w1 oh rr z9.2.2.2.2.1 ++ wR cI cT rr ra rb rc z9.2.2.2.2.2.1 ++ w4 cI cC ox ox1 ox2 z9.2.2.2.2.2.2 : va_W)) e9).symm dX5_run_26 dX5_run_29 (Or.inl ⟨dX5_run_30, dX5_run_32, dX5_run_35⟩)
def fX5_refusal (S : CV) (x1 : Int32) : ((Option String) × Int32) := (if S.2.2.1 = 0 then (some "java/util/NoSuchElementException", 0) else (if x1 = 0 then (none, S.2.2.1) else (none, S.2.2.2)))
abbrev rmX5_refusal : Room := { frames := 6, cells := 1, slots := 6, locals := 82 }
set_option maxHeartbeats 4000000 in
set_option maxRecDepth 100000 in
theorem kX5_refusal (l : Launch) (D : va_G) (cI cC cT : ClassId) (x ot ou ov oh ox oy : Nat) (S : CV) (x1 : Int32) (hst : l.stackTraces = false) : mX l D (TY cI cC cT) yX5_refusal wsX5_refusal rmX5_refusal [.ref x, .int x1] (w5 x ot ou ov oh ox oy S) ((fX5_refusal S x1).1) (some (.int (fX5_refusal S x1).2)) (w5 x ot ou ov oh ox oy S) 1 := by
  refine mX.ofW (cc := cX5_refusal) (maxL := 2) (ret := (some .int)) (by decide) rfl (Nat.le_of_ble_eq_true rfl) ?_
  intro p e s m args below meth c Q ls A hx hb hml hr hlk hts hown hP hK hD hS hl hXE htb hQ hQx
  have hown : s.vm.findClass RX5 = some m.cls := hown
  have hP : va_P D vwCl (w5 x ot ou ov oh ox oy S) s.heap := hP
  have hD : va_D A (w5 x ot ou ov oh ox oy S) := hD
  have hl : lv_has ls 2 [(0, .ref x), (1, .int x1)] := hl
  have q0 := hts (Cond.fieldLink RX5 51 "TavernStools" "lastReason" "I") (by decide +kernel)
  have q1 : ∀ w ∈ u_ws RX5 TX5 10, w ∈ wsX5_refusal := by decide +kernel
  have q2 := hts (Cond.fieldLink RX5 54 "TavernStools" "lastDetail" "I") (by decide +kernel)
  generalize hHe : s.heap = H at hP ⊢
  have hS : va_S A s.heap H [] := hHe ▸ hS
  generalize hLe : ([] : List Loc) = locs at hS ⊢
  refine lv_aload_n hx hb dX5_refusal_0 rfl (lv_at hl 0 rfl) ?_
  refine va_get (D := D) (ci := 6) (v := .int S.2.2.1) (C := RX5) (T := TX5) (N := 10) hx hb hts q1 hown hK hP 0 rfl rfl 8 (by decide) q0 (fun _ h9 => h9) rfl dX5_refusal_1 ?_
  refine lv_if_ne (tgt := 17) hx hb dX5_refusal_4 (by decide) (fun c_4 => ?_) (fun c_4 => ?_)
  · refine lv_iload_n hx hb dX5_refusal_17 rfl (lv_at hl 1 rfl) ?_
    refine lv_if_eq (tgt := 28) hx hb dX5_refusal_18 (by decide) (fun c_18 => ?_) (fun c_18 => ?_)
    · refine lv_aload_n hx hb dX5_refusal_28 rfl (lv_at hl 0 rfl) ?_
      refine va_get (D := D) (ci := 6) (v := .int S.2.2.1) (C := RX5) (T := TX5) (N := 10) hx hb hts q1 hown hK hP 0 rfl rfl 8 (by decide) q0 (fun _ h9 => h9) rfl dX5_refusal_29 ?_
      have e9 : fX5_refusal S x1 = (none, S.2.2.1) := by rw [fX5_refusal, if_neg c_4, if_pos c_18]
      exact rXi hx hb hr hlk hQ hP hS (by rw [e9]) (by rw [e9]) rfl rfl ⟨Nat.le_of_ble_eq_true rfl, Nat.le_of_ble_eq_true rfl⟩ dX5_refusal_32
    · refine lv_aload_n hx hb dX5_refusal_21 rfl (lv_at hl 0 rfl) ?_
      refine va_get (D := D) (ci := 6) (v := .int S.2.2.2) (C := RX5) (T := TX5) (N := 10) hx hb hts q1 hown hK hP 0 rfl rfl 9 (by decide) q2 (fun _ h9 => h9) rfl dX5_refusal_22 ?_
      refine lv_goto (tgt := 32) hx hb dX5_refusal_25 (by decide) ?_
      have e9 : fX5_refusal S x1 = (none, S.2.2.2) := by rw [fX5_refusal, if_neg c_4, if_neg c_18]
      exact rXi hx hb hr hlk hQ hP hS (by rw [e9]) (by rw [e9]) rfl rfl ⟨Nat.le_of_ble_eq_true rfl, Nat.le_of_ble_eq_true rfl⟩ dX5_refusal_32
  · have e9 : fX5_refusal S x1 = (some "java/util/NoSuchElementException", 0) := by rw [fX5_refusal, if_pos c_4]
    exact rXt13 (ik := 136) (is := 244) (ic := 140) (cls := "java/util/NoSuchElementException") (text := "nothing was refused") hx hb hst hown hlk hts hXE htb hQ hP hS (hml.trans hl.1.symm) (by decide +kernel) (by decide +kernel) (by decide +kernel) (by decide +kernel) (by decide +kernel) (by decide +kernel) xb_140_136 xg_140_136 ⟨⟨Nat.le_of_ble_eq_true rfl, Nat.le_of_ble_eq_true rfl⟩, ⟨Nat.le_of_ble_eq_true rfl, Nat.le_of_ble_eq_true rfl⟩, ⟨Nat.le_of_ble_eq_true rfl, Nat.le_of_ble_eq_true rfl⟩⟩ (by rw [e9]) rfl dX5_refusal_7 dX5_refusal_10 ⟨dX5_refusal_11, dX5_refusal_13, dX5_refusal_16⟩
def fX5_account (S : CV) (T : TV) (Hs : HV) (Xt : XV) (x1 : Int32) : ((Option String) × Int32) := (if x1 = 0 then (none, T.2.2.1) else (if x1 = 1 then (none, (fX3_sumOfStools T 3)) else (if x1 = 2 then (none, T.2.2.2.1) else (if x1 = 3 then (none, (fX3_cats T)) else (if x1 = 4 then (none, (fX3_takenStools T 0 (T.2.2.1 - 1))) else (if x1 = 5 then (none, T.2.2.2.2.1) else (if x1 = 6 then (none, (fX3_sumOfStools T 4)) else (if x1 = 7 then (none, T.2.2.2.2.2.1) else (if x1 = 8 then (none, T.2.2.2.2.2.2.1) else (if x1 = 9 then (none, T.2.2.2.2.2.2.2) else (if x1 = 10 then (none, (fX3_sumOfStools T 2)) else (if x1 = 11 then (none, Xt.2.2.1) else (if x1 = 12 then (none, Hs.2) else (some "java/lang/IllegalArgumentException", 0))))))))))))))
abbrev rmX5_account : Room := { frames := 6, cells := 1, slots := 6, locals := 82 }
set_option maxHeartbeats 4000000 in
set_option maxRecDepth 100000 in
theorem kX5_account (l : Launch) (D : va_G) (cI cC cT : ClassId) (x ot ou ov oh ox oy ot1 ot2 rr ox1 ox2 : Nat) (S : CV) (T : TV) (Hs : HV) (Xt : XV) (x1 : Int32) (hst : l.stackTraces = false) : mX l D (TY cI cC cT) yX5_account wsX5_account rmX5_account [.ref x, .int x1] (w5 x ot ou ov oh ox oy S ++ w3 cI ot ot1 ot2 T ++ w1 oh rr Hs ++ w4 cI cC ox ox1 ox2 Xt) ((fX5_account S T Hs Xt x1).1) (some (.int (fX5_account S T Hs Xt x1).2)) (w5 x ot ou ov oh ox oy S ++ w3 cI ot ot1 ot2 T ++ w1 oh rr Hs ++ w4 cI cC ox ox1 ox2 Xt) 1 := by
  refine mX.ofW (cc := cX5_account) (maxL := 2) (ret := (some .int)) (by decide) rfl (Nat.le_of_ble_eq_true rfl) ?_
  intro p e s m args below meth c Q ls A hx hb hml hr hlk hts hown hP hK hD hS hl hXE htb hQ hQx
  have hown : s.vm.findClass RX5 = some m.cls := hown
  have hP : va_P D vwCl (w5 x ot ou ov oh ox oy S ++ w3 cI ot ot1 ot2 T ++ w1 oh rr Hs ++ w4 cI cC ox ox1 ox2 Xt) s.heap := hP
  have hD : va_D A (w5 x ot ou ov oh ox oy S ++ w3 cI ot ot1 ot2 T ++ w1 oh rr Hs ++ w4 cI cC ox ox1 ox2 Xt) := hD
  have hl : lv_has ls 2 [(0, .ref x), (1, .int x1)] := hl
  have q0 := hts (Cond.fieldLink RX5 10 "TavernStools" "tavern" "LTavernStools$Tavern;") (by decide +kernel)
  have q1 : ∀ w ∈ u_ws RX5 TX5 10, w ∈ wsX5_account := by decide +kernel
  have q2 := hts (Cond.fieldLink RX5 124 "TavernStools$Tavern" "stools" "I") (by decide +kernel)
  have q3 : ∀ w ∈ u_ws RX3 TX3 8, w ∈ wsX5_account := by decide +kernel
  have q4 := hts (Cond.fieldLink RX5 249 "TavernStools$Tavern" "sitters" "I") (by decide +kernel)
  have q5 := hts (Cond.fieldLink RX5 258 "TavernStools$Tavern" "purse" "I") (by decide +kernel)
  have q6 := hts (Cond.fieldLink RX5 261 "TavernStools$Tavern" "nights" "I") (by decide +kernel)
  have q7 := hts (Cond.fieldLink RX5 264 "TavernStools$Tavern" "brawls" "I") (by decide +kernel)
  have q8 := hts (Cond.fieldLink RX5 267 "TavernStools$Tavern" "brought" "I") (by decide +kernel)
  have q9 := hts (Cond.fieldLink RX5 32 "TavernStools" "text" "LTavernStools$Text;") (by decide +kernel)
  have q10 := hts (Cond.fieldLink RX5 212 "TavernStools$Text" "length" "I") (by decide +kernel)
  have q11 : ∀ w ∈ u_ws RX4 TX4 5, w ∈ wsX5_account := by decide +kernel
  have q12 := hts (Cond.fieldLink RX5 25 "TavernStools" "history" "LTavernStools$History;") (by decide +kernel)
  have q13 := hts (Cond.fieldLink RX5 270 "TavernStools$History" "kept" "I") (by decide +kernel)
  have q14 : ∀ w ∈ u_ws RX1 TX1 3, w ∈ wsX5_account := by decide +kernel
  generalize hHe : s.heap = H at hP ⊢
  have hS : va_S A s.heap H [] := hHe ▸ hS
  generalize hLe : ([] : List Loc) = locs at hS ⊢
  refine lv_iload_n hx hb dX5_account_0 rfl (lv_at hl 1 rfl) ?_
  by_cases c_1_0 : x1 = 0
  · refine lv_tableIn (off := 67) (tgt := 68) hx hb dX5_account_1 (by rw [c_1_0]; decide) (by rw [c_1_0]; decide) (by rw [c_1_0]; rfl) (by decide) ?_
    refine lv_aload_n hx hb dX5_account_68 rfl (lv_at hl 0 rfl) ?_
    refine va_get (D := D) (ci := 6) (v := .ref ot) (C := RX5) (T := TX5) (N := 10) hx hb hts q1 hown hK hP 0 rfl rfl 0 (by decide) q0 (fun _ h9 => h9) rfl dX5_account_69 ?_
    refine va_get (D := D) (ci := 4) (v := .int T.2.2.1) (C := RX3) (T := TX3) (N := 8) hx hb hts q3 hown hK hP 1 rfl rfl 2 (by decide) q2 (fun _ h9 => h9) rfl dX5_account_72 ?_
    have e9 : fX5_account S T Hs Xt x1 = (none, T.2.2.1) := by rw [fX5_account, if_pos c_1_0]
    exact rXi hx hb hr hlk hQ hP hS (by rw [e9]) (by rw [e9]) rfl rfl ⟨Nat.le_of_ble_eq_true rfl, Nat.le_of_ble_eq_true rfl⟩ dX5_account_75
  · skip
    by_cases c_1_1 : x1 = 1
    · refine lv_tableIn (off := 75) (tgt := 76) hx hb dX5_account_1 (by rw [c_1_1]; decide) (by rw [c_1_1]; decide) (by rw [c_1_1]; rfl) (by decide) ?_
      refine lv_aload_n hx hb dX5_account_76 rfl (lv_at hl 0 rfl) ?_
      refine va_get (D := D) (ci := 6) (v := .ref ot) (C := RX5) (T := TX5) (N := 10) hx hb hts q1 hown hK hP 0 rfl rfl 0 (by decide) q0 (fun _ h9 => h9) rfl dX5_account_77 ?_
      refine lv_iconst (v := 3) hx hb dX5_account_80 (by decide) ?_
      refine fRq (As := [.int 3]) (rest := []) (st' := [.int (fX3_sumOfStools T 3)]) ⟨hx, hb, hml, hown, hts⟩ (kX3_sumOfStools l D cI cC cT ot ot1 ot2 T 3) (cwV 1 hts gX5_account_X3_sumOfStools rfl rfl rfl (by decide +kernel) ⟨Nat.le_of_ble_eq_true rfl, Nat.le_of_ble_eq_true rfl⟩) hP hK (w5 x ot ou ov oh ox oy S ++ w1 oh rr Hs ++ w4 cI cC ox ox1 ox2 Xt : va_W) (pmI (fun a => by simp only [cntW_app, cntW_nil] <;> omega)) 1 (ci := 4) rfl rfl rfl rfl hl.1 rfl rfl (Nat.le_of_ble_eq_true rfl) ⟨Nat.le_of_ble_eq_true rfl, Nat.le_of_ble_eq_true rfl⟩ dX5_account_81 ?_
      have e9 : fX5_account S T Hs Xt x1 = (none, (fX3_sumOfStools T 3)) := by rw [fX5_account, if_neg c_1_0, if_pos c_1_1]
      exact rXi hx hb hr hlk hQ hP hS (by rw [e9]) (by rw [e9]) rfl rfl ⟨Nat.le_of_ble_eq_true rfl, Nat.le_of_ble_eq_true rfl⟩ dX5_account_84
    · skip
      by_cases c_1_2 : x1 = 2
      · refine lv_tableIn (off := 84) (tgt := 85) hx hb dX5_account_1 (by rw [c_1_2]; decide) (by rw [c_1_2]; decide) (by rw [c_1_2]; rfl) (by decide) ?_
        refine lv_aload_n hx hb dX5_account_85 rfl (lv_at hl 0 rfl) ?_
        refine va_get (D := D) (ci := 6) (v := .ref ot) (C := RX5) (T := TX5) (N := 10) hx hb hts q1 hown hK hP 0 rfl rfl 0 (by decide) q0 (fun _ h9 => h9) rfl dX5_account_86 ?_
        refine va_get (D := D) (ci := 4) (v := .int T.2.2.2.1) (C := RX3) (T := TX3) (N := 8) hx hb hts q3 hown hK hP 1 rfl rfl 3 (by decide) q4 (fun _ h9 => h9) rfl dX5_account_89 ?_
        have e9 : fX5_account S T Hs Xt x1 = (none, T.2.2.2.1) := by rw [fX5_account, if_neg c_1_0, if_neg c_1_1, if_pos c_1_2]
        exact rXi hx hb hr hlk hQ hP hS (by rw [e9]) (by rw [e9]) rfl rfl ⟨Nat.le_of_ble_eq_true rfl, Nat.le_of_ble_eq_true rfl⟩ dX5_account_92
      · skip
        by_cases c_1_3 : x1 = 3
        · refine lv_tableIn (off := 92) (tgt := 93) hx hb dX5_account_1 (by rw [c_1_3]; decide) (by rw [c_1_3]; decide) (by rw [c_1_3]; rfl) (by decide) ?_
          refine lv_aload_n hx hb dX5_account_93 rfl (lv_at hl 0 rfl) ?_
          refine va_get (D := D) (ci := 6) (v := .ref ot) (C := RX5) (T := TX5) (N := 10) hx hb hts q1 hown hK hP 0 rfl rfl 0 (by decide) q0 (fun _ h9 => h9) rfl dX5_account_94 ?_
          refine fRq (As := []) (rest := []) (st' := [.int (fX3_cats T)]) ⟨hx, hb, hml, hown, hts⟩ (kX3_cats l D cI cC cT ot ot1 ot2 T) (cwV 0 hts gX5_account_X3_cats rfl rfl rfl (by decide +kernel) ⟨Nat.le_of_ble_eq_true rfl, Nat.le_of_ble_eq_true rfl⟩) hP hK (w5 x ot ou ov oh ox oy S ++ w1 oh rr Hs ++ w4 cI cC ox ox1 ox2 Xt : va_W) (pmI (fun a => by simp only [cntW_app, cntW_nil] <;> omega)) 1 (ci := 4) rfl rfl rfl rfl hl.1 rfl rfl (Nat.le_of_ble_eq_true rfl) ⟨Nat.le_of_ble_eq_true rfl, Nat.le_of_ble_eq_true rfl⟩ dX5_account_97 ?_
          have e9 : fX5_account S T Hs Xt x1 = (none, (fX3_cats T)) := by rw [fX5_account, if_neg c_1_0, if_neg c_1_1, if_neg c_1_2, if_pos c_1_3]
          exact rXi hx hb hr hlk hQ hP hS (by rw [e9]) (by rw [e9]) rfl rfl ⟨Nat.le_of_ble_eq_true rfl, Nat.le_of_ble_eq_true rfl⟩ dX5_account_100
        · skip
          by_cases c_1_4 : x1 = 4
          · refine lv_tableIn (off := 100) (tgt := 101) hx hb dX5_account_1 (by rw [c_1_4]; decide) (by rw [c_1_4]; decide) (by rw [c_1_4]; rfl) (by decide) ?_
            refine lv_aload_n hx hb dX5_account_101 rfl (lv_at hl 0 rfl) ?_
            refine va_get (D := D) (ci := 6) (v := .ref ot) (C := RX5) (T := TX5) (N := 10) hx hb hts q1 hown hK hP 0 rfl rfl 0 (by decide) q0 (fun _ h9 => h9) rfl dX5_account_102 ?_
            refine lv_iconst (v := 0) hx hb dX5_account_105 (by decide) ?_
            refine lv_aload_n hx hb dX5_account_106 rfl (lv_at hl 0 rfl) ?_
            refine va_get (D := D) (ci := 6) (v := .ref ot) (C := RX5) (T := TX5) (N := 10) hx hb hts q1 hown hK hP 0 rfl rfl 0 (by decide) q0 (fun _ h9 => h9) rfl dX5_account_107 ?_
            refine va_get (D := D) (ci := 4) (v := .int T.2.2.1) (C := RX3) (T := TX3) (N := 8) hx hb hts q3 hown hK hP 1 rfl rfl 2 (by decide) q2 (fun _ h9 => h9) rfl dX5_account_110 ?_
            refine lv_iconst (v := 1) hx hb dX5_account_113 (by decide) ?_
            refine lv_isub hx hb dX5_account_114 ?_
            refine fRq (As := [.int 0, .int (T.2.2.1 - 1)]) (rest := []) (st' := [.int (fX3_takenStools T 0 (T.2.2.1 - 1))]) ⟨hx, hb, hml, hown, hts⟩ (kX3_takenStools l D cI cC cT ot ot1 ot2 T 0 (T.2.2.1 - 1)) (cwV 2 hts gX5_account_X3_takenStools rfl rfl rfl (by decide +kernel) ⟨Nat.le_of_ble_eq_true rfl, Nat.le_of_ble_eq_true rfl⟩) hP hK (w5 x ot ou ov oh ox oy S ++ w1 oh rr Hs ++ w4 cI cC ox ox1 ox2 Xt : va_W) (pmI (fun a => by simp only [cntW_app, cntW_nil] <;> omega)) 1 (ci := 4) rfl rfl rfl rfl hl.1 rfl rfl (Nat.le_of_ble_eq_true rfl) ⟨Nat.le_of_ble_eq_true rfl, Nat.le_of_ble_eq_true rfl⟩ dX5_account_115 ?_
            have e9 : fX5_account S T Hs Xt x1 = (none, (fX3_takenStools T 0 (T.2.2.1 - 1))) := by rw [fX5_account, if_neg c_1_0, if_neg c_1_1, if_neg c_1_2, if_neg c_1_3, if_pos c_1_4]
            exact rXi hx hb hr hlk hQ hP hS (by rw [e9]) (by rw [e9]) rfl rfl ⟨Nat.le_of_ble_eq_true rfl, Nat.le_of_ble_eq_true rfl⟩ dX5_account_118
          · skip
            by_cases c_1_5 : x1 = 5
            · refine lv_tableIn (off := 118) (tgt := 119) hx hb dX5_account_1 (by rw [c_1_5]; decide) (by rw [c_1_5]; decide) (by rw [c_1_5]; rfl) (by decide) ?_
              refine lv_aload_n hx hb dX5_account_119 rfl (lv_at hl 0 rfl) ?_
              refine va_get (D := D) (ci := 6) (v := .ref ot) (C := RX5) (T := TX5) (N := 10) hx hb hts q1 hown hK hP 0 rfl rfl 0 (by decide) q0 (fun _ h9 => h9) rfl dX5_account_120 ?_
              refine va_get (D := D) (ci := 4) (v := .int T.2.2.2.2.1) (C := RX3) (T := TX3) (N := 8) hx hb hts q3 hown hK hP 1 rfl rfl 4 (by decide) q5 (fun _ h9 => h9) rfl dX5_account_123 ?_
              have e9 : fX5_account S T Hs Xt x1 = (none, T.2.2.2.2.1) := by rw [fX5_account, if_neg c_1_0, if_neg c_1_1, if_neg c_1_2, if_neg c_1_3, if_neg c_1_4, if_pos c_1_5]
              exact rXi hx hb hr hlk hQ hP hS (by rw [e9]) (by rw [e9]) rfl rfl ⟨Nat.le_of_ble_eq_true rfl, Nat.le_of_ble_eq_true rfl⟩ dX5_account_126
            · skip
              by_cases c_1_6 : x1 = 6
              · refine lv_tableIn (off := 126) (tgt := 127) hx hb dX5_account_1 (by rw [c_1_6]; decide) (by rw [c_1_6]; decide) (by rw [c_1_6]; rfl) (by decide) ?_
                refine lv_aload_n hx hb dX5_account_127 rfl (lv_at hl 0 rfl) ?_
                refine va_get (D := D) (ci := 6) (v := .ref ot) (C := RX5) (T := TX5) (N := 10) hx hb hts q1 hown hK hP 0 rfl rfl 0 (by decide) q0 (fun _ h9 => h9) rfl dX5_account_128 ?_
                refine lv_iconst (v := 4) hx hb dX5_account_131 (by decide) ?_
                refine fRq (As := [.int 4]) (rest := []) (st' := [.int (fX3_sumOfStools T 4)]) ⟨hx, hb, hml, hown, hts⟩ (kX3_sumOfStools l D cI cC cT ot ot1 ot2 T 4) (cwV 1 hts gX5_account_X3_sumOfStools rfl rfl rfl (by decide +kernel) ⟨Nat.le_of_ble_eq_true rfl, Nat.le_of_ble_eq_true rfl⟩) hP hK (w5 x ot ou ov oh ox oy S ++ w1 oh rr Hs ++ w4 cI cC ox ox1 ox2 Xt : va_W) (pmI (fun a => by simp only [cntW_app, cntW_nil] <;> omega)) 1 (ci := 4) rfl rfl rfl rfl hl.1 rfl rfl (Nat.le_of_ble_eq_true rfl) ⟨Nat.le_of_ble_eq_true rfl, Nat.le_of_ble_eq_true rfl⟩ dX5_account_132 ?_
                have e9 : fX5_account S T Hs Xt x1 = (none, (fX3_sumOfStools T 4)) := by rw [fX5_account, if_neg c_1_0, if_neg c_1_1, if_neg c_1_2, if_neg c_1_3, if_neg c_1_4, if_neg c_1_5, if_pos c_1_6]
                exact rXi hx hb hr hlk hQ hP hS (by rw [e9]) (by rw [e9]) rfl rfl ⟨Nat.le_of_ble_eq_true rfl, Nat.le_of_ble_eq_true rfl⟩ dX5_account_135
              · skip
                by_cases c_1_7 : x1 = 7
                · refine lv_tableIn (off := 135) (tgt := 136) hx hb dX5_account_1 (by rw [c_1_7]; decide) (by rw [c_1_7]; decide) (by rw [c_1_7]; rfl) (by decide) ?_
                  refine lv_aload_n hx hb dX5_account_136 rfl (lv_at hl 0 rfl) ?_
                  refine va_get (D := D) (ci := 6) (v := .ref ot) (C := RX5) (T := TX5) (N := 10) hx hb hts q1 hown hK hP 0 rfl rfl 0 (by decide) q0 (fun _ h9 => h9) rfl dX5_account_137 ?_
                  refine va_get (D := D) (ci := 4) (v := .int T.2.2.2.2.2.1) (C := RX3) (T := TX3) (N := 8) hx hb hts q3 hown hK hP 1 rfl rfl 5 (by decide) q6 (fun _ h9 => h9) rfl dX5_account_140 ?_
                  have e9 : fX5_account S T Hs Xt x1 = (none, T.2.2.2.2.2.1) := by rw [fX5_account, if_neg c_1_0, if_neg c_1_1, if_neg c_1_2, if_neg c_1_3, if_neg c_1_4, if_neg c_1_5, if_neg c_1_6, if_pos c_1_7]
                  exact rXi hx hb hr hlk hQ hP hS (by rw [e9]) (by rw [e9]) rfl rfl ⟨Nat.le_of_ble_eq_true rfl, Nat.le_of_ble_eq_true rfl⟩ dX5_account_143
                · skip
                  by_cases c_1_8 : x1 = 8
                  · refine lv_tableIn (off := 143) (tgt := 144) hx hb dX5_account_1 (by rw [c_1_8]; decide) (by rw [c_1_8]; decide) (by rw [c_1_8]; rfl) (by decide) ?_
                    refine lv_aload_n hx hb dX5_account_144 rfl (lv_at hl 0 rfl) ?_
                    refine va_get (D := D) (ci := 6) (v := .ref ot) (C := RX5) (T := TX5) (N := 10) hx hb hts q1 hown hK hP 0 rfl rfl 0 (by decide) q0 (fun _ h9 => h9) rfl dX5_account_145 ?_
                    refine va_get (D := D) (ci := 4) (v := .int T.2.2.2.2.2.2.1) (C := RX3) (T := TX3) (N := 8) hx hb hts q3 hown hK hP 1 rfl rfl 6 (by decide) q7 (fun _ h9 => h9) rfl dX5_account_148 ?_
                    have e9 : fX5_account S T Hs Xt x1 = (none, T.2.2.2.2.2.2.1) := by rw [fX5_account, if_neg c_1_0, if_neg c_1_1, if_neg c_1_2, if_neg c_1_3, if_neg c_1_4, if_neg c_1_5, if_neg c_1_6, if_neg c_1_7, if_pos c_1_8]
                    exact rXi hx hb hr hlk hQ hP hS (by rw [e9]) (by rw [e9]) rfl rfl ⟨Nat.le_of_ble_eq_true rfl, Nat.le_of_ble_eq_true rfl⟩ dX5_account_151
                  · skip
                    by_cases c_1_9 : x1 = 9
                    · refine lv_tableIn (off := 151) (tgt := 152) hx hb dX5_account_1 (by rw [c_1_9]; decide) (by rw [c_1_9]; decide) (by rw [c_1_9]; rfl) (by decide) ?_
                      refine lv_aload_n hx hb dX5_account_152 rfl (lv_at hl 0 rfl) ?_
                      refine va_get (D := D) (ci := 6) (v := .ref ot) (C := RX5) (T := TX5) (N := 10) hx hb hts q1 hown hK hP 0 rfl rfl 0 (by decide) q0 (fun _ h9 => h9) rfl dX5_account_153 ?_
                      refine va_get (D := D) (ci := 4) (v := .int T.2.2.2.2.2.2.2) (C := RX3) (T := TX3) (N := 8) hx hb hts q3 hown hK hP 1 rfl rfl 7 (by decide) q8 (fun _ h9 => h9) rfl dX5_account_156 ?_
                      have e9 : fX5_account S T Hs Xt x1 = (none, T.2.2.2.2.2.2.2) := by rw [fX5_account, if_neg c_1_0, if_neg c_1_1, if_neg c_1_2, if_neg c_1_3, if_neg c_1_4, if_neg c_1_5, if_neg c_1_6, if_neg c_1_7, if_neg c_1_8, if_pos c_1_9]
                      exact rXi hx hb hr hlk hQ hP hS (by rw [e9]) (by rw [e9]) rfl rfl ⟨Nat.le_of_ble_eq_true rfl, Nat.le_of_ble_eq_true rfl⟩ dX5_account_159
                    · skip
                      by_cases c_1_10 : x1 = 10
                      · refine lv_tableIn (off := 159) (tgt := 160) hx hb dX5_account_1 (by rw [c_1_10]; decide) (by rw [c_1_10]; decide) (by rw [c_1_10]; rfl) (by decide) ?_
                        refine lv_aload_n hx hb dX5_account_160 rfl (lv_at hl 0 rfl) ?_
                        refine va_get (D := D) (ci := 6) (v := .ref ot) (C := RX5) (T := TX5) (N := 10) hx hb hts q1 hown hK hP 0 rfl rfl 0 (by decide) q0 (fun _ h9 => h9) rfl dX5_account_161 ?_
                        refine lv_iconst (v := 2) hx hb dX5_account_164 (by decide) ?_
                        refine fRq (As := [.int 2]) (rest := []) (st' := [.int (fX3_sumOfStools T 2)]) ⟨hx, hb, hml, hown, hts⟩ (kX3_sumOfStools l D cI cC cT ot ot1 ot2 T 2) (cwV 1 hts gX5_account_X3_sumOfStools rfl rfl rfl (by decide +kernel) ⟨Nat.le_of_ble_eq_true rfl, Nat.le_of_ble_eq_true rfl⟩) hP hK (w5 x ot ou ov oh ox oy S ++ w1 oh rr Hs ++ w4 cI cC ox ox1 ox2 Xt : va_W) (pmI (fun a => by simp only [cntW_app, cntW_nil] <;> omega)) 1 (ci := 4) rfl rfl rfl rfl hl.1 rfl rfl (Nat.le_of_ble_eq_true rfl) ⟨Nat.le_of_ble_eq_true rfl, Nat.le_of_ble_eq_true rfl⟩ dX5_account_165 ?_
                        have e9 : fX5_account S T Hs Xt x1 = (none, (fX3_sumOfStools T 2)) := by rw [fX5_account, if_neg c_1_0, if_neg c_1_1, if_neg c_1_2, if_neg c_1_3, if_neg c_1_4, if_neg c_1_5, if_neg c_1_6, if_neg c_1_7, if_neg c_1_8, if_neg c_1_9, if_pos c_1_10]
                        exact rXi hx hb hr hlk hQ hP hS (by rw [e9]) (by rw [e9]) rfl rfl ⟨Nat.le_of_ble_eq_true rfl, Nat.le_of_ble_eq_true rfl⟩ dX5_account_168
                      · skip
                        by_cases c_1_11 : x1 = 11
                        · refine lv_tableIn (off := 168) (tgt := 169) hx hb dX5_account_1 (by rw [c_1_11]; decide) (by rw [c_1_11]; decide) (by rw [c_1_11]; rfl) (by decide) ?_
                          refine lv_aload_n hx hb dX5_account_169 rfl (lv_at hl 0 rfl) ?_
                          refine va_get (D := D) (ci := 6) (v := .ref ox) (C := RX5) (T := TX5) (N := 10) hx hb hts q1 hown hK hP 0 rfl rfl 4 (by decide) q9 (fun _ h9 => h9) rfl dX5_account_170 ?_
                          refine va_get (D := D) (ci := 5) (v := .int Xt.2.2.1) (C := RX4) (T := TX4) (N := 5) hx hb hts q11 hown hK hP 5 rfl rfl 2 (by decide) q10 (fun _ h9 => h9) rfl dX5_account_173 ?_
                          have e9 : fX5_account S T Hs Xt x1 = (none, Xt.2.2.1) := by rw [fX5_account, if_neg c_1_0, if_neg c_1_1, if_neg c_1_2, if_neg c_1_3, if_neg c_1_4, if_neg c_1_5, if_neg c_1_6, if_neg c_1_7, if_neg c_1_8, if_neg c_1_9, if_neg c_1_10, if_pos c_1_11]
                          exact rXi hx hb hr hlk hQ hP hS (by rw [e9]) (by rw [e9]) rfl rfl ⟨Nat.le_of_ble_eq_true rfl, Nat.le_of_ble_eq_true rfl⟩ dX5_account_176
                        · skip
                          by_cases c_1_12 : x1 = 12
                          · refine lv_tableIn (off := 176) (tgt := 177) hx hb dX5_account_1 (by rw [c_1_12]; decide) (by rw [c_1_12]; decide) (by rw [c_1_12]; rfl) (by decide) ?_
                            refine lv_aload_n hx hb dX5_account_177 rfl (lv_at hl 0 rfl) ?_
                            refine va_get (D := D) (ci := 6) (v := .ref oh) (C := RX5) (T := TX5) (N := 10) hx hb hts q1 hown hK hP 0 rfl rfl 3 (by decide) q12 (fun _ h9 => h9) rfl dX5_account_178 ?_
                            refine va_get (D := D) (ci := 2) (v := .int Hs.2) (C := RX1) (T := TX1) (N := 3) hx hb hts q14 hown hK hP 4 rfl rfl 2 (by decide) q13 (fun _ h9 => h9) rfl dX5_account_181 ?_
                            have e9 : fX5_account S T Hs Xt x1 = (none, Hs.2) := by rw [fX5_account, if_neg c_1_0, if_neg c_1_1, if_neg c_1_2, if_neg c_1_3, if_neg c_1_4, if_neg c_1_5, if_neg c_1_6, if_neg c_1_7, if_neg c_1_8, if_neg c_1_9, if_neg c_1_10, if_neg c_1_11, if_pos c_1_12]
                            exact rXi hx hb hr hlk hQ hP hS (by rw [e9]) (by rw [e9]) rfl rfl ⟨Nat.le_of_ble_eq_true rfl, Nat.le_of_ble_eq_true rfl⟩ dX5_account_184
                          · skip
                            refine lv_tableDef (tgt := 185) [0, 1, 2, 3, 4, 5, 6, 7, 8, 9, 10, 11, 12] hx hb dX5_account_1 (by decide) (by decide) (List.forall_mem_cons.mpr ⟨tn c_1_0 (by decide), List.forall_mem_cons.mpr ⟨tn c_1_1 (by decide), List.forall_mem_cons.mpr ⟨tn c_1_2 (by decide), List.forall_mem_cons.mpr ⟨tn c_1_3 (by decide), List.forall_mem_cons.mpr ⟨tn c_1_4 (by decide), List.forall_mem_cons.mpr ⟨tn c_1_5 (by decide), List.forall_mem_cons.mpr ⟨tn c_1_6 (by decide), List.forall_mem_cons.mpr ⟨tn c_1_7 (by decide), List.forall_mem_cons.mpr ⟨tn c_1_8 (by decide), List.forall_mem_cons.mpr ⟨tn c_1_9 (by decide), List.forall_mem_cons.mpr ⟨tn c_1_10 (by decide), List.forall_mem_cons.mpr ⟨tn c_1_11 (by decide), List.forall_mem_cons.mpr ⟨tn c_1_12 (by decide), List.forall_mem_nil _⟩⟩⟩⟩⟩⟩⟩⟩⟩⟩⟩⟩⟩) (by decide) ?_
                            have e9 : fX5_account S T Hs Xt x1 = (some "java/lang/IllegalArgumentException", 0) := by rw [fX5_account, if_neg c_1_0, if_neg c_1_1, if_neg c_1_2, if_neg c_1_3, if_neg c_1_4, if_neg c_1_5, if_neg c_1_6, if_neg c_1_7, if_neg c_1_8, if_neg c_1_9, if_neg c_1_10, if_neg c_1_11, if_neg c_1_12]
                            exact rXt (ik := 86) (is := 273) (ic := 90) (cls := "java/lang/IllegalArgumentException") (text := "no such account") hx hb hst hown hlk hts hXE htb hQ hP hS (hml.trans hl.1.symm) (by decide +kernel) (by decide +kernel) (by decide +kernel) (by decide +kernel) (by decide +kernel) (by decide +kernel) xb_90_86 xg_90_86 ⟨⟨Nat.le_of_ble_eq_true rfl, Nat.le_of_ble_eq_true rfl⟩, ⟨Nat.le_of_ble_eq_true rfl, Nat.le_of_ble_eq_true rfl⟩, ⟨Nat.le_of_ble_eq_true rfl, Nat.le_of_ble_eq_true rfl⟩⟩ (by rw [e9]) rfl dX5_account_185 dX5_account_188 (Or.inr ⟨dX5_account_189, dX5_account_192, dX5_account_195⟩)
theorem xb_286_282 : ∀ w ∈ (vx_atS RX5 286 "java/lang/ArithmeticException" xSup).filter (fun w => !goodWord w), w ∈ [Cond.castable "java/lang/ArithmeticException" "java/lang/ArithmeticException", Cond.declares (Bundle.initS "java/lang/RuntimeException"), Cond.declares (Bundle.initS "java/lang/Exception"), Cond.declares (Bundle.initS "java/lang/Throwable")] := by decide +kernel
theorem xg_286_282 : ∀ w ∈ Cond.classLink RX5 282 "java/lang/ArithmeticException" :: Cond.initialized "java/lang/ArithmeticException" :: vx_atS RX5 286 "java/lang/ArithmeticException" xSup, vx_ot w = true := by decide +kernel
def fX5_meanHeight (S : CV) (T : TV)  : ((Option String) × UInt64) := (if 1 ≤ (fX3_takenStools T 0 (T.2.2.1 - 1)) then (none, (FP.ddiv (FP.i2d (fX3_sumOfTakenHeights T)) (FP.i2d (fX3_takenStools T 0 (T.2.2.1 - 1))))) else (some "java/lang/ArithmeticException", 0))
def gX5_meanHeight (S : CV) (T : TV)  : Prop := (if 1 ≤ (fX3_takenStools T 0 (T.2.2.1 - 1)) then ((vf_n64 (FP.ddiv (FP.i2d (fX3_sumOfTakenHeights T)) (FP.i2d (fX3_takenStools T 0 (T.2.2.1 - 1))))) ∧ True) else True)
abbrev rmX5_meanHeight : Room := { frames := 6, cells := 1, slots := 6, locals := 82 }
set_option maxHeartbeats 4000000 in
set_option maxRecDepth 100000 in
theorem kX5_meanHeight (l : Launch) (D : va_G) (cI cC cT : ClassId) (x ot ou ov oh ox oy ot1 ot2 : Nat) (S : CV) (T : TV)  (hst : l.stackTraces = false) (hg : gX5_meanHeight S T) : mX l D (TY cI cC cT) yX5_meanHeight wsX5_meanHeight rmX5_meanHeight [.ref x] (w5 x ot ou ov oh ox oy S ++ w3 cI ot ot1 ot2 T) ((fX5_meanHeight S T).1) (some (.double (fX5_meanHeight S T).2)) (w5 x ot ou ov oh ox oy S ++ w3 cI ot ot1 ot2 T) 1 := by
  refine mX.ofW (cc := cX5_meanHeight) (maxL := 2) (ret := (some .double)) (by decide) rfl (Nat.le_of_ble_eq_true rfl) ?_
  intro p e s m args below meth c Q ls A hx hb hml hr hlk hts hown hP hK hD hS hl hXE htb hQ hQx
  have hown : s.vm.findClass RX5 = some m.cls := hown
  have hP : va_P D vwCl (w5 x ot ou ov oh ox oy S ++ w3 cI ot ot1 ot2 T) s.heap := hP
  have hD : va_D A (w5 x ot ou ov oh ox oy S ++ w3 cI ot ot1 ot2 T) := hD
  have hl : lv_has ls 2 [(0, .ref x)] := hl
  have q0 := hts (Cond.fieldLink RX5 10 "TavernStools" "tavern" "LTavernStools$Tavern;") (by decide +kernel)
  have q1 : ∀ w ∈ u_ws RX5 TX5 10, w ∈ wsX5_meanHeight := by decide +kernel
  have q2 := hts (Cond.fieldLink RX5 124 "TavernStools$Tavern" "stools" "I") (by decide +kernel)
  have q3 : ∀ w ∈ u_ws RX3 TX3 8, w ∈ wsX5_meanHeight := by decide +kernel
  unfold gX5_meanHeight at hg
  generalize hHe : s.heap = H at hP ⊢
  have hS : va_S A s.heap H [] := hHe ▸ hS
  generalize hLe : ([] : List Loc) = locs at hS ⊢
  refine lv_aload_n hx hb dX5_meanHeight_0 rfl (lv_at hl 0 rfl) ?_
  refine va_get (D := D) (ci := 6) (v := .ref ot) (C := RX5) (T := TX5) (N := 10) hx hb hts q1 hown hK hP 0 rfl rfl 0 (by decide) q0 (fun _ h9 => h9) rfl dX5_meanHeight_1 ?_
  refine lv_iconst (v := 0) hx hb dX5_meanHeight_4 (by decide) ?_
  refine lv_aload_n hx hb dX5_meanHeight_5 rfl (lv_at hl 0 rfl) ?_
  refine va_get (D := D) (ci := 6) (v := .ref ot) (C := RX5) (T := TX5) (N := 10) hx hb hts q1 hown hK hP 0 rfl rfl 0 (by decide) q0 (fun _ h9 => h9) rfl dX5_meanHeight_6 ?_
  refine va_get (D := D) (ci := 4) (v := .int T.2.2.1) (C := RX3) (T := TX3) (N := 8) hx hb hts q3 hown hK hP 1 rfl rfl 2 (by decide) q2 (fun _ h9 => h9) rfl dX5_meanHeight_9 ?_
  refine lv_iconst (v := 1) hx hb dX5_meanHeight_12 (by decide) ?_
  refine lv_isub hx hb dX5_meanHeight_13 ?_
  refine fRq (As := [.int 0, .int (T.2.2.1 - 1)]) (rest := []) (st' := [.int (fX3_takenStools T 0 (T.2.2.1 - 1))]) ⟨hx, hb, hml, hown, hts⟩ (kX3_takenStools l D cI cC cT ot ot1 ot2 T 0 (T.2.2.1 - 1)) (cwV 2 hts gX5_meanHeight_X3_takenStools rfl rfl rfl (by decide +kernel) ⟨Nat.le_of_ble_eq_true rfl, Nat.le_of_ble_eq_true rfl⟩) hP hK (w5 x ot ou ov oh ox oy S : va_W) (pmI (fun a => by simp only [cntW_app, cntW_nil] <;> omega)) 1 (ci := 4) rfl rfl rfl rfl hl.1 rfl rfl (Nat.le_of_ble_eq_true rfl) ⟨Nat.le_of_ble_eq_true rfl, Nat.le_of_ble_eq_true rfl⟩ dX5_meanHeight_14 ?_
  refine lv_istore_n (lv' := [(1, .int (fX3_takenStools T 0 (T.2.2.1 - 1))), (0, .ref x)]) hx hb dX5_meanHeight_17 rfl hl (by decide) rfl (fun ls hl => ?_)
  refine lv_iload_n hx hb dX5_meanHeight_18 rfl (lv_at hl 0 rfl) ?_
  refine lv_iconst (v := 1) hx hb dX5_meanHeight_19 (by decide) ?_
  refine lv_icmp_ge (tgt := 34) hx hb dX5_meanHeight_20 (by decide) (fun c_20_1 => ?_) (fun c_20_1 => ?_)
  · rw [if_pos c_20_1] at hg
    refine lv_aload_n hx hb dX5_meanHeight_34 rfl (lv_at hl 1 rfl) ?_
    refine va_get (D := D) (ci := 6) (v := .ref ot) (C := RX5) (T := TX5) (N := 10) hx hb hts q1 hown hK hP 0 rfl rfl 0 (by decide) q0 (fun _ h9 => h9) rfl dX5_meanHeight_35 ?_
    refine fRq (As := []) (rest := []) (st' := [.int (fX3_sumOfTakenHeights T)]) ⟨hx, hb, hml, hown, hts⟩ (kX3_sumOfTakenHeights l D cI cC cT ot ot1 ot2 T) (cwV 0 hts gX5_meanHeight_X3_sumOfTakenHeights rfl rfl rfl (by decide +kernel) ⟨Nat.le_of_ble_eq_true rfl, Nat.le_of_ble_eq_true rfl⟩) hP hK (w5 x ot ou ov oh ox oy S : va_W) (pmI (fun a => by simp only [cntW_app, cntW_nil] <;> omega)) 1 (ci := 4) rfl rfl rfl rfl hl.1 rfl rfl (Nat.le_of_ble_eq_true rfl) ⟨Nat.le_of_ble_eq_true rfl, Nat.le_of_ble_eq_true rfl⟩ dX5_meanHeight_38 ?_
    refine lv_i2d hx hb dX5_meanHeight_41 ?_
    refine lv_iload_n hx hb dX5_meanHeight_42 rfl (lv_at hl 0 rfl) ?_
    refine lv_i2d hx hb dX5_meanHeight_43 ?_
    obtain ⟨o1, hg⟩ := hg
    refine lv_ddiv hx hb dX5_meanHeight_44 o1 ?_
    have e9 : fX5_meanHeight S T = (none, (FP.ddiv (FP.i2d (fX3_sumOfTakenHeights T)) (FP.i2d (fX3_takenStools T 0 (T.2.2.1 - 1))))) := by rw [fX5_meanHeight, if_pos c_20_1]
    exact rXd hx hb hr hlk hQ hP hS (by rw [e9]) (by rw [e9]) rfl ⟨Nat.le_of_ble_eq_true rfl, Nat.le_of_ble_eq_true rfl⟩ dX5_meanHeight_45
  · rw [if_neg c_20_1] at hg
    have e9 : fX5_meanHeight S T = (some "java/lang/ArithmeticException", 0) := by rw [fX5_meanHeight, if_neg c_20_1]
    exact rXt (ik := 282) (is := 284) (ic := 286) (cls := "java/lang/ArithmeticException") (text := "nobody sits") hx hb hst hown hlk hts hXE htb hQ hP hS (hml.trans hl.1.symm) (by decide +kernel) (by decide +kernel) (by decide +kernel) (by decide +kernel) (by decide +kernel) (by decide +kernel) xb_286_282 xg_286_282 ⟨⟨Nat.le_of_ble_eq_true rfl, Nat.le_of_ble_eq_true rfl⟩, ⟨Nat.le_of_ble_eq_true rfl, Nat.le_of_ble_eq_true rfl⟩, ⟨Nat.le_of_ble_eq_true rfl, Nat.le_of_ble_eq_true rfl⟩⟩ (by rw [e9]) rfl dX5_meanHeight_23 dX5_meanHeight_26 (Or.inr ⟨dX5_meanHeight_27, dX5_meanHeight_30, dX5_meanHeight_33⟩)
def fX5_undo (S : CV) (T : TV) (Hs : HV) (G : (Nat → TV))  : ((Option String) × Int32 × TV × HV) := (if 1 ≤ Hs.2 then (none, (fX1_stepBack Hs G T).1.2, (fX1_stepBack Hs G T).2, (fX1_stepBack Hs G T).1) else (some "java/lang/IllegalStateException", 0, T, Hs))
abbrev rmX5_undo : Room := { frames := 6, cells := 1, slots := 6, locals := 128 }
set_option maxHeartbeats 4000000 in
set_option maxRecDepth 100000 in
theorem kX5_undo (l : Launch) (D : va_G) (cI cC cT : ClassId) (x ot ou ov oh ox oy ot1 ot2 rr : Nat) (ra rb rc : Nat → Nat) (S : CV) (T : TV) (Hs : HV) (G : (Nat → TV))  (hst : l.stackTraces = false) (hn : ∃ j : Nat, j < 9 ∧ Hs.1 = nI j) : mX l D (TY cI cC cT) yX5_undo wsX5_undo rmX5_undo [.ref x] (w5 x ot ou ov oh ox oy S ++ w3 cI ot ot1 ot2 T ++ w1 oh rr Hs ++ wR cI cT rr ra rb rc G) ((fX5_undo S T Hs G).1) (some (.int (fX5_undo S T Hs G).2.1)) (w5 x ot ou ov oh ox oy S ++ w3 cI ot ot1 ot2 (fX5_undo S T Hs G).2.2.1 ++ w1 oh rr (fX5_undo S T Hs G).2.2.2 ++ wR cI cT rr ra rb rc G) 1 := by
  refine mX.ofW (cc := cX5_undo) (maxL := 1) (ret := (some .int)) (by decide) rfl (Nat.le_of_ble_eq_true rfl) ?_
  intro p e s m args below meth c Q ls A hx hb hml hr hlk hts hown hP hK hD hS hl hXE htb hQ hQx
  have hown : s.vm.findClass RX5 = some m.cls := hown
  have hP : va_P D vwCl (w5 x ot ou ov oh ox oy S ++ w3 cI ot ot1 ot2 T ++ w1 oh rr Hs ++ wR cI cT rr ra rb rc G) s.heap := hP
  have hD : va_D A (w5 x ot ou ov oh ox oy S ++ w3 cI ot ot1 ot2 T ++ w1 oh rr Hs ++ wR cI cT rr ra rb rc G) := hD
  have hl : lv_has ls 1 [(0, .ref x)] := hl
  have q0 := hts (Cond.fieldLink RX5 25 "TavernStools" "history" "LTavernStools$History;") (by decide +kernel)
  have q1 : ∀ w ∈ u_ws RX5 TX5 10, w ∈ wsX5_undo := by decide +kernel
  have q2 := hts (Cond.fieldLink RX5 270 "TavernStools$History" "kept" "I") (by decide +kernel)
  have q3 : ∀ w ∈ u_ws RX1 TX1 3, w ∈ wsX5_undo := by decide +kernel
  have q4 := hts (Cond.fieldLink RX5 10 "TavernStools" "tavern" "LTavernStools$Tavern;") (by decide +kernel)
  generalize hHe : s.heap = H at hP ⊢
  have hS : va_S A s.heap H [] := hHe ▸ hS
  generalize hLe : ([] : List Loc) = locs at hS ⊢
  refine lv_aload_n hx hb dX5_undo_0 rfl (lv_at hl 0 rfl) ?_
  refine va_get (D := D) (ci := 6) (v := .ref oh) (C := RX5) (T := TX5) (N := 10) hx hb hts q1 hown hK hP 0 rfl rfl 3 (by decide) q0 (fun _ h9 => h9) rfl dX5_undo_1 ?_
  refine va_get (D := D) (ci := 2) (v := .int Hs.2) (C := RX1) (T := TX1) (N := 3) hx hb hts q3 hown hK hP 4 rfl rfl 2 (by decide) q2 (fun _ h9 => h9) rfl dX5_undo_4 ?_
  refine lv_iconst (v := 1) hx hb dX5_undo_7 (by decide) ?_
  refine lv_icmp_ge (tgt := 22) hx hb dX5_undo_8 (by decide) (fun c_8 => ?_) (fun c_8 => ?_)
  · refine lv_aload_n hx hb dX5_undo_22 rfl (lv_at hl 0 rfl) ?_
    refine va_get (D := D) (ci := 6) (v := .ref oh) (C := RX5) (T := TX5) (N := 10) hx hb hts q1 hown hK hP 0 rfl rfl 3 (by decide) q0 (fun _ h9 => h9) rfl dX5_undo_23 ?_
    refine lv_aload_n hx hb dX5_undo_26 rfl (lv_at hl 0 rfl) ?_
    refine va_get (D := D) (ci := 6) (v := .ref ot) (C := RX5) (T := TX5) (N := 10) hx hb hts q1 hown hK hP 0 rfl rfl 0 (by decide) q4 (fun _ h9 => h9) rfl dX5_undo_27 ?_
    obtain ⟨n1, en1⟩ : ∃ z9, z9 = (fX1_stepBack Hs G T) := ⟨_, rfl⟩
    have k9 := (kX1_stepBack l D cI cC cT oh rr ot ot1 ot2 ra rb rc Hs G T hn)
    rw [← en1] at k9
    refine fUq (As := [.ref ot]) (rest := []) (st' := []) ⟨hx, hb, hml, hown, hts⟩ k9 (cwV 1 hts gX5_undo_X1_stepBack rfl rfl rfl (by decide +kernel) ⟨Nat.le_of_ble_eq_true rfl, Nat.le_of_ble_eq_true rfl⟩) hP hK hD hS (w5 x ot ou ov oh ox oy S : va_W) (pmI (fun a => by simp only [cntW_app, cntW_nil] <;> omega)) (w5 x ot ou ov oh ox oy S ++ w3 cI ot ot1 ot2 n1.2 ++ w1 oh rr n1.1 ++ wR cI cT rr ra rb rc G) (pmI (fun a => by simp only [cntW_app, cntW_nil] <;> omega)) rfl 4 (ci := 2) rfl rfl rfl rfl hl.1 rfl rfl (Nat.le_of_ble_eq_true rfl) ⟨Nat.le_of_ble_eq_true rfl, Nat.le_of_ble_eq_true rfl⟩ dX5_undo_30 (fun H locs hP hD hS => ?_)
    refine lv_aload_n hx hb dX5_undo_33 rfl (lv_at hl 0 rfl) ?_
    refine va_get (D := D) (ci := 6) (v := .ref oh) (C := RX5) (T := TX5) (N := 10) hx hb hts q1 hown hK hP 0 rfl rfl 3 (by decide) q0 (fun _ h9 => h9) rfl dX5_undo_34 ?_
    refine va_get (D := D) (ci := 2) (v := .int n1.1.2) (C := RX1) (T := TX1) (N := 3) hx hb hts q3 hown hK hP 4 rfl rfl 2 (by decide) q2 (fun _ h9 => h9) rfl dX5_undo_37 ?_
    have e9 : fX5_undo S T Hs G = (none, n1.1.2, n1.2, n1.1) := by rw [fX5_undo, if_pos c_8, ← en1]
    exact rXi hx hb hr hlk hQ hP hS (by rw [e9]) (by rw [e9]) (congrArg (fun z9 : ((Option String) × Int32 × TV × HV) => (w5 x ot ou ov oh ox oy S ++ w3 cI ot ot1 ot2 z9.2.2.1 ++ w1 oh rr z9.2.2.2 ++ wR cI cT rr ra rb rc G : va_W)) e9).symm rfl ⟨Nat.le_of_ble_eq_true rfl, Nat.le_of_ble_eq_true rfl⟩ dX5_undo_40
  · have e9 : fX5_undo S T Hs G = (some "java/lang/IllegalStateException", 0, T, Hs) := by rw [fX5_undo, if_neg c_8]
    exact rXt (ik := 213) (is := 290) (ic := 217) (cls := "java/lang/IllegalStateException") (text := "no change can be undone") hx hb hst hown hlk hts hXE htb hQ hP hS (hml.trans hl.1.symm) (by decide +kernel) (by decide +kernel) (by decide +kernel) (by decide +kernel) (by decide +kernel) (by decide +kernel) xb_217_213 xg_217_213 ⟨⟨Nat.le_of_ble_eq_true rfl, Nat.le_of_ble_eq_true rfl⟩, ⟨Nat.le_of_ble_eq_true rfl, Nat.le_of_ble_eq_true rfl⟩, ⟨Nat.le_of_ble_eq_true rfl, Nat.le_of_ble_eq_true rfl⟩⟩ (by rw [e9]) (congrArg (fun z9 : ((Option String) × Int32 × TV × HV) => (w5 x ot ou ov oh ox oy S ++ w3 cI ot ot1 ot2 z9.2.2.1 ++ w1 oh rr z9.2.2.2 ++ wR cI cT rr ra rb rc G : va_W)) e9).symm dX5_undo_11 dX5_undo_14 (Or.inr ⟨dX5_undo_15, dX5_undo_18, dX5_undo_21⟩)
def fX5_restore (S : CV) (T : TV) (Sn : TV) (Hs : HV)  : ((Option String) × Int32 × TV × HV) := (if S.1 = 0 then (some "java/lang/IllegalStateException", 0, T, Hs) else (none, (fX3_copy T Sn).2.2.2.1, (fX3_copy T Sn), (fX1_forget Hs)))
abbrev rmX5_restore : Room := { frames := 6, cells := 1, slots := 6, locals := 85 }
set_option maxHeartbeats 4000000 in
set_option maxRecDepth 100000 in
theorem kX5_restore (l : Launch) (D : va_G) (cI cC cT : ClassId) (x ot ou ov oh ox oy ot1 ot2 ov1 ov2 rr : Nat) (S : CV) (T : TV) (Sn : TV) (Hs : HV)  (hst : l.stackTraces = false) : mX l D (TY cI cC cT) yX5_restore wsX5_restore rmX5_restore [.ref x] (w5 x ot ou ov oh ox oy S ++ w3 cI ot ot1 ot2 T ++ w3 cI ov ov1 ov2 Sn ++ w1 oh rr Hs) ((fX5_restore S T Sn Hs).1) (some (.int (fX5_restore S T Sn Hs).2.1)) (w5 x ot ou ov oh ox oy S ++ w3 cI ot ot1 ot2 (fX5_restore S T Sn Hs).2.2.1 ++ w3 cI ov ov1 ov2 Sn ++ w1 oh rr (fX5_restore S T Sn Hs).2.2.2) 1 := by
  refine mX.ofW (cc := cX5_restore) (maxL := 1) (ret := (some .int)) (by decide) rfl (Nat.le_of_ble_eq_true rfl) ?_
  intro p e s m args below meth c Q ls A hx hb hml hr hlk hts hown hP hK hD hS hl hXE htb hQ hQx
  have hown : s.vm.findClass RX5 = some m.cls := hown
  have hP : va_P D vwCl (w5 x ot ou ov oh ox oy S ++ w3 cI ot ot1 ot2 T ++ w3 cI ov ov1 ov2 Sn ++ w1 oh rr Hs) s.heap := hP
  have hD : va_D A (w5 x ot ou ov oh ox oy S ++ w3 cI ot ot1 ot2 T ++ w3 cI ov ov1 ov2 Sn ++ w1 oh rr Hs) := hD
  have hl : lv_has ls 1 [(0, .ref x)] := hl
  have q0 := hts (Cond.fieldLink RX5 43 "TavernStools" "hasSnapshot" "Z") (by decide +kernel)
  have q1 : ∀ w ∈ u_ws RX5 TX5 10, w ∈ wsX5_restore := by decide +kernel
  have q2 := hts (Cond.fieldLink RX5 10 "TavernStools" "tavern" "LTavernStools$Tavern;") (by decide +kernel)
  have q3 := hts (Cond.fieldLink RX5 19 "TavernStools" "snapshot" "LTavernStools$Tavern;") (by decide +kernel)
  have q4 := hts (Cond.fieldLink RX5 25 "TavernStools" "history" "LTavernStools$History;") (by decide +kernel)
  have q5 := hts (Cond.fieldLink RX5 249 "TavernStools$Tavern" "sitters" "I") (by decide +kernel)
  have q6 : ∀ w ∈ u_ws RX3 TX3 8, w ∈ wsX5_restore := by decide +kernel
  generalize hHe : s.heap = H at hP ⊢
  have hS : va_S A s.heap H [] := hHe ▸ hS
  generalize hLe : ([] : List Loc) = locs at hS ⊢
  refine lv_aload_n hx hb dX5_restore_0 rfl (lv_at hl 0 rfl) ?_
  refine va_get (D := D) (ci := 6) (v := .int S.1) (C := RX5) (T := TX5) (N := 10) hx hb hts q1 hown hK hP 0 rfl rfl 6 (by decide) q0 (fun _ h9 => h9) rfl dX5_restore_1 ?_
  refine lv_if_ne (tgt := 18) hx hb dX5_restore_4 (by decide) (fun c_4 => ?_) (fun c_4 => ?_)
  · refine lv_aload_n hx hb dX5_restore_18 rfl (lv_at hl 0 rfl) ?_
    refine va_get (D := D) (ci := 6) (v := .ref ot) (C := RX5) (T := TX5) (N := 10) hx hb hts q1 hown hK hP 0 rfl rfl 0 (by decide) q2 (fun _ h9 => h9) rfl dX5_restore_19 ?_
    refine lv_aload_n hx hb dX5_restore_22 rfl (lv_at hl 0 rfl) ?_
    refine va_get (D := D) (ci := 6) (v := .ref ov) (C := RX5) (T := TX5) (N := 10) hx hb hts q1 hown hK hP 0 rfl rfl 2 (by decide) q3 (fun _ h9 => h9) rfl dX5_restore_23 ?_
    obtain ⟨n1, en1⟩ : ∃ z9, z9 = (fX3_copy T Sn) := ⟨_, rfl⟩
    have k9 := (kX3_copy l D cI cC cT ot ot1 ot2 ov ov1 ov2 T Sn)
    rw [← en1] at k9
    refine fUq (As := [.ref ov]) (rest := []) (st' := []) ⟨hx, hb, hml, hown, hts⟩ k9 (cwV 1 hts gX5_restore_X3_copy rfl rfl rfl (by decide +kernel) ⟨Nat.le_of_ble_eq_true rfl, Nat.le_of_ble_eq_true rfl⟩) hP hK hD hS (w5 x ot ou ov oh ox oy S ++ w1 oh rr Hs : va_W) (pmI (fun a => by simp only [cntW_app, cntW_nil] <;> omega)) (w5 x ot ou ov oh ox oy S ++ w3 cI ot ot1 ot2 n1 ++ w3 cI ov ov1 ov2 Sn ++ w1 oh rr Hs) (pmI (fun a => by simp only [cntW_app, cntW_nil] <;> omega)) rfl 1 (ci := 4) rfl rfl rfl rfl hl.1 rfl rfl (Nat.le_of_ble_eq_true rfl) ⟨Nat.le_of_ble_eq_true rfl, Nat.le_of_ble_eq_true rfl⟩ dX5_restore_26 (fun H locs hP hD hS => ?_)
    refine lv_aload_n hx hb dX5_restore_29 rfl (lv_at hl 0 rfl) ?_
    refine va_get (D := D) (ci := 6) (v := .ref oh) (C := RX5) (T := TX5) (N := 10) hx hb hts q1 hown hK hP 0 rfl rfl 3 (by decide) q4 (fun _ h9 => h9) rfl dX5_restore_30 ?_
    obtain ⟨n2, en2⟩ : ∃ z9, z9 = (fX1_forget Hs) := ⟨_, rfl⟩
    have k9 := (kX1_forget l D cI cC cT oh rr Hs)
    rw [← en2] at k9
    refine fUq (As := []) (rest := []) (st' := []) ⟨hx, hb, hml, hown, hts⟩ k9 (cwV 0 hts gX5_restore_X1_forget rfl rfl rfl (by decide +kernel) ⟨Nat.le_of_ble_eq_true rfl, Nat.le_of_ble_eq_true rfl⟩) hP hK hD hS (w5 x ot ou ov oh ox oy S ++ w3 cI ot ot1 ot2 n1 ++ w3 cI ov ov1 ov2 Sn : va_W) (pmI (fun a => by simp only [cntW_app, cntW_nil] <;> omega)) (w5 x ot ou ov oh ox oy S ++ w3 cI ot ot1 ot2 n1 ++ w3 cI ov ov1 ov2 Sn ++ w1 oh rr n2) (pmI (fun a => by simp only [cntW_app, cntW_nil] <;> omega)) rfl 7 (ci := 2) rfl rfl rfl rfl hl.1 rfl rfl (Nat.le_of_ble_eq_true rfl) ⟨Nat.le_of_ble_eq_true rfl, Nat.le_of_ble_eq_true rfl⟩ dX5_restore_33 (fun H locs hP hD hS => ?_)
    refine lv_aload_n hx hb dX5_restore_36 rfl (lv_at hl 0 rfl) ?_
    refine va_get (D := D) (ci := 6) (v := .ref ot) (C := RX5) (T := TX5) (N := 10) hx hb hts q1 hown hK hP 0 rfl rfl 0 (by decide) q2 (fun _ h9 => h9) rfl dX5_restore_37 ?_
    refine va_get (D := D) (ci := 4) (v := .int n1.2.2.2.1) (C := RX3) (T := TX3) (N := 8) hx hb hts q6 hown hK hP 1 rfl rfl 3 (by decide) q5 (fun _ h9 => h9) rfl dX5_restore_40 ?_
    have e9 : fX5_restore S T Sn Hs = (none, n1.2.2.2.1, n1, n2) := by rw [fX5_restore, if_neg c_4, ← en1, ← en2]
    exact rXi hx hb hr hlk hQ hP hS (by rw [e9]) (by rw [e9]) (congrArg (fun z9 : ((Option String) × Int32 × TV × HV) => (w5 x ot ou ov oh ox oy S ++ w3 cI ot ot1 ot2 z9.2.2.1 ++ w3 cI ov ov1 ov2 Sn ++ w1 oh rr z9.2.2.2 : va_W)) e9).symm rfl ⟨Nat.le_of_ble_eq_true rfl, Nat.le_of_ble_eq_true rfl⟩ dX5_restore_43
  · have e9 : fX5_restore S T Sn Hs = (some "java/lang/IllegalStateException", 0, T, Hs) := by rw [fX5_restore, if_pos c_4]
    exact rXt (ik := 213) (is := 295) (ic := 217) (cls := "java/lang/IllegalStateException") (text := "there is no snapshot") hx hb hst hown hlk hts hXE htb hQ hP hS (hml.trans hl.1.symm) (by decide +kernel) (by decide +kernel) (by decide +kernel) (by decide +kernel) (by decide +kernel) (by decide +kernel) xb_217_213 xg_217_213 ⟨⟨Nat.le_of_ble_eq_true rfl, Nat.le_of_ble_eq_true rfl⟩, ⟨Nat.le_of_ble_eq_true rfl, Nat.le_of_ble_eq_true rfl⟩, ⟨Nat.le_of_ble_eq_true rfl, Nat.le_of_ble_eq_true rfl⟩⟩ (by rw [e9]) (congrArg (fun z9 : ((Option String) × Int32 × TV × HV) => (w5 x ot ou ov oh ox oy S ++ w3 cI ot ot1 ot2 z9.2.2.1 ++ w3 cI ov ov1 ov2 Sn ++ w1 oh rr z9.2.2.2 : va_W)) e9).symm dX5_restore_7 dX5_restore_10 (Or.inr ⟨dX5_restore_11, dX5_restore_14, dX5_restore_17⟩)
