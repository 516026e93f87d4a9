def fX6_carries (S : SV) (x1 : Int32) : (Int32 × SV) := (if (S.2.2.2.2.2.2.2.1 (x1).toNatClampNeg) = 98 then ((fX6_brawl S (S.2.2.2.2.2.2.2.1 ((x1 + 1)).toNatClampNeg) (S.2.2.2.2.2.2.2.1 ((x1 + 2)).toNatClampNeg)).1, (fX6_brawl S (S.2.2.2.2.2.2.2.1 ((x1 + 1)).toNatClampNeg) (S.2.2.2.2.2.2.2.1 ((x1 + 2)).toNatClampNeg)).2) else (if (S.2.2.2.2.2.2.2.1 (x1).toNatClampNeg) = 99 then ((fX6_coin S (S.2.2.2.2.2.2.2.1 ((x1 + 1)).toNatClampNeg)).1, (fX6_coin S (S.2.2.2.2.2.2.2.1 ((x1 + 1)).toNatClampNeg)).2) else (if (S.2.2.2.2.2.2.2.1 (x1).toNatClampNeg) = 103 then ((fX6_guest S (S.2.2.2.2.2.2.2.1 ((x1 + 1)).toNatClampNeg) (S.2.2.2.2.2.2.2.1 ((x1 + 2)).toNatClampNeg)).1, (fX6_guest S (S.2.2.2.2.2.2.2.1 ((x1 + 1)).toNatClampNeg) (S.2.2.2.2.2.2.2.1 ((x1 + 2)).toNatClampNeg)).2) else (if (S.2.2.2.2.2.2.2.1 (x1).toNatClampNeg) = 107 then ((fX6_cat S (S.2.2.2.2.2.2.2.1 ((x1 + 1)).toNatClampNeg)).1, (fX6_cat S (S.2.2.2.2.2.2.2.1 ((x1 + 1)).toNatClampNeg)).2) else (if (S.2.2.2.2.2.2.2.1 (x1).toNatClampNeg) = 112 then ((fX6_sit S (S.2.2.2.2.2.2.2.1 ((x1 + 1)).toNatClampNeg) (S.2.2.2.2.2.2.2.1 ((x1 + 2)).toNatClampNeg)).1, (fX6_sit S (S.2.2.2.2.2.2.2.1 ((x1 + 1)).toNatClampNeg) (S.2.2.2.2.2.2.2.1 ((x1 + 2)).toNatClampNeg)).2) else (if (S.2.2.2.2.2.2.2.1 (x1).toNatClampNeg) = 115 then (if (S.2.2.2.2.2.2.2.1 ((x1 + 4)).toNatClampNeg) = 1 then ((fX6_stool S (S.2.2.2.2.2.2.2.1 ((x1 + 1)).toNatClampNeg) (S.2.2.2.2.2.2.2.1 ((x1 + 2)).toNatClampNeg) (S.2.2.2.2.2.2.2.1 ((x1 + 3)).toNatClampNeg) 1).1, (fX6_stool S (S.2.2.2.2.2.2.2.1 ((x1 + 1)).toNatClampNeg) (S.2.2.2.2.2.2.2.1 ((x1 + 2)).toNatClampNeg) (S.2.2.2.2.2.2.2.1 ((x1 + 3)).toNatClampNeg) 1).2) else ((fX6_stool S (S.2.2.2.2.2.2.2.1 ((x1 + 1)).toNatClampNeg) (S.2.2.2.2.2.2.2.1 ((x1 + 2)).toNatClampNeg) (S.2.2.2.2.2.2.2.1 ((x1 + 3)).toNatClampNeg) 0).1, (fX6_stool S (S.2.2.2.2.2.2.2.1 ((x1 + 1)).toNatClampNeg) (S.2.2.2.2.2.2.2.1 ((x1 + 2)).toNatClampNeg) (S.2.2.2.2.2.2.2.1 ((x1 + 3)).toNatClampNeg) 0).2)) else (if (S.2.2.2.2.2.2.2.1 (x1).toNatClampNeg) = 117 then ((fX6_getUp S (S.2.2.2.2.2.2.2.1 ((x1 + 1)).toNatClampNeg)).1, (fX6_getUp S (S.2.2.2.2.2.2.2.1 ((x1 + 1)).toNatClampNeg)).2) else ((fX6_night S).1, (fX6_night S).2))))))))
def gX6_carries (S : SV) (x1 : Int32) : Prop := ((vp_in (x1 + 1) 155) ∧ (vp_in (x1 + 2) 155) ∧ (vp_in x1 155) ∧ (if (S.2.2.2.2.2.2.2.1 (x1).toNatClampNeg) = 98 then ((gX6_brawl S (S.2.2.2.2.2.2.2.1 ((x1 + 1)).toNatClampNeg) (S.2.2.2.2.2.2.2.1 ((x1 + 2)).toNatClampNeg)) ∧ True) else (if (S.2.2.2.2.2.2.2.1 (x1).toNatClampNeg) = 99 then ((gX6_coin S (S.2.2.2.2.2.2.2.1 ((x1 + 1)).toNatClampNeg)) ∧ True) else (if (S.2.2.2.2.2.2.2.1 (x1).toNatClampNeg) = 103 then ((gX6_guest S (S.2.2.2.2.2.2.2.1 ((x1 + 1)).toNatClampNeg) (S.2.2.2.2.2.2.2.1 ((x1 + 2)).toNatClampNeg)) ∧ True) else (if (S.2.2.2.2.2.2.2.1 (x1).toNatClampNeg) = 107 then ((gX6_cat S (S.2.2.2.2.2.2.2.1 ((x1 + 1)).toNatClampNeg)) ∧ True) else (if (S.2.2.2.2.2.2.2.1 (x1).toNatClampNeg) = 112 then ((gX6_sit S (S.2.2.2.2.2.2.2.1 ((x1 + 1)).toNatClampNeg) (S.2.2.2.2.2.2.2.1 ((x1 + 2)).toNatClampNeg)) ∧ True) else (if (S.2.2.2.2.2.2.2.1 (x1).toNatClampNeg) = 115 then ((vp_in (x1 + 3) 155) ∧ (vp_in (x1 + 4) 155) ∧ (if (S.2.2.2.2.2.2.2.1 ((x1 + 4)).toNatClampNeg) = 1 then ((gX6_stool S (S.2.2.2.2.2.2.2.1 ((x1 + 1)).toNatClampNeg) (S.2.2.2.2.2.2.2.1 ((x1 + 2)).toNatClampNeg) (S.2.2.2.2.2.2.2.1 ((x1 + 3)).toNatClampNeg) 1) ∧ True) else ((gX6_stool S (S.2.2.2.2.2.2.2.1 ((x1 + 1)).toNatClampNeg) (S.2.2.2.2.2.2.2.1 ((x1 + 2)).toNatClampNeg) (S.2.2.2.2.2.2.2.1 ((x1 + 3)).toNatClampNeg) 0) ∧ True))) else (if (S.2.2.2.2.2.2.2.1 (x1).toNatClampNeg) = 117 then ((gX6_getUp S (S.2.2.2.2.2.2.2.1 ((x1 + 1)).toNatClampNeg)) ∧ True) else ((gX6_night S) ∧ True)))))))))
abbrev rmX6_carries : Room := { frames := 6, cells := 0, slots := 0, locals := 139 }
set_option maxHeartbeats 4000000 in
set_option maxRecDepth 100000 in
theorem kX6_carries (l : Launch) (D : va_G) (cI cC cT : ClassId) (h a1 a2 a3 a4 a5 a6 a7 a8 : Nat) (S : SV) (x1 : Int32) (hg : gX6_carries S x1) : mU l D (TY cI cC cT) yX6_carries wsX6_carries rmX6_carries [.ref h, .int x1] (w6 cI cC h a1 a2 a3 a4 a5 a6 a7 a8 S) (some (.int (fX6_carries S x1).1)) (w6 cI cC h a1 a2 a3 a4 a5 a6 a7 a8 (fX6_carries S x1).2) := by
  refine mU.ofW (cc := cX6_carries) (maxL := 4) (ret := (some .int)) (by decide) rfl (Nat.le_of_ble_eq_true rfl) ?_
  intro p e s m args below meth c Q ls A hx hb hml hr hlk hts hown hP hK hD hS hl hQ
  have hown : s.vm.findClass RX6 = some m.cls := hown
  have hP : va_P D vwCl (w6 cI cC h a1 a2 a3 a4 a5 a6 a7 a8 S) s.heap := hP
  have hD : va_D A (w6 cI cC h a1 a2 a3 a4 a5 a6 a7 a8 S) := hD
  have hl : lv_has ls 4 [(0, .ref h), (1, .int x1)] := hl
  have q0 := hts (Cond.fieldLink RX6 36 "TavernStoolsModel" "told" "[I") (by decide +kernel)
  have q1 : ∀ w ∈ u_ws RX6 TX6 20, w ∈ wsX6_carries := by decide +kernel
  unfold gX6_carries at hg
  generalize hHe : s.heap = H at hP ⊢
  have hS : va_S A s.heap H [] := hHe ▸ hS
  generalize hLe : ([] : List Loc) = locs at hS ⊢
  refine lv_aload_n hx hb dX6_carries_0 rfl (lv_at hl 0 rfl) ?_
  refine va_get (D := D) (ci := 7) (v := .ref a8) (C := RX6) (T := TX6) (N := 20) hx hb hts q1 hown hK hP 0 rfl rfl 18 (by decide) q0 (fun _ h9 => h9) rfl dX6_carries_1 ?_
  refine lv_iload_n hx hb dX6_carries_4 rfl (lv_at hl 1 rfl) ?_
  refine lv_iconst (v := 1) hx hb dX6_carries_5 (by decide) ?_
  refine lv_iadd hx hb dX6_carries_6 ?_
  obtain ⟨o1, hg⟩ := hg
  refine va_iald hx hb hK hP 8 0 rfl rfl o1 dX6_carries_7 ?_
  refine lv_istore_n (lv' := [(2, .int (S.2.2.2.2.2.2.2.1 ((x1 + 1)).toNatClampNeg)), (0, .ref h), (1, .int x1)]) hx hb dX6_carries_8 rfl hl (by decide) rfl (fun ls hl => ?_)
  refine lv_aload_n hx hb dX6_carries_9 rfl (lv_at hl 1 rfl) ?_
  refine va_get (D := D) (ci := 7) (v := .ref a8) (C := RX6) (T := TX6) (N := 20) hx hb hts q1 hown hK hP 0 rfl rfl 18 (by decide) q0 (fun _ h9 => h9) rfl dX6_carries_10 ?_
  refine lv_iload_n hx hb dX6_carries_13 rfl (lv_at hl 2 rfl) ?_
  refine lv_iconst (v := 2) hx hb dX6_carries_14 (by decide) ?_
  refine lv_iadd hx hb dX6_carries_15 ?_
  obtain ⟨o2, hg⟩ := hg
  refine va_iald hx hb hK hP 8 0 rfl rfl o2 dX6_carries_16 ?_
  refine lv_istore_n (lv' := [(3, .int (S.2.2.2.2.2.2.2.1 ((x1 + 2)).toNatClampNeg)), (2, .int (S.2.2.2.2.2.2.2.1 ((x1 + 1)).toNatClampNeg)), (0, .ref h), (1, .int x1)]) hx hb dX6_carries_17 rfl hl (by decide) rfl (fun ls hl => ?_)
  refine lv_aload_n hx hb dX6_carries_18 rfl (lv_at hl 2 rfl) ?_
  refine va_get (D := D) (ci := 7) (v := .ref a8) (C := RX6) (T := TX6) (N := 20) hx hb hts q1 hown hK hP 0 rfl rfl 18 (by decide) q0 (fun _ h9 => h9) rfl dX6_carries_19 ?_
  refine lv_iload_n hx hb dX6_carries_22 rfl (lv_at hl 3 rfl) ?_
  obtain ⟨o3, hg⟩ := hg
  refine va_iald hx hb hK hP 8 0 rfl rfl o3 dX6_carries_23 ?_
  by_cases c_24_98 : (S.2.2.2.2.2.2.2.1 (x1).toNatClampNeg) = 98
  · refine lv_tableIn (off := 160) (tgt := 184) hx hb dX6_carries_24 (by rw [c_24_98]; decide) (by rw [c_24_98]; decide) (by rw [c_24_98]; rfl) (by decide) ?_
    rw [if_pos c_24_98] at hg
    refine lv_aload_n hx hb dX6_carries_184 rfl (lv_at hl 2 rfl) ?_
    refine lv_iload_n hx hb dX6_carries_185 rfl (lv_at hl 1 rfl) ?_
    refine lv_iload_n hx hb dX6_carries_186 rfl (lv_at hl 0 rfl) ?_
    obtain ⟨n1, en1⟩ : ∃ z9, z9 = (fX6_brawl S (S.2.2.2.2.2.2.2.1 ((x1 + 1)).toNatClampNeg) (S.2.2.2.2.2.2.2.1 ((x1 + 2)).toNatClampNeg)) := ⟨_, rfl⟩
    try rw [← en1] at hg
    obtain ⟨o4, hg⟩ := hg
    have k9 := (kX6_brawl l D cI cC cT h a1 a2 a3 a4 a5 a6 a7 a8 S (S.2.2.2.2.2.2.2.1 ((x1 + 1)).toNatClampNeg) (S.2.2.2.2.2.2.2.1 ((x1 + 2)).toNatClampNeg) o4)
    rw [← en1] at k9
    refine fUV (As := [.int (S.2.2.2.2.2.2.2.1 ((x1 + 1)).toNatClampNeg), .int (S.2.2.2.2.2.2.2.1 ((x1 + 2)).toNatClampNeg)]) (rest := []) (st' := [.int n1.1]) ⟨hx, hb, hml, hown, hts⟩ k9 (cwV 2 hts gX6_carries_X6_brawl rfl rfl rfl (by decide +kernel) ⟨Nat.le_of_ble_eq_true rfl, Nat.le_of_ble_eq_true rfl⟩) hP hK hD hS [0, 1, 2, 3, 4, 5, 6, 7, 8] rfl rfl (by decide) rfl (w6 cI cC h a1 a2 a3 a4 a5 a6 a7 a8 n1.2) rfl rfl 0 (ci := 7) rfl rfl rfl rfl hl.1 rfl rfl (Nat.le_of_ble_eq_true rfl) ⟨Nat.zero_le _, Nat.zero_le _⟩ dX6_carries_187 (fun H locs hP hD hS => ?_)
    have e9 : fX6_carries S x1 = (n1.1, n1.2) := by rw [fX6_carries, if_pos c_24_98, ← en1]
    exact rUi hx hb hr hlk hQ hP hS (by rw [e9]) (congrArg (fun z9 : (Int32 × SV) => (w6 cI cC h a1 a2 a3 a4 a5 a6 a7 a8 z9.2 : va_W)) e9).symm rfl dX6_carries_190
  · rw [if_neg c_24_98] at hg
    by_cases c_24_99 : (S.2.2.2.2.2.2.2.1 (x1).toNatClampNeg) = 99
    · refine lv_tableIn (off := 154) (tgt := 178) hx hb dX6_carries_24 (by rw [c_24_99]; decide) (by rw [c_24_99]; decide) (by rw [c_24_99]; rfl) (by decide) ?_
      rw [if_pos c_24_99] at hg
      refine lv_aload_n hx hb dX6_carries_178 rfl (lv_at hl 2 rfl) ?_
      refine lv_iload_n hx hb dX6_carries_179 rfl (lv_at hl 1 rfl) ?_
      obtain ⟨n2, en2⟩ : ∃ z9, z9 = (fX6_coin S (S.2.2.2.2.2.2.2.1 ((x1 + 1)).toNatClampNeg)) := ⟨_, rfl⟩
      try rw [← en2] at hg
      obtain ⟨o5, hg⟩ := hg
      have k9 := (kX6_coin l D cI cC cT h a1 a2 a3 a4 a5 a6 a7 a8 S (S.2.2.2.2.2.2.2.1 ((x1 + 1)).toNatClampNeg) o5)
      rw [← en2] at k9
      refine fUV (As := [.int (S.2.2.2.2.2.2.2.1 ((x1 + 1)).toNatClampNeg)]) (rest := []) (st' := [.int n2.1]) ⟨hx, hb, hml, hown, hts⟩ k9 (cwV 1 hts gX6_carries_X6_coin rfl rfl rfl (by decide +kernel) ⟨Nat.le_of_ble_eq_true rfl, Nat.le_of_ble_eq_true rfl⟩) hP hK hD hS [0, 1, 2, 3, 4, 5, 6, 7, 8] rfl rfl (by decide) rfl (w6 cI cC h a1 a2 a3 a4 a5 a6 a7 a8 n2.2) rfl rfl 0 (ci := 7) rfl rfl rfl rfl hl.1 rfl rfl (Nat.le_of_ble_eq_true rfl) ⟨Nat.zero_le _, Nat.zero_le _⟩ dX6_carries_180 (fun H locs hP hD hS => ?_)
      have e9 : fX6_carries S x1 = (n2.1, n2.2) := by rw [fX6_carries, if_neg c_24_98, if_pos c_24_99, ← en2]
      exact rUi hx hb hr hlk hQ hP hS (by rw [e9]) (congrArg (fun z9 : (Int32 × SV) => (w6 cI cC h a1 a2 a3 a4 a5 a6 a7 a8 z9.2 : va_W)) e9).symm rfl dX6_carries_183
    · rw [if_neg c_24_99] at hg
      by_cases c_24_103 : (S.2.2.2.2.2.2.2.1 (x1).toNatClampNeg) = 103
      · refine lv_tableIn (off := 128) (tgt := 152) hx hb dX6_carries_24 (by rw [c_24_103]; decide) (by rw [c_24_103]; decide) (by rw [c_24_103]; rfl) (by decide) ?_
        rw [if_pos c_24_103] at hg
        refine lv_aload_n hx hb dX6_carries_152 rfl (lv_at hl 2 rfl) ?_
        refine lv_iload_n hx hb dX6_carries_153 rfl (lv_at hl 1 rfl) ?_
        refine lv_iload_n hx hb dX6_carries_154 rfl (lv_at hl 0 rfl) ?_
        obtain ⟨n3, en3⟩ : ∃ z9, z9 = (fX6_guest S (S.2.2.2.2.2.2.2.1 ((x1 + 1)).toNatClampNeg) (S.2.2.2.2.2.2.2.1 ((x1 + 2)).toNatClampNeg)) := ⟨_, rfl⟩
        try rw [← en3] at hg
        obtain ⟨o6, hg⟩ := hg
        have k9 := (kX6_guest l D cI cC cT h a1 a2 a3 a4 a5 a6 a7 a8 S (S.2.2.2.2.2.2.2.1 ((x1 + 1)).toNatClampNeg) (S.2.2.2.2.2.2.2.1 ((x1 + 2)).toNatClampNeg) o6)
        rw [← en3] at k9
        refine fUV (As := [.int (S.2.2.2.2.2.2.2.1 ((x1 + 1)).toNatClampNeg), .int (S.2.2.2.2.2.2.2.1 ((x1 + 2)).toNatClampNeg)]) (rest := []) (st' := [.int n3.1]) ⟨hx, hb, hml, hown, hts⟩ k9 (cwV 2 hts gX6_carries_X6_guest rfl rfl rfl (by decide +kernel) ⟨Nat.le_of_ble_eq_true rfl, Nat.le_of_ble_eq_true rfl⟩) hP hK hD hS [0, 1, 2, 3, 4, 5, 6, 7, 8] rfl rfl (by decide) rfl (w6 cI cC h a1 a2 a3 a4 a5 a6 a7 a8 n3.2) rfl rfl 0 (ci := 7) rfl rfl rfl rfl hl.1 rfl rfl (Nat.le_of_ble_eq_true rfl) ⟨Nat.zero_le _, Nat.zero_le _⟩ dX6_carries_155 (fun H locs hP hD hS => ?_)
        have e9 : fX6_carries S x1 = (n3.1, n3.2) := by rw [fX6_carries, if_neg c_24_98, if_neg c_24_99, if_pos c_24_103, ← en3]
        exact rUi hx hb hr hlk hQ hP hS (by rw [e9]) (congrArg (fun z9 : (Int32 × SV) => (w6 cI cC h a1 a2 a3 a4 a5 a6 a7 a8 z9.2 : va_W)) e9).symm rfl dX6_carries_158
      · rw [if_neg c_24_103] at hg
        by_cases c_24_107 : (S.2.2.2.2.2.2.2.1 (x1).toNatClampNeg) = 107
        · refine lv_tableIn (off := 135) (tgt := 159) hx hb dX6_carries_24 (by rw [c_24_107]; decide) (by rw [c_24_107]; decide) (by rw [c_24_107]; rfl) (by decide) ?_
          rw [if_pos c_24_107] at hg
          refine lv_aload_n hx hb dX6_carries_159 rfl (lv_at hl 2 rfl) ?_
          refine lv_iload_n hx hb dX6_carries_160 rfl (lv_at hl 1 rfl) ?_
          obtain ⟨n4, en4⟩ : ∃ z9, z9 = (fX6_cat S (S.2.2.2.2.2.2.2.1 ((x1 + 1)).toNatClampNeg)) := ⟨_, rfl⟩
          try rw [← en4] at hg
          obtain ⟨o7, hg⟩ := hg
          have k9 := (kX6_cat l D cI cC cT h a1 a2 a3 a4 a5 a6 a7 a8 S (S.2.2.2.2.2.2.2.1 ((x1 + 1)).toNatClampNeg) o7)
          rw [← en4] at k9
          refine fUV (As := [.int (S.2.2.2.2.2.2.2.1 ((x1 + 1)).toNatClampNeg)]) (rest := []) (st' := [.int n4.1]) ⟨hx, hb, hml, hown, hts⟩ k9 (cwV 1 hts gX6_carries_X6_cat rfl rfl rfl (by decide +kernel) ⟨Nat.le_of_ble_eq_true rfl, Nat.le_of_ble_eq_true rfl⟩) hP hK hD hS [0, 1, 2, 3, 4, 5, 6, 7, 8] rfl rfl (by decide) rfl (w6 cI cC h a1 a2 a3 a4 a5 a6 a7 a8 n4.2) rfl rfl 0 (ci := 7) rfl rfl rfl rfl hl.1 rfl rfl (Nat.le_of_ble_eq_true rfl) ⟨Nat.zero_le _, Nat.zero_le _⟩ dX6_carries_161 (fun H locs hP hD hS => ?_)
          have e9 : fX6_carries S x1 = (n4.1, n4.2) := by rw [fX6_carries, if_neg c_24_98, if_neg c_24_99, if_neg c_24_103, if_pos c_24_107, ← en4]
          exact rUi hx hb hr hlk hQ hP hS (by rw [e9]) (congrArg (fun z9 : (Int32 × SV) => (w6 cI cC h a1 a2 a3 a4 a5 a6 a7 a8 z9.2 : va_W)) e9).symm rfl dX6_carries_164
        · rw [if_neg c_24_107] at hg
          by_cases c_24_112 : (S.2.2.2.2.2.2.2.1 (x1).toNatClampNeg) = 112
          · refine lv_tableIn (off := 141) (tgt := 165) hx hb dX6_carries_24 (by rw [c_24_112]; decide) (by rw [c_24_112]; decide) (by rw [c_24_112]; rfl) (by decide) ?_
            rw [if_pos c_24_112] at hg
            refine lv_aload_n hx hb dX6_carries_165 rfl (lv_at hl 2 rfl) ?_
            refine lv_iload_n hx hb dX6_carries_166 rfl (lv_at hl 1 rfl) ?_
            refine lv_iload_n hx hb dX6_carries_167 rfl (lv_at hl 0 rfl) ?_
            obtain ⟨n5, en5⟩ : ∃ z9, z9 = (fX6_sit S (S.2.2.2.2.2.2.2.1 ((x1 + 1)).toNatClampNeg) (S.2.2.2.2.2.2.2.1 ((x1 + 2)).toNatClampNeg)) := ⟨_, rfl⟩
            try rw [← en5] at hg
            obtain ⟨o8, hg⟩ := hg
            have k9 := (kX6_sit l D cI cC cT h a1 a2 a3 a4 a5 a6 a7 a8 S (S.2.2.2.2.2.2.2.1 ((x1 + 1)).toNatClampNeg) (S.2.2.2.2.2.2.2.1 ((x1 + 2)).toNatClampNeg) o8)
            rw [← en5] at k9
            refine fUV (As := [.int (S.2.2.2.2.2.2.2.1 ((x1 + 1)).toNatClampNeg), .int (S.2.2.2.2.2.2.2.1 ((x1 + 2)).toNatClampNeg)]) (rest := []) (st' := [.int n5.1]) ⟨hx, hb, hml, hown, hts⟩ k9 (cwV 2 hts gX6_carries_X6_sit rfl rfl rfl (by decide +kernel) ⟨Nat.le_of_ble_eq_true rfl, Nat.le_of_ble_eq_true rfl⟩) hP hK hD hS [0, 1, 2, 3, 4, 5, 6, 7, 8] rfl rfl (by decide) rfl (w6 cI cC h a1 a2 a3 a4 a5 a6 a7 a8 n5.2) rfl rfl 0 (ci := 7) rfl rfl rfl rfl hl.1 rfl rfl (Nat.le_of_ble_eq_true rfl) ⟨Nat.zero_le _, Nat.zero_le _⟩ dX6_carries_168 (fun H locs hP hD hS => ?_)
            have e9 : fX6_carries S x1 = (n5.1, n5.2) := by rw [fX6_carries, if_neg c_24_98, if_neg c_24_99, if_neg c_24_103, if_neg c_24_107, if_pos c_24_112, ← en5]
            exact rUi hx hb hr hlk hQ hP hS (by rw [e9]) (congrArg (fun z9 : (Int32 × SV) => (w6 cI cC h a1 a2 a3 a4 a5 a6 a7 a8 z9.2 : va_W)) e9).symm rfl dX6_carries_171
          · rw [if_neg c_24_112] at hg
            by_cases c_24_115 : (S.2.2.2.2.2.2.2.1 (x1).toNatClampNeg) = 115
            · refine lv_tableIn (off := 96) (tgt := 120) hx hb dX6_carries_24 (by rw [c_24_115]; decide) (by rw [c_24_115]; decide) (by rw [c_24_115]; rfl) (by decide) ?_
              rw [if_pos c_24_115] at hg
              refine lv_aload_n hx hb dX6_carries_120 rfl (lv_at hl 2 rfl) ?_
              refine lv_iload_n hx hb dX6_carries_121 rfl (lv_at hl 1 rfl) ?_
              refine lv_iload_n hx hb dX6_carries_122 rfl (lv_at hl 0 rfl) ?_
              refine lv_aload_n hx hb dX6_carries_123 rfl (lv_at hl 2 rfl) ?_
              refine va_get (D := D) (ci := 7) (v := .ref a8) (C := RX6) (T := TX6) (N := 20) hx hb hts q1 hown hK hP 0 rfl rfl 18 (by decide) q0 (fun _ h9 => h9) rfl dX6_carries_124 ?_
              refine lv_iload_n hx hb dX6_carries_127 rfl (lv_at hl 3 rfl) ?_
              refine lv_iconst (v := 3) hx hb dX6_carries_128 (by decide) ?_
              refine lv_iadd hx hb dX6_carries_129 ?_
              obtain ⟨o9, hg⟩ := hg
              refine va_iald hx hb hK hP 8 0 rfl rfl o9 dX6_carries_130 ?_
              refine lv_aload_n hx hb dX6_carries_131 rfl (lv_at hl 2 rfl) ?_
              refine va_get (D := D) (ci := 7) (v := .ref a8) (C := RX6) (T := TX6) (N := 20) hx hb hts q1 hown hK hP 0 rfl rfl 18 (by decide) q0 (fun _ h9 => h9) rfl dX6_carries_132 ?_
              refine lv_iload_n hx hb dX6_carries_135 rfl (lv_at hl 3 rfl) ?_
              refine lv_iconst (v := 4) hx hb dX6_carries_136 (by decide) ?_
              refine lv_iadd hx hb dX6_carries_137 ?_
              obtain ⟨o10, hg⟩ := hg
              refine va_iald hx hb hK hP 8 0 rfl rfl o10 dX6_carries_138 ?_
              refine lv_iconst (v := 1) hx hb dX6_carries_139 (by decide) ?_
              refine lv_icmp_ne (tgt := 147) hx hb dX6_carries_140 (by decide) (fun c_140_1 => ?_) (fun c_140_1 => ?_)
              · rw [if_neg c_140_1] at hg
                refine lv_iconst (v := 0) hx hb dX6_carries_147 (by decide) ?_
                obtain ⟨n6, en6⟩ : ∃ z9, z9 = (fX6_stool S (S.2.2.2.2.2.2.2.1 ((x1 + 1)).toNatClampNeg) (S.2.2.2.2.2.2.2.1 ((x1 + 2)).toNatClampNeg) (S.2.2.2.2.2.2.2.1 ((x1 + 3)).toNatClampNeg) 0) := ⟨_, rfl⟩
                try rw [← en6] at hg
                obtain ⟨o11, hg⟩ := hg
                have k9 := (kX6_stool l D cI cC cT h a1 a2 a3 a4 a5 a6 a7 a8 S (S.2.2.2.2.2.2.2.1 ((x1 + 1)).toNatClampNeg) (S.2.2.2.2.2.2.2.1 ((x1 + 2)).toNatClampNeg) (S.2.2.2.2.2.2.2.1 ((x1 + 3)).toNatClampNeg) 0 o11)
                rw [← en6] at k9
                refine fUV (As := [.int (S.2.2.2.2.2.2.2.1 ((x1 + 1)).toNatClampNeg), .int (S.2.2.2.2.2.2.2.1 ((x1 + 2)).toNatClampNeg), .int (S.2.2.2.2.2.2.2.1 ((x1 + 3)).toNatClampNeg), .int 0]) (rest := []) (st' := [.int n6.1]) ⟨hx, hb, hml, hown, hts⟩ k9 (cwV 4 hts gX6_carries_X6_stool rfl rfl rfl (by decide +kernel) ⟨Nat.le_of_ble_eq_true rfl, Nat.le_of_ble_eq_true rfl⟩) hP hK hD hS [0, 1, 2, 3, 4, 5, 6, 7, 8] rfl rfl (by decide) rfl (w6 cI cC h a1 a2 a3 a4 a5 a6 a7 a8 n6.2) rfl rfl 0 (ci := 7) rfl rfl rfl rfl hl.1 rfl rfl (Nat.le_of_ble_eq_true rfl) ⟨Nat.zero_le _, Nat.zero_le _⟩ dX6_carries_148 (fun H locs hP hD hS => ?_)
                have e9 : fX6_carries S x1 = (n6.1, n6.2) := by rw [fX6_carries, if_neg c_24_98, if_neg c_24_99, if_neg c_24_103, if_neg c_24_107, if_neg c_24_112, if_pos c_24_115, if_neg c_140_1, ← en6]
                exact rUi hx hb hr hlk hQ hP hS (by rw [e9]) (congrArg (fun z9 : (Int32 × SV) => (w6 cI cC h a1 a2 a3 a4 a5 a6 a7 a8 z9.2 : va_W)) e9).symm rfl dX6_carries_151
              · rw [if_pos c_140_1] at hg
                refine lv_iconst (v := 1) hx hb dX6_carries_143 (by decide) ?_
                refine lv_goto (tgt := 148) hx hb dX6_carries_144 (by decide) ?_
                obtain ⟨n7, en7⟩ : ∃ z9, z9 = (fX6_stool S (S.2.2.2.2.2.2.2.1 ((x1 + 1)).toNatClampNeg) (S.2.2.2.2.2.2.2.1 ((x1 + 2)).toNatClampNeg) (S.2.2.2.2.2.2.2.1 ((x1 + 3)).toNatClampNeg) 1) := ⟨_, rfl⟩
                try rw [← en7] at hg
                obtain ⟨o12, hg⟩ := hg
                have k9 := (kX6_stool l D cI cC cT h a1 a2 a3 a4 a5 a6 a7 a8 S (S.2.2.2.2.2.2.2.1 ((x1 + 1)).toNatClampNeg) (S.2.2.2.2.2.2.2.1 ((x1 + 2)).toNatClampNeg) (S.2.2.2.2.2.2.2.1 ((x1 + 3)).toNatClampNeg) 1 o12)
                rw [← en7] at k9
                refine fUV (As := [.int (S.2.2.2.2.2.2.2.1 ((x1 + 1)).toNatClampNeg), .int (S.2.2.2.2.2.2.2.1 ((x1 + 2)).toNatClampNeg), .int (S.2.2.2.2.2.2.2.1 ((x1 + 3)).toNatClampNeg), .int 1]) (rest := []) (st' := [.int n7.1]) ⟨hx, hb, hml, hown, hts⟩ k9 (cwV 4 hts gX6_carries_X6_stool rfl rfl rfl (by decide +kernel) ⟨Nat.le_of_ble_eq_true rfl, Nat.le_of_ble_eq_true rfl⟩) hP hK hD hS [0, 1, 2, 3, 4, 5, 6, 7, 8] rfl rfl (by decide) rfl (w6 cI cC h a1 a2 a3 a4 a5 a6 a7 a8 n7.2) rfl rfl 0 (ci := 7) rfl rfl rfl rfl hl.1 rfl rfl (Nat.le_of_ble_eq_true rfl) ⟨Nat.zero_le _, Nat.zero_le _⟩ dX6_carries_148 (fun H locs hP hD hS => ?_)
                have e9 : fX6_carries S x1 = (n7.1, n7.2) := by rw [fX6_carries, if_neg c_24_98, if_neg c_24_99, if_neg c_24_103, if_neg c_24_107, if_neg c_24_112, if_pos c_24_115, if_pos c_140_1, ← en7]
                exact rUi hx hb hr hlk hQ hP hS (by rw [e9]) (congrArg (fun z9 : (Int32 × SV) => (w6 cI cC h a1 a2 a3 a4 a5 a6 a7 a8 z9.2 : va_W)) e9).symm rfl dX6_carries_151
            · rw [if_neg c_24_115] at hg
              by_cases c_24_117 : (S.2.2.2.2.2.2.2.1 (x1).toNatClampNeg) = 117
              · refine lv_tableIn (off := 148) (tgt := 172) hx hb dX6_carries_24 (by rw [c_24_117]; decide) (by rw [c_24_117]; decide) (by rw [c_24_117]; rfl) (by decide) ?_
                rw [if_pos c_24_117] at hg
                refine lv_aload_n hx hb dX6_carries_172 rfl (lv_at hl 2 rfl) ?_
                refine lv_iload_n hx hb dX6_carries_173 rfl (lv_at hl 1 rfl) ?_
                obtain ⟨n8, en8⟩ : ∃ z9, z9 = (fX6_getUp S (S.2.2.2.2.2.2.2.1 ((x1 + 1)).toNatClampNeg)) := ⟨_, rfl⟩
                try rw [← en8] at hg
                obtain ⟨o13, hg⟩ := hg
                have k9 := (kX6_getUp l D cI cC cT h a1 a2 a3 a4 a5 a6 a7 a8 S (S.2.2.2.2.2.2.2.1 ((x1 + 1)).toNatClampNeg) o13)
                rw [← en8] at k9
                refine fUV (As := [.int (S.2.2.2.2.2.2.2.1 ((x1 + 1)).toNatClampNeg)]) (rest := []) (st' := [.int n8.1]) ⟨hx, hb, hml, hown, hts⟩ k9 (cwV 1 hts gX6_carries_X6_getUp rfl rfl rfl (by decide +kernel) ⟨Nat.le_of_ble_eq_true rfl, Nat.le_of_ble_eq_true rfl⟩) hP hK hD hS [0, 1, 2, 3, 4, 5, 6, 7, 8] rfl rfl (by decide) rfl (w6 cI cC h a1 a2 a3 a4 a5 a6 a7 a8 n8.2) rfl rfl 0 (ci := 7) rfl rfl rfl rfl hl.1 rfl rfl (Nat.le_of_ble_eq_true rfl) ⟨Nat.zero_le _, Nat.zero_le _⟩ dX6_carries_174 (fun H locs hP hD hS => ?_)
                have e9 : fX6_carries S x1 = (n8.1, n8.2) := by rw [fX6_carries, if_neg c_24_98, if_neg c_24_99, if_neg c_24_103, if_neg c_24_107, if_neg c_24_112, if_neg c_24_115, if_pos c_24_117, ← en8]
                exact rUi hx hb hr hlk hQ hP hS (by rw [e9]) (congrArg (fun z9 : (Int32 × SV) => (w6 cI cC h a1 a2 a3 a4 a5 a6 a7 a8 z9.2 : va_W)) e9).symm rfl dX6_carries_177
              · rw [if_neg c_24_117] at hg
                refine lv_tableDef (tgt := 191) [0, 1, 5, 9, 14, 17, 19] hx hb dX6_carries_24 (by decide) (by decide) (List.forall_mem_cons.mpr ⟨tn c_24_98 (by decide), List.forall_mem_cons.mpr ⟨tn c_24_99 (by decide), List.forall_mem_cons.mpr ⟨tn c_24_103 (by decide), List.forall_mem_cons.mpr ⟨tn c_24_107 (by decide), List.forall_mem_cons.mpr ⟨tn c_24_112 (by decide), List.forall_mem_cons.mpr ⟨tn c_24_115 (by decide), List.forall_mem_cons.mpr ⟨tn c_24_117 (by decide), List.forall_mem_nil _⟩⟩⟩⟩⟩⟩⟩) (by decide) ?_
                refine lv_aload_n hx hb dX6_carries_191 rfl (lv_at hl 2 rfl) ?_
                obtain ⟨n9, en9⟩ : ∃ z9, z9 = (fX6_night S) := ⟨_, rfl⟩
                try rw [← en9] at hg
                obtain ⟨o14, hg⟩ := hg
                have k9 := (kX6_night l D cI cC cT h a1 a2 a3 a4 a5 a6 a7 a8 S o14)
                rw [← en9] at k9
                refine fUV (As := []) (rest := []) (st' := [.int n9.1]) ⟨hx, hb, hml, hown, hts⟩ k9 (cwV 0 hts gX6_carries_X6_night rfl rfl rfl (by decide +kernel) ⟨Nat.le_of_ble_eq_true rfl, Nat.le_of_ble_eq_true rfl⟩) hP hK hD hS [0, 1, 2, 3, 4, 5, 6, 7, 8] rfl rfl (by decide) rfl (w6 cI cC h a1 a2 a3 a4 a5 a6 a7 a8 n9.2) rfl rfl 0 (ci := 7) rfl rfl rfl rfl hl.1 rfl rfl (Nat.le_of_ble_eq_true rfl) ⟨Nat.zero_le _, Nat.zero_le _⟩ dX6_carries_192 (fun H locs hP hD hS => ?_)
                have e9 : fX6_carries S x1 = (n9.1, n9.2) := by rw [fX6_carries, if_neg c_24_98, if_neg c_24_99, if_neg c_24_103, if_neg c_24_107, if_neg c_24_112, if_neg c_24_115, if_neg c_24_117, ← en9]
                exact rUi hx hb hr hlk hQ hP hS (by rw [e9]) (congrArg (fun z9 : (Int32 × SV) => (w6 cI cC h a1 a2 a3 a4 a5 a6 a7 a8 z9.2 : va_W)) e9).symm rfl dX6_carries_195
def lX6_run_66  (v : (SV × Int32 × Int32)) : (SV × Int32 × Int32) ⊕ ((SV × Int32 × Int32)) := (if v.1.2.2.2.2.2.2.2.2.2.2.2.2.2.2.2.2.2.2.2 ≤ v.2.1 then (.inr (v.1, v.2.1, v.2.2)) else (if v.1.2.2.2.2.2.2.2.2.2.2.2.2.1 = 0 then (if (fX6_carries v.1 (5 * v.2.1)).2.2.2.2.2.2.2.2.2.2.2.2.2.1 = 0 then (.inl ((fX6_carries v.1 (5 * v.2.1)).2, (v.2.1 + 1), (fX6_carries v.1 (5 * v.2.1)).1)) else (.inl ((fX6_carries v.1 (5 * v.2.1)).2, v.2.1, (fX6_carries v.1 (5 * v.2.1)).1))) else (.inr (v.1, v.2.1, v.2.2))))
def glX6_run_66  (v : (SV × Int32 × Int32)) : Prop := (if v.1.2.2.2.2.2.2.2.2.2.2.2.2.2.2.2.2.2.2.2 ≤ v.2.1 then True else (if v.1.2.2.2.2.2.2.2.2.2.2.2.2.1 = 0 then ((gX6_carries v.1 (5 * v.2.1)) ∧ True) else True))
def fX6_run (S : SV)  : (Int32 × SV) := (if (fX6_isText S).1 = 0 then (0, (fX6_fails (sS15 0 (sS16 (fX6_isText S).2.2.2.2.2.2.2.2.2.2.2.2.2.2.2.2.2.2.2.1 (fX6_isText S).2)) 1).2) else (if (itv ((sS10 1 (sS3 (fX6_copies (fX6_fails (sS15 0 (sS16 (-1) (fX6_isText S).2)) 0).2.1 114 (fX6_fails (sS15 0 (sS16 (-1) (fX6_isText S).2)) 0).2.2.2.2.1 114 0 0) (fX6_fails (sS15 0 (sS16 (-1) (fX6_isText S).2)) 0).2)), 0, 0) lX6_run_66 ((fun v : (SV × Int32 × Int32) => (v.1.2.2.2.2.2.2.2.2.2.2.2.2.2.2.2.2.2.2.2.toInt - v.2.1.toInt).toNat) ((sS10 1 (sS3 (fX6_copies (fX6_fails (sS15 0 (sS16 (-1) (fX6_isText S).2)) 0).2.1 114 (fX6_fails (sS15 0 (sS16 (-1) (fX6_isText S).2)) 0).2.2.2.2.1 114 0 0) (fX6_fails (sS15 0 (sS16 (-1) (fX6_isText S).2)) 0).2)), 0, 0) + 1) ((sS10 1 (sS3 (fX6_copies (fX6_fails (sS15 0 (sS16 (-1) (fX6_isText S).2)) 0).2.1 114 (fX6_fails (sS15 0 (sS16 (-1) (fX6_isText S).2)) 0).2.2.2.2.1 114 0 0) (fX6_fails (sS15 0 (sS16 (-1) (fX6_isText S).2)) 0).2)), 0, 0)).1.2.2.2.2.2.2.2.2.2.2.2.2.1 ≤ 0 then ((fX6_keeps_b (sS10 0 (itv ((sS10 1 (sS3 (fX6_copies (fX6_fails (sS15 0 (sS16 (-1) (fX6_isText S).2)) 0).2.1 114 (fX6_fails (sS15 0 (sS16 (-1) (fX6_isText S).2)) 0).2.2.2.2.1 114 0 0) (fX6_fails (sS15 0 (sS16 (-1) (fX6_isText S).2)) 0).2)), 0, 0) lX6_run_66 ((fun v : (SV × Int32 × Int32) => (v.1.2.2.2.2.2.2.2.2.2.2.2.2.2.2.2.2.2.2.2.toInt - v.2.1.toInt).toNat) ((sS10 1 (sS3 (fX6_copies (fX6_fails (sS15 0 (sS16 (-1) (fX6_isText S).2)) 0).2.1 114 (fX6_fails (sS15 0 (sS16 (-1) (fX6_isText S).2)) 0).2.2.2.2.1 114 0 0) (fX6_fails (sS15 0 (sS16 (-1) (fX6_isText S).2)) 0).2)), 0, 0) + 1) ((sS10 1 (sS3 (fX6_copies (fX6_fails (sS15 0 (sS16 (-1) (fX6_isText S).2)) 0).2.1 114 (fX6_fails (sS15 0 (sS16 (-1) (fX6_isText S).2)) 0).2.2.2.2.1 114 0 0) (fX6_fails (sS15 0 (sS16 (-1) (fX6_isText S).2)) 0).2)), 0, 0)).1)).2.2.2.2.2.2.2.2.2.2.2.2.2.2.2.2.2.2.2, (fX6_keeps_b (sS10 0 (itv ((sS10 1 (sS3 (fX6_copies (fX6_fails (sS15 0 (sS16 (-1) (fX6_isText S).2)) 0).2.1 114 (fX6_fails (sS15 0 (sS16 (-1) (fX6_isText S).2)) 0).2.2.2.2.1 114 0 0) (fX6_fails (sS15 0 (sS16 (-1) (fX6_isText S).2)) 0).2)), 0, 0) lX6_run_66 ((fun v : (SV × Int32 × Int32) => (v.1.2.2.2.2.2.2.2.2.2.2.2.2.2.2.2.2.2.2.2.toInt - v.2.1.toInt).toNat) ((sS10 1 (sS3 (fX6_copies (fX6_fails (sS15 0 (sS16 (-1) (fX6_isText S).2)) 0).2.1 114 (fX6_fails (sS15 0 (sS16 (-1) (fX6_isText S).2)) 0).2.2.2.2.1 114 0 0) (fX6_fails (sS15 0 (sS16 (-1) (fX6_isText S).2)) 0).2)), 0, 0) + 1) ((sS10 1 (sS3 (fX6_copies (fX6_fails (sS15 0 (sS16 (-1) (fX6_isText S).2)) 0).2.1 114 (fX6_fails (sS15 0 (sS16 (-1) (fX6_isText S).2)) 0).2.2.2.2.1 114 0 0) (fX6_fails (sS15 0 (sS16 (-1) (fX6_isText S).2)) 0).2)), 0, 0)).1))) else (if (itv ((sS10 1 (sS3 (fX6_copies (fX6_fails (sS15 0 (sS16 (-1) (fX6_isText S).2)) 0).2.1 114 (fX6_fails (sS15 0 (sS16 (-1) (fX6_isText S).2)) 0).2.2.2.2.1 114 0 0) (fX6_fails (sS15 0 (sS16 (-1) (fX6_isText S).2)) 0).2)), 0, 0) lX6_run_66 ((fun v : (SV × Int32 × Int32) => (v.1.2.2.2.2.2.2.2.2.2.2.2.2.2.2.2.2.2.2.2.toInt - v.2.1.toInt).toNat) ((sS10 1 (sS3 (fX6_copies (fX6_fails (sS15 0 (sS16 (-1) (fX6_isText S).2)) 0).2.1 114 (fX6_fails (sS15 0 (sS16 (-1) (fX6_isText S).2)) 0).2.2.2.2.1 114 0 0) (fX6_fails (sS15 0 (sS16 (-1) (fX6_isText S).2)) 0).2)), 0, 0) + 1) ((sS10 1 (sS3 (fX6_copies (fX6_fails (sS15 0 (sS16 (-1) (fX6_isText S).2)) 0).2.1 114 (fX6_fails (sS15 0 (sS16 (-1) (fX6_isText S).2)) 0).2.2.2.2.1 114 0 0) (fX6_fails (sS15 0 (sS16 (-1) (fX6_isText S).2)) 0).2)), 0, 0)).1.2.2.2.2.2.2.2.2.2.2.2.1 = 0 then (if (itv ((sS10 1 (sS3 (fX6_copies (fX6_fails (sS15 0 (sS16 (-1) (fX6_isText S).2)) 0).2.1 114 (fX6_fails (sS15 0 (sS16 (-1) (fX6_isText S).2)) 0).2.2.2.2.1 114 0 0) (fX6_fails (sS15 0 (sS16 (-1) (fX6_isText S).2)) 0).2)), 0, 0) lX6_run_66 ((fun v : (SV × Int32 × Int32) => (v.1.2.2.2.2.2.2.2.2.2.2.2.2.2.2.2.2.2.2.2.toInt - v.2.1.toInt).toNat) ((sS10 1 (sS3 (fX6_copies (fX6_fails (sS15 0 (sS16 (-1) (fX6_isText S).2)) 0).2.1 114 (fX6_fails (sS15 0 (sS16 (-1) (fX6_isText S).2)) 0).2.2.2.2.1 114 0 0) (fX6_fails (sS15 0 (sS16 (-1) (fX6_isText S).2)) 0).2)), 0, 0) + 1) ((sS10 1 (sS3 (fX6_copies (fX6_fails (sS15 0 (sS16 (-1) (fX6_isText S).2)) 0).2.1 114 (fX6_fails (sS15 0 (sS16 (-1) (fX6_isText S).2)) 0).2.2.2.2.1 114 0 0) (fX6_fails (sS15 0 (sS16 (-1) (fX6_isText S).2)) 0).2)), 0, 0)).2.2 ≤ 0 then ((itv ((sS10 1 (sS3 (fX6_copies (fX6_fails (sS15 0 (sS16 (-1) (fX6_isText S).2)) 0).2.1 114 (fX6_fails (sS15 0 (sS16 (-1) (fX6_isText S).2)) 0).2.2.2.2.1 114 0 0) (fX6_fails (sS15 0 (sS16 (-1) (fX6_isText S).2)) 0).2)), 0, 0) lX6_run_66 ((fun v : (SV × Int32 × Int32) => (v.1.2.2.2.2.2.2.2.2.2.2.2.2.2.2.2.2.2.2.2.toInt - v.2.1.toInt).toNat) ((sS10 1 (sS3 (fX6_copies (fX6_fails (sS15 0 (sS16 (-1) (fX6_isText S).2)) 0).2.1 114 (fX6_fails (sS15 0 (sS16 (-1) (fX6_isText S).2)) 0).2.2.2.2.1 114 0 0) (fX6_fails (sS15 0 (sS16 (-1) (fX6_isText S).2)) 0).2)), 0, 0) + 1) ((sS10 1 (sS3 (fX6_copies (fX6_fails (sS15 0 (sS16 (-1) (fX6_isText S).2)) 0).2.1 114 (fX6_fails (sS15 0 (sS16 (-1) (fX6_isText S).2)) 0).2.2.2.2.1 114 0 0) (fX6_fails (sS15 0 (sS16 (-1) (fX6_isText S).2)) 0).2)), 0, 0)).2.2, (sS12 1 (sS0 (fX6_copies (itv ((sS10 1 (sS3 (fX6_copies (fX6_fails (sS15 0 (sS16 (-1) (fX6_isText S).2)) 0).2.1 114 (fX6_fails (sS15 0 (sS16 (-1) (fX6_isText S).2)) 0).2.2.2.2.1 114 0 0) (fX6_fails (sS15 0 (sS16 (-1) (fX6_isText S).2)) 0).2)), 0, 0) lX6_run_66 ((fun v : (SV × Int32 × Int32) => (v.1.2.2.2.2.2.2.2.2.2.2.2.2.2.2.2.2.2.2.2.toInt - v.2.1.toInt).toNat) ((sS10 1 (sS3 (fX6_copies (fX6_fails (sS15 0 (sS16 (-1) (fX6_isText S).2)) 0).2.1 114 (fX6_fails (sS15 0 (sS16 (-1) (fX6_isText S).2)) 0).2.2.2.2.1 114 0 0) (fX6_fails (sS15 0 (sS16 (-1) (fX6_isText S).2)) 0).2)), 0, 0) + 1) ((sS10 1 (sS3 (fX6_copies (fX6_fails (sS15 0 (sS16 (-1) (fX6_isText S).2)) 0).2.1 114 (fX6_fails (sS15 0 (sS16 (-1) (fX6_isText S).2)) 0).2.2.2.2.1 114 0 0) (fX6_fails (sS15 0 (sS16 (-1) (fX6_isText S).2)) 0).2)), 0, 0)).1.2.2.2.1 114 (itv ((sS10 1 (sS3 (fX6_copies (fX6_fails (sS15 0 (sS16 (-1) (fX6_isText S).2)) 0).2.1 114 (fX6_fails (sS15 0 (sS16 (-1) (fX6_isText S).2)) 0).2.2.2.2.1 114 0 0) (fX6_fails (sS15 0 (sS16 (-1) (fX6_isText S).2)) 0).2)), 0, 0) lX6_run_66 ((fun v : (SV × Int32 × Int32) => (v.1.2.2.2.2.2.2.2.2.2.2.2.2.2.2.2.2.2.2.2.toInt - v.2.1.toInt).toNat) ((sS10 1 (sS3 (fX6_copies (fX6_fails (sS15 0 (sS16 (-1) (fX6_isText S).2)) 0).2.1 114 (fX6_fails (sS15 0 (sS16 (-1) (fX6_isText S).2)) 0).2.2.2.2.1 114 0 0) (fX6_fails (sS15 0 (sS16 (-1) (fX6_isText S).2)) 0).2)), 0, 0) + 1) ((sS10 1 (sS3 (fX6_copies (fX6_fails (sS15 0 (sS16 (-1) (fX6_isText S).2)) 0).2.1 114 (fX6_fails (sS15 0 (sS16 (-1) (fX6_isText S).2)) 0).2.2.2.2.1 114 0 0) (fX6_fails (sS15 0 (sS16 (-1) (fX6_isText S).2)) 0).2)), 0, 0)).1.1 114 0 0) (sS10 0 (itv ((sS10 1 (sS3 (fX6_copies (fX6_fails (sS15 0 (sS16 (-1) (fX6_isText S).2)) 0).2.1 114 (fX6_fails (sS15 0 (sS16 (-1) (fX6_isText S).2)) 0).2.2.2.2.1 114 0 0) (fX6_fails (sS15 0 (sS16 (-1) (fX6_isText S).2)) 0).2)), 0, 0) lX6_run_66 ((fun v : (SV × Int32 × Int32) => (v.1.2.2.2.2.2.2.2.2.2.2.2.2.2.2.2.2.2.2.2.toInt - v.2.1.toInt).toNat) ((sS10 1 (sS3 (fX6_copies (fX6_fails (sS15 0 (sS16 (-1) (fX6_isText S).2)) 0).2.1 114 (fX6_fails (sS15 0 (sS16 (-1) (fX6_isText S).2)) 0).2.2.2.2.1 114 0 0) (fX6_fails (sS15 0 (sS16 (-1) (fX6_isText S).2)) 0).2)), 0, 0) + 1) ((sS10 1 (sS3 (fX6_copies (fX6_fails (sS15 0 (sS16 (-1) (fX6_isText S).2)) 0).2.1 114 (fX6_fails (sS15 0 (sS16 (-1) (fX6_isText S).2)) 0).2.2.2.2.1 114 0 0) (fX6_fails (sS15 0 (sS16 (-1) (fX6_isText S).2)) 0).2)), 0, 0)).1)))) else (0, (sS12 1 (sS0 (fX6_copies (itv ((sS10 1 (sS3 (fX6_copies (fX6_fails (sS15 0 (sS16 (-1) (fX6_isText S).2)) 0).2.1 114 (fX6_fails (sS15 0 (sS16 (-1) (fX6_isText S).2)) 0).2.2.2.2.1 114 0 0) (fX6_fails (sS15 0 (sS16 (-1) (fX6_isText S).2)) 0).2)), 0, 0) lX6_run_66 ((fun v : (SV × Int32 × Int32) => (v.1.2.2.2.2.2.2.2.2.2.2.2.2.2.2.2.2.2.2.2.toInt - v.2.1.toInt).toNat) ((sS10 1 (sS3 (fX6_copies (fX6_fails (sS15 0 (sS16 (-1) (fX6_isText S).2)) 0).2.1 114 (fX6_fails (sS15 0 (sS16 (-1) (fX6_isText S).2)) 0).2.2.2.2.1 114 0 0) (fX6_fails (sS15 0 (sS16 (-1) (fX6_isText S).2)) 0).2)), 0, 0) + 1) ((sS10 1 (sS3 (fX6_copies (fX6_fails (sS15 0 (sS16 (-1) (fX6_isText S).2)) 0).2.1 114 (fX6_fails (sS15 0 (sS16 (-1) (fX6_isText S).2)) 0).2.2.2.2.1 114 0 0) (fX6_fails (sS15 0 (sS16 (-1) (fX6_isText S).2)) 0).2)), 0, 0)).1.2.2.2.1 114 (itv ((sS10 1 (sS3 (fX6_copies (fX6_fails (sS15 0 (sS16 (-1) (fX6_isText S).2)) 0).2.1 114 (fX6_fails (sS15 0 (sS16 (-1) (fX6_isText S).2)) 0).2.2.2.2.1 114 0 0) (fX6_fails (sS15 0 (sS16 (-1) (fX6_isText S).2)) 0).2)), 0, 0) lX6_run_66 ((fun v : (SV × Int32 × Int32) => (v.1.2.2.2.2.2.2.2.2.2.2.2.2.2.2.2.2.2.2.2.toInt - v.2.1.toInt).toNat) ((sS10 1 (sS3 (fX6_copies (fX6_fails (sS15 0 (sS16 (-1) (fX6_isText S).2)) 0).2.1 114 (fX6_fails (sS15 0 (sS16 (-1) (fX6_isText S).2)) 0).2.2.2.2.1 114 0 0) (fX6_fails (sS15 0 (sS16 (-1) (fX6_isText S).2)) 0).2)), 0, 0) + 1) ((sS10 1 (sS3 (fX6_copies (fX6_fails (sS15 0 (sS16 (-1) (fX6_isText S).2)) 0).2.1 114 (fX6_fails (sS15 0 (sS16 (-1) (fX6_isText S).2)) 0).2.2.2.2.1 114 0 0) (fX6_fails (sS15 0 (sS16 (-1) (fX6_isText S).2)) 0).2)), 0, 0)).1.1 114 0 0) (sS10 0 (itv ((sS10 1 (sS3 (fX6_copies (fX6_fails (sS15 0 (sS16 (-1) (fX6_isText S).2)) 0).2.1 114 (fX6_fails (sS15 0 (sS16 (-1) (fX6_isText S).2)) 0).2.2.2.2.1 114 0 0) (fX6_fails (sS15 0 (sS16 (-1) (fX6_isText S).2)) 0).2)), 0, 0) lX6_run_66 ((fun v : (SV × Int32 × Int32) => (v.1.2.2.2.2.2.2.2.2.2.2.2.2.2.2.2.2.2.2.2.toInt - v.2.1.toInt).toNat) ((sS10 1 (sS3 (fX6_copies (fX6_fails (sS15 0 (sS16 (-1) (fX6_isText S).2)) 0).2.1 114 (fX6_fails (sS15 0 (sS16 (-1) (fX6_isText S).2)) 0).2.2.2.2.1 114 0 0) (fX6_fails (sS15 0 (sS16 (-1) (fX6_isText S).2)) 0).2)), 0, 0) + 1) ((sS10 1 (sS3 (fX6_copies (fX6_fails (sS15 0 (sS16 (-1) (fX6_isText S).2)) 0).2.1 114 (fX6_fails (sS15 0 (sS16 (-1) (fX6_isText S).2)) 0).2.2.2.2.1 114 0 0) (fX6_fails (sS15 0 (sS16 (-1) (fX6_isText S).2)) 0).2)), 0, 0)).1))))) else (if (itv ((sS10 1 (sS3 (fX6_copies (fX6_fails (sS15 0 (sS16 (-1) (fX6_isText S).2)) 0).2.1 114 (fX6_fails (sS15 0 (sS16 (-1) (fX6_isText S).2)) 0).2.2.2.2.1 114 0 0) (fX6_fails (sS15 0 (sS16 (-1) (fX6_isText S).2)) 0).2)), 0, 0) lX6_run_66 ((fun v : (SV × Int32 × Int32) => (v.1.2.2.2.2.2.2.2.2.2.2.2.2.2.2.2.2.2.2.2.toInt - v.2.1.toInt).toNat) ((sS10 1 (sS3 (fX6_copies (fX6_fails (sS15 0 (sS16 (-1) (fX6_isText S).2)) 0).2.1 114 (fX6_fails (sS15 0 (sS16 (-1) (fX6_isText S).2)) 0).2.2.2.2.1 114 0 0) (fX6_fails (sS15 0 (sS16 (-1) (fX6_isText S).2)) 0).2)), 0, 0) + 1) ((sS10 1 (sS3 (fX6_copies (fX6_fails (sS15 0 (sS16 (-1) (fX6_isText S).2)) 0).2.1 114 (fX6_fails (sS15 0 (sS16 (-1) (fX6_isText S).2)) 0).2.2.2.2.1 114 0 0) (fX6_fails (sS15 0 (sS16 (-1) (fX6_isText S).2)) 0).2)), 0, 0)).2.2 ≤ 0 then ((itv ((sS10 1 (sS3 (fX6_copies (fX6_fails (sS15 0 (sS16 (-1) (fX6_isText S).2)) 0).2.1 114 (fX6_fails (sS15 0 (sS16 (-1) (fX6_isText S).2)) 0).2.2.2.2.1 114 0 0) (fX6_fails (sS15 0 (sS16 (-1) (fX6_isText S).2)) 0).2)), 0, 0) lX6_run_66 ((fun v : (SV × Int32 × Int32) => (v.1.2.2.2.2.2.2.2.2.2.2.2.2.2.2.2.2.2.2.2.toInt - v.2.1.toInt).toNat) ((sS10 1 (sS3 (fX6_copies (fX6_fails (sS15 0 (sS16 (-1) (fX6_isText S).2)) 0).2.1 114 (fX6_fails (sS15 0 (sS16 (-1) (fX6_isText S).2)) 0).2.2.2.2.1 114 0 0) (fX6_fails (sS15 0 (sS16 (-1) (fX6_isText S).2)) 0).2)), 0, 0) + 1) ((sS10 1 (sS3 (fX6_copies (fX6_fails (sS15 0 (sS16 (-1) (fX6_isText S).2)) 0).2.1 114 (fX6_fails (sS15 0 (sS16 (-1) (fX6_isText S).2)) 0).2.2.2.2.1 114 0 0) (fX6_fails (sS15 0 (sS16 (-1) (fX6_isText S).2)) 0).2)), 0, 0)).2.2, (sS12 2 (sS0 (fX6_copies (itv ((sS10 1 (sS3 (fX6_copies (fX6_fails (sS15 0 (sS16 (-1) (fX6_isText S).2)) 0).2.1 114 (fX6_fails (sS15 0 (sS16 (-1) (fX6_isText S).2)) 0).2.2.2.2.1 114 0 0) (fX6_fails (sS15 0 (sS16 (-1) (fX6_isText S).2)) 0).2)), 0, 0) lX6_run_66 ((fun v : (SV × Int32 × Int32) => (v.1.2.2.2.2.2.2.2.2.2.2.2.2.2.2.2.2.2.2.2.toInt - v.2.1.toInt).toNat) ((sS10 1 (sS3 (fX6_copies (fX6_fails (sS15 0 (sS16 (-1) (fX6_isText S).2)) 0).2.1 114 (fX6_fails (sS15 0 (sS16 (-1) (fX6_isText S).2)) 0).2.2.2.2.1 114 0 0) (fX6_fails (sS15 0 (sS16 (-1) (fX6_isText S).2)) 0).2)), 0, 0) + 1) ((sS10 1 (sS3 (fX6_copies (fX6_fails (sS15 0 (sS16 (-1) (fX6_isText S).2)) 0).2.1 114 (fX6_fails (sS15 0 (sS16 (-1) (fX6_isText S).2)) 0).2.2.2.2.1 114 0 0) (fX6_fails (sS15 0 (sS16 (-1) (fX6_isText S).2)) 0).2)), 0, 0)).1.2.2.2.1 114 (itv ((sS10 1 (sS3 (fX6_copies (fX6_fails (sS15 0 (sS16 (-1) (fX6_isText S).2)) 0).2.1 114 (fX6_fails (sS15 0 (sS16 (-1) (fX6_isText S).2)) 0).2.2.2.2.1 114 0 0) (fX6_fails (sS15 0 (sS16 (-1) (fX6_isText S).2)) 0).2)), 0, 0) lX6_run_66 ((fun v : (SV × Int32 × Int32) => (v.1.2.2.2.2.2.2.2.2.2.2.2.2.2.2.2.2.2.2.2.toInt - v.2.1.toInt).toNat) ((sS10 1 (sS3 (fX6_copies (fX6_fails (sS15 0 (sS16 (-1) (fX6_isText S).2)) 0).2.1 114 (fX6_fails (sS15 0 (sS16 (-1) (fX6_isText S).2)) 0).2.2.2.2.1 114 0 0) (fX6_fails (sS15 0 (sS16 (-1) (fX6_isText S).2)) 0).2)), 0, 0) + 1) ((sS10 1 (sS3 (fX6_copies (fX6_fails (sS15 0 (sS16 (-1) (fX6_isText S).2)) 0).2.1 114 (fX6_fails (sS15 0 (sS16 (-1) (fX6_isText S).2)) 0).2.2.2.2.1 114 0 0) (fX6_fails (sS15 0 (sS16 (-1) (fX6_isText S).2)) 0).2)), 0, 0)).1.1 114 0 0) (sS10 0 (itv ((sS10 1 (sS3 (fX6_copies (fX6_fails (sS15 0 (sS16 (-1) (fX6_isText S).2)) 0).2.1 114 (fX6_fails (sS15 0 (sS16 (-1) (fX6_isText S).2)) 0).2.2.2.2.1 114 0 0) (fX6_fails (sS15 0 (sS16 (-1) (fX6_isText S).2)) 0).2)), 0, 0) lX6_run_66 ((fun v : (SV × Int32 × Int32) => (v.1.2.2.2.2.2.2.2.2.2.2.2.2.2.2.2.2.2.2.2.toInt - v.2.1.toInt).toNat) ((sS10 1 (sS3 (fX6_copies (fX6_fails (sS15 0 (sS16 (-1) (fX6_isText S).2)) 0).2.1 114 (fX6_fails (sS15 0 (sS16 (-1) (fX6_isText S).2)) 0).2.2.2.2.1 114 0 0) (fX6_fails (sS15 0 (sS16 (-1) (fX6_isText S).2)) 0).2)), 0, 0) + 1) ((sS10 1 (sS3 (fX6_copies (fX6_fails (sS15 0 (sS16 (-1) (fX6_isText S).2)) 0).2.1 114 (fX6_fails (sS15 0 (sS16 (-1) (fX6_isText S).2)) 0).2.2.2.2.1 114 0 0) (fX6_fails (sS15 0 (sS16 (-1) (fX6_isText S).2)) 0).2)), 0, 0)).1)))) else (0, (sS12 2 (sS0 (fX6_copies (itv ((sS10 1 (sS3 (fX6_copies (fX6_fails (sS15 0 (sS16 (-1) (fX6_isText S).2)) 0).2.1 114 (fX6_fails (sS15 0 (sS16 (-1) (fX6_isText S).2)) 0).2.2.2.2.1 114 0 0) (fX6_fails (sS15 0 (sS16 (-1) (fX6_isText S).2)) 0).2)), 0, 0) lX6_run_66 ((fun v : (SV × Int32 × Int32) => (v.1.2.2.2.2.2.2.2.2.2.2.2.2.2.2.2.2.2.2.2.toInt - v.2.1.toInt).toNat) ((sS10 1 (sS3 (fX6_copies (fX6_fails (sS15 0 (sS16 (-1) (fX6_isText S).2)) 0).2.1 114 (fX6_fails (sS15 0 (sS16 (-1) (fX6_isText S).2)) 0).2.2.2.2.1 114 0 0) (fX6_fails (sS15 0 (sS16 (-1) (fX6_isText S).2)) 0).2)), 0, 0) + 1) ((sS10 1 (sS3 (fX6_copies (fX6_fails (sS15 0 (sS16 (-1) (fX6_isText S).2)) 0).2.1 114 (fX6_fails (sS15 0 (sS16 (-1) (fX6_isText S).2)) 0).2.2.2.2.1 114 0 0) (fX6_fails (sS15 0 (sS16 (-1) (fX6_isText S).2)) 0).2)), 0, 0)).1.2.2.2.1 114 (itv ((sS10 1 (sS3 (fX6_copies (fX6_fails (sS15 0 (sS16 (-1) (fX6_isText S).2)) 0).2.1 114 (fX6_fails (sS15 0 (sS16 (-1) (fX6_isText S).2)) 0).2.2.2.2.1 114 0 0) (fX6_fails (sS15 0 (sS16 (-1) (fX6_isText S).2)) 0).2)), 0, 0) lX6_run_66 ((fun v : (SV × Int32 × Int32) => (v.1.2.2.2.2.2.2.2.2.2.2.2.2.2.2.2.2.2.2.2.toInt - v.2.1.toInt).toNat) ((sS10 1 (sS3 (fX6_copies (fX6_fails (sS15 0 (sS16 (-1) (fX6_isText S).2)) 0).2.1 114 (fX6_fails (sS15 0 (sS16 (-1) (fX6_isText S).2)) 0).2.2.2.2.1 114 0 0) (fX6_fails (sS15 0 (sS16 (-1) (fX6_isText S).2)) 0).2)), 0, 0) + 1) ((sS10 1 (sS3 (fX6_copies (fX6_fails (sS15 0 (sS16 (-1) (fX6_isText S).2)) 0).2.1 114 (fX6_fails (sS15 0 (sS16 (-1) (fX6_isText S).2)) 0).2.2.2.2.1 114 0 0) (fX6_fails (sS15 0 (sS16 (-1) (fX6_isText S).2)) 0).2)), 0, 0)).1.1 114 0 0) (sS10 0 (itv ((sS10 1 (sS3 (fX6_copies (fX6_fails (sS15 0 (sS16 (-1) (fX6_isText S).2)) 0).2.1 114 (fX6_fails (sS15 0 (sS16 (-1) (fX6_isText S).2)) 0).2.2.2.2.1 114 0 0) (fX6_fails (sS15 0 (sS16 (-1) (fX6_isText S).2)) 0).2)), 0, 0) lX6_run_66 ((fun v : (SV × Int32 × Int32) => (v.1.2.2.2.2.2.2.2.2.2.2.2.2.2.2.2.2.2.2.2.toInt - v.2.1.toInt).toNat) ((sS10 1 (sS3 (fX6_copies (fX6_fails (sS15 0 (sS16 (-1) (fX6_isText S).2)) 0).2.1 114 (fX6_fails (sS15 0 (sS16 (-1) (fX6_isText S).2)) 0).2.2.2.2.1 114 0 0) (fX6_fails (sS15 0 (sS16 (-1) (fX6_isText S).2)) 0).2)), 0, 0) + 1) ((sS10 1 (sS3 (fX6_copies (fX6_fails (sS15 0 (sS16 (-1) (fX6_isText S).2)) 0).2.1 114 (fX6_fails (sS15 0 (sS16 (-1) (fX6_isText S).2)) 0).2.2.2.2.1 114 0 0) (fX6_fails (sS15 0 (sS16 (-1) (fX6_isText S).2)) 0).2)), 0, 0)).1))))))))
def gX6_run (S : SV)  : Prop := ((gX6_isText S) ∧ (if (fX6_isText S).1 = 0 then True else ((gX6_copies (fX6_fails (sS15 0 (sS16 (-1) (fX6_isText S).2)) 0).2.1 114 (fX6_fails (sS15 0 (sS16 (-1) (fX6_isText S).2)) 0).2.2.2.2.1 114 0 0) ∧ (∃ r9 : (SV × Int32 × Int32), lrun lX6_run_66 glX6_run_66 ((fun v : (SV × Int32 × Int32) => (v.1.2.2.2.2.2.2.2.2.2.2.2.2.2.2.2.2.2.2.2.toInt - v.2.1.toInt).toNat) ((sS10 1 (sS3 (fX6_copies (fX6_fails (sS15 0 (sS16 (-1) (fX6_isText S).2)) 0).2.1 114 (fX6_fails (sS15 0 (sS16 (-1) (fX6_isText S).2)) 0).2.2.2.2.1 114 0 0) (fX6_fails (sS15 0 (sS16 (-1) (fX6_isText S).2)) 0).2)), 0, 0) + 1) ((sS10 1 (sS3 (fX6_copies (fX6_fails (sS15 0 (sS16 (-1) (fX6_isText S).2)) 0).2.1 114 (fX6_fails (sS15 0 (sS16 (-1) (fX6_isText S).2)) 0).2.2.2.2.1 114 0 0) (fX6_fails (sS15 0 (sS16 (-1) (fX6_isText S).2)) 0).2)), 0, 0) r9) ∧ (if (itv ((sS10 1 (sS3 (fX6_copies (fX6_fails (sS15 0 (sS16 (-1) (fX6_isText S).2)) 0).2.1 114 (fX6_fails (sS15 0 (sS16 (-1) (fX6_isText S).2)) 0).2.2.2.2.1 114 0 0) (fX6_fails (sS15 0 (sS16 (-1) (fX6_isText S).2)) 0).2)), 0, 0) lX6_run_66 ((fun v : (SV × Int32 × Int32) => (v.1.2.2.2.2.2.2.2.2.2.2.2.2.2.2.2.2.2.2.2.toInt - v.2.1.toInt).toNat) ((sS10 1 (sS3 (fX6_copies (fX6_fails (sS15 0 (sS16 (-1) (fX6_isText S).2)) 0).2.1 114 (fX6_fails (sS15 0 (sS16 (-1) (fX6_isText S).2)) 0).2.2.2.2.1 114 0 0) (fX6_fails (sS15 0 (sS16 (-1) (fX6_isText S).2)) 0).2)), 0, 0) + 1) ((sS10 1 (sS3 (fX6_copies (fX6_fails (sS15 0 (sS16 (-1) (fX6_isText S).2)) 0).2.1 114 (fX6_fails (sS15 0 (sS16 (-1) (fX6_isText S).2)) 0).2.2.2.2.1 114 0 0) (fX6_fails (sS15 0 (sS16 (-1) (fX6_isText S).2)) 0).2)), 0, 0)).1.2.2.2.2.2.2.2.2.2.2.2.2.1 ≤ 0 then ((gX6_keeps_b (sS10 0 (itv ((sS10 1 (sS3 (fX6_copies (fX6_fails (sS15 0 (sS16 (-1) (fX6_isText S).2)) 0).2.1 114 (fX6_fails (sS15 0 (sS16 (-1) (fX6_isText S).2)) 0).2.2.2.2.1 114 0 0) (fX6_fails (sS15 0 (sS16 (-1) (fX6_isText S).2)) 0).2)), 0, 0) lX6_run_66 ((fun v : (SV × Int32 × Int32) => (v.1.2.2.2.2.2.2.2.2.2.2.2.2.2.2.2.2.2.2.2.toInt - v.2.1.toInt).toNat) ((sS10 1 (sS3 (fX6_copies (fX6_fails (sS15 0 (sS16 (-1) (fX6_isText S).2)) 0).2.1 114 (fX6_fails (sS15 0 (sS16 (-1) (fX6_isText S).2)) 0).2.2.2.2.1 114 0 0) (fX6_fails (sS15 0 (sS16 (-1) (fX6_isText S).2)) 0).2)), 0, 0) + 1) ((sS10 1 (sS3 (fX6_copies (fX6_fails (sS15 0 (sS16 (-1) (fX6_isText S).2)) 0).2.1 114 (fX6_fails (sS15 0 (sS16 (-1) (fX6_isText S).2)) 0).2.2.2.2.1 114 0 0) (fX6_fails (sS15 0 (sS16 (-1) (fX6_isText S).2)) 0).2)), 0, 0)).1)) ∧ True) else ((gX6_copies (itv ((sS10 1 (sS3 (fX6_copies (fX6_fails (sS15 0 (sS16 (-1) (fX6_isText S).2)) 0).2.1 114 (fX6_fails (sS15 0 (sS16 (-1) (fX6_isText S).2)) 0).2.2.2.2.1 114 0 0) (fX6_fails (sS15 0 (sS16 (-1) (fX6_isText S).2)) 0).2)), 0, 0) lX6_run_66 ((fun v : (SV × Int32 × Int32) => (v.1.2.2.2.2.2.2.2.2.2.2.2.2.2.2.2.2.2.2.2.toInt - v.2.1.toInt).toNat) ((sS10 1 (sS3 (fX6_copies (fX6_fails (sS15 0 (sS16 (-1) (fX6_isText S).2)) 0).2.1 114 (fX6_fails (sS15 0 (sS16 (-1) (fX6_isText S).2)) 0).2.2.2.2.1 114 0 0) (fX6_fails (sS15 0 (sS16 (-1) (fX6_isText S).2)) 0).2)), 0, 0) + 1) ((sS10 1 (sS3 (fX6_copies (fX6_fails (sS15 0 (sS16 (-1) (fX6_isText S).2)) 0).2.1 114 (fX6_fails (sS15 0 (sS16 (-1) (fX6_isText S).2)) 0).2.2.2.2.1 114 0 0) (fX6_fails (sS15 0 (sS16 (-1) (fX6_isText S).2)) 0).2)), 0, 0)).1.2.2.2.1 114 (itv ((sS10 1 (sS3 (fX6_copies (fX6_fails (sS15 0 (sS16 (-1) (fX6_isText S).2)) 0).2.1 114 (fX6_fails (sS15 0 (sS16 (-1) (fX6_isText S).2)) 0).2.2.2.2.1 114 0 0) (fX6_fails (sS15 0 (sS16 (-1) (fX6_isText S).2)) 0).2)), 0, 0) lX6_run_66 ((fun v : (SV × Int32 × Int32) => (v.1.2.2.2.2.2.2.2.2.2.2.2.2.2.2.2.2.2.2.2.toInt - v.2.1.toInt).toNat) ((sS10 1 (sS3 (fX6_copies (fX6_fails (sS15 0 (sS16 (-1) (fX6_isText S).2)) 0).2.1 114 (fX6_fails (sS15 0 (sS16 (-1) (fX6_isText S).2)) 0).2.2.2.2.1 114 0 0) (fX6_fails (sS15 0 (sS16 (-1) (fX6_isText S).2)) 0).2)), 0, 0) + 1) ((sS10 1 (sS3 (fX6_copies (fX6_fails (sS15 0 (sS16 (-1) (fX6_isText S).2)) 0).2.1 114 (fX6_fails (sS15 0 (sS16 (-1) (fX6_isText S).2)) 0).2.2.2.2.1 114 0 0) (fX6_fails (sS15 0 (sS16 (-1) (fX6_isText S).2)) 0).2)), 0, 0)).1.1 114 0 0) ∧ True)))))
abbrev rmX6_run : Room := { frames := 7, cells := 0, slots := 0, locals := 162 }
set_option maxHeartbeats 4000000 in
set_option maxRecDepth 100000 in
theorem kX6_run (l : Launch) (D : va_G) (cI cC cT : ClassId) (h a1 a2 a3 a4 a5 a6 a7 a8 : Nat) (S : SV)  (hg : gX6_run S) : mU l D (TY cI cC cT) yX6_run wsX6_run rmX6_run [.ref h] (w6 cI cC h a1 a2 a3 a4 a5 a6 a7 a8 S) (some (.int (fX6_run S).1)) (w6 cI cC h a1 a2 a3 a4 a5 a6 a7 a8 (fX6_run S).2) := by
  refine mU.ofW (cc := cX6_run) (maxL := 4) (ret := (some .int)) (by decide) rfl (Nat.le_of_ble_eq_true rfl) ?_
  intro p e s m args below meth c Q ls A hx hb hml hr hlk hts hown hP hK hD hS hl hQ
  have hown : s.vm.findClass RX6 = some m.cls := hown
  have hP : va_P D vwCl (w6 cI cC h a1 a2 a3 a4 a5 a6 a7 a8 S) s.heap := hP
  have hD : va_D A (w6 cI cC h a1 a2 a3 a4 a5 a6 a7 a8 S) := hD
  have hl : lv_has ls 4 [(0, .ref h)] := hl
  have q0 := hts (Cond.fieldLink RX6 183 "TavernStoolsModel" "at" "I") (by decide +kernel)
  have q1 : ∀ w ∈ u_ws RX6 TX6 20, w ∈ wsX6_run := by decide +kernel
  have q2 := hts (Cond.fieldLink RX6 25 "TavernStoolsModel" "error" "I") (by decide +kernel)
  have q3 := hts (Cond.fieldLink RX6 180 "TavernStoolsModel" "length" "I") (by decide +kernel)
  have q4 := hts (Cond.fieldLink RX6 7 "TavernStoolsModel" "g" "[I") (by decide +kernel)
  have q5 := hts (Cond.fieldLink RX6 19 "TavernStoolsModel" "before" "[I") (by decide +kernel)
  have q6 := hts (Cond.fieldLink RX6 52 "TavernStoolsModel" "isWithin" "Z") (by decide +kernel)
  have q7 := hts (Cond.fieldLink RX6 195 "TavernStoolsModel" "toldMany" "I") (by decide +kernel)
  have q8 := hts (Cond.fieldLink RX6 39 "TavernStoolsModel" "code" "I") (by decide +kernel)
  have q9 := hts (Cond.fieldLink RX6 42 "TavernStoolsModel" "isRefused" "Z") (by decide +kernel)
  unfold gX6_run at hg
  generalize hHe : s.heap = H at hP ⊢
  have hS : va_S A s.heap H [] := hHe ▸ hS
  generalize hLe : ([] : List Loc) = locs at hS ⊢
  refine lv_aload_n hx hb dX6_run_0 rfl (lv_at hl 0 rfl) ?_
  obtain ⟨n1, en1⟩ : ∃ z9, z9 = (fX6_isText S) := ⟨_, rfl⟩
  try rw [← en1] at hg
  obtain ⟨o1, hg⟩ := hg
  have k9 := (kX6_isText l D cI cC cT h a1 a2 a3 a4 a5 a6 a7 a8 S o1)
  rw [← en1] at k9
  refine fUV (As := []) (rest := []) (st' := [.int n1.1]) ⟨hx, hb, hml, hown, hts⟩ k9 (cwV 0 hts gX6_run_X6_isText rfl rfl rfl (by decide +kernel) ⟨Nat.le_of_ble_eq_true rfl, Nat.le_of_ble_eq_true rfl⟩) hP hK hD hS [0, 1, 2, 3, 4, 5, 6, 7, 8] rfl rfl (by decide) rfl (w6 cI cC h a1 a2 a3 a4 a5 a6 a7 a8 n1.2) rfl rfl 0 (ci := 7) rfl rfl rfl rfl hl.1 rfl rfl (Nat.le_of_ble_eq_true rfl) ⟨Nat.zero_le _, Nat.zero_le _⟩ dX6_run_1 (fun H locs hP hD hS => ?_)
  refine lv_istore_n (lv' := [(1, .int n1.1), (0, .ref h)]) hx hb dX6_run_4 rfl hl (by decide) rfl (fun ls hl => ?_)
  refine lv_aload_n hx hb dX6_run_5 rfl (lv_at hl 1 rfl) ?_
  refine lv_iload_n hx hb dX6_run_6 rfl (lv_at hl 0 rfl) ?_
  refine lv_if_eq (tgt := 14) hx hb dX6_run_7 (by decide) (fun c_7_1 => ?_) (fun c_7_1 => ?_)
  · rw [if_pos c_7_1] at hg
    refine lv_aload_n hx hb dX6_run_14 rfl (lv_at hl 1 rfl) ?_
    refine va_get (D := D) (ci := 7) (v := .int n1.2.2.2.2.2.2.2.2.2.2.2.2.2.2.2.2.2.2.2.1) (C := RX6) (T := TX6) (N := 20) hx hb hts q1 hown hK hP 0 rfl rfl 17 (by decide) q0 (fun _ h9 => h9) rfl dX6_run_15 ?_
    refine va_put (D := D) (ci := 7) (v := .int n1.2.2.2.2.2.2.2.2.2.2.2.2.2.2.2.2.2.2.2.1) (ty := .int) (C := RX6) (T := TX6) (N := 20) hx hb hts q1 tyX6 tyX6_ok nmX6 hown hK hP hD hS 0 rfl rfl 13 (by decide) q2 (fun _ h9 => h9) rfl (by decide +kernel) rfl rfl (Nat.le_of_ble_eq_true rfl) dX6_run_18 (fun H locs hP hD hS => ?_)
    have hP : va_P D vwCl (w6 cI cC h a1 a2 a3 a4 a5 a6 a7 a8 (sS16 n1.2.2.2.2.2.2.2.2.2.2.2.2.2.2.2.2.2.2.2.1 n1.2)) H := w6p_16 hP
    have hD : va_D A (w6 cI cC h a1 a2 a3 a4 a5 a6 a7 a8 (sS16 n1.2.2.2.2.2.2.2.2.2.2.2.2.2.2.2.2.2.2.2.1 n1.2)) := w6d_16 hD
    refine lv_aload_n hx hb dX6_run_21 rfl (lv_at hl 1 rfl) ?_
    refine lv_iconst (v := 0) hx hb dX6_run_22 (by decide) ?_
    refine va_put (D := D) (ci := 7) (v := .int 0) (ty := .int) (C := RX6) (T := TX6) (N := 20) hx hb hts q1 tyX6 tyX6_ok nmX6 hown hK hP hD hS 0 rfl rfl 12 (by decide) q3 (fun _ h9 => h9) rfl (by decide +kernel) rfl rfl (Nat.le_of_ble_eq_true rfl) dX6_run_23 (fun H locs hP hD hS => ?_)
    have hP : va_P D vwCl (w6 cI cC h a1 a2 a3 a4 a5 a6 a7 a8 (sS15 0 (sS16 n1.2.2.2.2.2.2.2.2.2.2.2.2.2.2.2.2.2.2.2.1 n1.2))) H := w6p_15 hP
    have hD : va_D A (w6 cI cC h a1 a2 a3 a4 a5 a6 a7 a8 (sS15 0 (sS16 n1.2.2.2.2.2.2.2.2.2.2.2.2.2.2.2.2.2.2.2.1 n1.2))) := w6d_15 hD
    refine lv_aload_n hx hb dX6_run_26 rfl (lv_at hl 1 rfl) ?_
    refine lv_iload_n hx hb dX6_run_27 rfl (lv_at hl 0 rfl) ?_
    refine lv_if_eq (tgt := 35) hx hb dX6_run_28 (by decide) (fun c_28 => ?_) (fun c_28 => absurd c_7_1 c_28)
    refine lv_iconst (v := 1) hx hb dX6_run_35 (by decide) ?_
    obtain ⟨n2, en2⟩ : ∃ z9, z9 = (fX6_fails (sS15 0 (sS16 n1.2.2.2.2.2.2.2.2.2.2.2.2.2.2.2.2.2.2.2.1 n1.2)) 1) := ⟨_, rfl⟩
    try rw [← en2] at hg
    have k9 := (kX6_fails l D cI cC cT h a1 a2 a3 a4 a5 a6 a7 a8 (sS15 0 (sS16 n1.2.2.2.2.2.2.2.2.2.2.2.2.2.2.2.2.2.2.2.1 n1.2)) 1)
    rw [← en2] at k9
    refine fUV (As := [.int 1]) (rest := []) (st' := [.int n2.1]) ⟨hx, hb, hml, hown, hts⟩ k9 (cwV 1 hts gX6_run_X6_fails rfl rfl rfl (by decide +kernel) ⟨Nat.le_of_ble_eq_true rfl, Nat.le_of_ble_eq_true rfl⟩) hP hK hD hS [0, 1, 2, 3, 4, 5, 6, 7, 8] rfl rfl (by decide) rfl (w6 cI cC h a1 a2 a3 a4 a5 a6 a7 a8 n2.2) rfl rfl 0 (ci := 7) rfl rfl rfl rfl hl.1 rfl rfl (Nat.le_of_ble_eq_true rfl) ⟨Nat.zero_le _, Nat.zero_le _⟩ dX6_run_36 (fun H locs hP hD hS => ?_)
    refine lv_if_eq (tgt := 44) hx hb dX6_run_39 (by decide) (fun c_39 => absurd c_39 (by rw [en2, fails_1]; decide)) (fun c_39 => ?_)
    refine lv_iconst (v := 0) hx hb dX6_run_42 (by decide) ?_
    have e9 : fX6_run S = (0, n2.2) := by rw [fX6_run, ← en1, if_pos c_7_1, ← en2]
    exact rUi hx hb hr hlk hQ hP hS (by rw [e9]) (congrArg (fun z9 : (Int32 × SV) => (w6 cI cC h a1 a2 a3 a4 a5 a6 a7 a8 z9.2 : va_W)) e9).symm rfl dX6_run_43
  · rw [if_neg c_7_1] at hg
    refine lv_iconst (v := (-1)) hx hb dX6_run_10 (by decide) ?_
    refine lv_goto (tgt := 18) hx hb dX6_run_11 (by decide) ?_
    refine va_put (D := D) (ci := 7) (v := .int (-1)) (ty := .int) (C := RX6) (T := TX6) (N := 20) hx hb hts q1 tyX6 tyX6_ok nmX6 hown hK hP hD hS 0 rfl rfl 13 (by decide) q2 (fun _ h9 => h9) rfl (by decide +kernel) rfl rfl (Nat.le_of_ble_eq_true rfl) dX6_run_18 (fun H locs hP hD hS => ?_)
    have hP : va_P D vwCl (w6 cI cC h a1 a2 a3 a4 a5 a6 a7 a8 (sS16 (-1) n1.2)) H := w6p_16 hP
    have hD : va_D A (w6 cI cC h a1 a2 a3 a4 a5 a6 a7 a8 (sS16 (-1) n1.2)) := w6d_16 hD
    refine lv_aload_n hx hb dX6_run_21 rfl (lv_at hl 1 rfl) ?_
    refine lv_iconst (v := 0) hx hb dX6_run_22 (by decide) ?_
    refine va_put (D := D) (ci := 7) (v := .int 0) (ty := .int) (C := RX6) (T := TX6) (N := 20) hx hb hts q1 tyX6 tyX6_ok nmX6 hown hK hP hD hS 0 rfl rfl 12 (by decide) q3 (fun _ h9 => h9) rfl (by decide +kernel) rfl rfl (Nat.le_of_ble_eq_true rfl) dX6_run_23 (fun H locs hP hD hS => ?_)
    have hP : va_P D vwCl (w6 cI cC h a1 a2 a3 a4 a5 a6 a7 a8 (sS15 0 (sS16 (-1) n1.2))) H := w6p_15 hP
    have hD : va_D A (w6 cI cC h a1 a2 a3 a4 a5 a6 a7 a8 (sS15 0 (sS16 (-1) n1.2))) := w6d_15 hD
    refine lv_aload_n hx hb dX6_run_26 rfl (lv_at hl 1 rfl) ?_
    refine lv_iload_n hx hb dX6_run_27 rfl (lv_at hl 0 rfl) ?_
    refine lv_if_eq (tgt := 35) hx hb dX6_run_28 (by decide) (fun c_28 => absurd c_28 c_7_1) (fun c_28 => ?_)
    refine lv_iconst (v := 0) hx hb dX6_run_31 (by decide) ?_
    refine lv_goto (tgt := 36) hx hb dX6_run_32 (by decide) ?_
    obtain ⟨n3, en3⟩ : ∃ z9, z9 = (fX6_fails (sS15 0 (sS16 (-1) n1.2)) 0) := ⟨_, rfl⟩
    try rw [← en3] at hg
    have k9 := (kX6_fails l D cI cC cT h a1 a2 a3 a4 a5 a6 a7 a8 (sS15 0 (sS16 (-1) n1.2)) 0)
    rw [← en3] at k9
    refine fUV (As := [.int 0]) (rest := []) (st' := [.int n3.1]) ⟨hx, hb, hml, hown, hts⟩ k9 (cwV 1 hts gX6_run_X6_fails rfl rfl rfl (by decide +kernel) ⟨Nat.le_of_ble_eq_true rfl, Nat.le_of_ble_eq_true rfl⟩) hP hK hD hS [0, 1, 2, 3, 4, 5, 6, 7, 8] rfl rfl (by decide) rfl (w6 cI cC h a1 a2 a3 a4 a5 a6 a7 a8 n3.2) rfl rfl 0 (ci := 7) rfl rfl rfl rfl hl.1 rfl rfl (Nat.le_of_ble_eq_true rfl) ⟨Nat.zero_le _, Nat.zero_le _⟩ dX6_run_36 (fun H locs hP hD hS => ?_)
    refine lv_if_eq (tgt := 44) hx hb dX6_run_39 (by decide) (fun c_39 => ?_) (fun c_39 => absurd (by rw [en3]; exact fails_0 _) c_39)
    refine lv_aload_n hx hb dX6_run_44 rfl (lv_at hl 1 rfl) ?_
    refine va_get (D := D) (ci := 7) (v := .ref a1) (C := RX6) (T := TX6) (N := 20) hx hb hts q1 hown hK hP 0 rfl rfl 0 (by decide) q4 (fun _ h9 => h9) rfl dX6_run_45 ?_
    refine lv_iconst (v := 0) hx hb dX6_run_48 (by decide) ?_
    refine lv_aload_n hx hb dX6_run_49 rfl (lv_at hl 1 rfl) ?_
    refine va_get (D := D) (ci := 7) (v := .ref a4) (C := RX6) (T := TX6) (N := 20) hx hb hts q1 hown hK hP 0 rfl rfl 3 (by decide) q5 (fun _ h9 => h9) rfl dX6_run_50 ?_
    refine lv_iconst (v := 0) hx hb dX6_run_53 (by decide) ?_
    obtain ⟨n4, en4⟩ : ∃ z9, z9 = (fX6_copies n3.2.1 114 n3.2.2.2.2.1 114 0 0) := ⟨_, rfl⟩
    try rw [← en4] at hg
    obtain ⟨o2, hg⟩ := hg
    have k9 := (kX6_copies l D cI cC cT a1 a4 n3.2.1 114 n3.2.2.2.2.1 114 0 0 o2)
    rw [← en4] at k9
    refine fUS (As := [.ref a1, .int 0, .ref a4, .int 0]) (rest := []) (st' := []) ⟨hx, hb, hml, hown, hts⟩ k9 (va_cwS 4 hts gX6_run_X6_copies rfl rfl rfl (by decide +kernel) ⟨Nat.le_of_ble_eq_true rfl, Nat.le_of_ble_eq_true rfl⟩) hP hK hD hS [1, 4] rfl rfl (by decide) rfl (w6 cI cC h a1 a2 a3 a4 a5 a6 a7 a8 (sS3 n4 n3.2)) rfl rfl rfl hl.1 rfl rfl (Nat.le_of_ble_eq_true rfl) ⟨Nat.zero_le _, Nat.zero_le _⟩ dX6_run_54 (fun H locs hP hD hS => ?_)
    refine lv_aload_n hx hb dX6_run_57 rfl (lv_at hl 1 rfl) ?_
    refine lv_iconst (v := 1) hx hb dX6_run_58 (by decide) ?_
    refine va_put (D := D) (ci := 7) (v := .int 1) (ty := .boolean) (C := RX6) (T := TX6) (N := 20) hx hb hts q1 tyX6 tyX6_ok nmX6 hown hK hP hD hS 0 rfl rfl 6 (by decide) q6 (fun _ h9 => h9) rfl (by decide +kernel) rfl rfl (Nat.le_of_ble_eq_true rfl) dX6_run_59 (fun H locs hP hD hS => ?_)
    have hP : va_P D vwCl (w6 cI cC h a1 a2 a3 a4 a5 a6 a7 a8 (sS10 1 (sS3 n4 n3.2))) H := w6p_10 hP
    have hD : va_D A (w6 cI cC h a1 a2 a3 a4 a5 a6 a7 a8 (sS10 1 (sS3 n4 n3.2))) := w6d_10 hD
    refine lv_iconst (v := 0) hx hb dX6_run_62 (by decide) ?_
    refine lv_istore_n (lv' := [(2, .int 0), (1, .int n1.1), (0, .ref h)]) hx hb dX6_run_63 rfl hl (by decide) rfl (fun ls hl => ?_)
    refine lv_iconst (v := 0) hx hb dX6_run_64 (by decide) ?_
    refine lv_istore_n (lv' := [(3, .int 0), (2, .int 0), (1, .int n1.1), (0, .ref h)]) hx hb dX6_run_65 rfl hl (by decide) rfl (fun ls hl => ?_)
    obtain ⟨n6, en6⟩ : ∃ z9, z9 = (itv ((sS10 1 (sS3 n4 n3.2)), 0, 0) lX6_run_66 ((fun v : (SV × Int32 × Int32) => (v.1.2.2.2.2.2.2.2.2.2.2.2.2.2.2.2.2.2.2.2.toInt - v.2.1.toInt).toNat) ((sS10 1 (sS3 n4 n3.2)), 0, 0) + 1) ((sS10 1 (sS3 n4 n3.2)), 0, 0)) := ⟨_, rfl⟩
    try rw [← en6] at hg
    obtain ⟨o4, hg⟩ := hg
    have L9 := lrun_val (d := ((sS10 1 (sS3 n4 n3.2)), 0, 0)) o4
    rw [← en6] at L9
    refine loopWs lX6_run_66 glX6_run_66 (fun v : (SV × Int32 × Int32) => ∀ (H : Heap) (locs : List Loc) ls, va_P D vwCl (w6 cI cC h a1 a2 a3 a4 a5 a6 a7 a8 v.1) H → va_D A (w6 cI cC h a1 a2 a3 a4 a5 a6 a7 a8 v.1) → va_S A s.heap H locs → lv_has ls 4 [(0, .ref h), (1, .int n1.1), (2, .int v.2.1), (3, .int v.2.2)] → W p l e rmX6_run s m args below meth c H locs 0 0 Q (F0 m 66 ls [])) (fun r9 : (SV × Int32 × Int32) => ∀ (H : Heap) (locs : List Loc) ls, va_P D vwCl (w6 cI cC h a1 a2 a3 a4 a5 a6 a7 a8 r9.1) H → va_D A (w6 cI cC h a1 a2 a3 a4 a5 a6 a7 a8 r9.1) → va_S A s.heap H locs → lv_has ls 4 [(0, .ref h), (1, .int n1.1), (2, .int r9.2.1), (3, .int r9.2.2)] → W p l e rmX6_run s m args below meth c H locs 0 0 Q (F0 m 102 ls [])) ?_ _ ((sS10 1 (sS3 n4 n3.2)), 0, 0) n6 L9 ?_ _ _ ls hP hD hS (lv_sub hl [3, 2, 1, 0] rfl)
    · intro v hg kb kx H locs ls hP hD hS hl
      unfold glX6_run_66 at hg
      refine lv_iload_n hx hb dX6_run_66 rfl (lv_at hl 2 rfl) ?_
      refine lv_aload_n hx hb dX6_run_67 rfl (lv_at hl 0 rfl) ?_
      refine va_get (D := D) (ci := 7) (v := .int v.1.2.2.2.2.2.2.2.2.2.2.2.2.2.2.2.2.2.2.2) (C := RX6) (T := TX6) (N := 20) hx hb hts q1 hown hK hP 0 rfl rfl 19 (by decide) q7 (fun _ h9 => h9) rfl dX6_run_68 ?_
      refine lv_icmp_ge (tgt := 102) hx hb dX6_run_71 (by decide) (fun c_71_2 => ?_) (fun c_71_2 => ?_)
      · rw [if_pos c_71_2] at hg
        exact kx (v.1, v.2.1, v.2.2) (by rw [lX6_run_66, if_pos c_71_2]) H locs ls hP hD hS (lv_sub hl [0, 1, 2, 3] rfl)
      · rw [if_neg c_71_2] at hg
        refine lv_aload_n hx hb dX6_run_74 rfl (lv_at hl 0 rfl) ?_
        refine va_get (D := D) (ci := 7) (v := .int v.1.2.2.2.2.2.2.2.2.2.2.2.2.1) (C := RX6) (T := TX6) (N := 20) hx hb hts q1 hown hK hP 0 rfl rfl 8 (by decide) q8 (fun _ h9 => h9) rfl dX6_run_75 ?_
        refine lv_if_ne (tgt := 102) hx hb dX6_run_78 (by decide) (fun c_78_3 => ?_) (fun c_78_3 => ?_)
        · rw [if_neg c_78_3] at hg
          exact kx (v.1, v.2.1, v.2.2) (by rw [lX6_run_66, if_neg c_71_2, if_neg c_78_3]) H locs ls hP hD hS (lv_sub hl [0, 1, 2, 3] rfl)
        · rw [if_pos c_78_3] at hg
          refine lv_aload_n hx hb dX6_run_81 rfl (lv_at hl 0 rfl) ?_
          refine lv_iconst (v := 5) hx hb dX6_run_82 (by decide) ?_
          refine lv_iload_n hx hb dX6_run_83 rfl (lv_at hl 2 rfl) ?_
          refine lv_imul hx hb dX6_run_84 ?_
          obtain ⟨n5, en5⟩ : ∃ z9, z9 = (fX6_carries v.1 (5 * v.2.1)) := ⟨_, rfl⟩
          try rw [← en5] at hg
          obtain ⟨o3, hg⟩ := hg
          have k9 := (kX6_carries l D cI cC cT h a1 a2 a3 a4 a5 a6 a7 a8 v.1 (5 * v.2.1) o3)
          rw [← en5] at k9
          refine fUV (As := [.int (5 * v.2.1)]) (rest := []) (st' := [.int n5.1]) ⟨hx, hb, hml, hown, hts⟩ k9 (cwV 1 hts gX6_run_X6_carries rfl rfl rfl (by decide +kernel) ⟨Nat.le_of_ble_eq_true rfl, Nat.le_of_ble_eq_true rfl⟩) hP hK hD hS [0, 1, 2, 3, 4, 5, 6, 7, 8] rfl rfl (by decide) rfl (w6 cI cC h a1 a2 a3 a4 a5 a6 a7 a8 n5.2) rfl rfl 0 (ci := 7) rfl rfl rfl rfl hl.1 rfl rfl (Nat.le_of_ble_eq_true rfl) ⟨Nat.zero_le _, Nat.zero_le _⟩ dX6_run_85 (fun H locs hP hD hS => ?_)
          refine lv_istore_n (lv' := [(3, .int n5.1), (0, .ref h), (1, .int n1.1), (2, .int v.2.1)]) hx hb dX6_run_88 rfl hl (by decide) rfl (fun ls hl => ?_)
          refine lv_aload_n hx hb dX6_run_89 rfl (lv_at hl 1 rfl) ?_
          refine va_get (D := D) (ci := 7) (v := .int n5.2.2.2.2.2.2.2.2.2.2.2.2.2.1) (C := RX6) (T := TX6) (N := 20) hx hb hts q1 hown hK hP 0 rfl rfl 8 (by decide) q8 (fun _ h9 => h9) rfl dX6_run_90 ?_
          refine lv_if_ne (tgt := 66) hx hb dX6_run_93 (by decide) (fun c_93_4 => ?_) (fun c_93_4 => ?_)
          · exact kb (n5.2, v.2.1, n5.1) (by rw [lX6_run_66, if_neg c_71_2, if_pos c_78_3, ← en5, if_neg c_93_4]) H locs ls hP hD hS (lv_sub hl [1, 2, 3, 0] rfl)
          · refine lv_iinc (v := (v.2.1 + 1)) (lv' := [(2, .int (v.2.1 + 1)), (3, .int n5.1), (0, .ref h), (1, .int n1.1)]) hx hb dX6_run_96 hl (k := 3) rfl rfl (by decide) rfl (fun ls hl => ?_)
            refine lv_goto (tgt := 66) hx hb dX6_run_99 (by decide) ?_
            exact kb (n5.2, (v.2.1 + 1), n5.1) (by rw [lX6_run_66, if_neg c_71_2, if_pos c_78_3, ← en5, if_pos c_93_4]) H locs ls hP hD hS (lv_sub hl [2, 3, 0, 1] rfl)
    · intro H locs ls hP hD hS hl
      refine lv_aload_n hx hb dX6_run_102 rfl (lv_at hl 0 rfl) ?_
      refine lv_iconst (v := 0) hx hb dX6_run_103 (by decide) ?_
      refine va_put (D := D) (ci := 7) (v := .int 0) (ty := .boolean) (C := RX6) (T := TX6) (N := 20) hx hb hts q1 tyX6 tyX6_ok nmX6 hown hK hP hD hS 0 rfl rfl 6 (by decide) q6 (fun _ h9 => h9) rfl (by decide +kernel) rfl rfl (Nat.le_of_ble_eq_true rfl) dX6_run_104 (fun H locs hP hD hS => ?_)
      have hP : va_P D vwCl (w6 cI cC h a1 a2 a3 a4 a5 a6 a7 a8 (sS10 0 n6.1)) H := w6p_10 hP
      have hD : va_D A (w6 cI cC h a1 a2 a3 a4 a5 a6 a7 a8 (sS10 0 n6.1)) := w6d_10 hD
      refine lv_aload_n hx hb dX6_run_107 rfl (lv_at hl 0 rfl) ?_
      refine va_get (D := D) (ci := 7) (v := .int n6.1.2.2.2.2.2.2.2.2.2.2.2.2.1) (C := RX6) (T := TX6) (N := 20) hx hb hts q1 hown hK hP 0 rfl rfl 8 (by decide) q8 (fun _ h9 => h9) rfl dX6_run_108 ?_
      refine lv_if_le (tgt := 153) hx hb dX6_run_111 (by decide) (fun c_111_5 => ?_) (fun c_111_5 => ?_)
      · rw [if_pos c_111_5] at hg
        refine lv_aload_n hx hb dX6_run_153 rfl (lv_at hl 0 rfl) ?_
        refine lv_aload_n hx hb dX6_run_154 rfl (lv_at hl 0 rfl) ?_
        refine va_get (D := D) (ci := 7) (v := .ref a4) (C := RX6) (T := TX6) (N := 20) hx hb hts q1 hown hK hP 0 rfl rfl 3 (by decide) q5 (fun _ h9 => h9) rfl dX6_run_155 ?_
        obtain ⟨n7, en7⟩ : ∃ z9, z9 = (fX6_keeps_b (sS10 0 n6.1)) := ⟨_, rfl⟩
        try rw [← en7] at hg
        obtain ⟨o5, hg⟩ := hg
        have k9 := (kX6_keeps_b l D cI cC cT h a1 a2 a3 a4 a5 a6 a7 a8 (sS10 0 n6.1) o5)
        rw [← en7] at k9
        refine fUV (As := [.ref a4]) (rest := []) (st' := []) ⟨hx, hb, hml, hown, hts⟩ k9 (cwV 1 hts gX6_run_X6_keeps rfl rfl rfl (by decide +kernel) ⟨Nat.le_of_ble_eq_true rfl, Nat.le_of_ble_eq_true rfl⟩) hP hK hD hS [0, 1, 2, 3, 4, 5, 6, 7, 8] rfl rfl (by decide) rfl (w6 cI cC h a1 a2 a3 a4 a5 a6 a7 a8 n7) rfl rfl 0 (ci := 7) rfl rfl rfl rfl hl.1 rfl rfl (Nat.le_of_ble_eq_true rfl) ⟨Nat.zero_le _, Nat.zero_le _⟩ dX6_run_158 (fun H locs hP hD hS => ?_)
        refine lv_aload_n hx hb dX6_run_161 rfl (lv_at hl 0 rfl) ?_
        refine va_get (D := D) (ci := 7) (v := .int n7.2.2.2.2.2.2.2.2.2.2.2.2.2.2.2.2.2.2.2) (C := RX6) (T := TX6) (N := 20) hx hb hts q1 hown hK hP 0 rfl rfl 19 (by decide) q7 (fun _ h9 => h9) rfl dX6_run_162 ?_
        have e9 : fX6_run S = (n7.2.2.2.2.2.2.2.2.2.2.2.2.2.2.2.2.2.2.2, n7) := by rw [fX6_run, ← en1, if_neg c_7_1, ← en3, ← en4, ← en6, if_pos c_111_5, ← en7]
        exact rUi hx hb hr hlk hQ hP hS (by rw [e9]) (congrArg (fun z9 : (Int32 × SV) => (w6 cI cC h a1 a2 a3 a4 a5 a6 a7 a8 z9.2 : va_W)) e9).symm rfl dX6_run_165
      · rw [if_neg c_111_5] at hg
        refine lv_aload_n hx hb dX6_run_114 rfl (lv_at hl 0 rfl) ?_
        refine va_get (D := D) (ci := 7) (v := .ref a4) (C := RX6) (T := TX6) (N := 20) hx hb hts q1 hown hK hP 0 rfl rfl 3 (by decide) q5 (fun _ h9 => h9) rfl dX6_run_115 ?_
        refine lv_iconst (v := 0) hx hb dX6_run_118 (by decide) ?_
        refine lv_aload_n hx hb dX6_run_119 rfl (lv_at hl 0 rfl) ?_
        refine va_get (D := D) (ci := 7) (v := .ref a1) (C := RX6) (T := TX6) (N := 20) hx hb hts q1 hown hK hP 0 rfl rfl 0 (by decide) q4 (fun _ h9 => h9) rfl dX6_run_120 ?_
        refine lv_iconst (v := 0) hx hb dX6_run_123 (by decide) ?_
        obtain ⟨n8, en8⟩ : ∃ z9, z9 = (fX6_copies n6.1.2.2.2.1 114 n6.1.1 114 0 0) := ⟨_, rfl⟩
        try rw [← en8] at hg
        obtain ⟨o6, hg⟩ := hg
        have k9 := (kX6_copies l D cI cC cT a4 a1 n6.1.2.2.2.1 114 n6.1.1 114 0 0 o6)
        rw [← en8] at k9
        refine fUS (As := [.ref a4, .int 0, .ref a1, .int 0]) (rest := []) (st' := []) ⟨hx, hb, hml, hown, hts⟩ k9 (va_cwS 4 hts gX6_run_X6_copies rfl rfl rfl (by decide +kernel) ⟨Nat.le_of_ble_eq_true rfl, Nat.le_of_ble_eq_true rfl⟩) hP hK hD hS [4, 1] rfl rfl (by decide) rfl (w6 cI cC h a1 a2 a3 a4 a5 a6 a7 a8 (sS0 n8 (sS10 0 n6.1))) rfl rfl rfl hl.1 rfl rfl (Nat.le_of_ble_eq_true rfl) ⟨Nat.zero_le _, Nat.zero_le _⟩ dX6_run_124 (fun H locs hP hD hS => ?_)
        refine lv_aload_n hx hb dX6_run_127 rfl (lv_at hl 0 rfl) ?_
        refine lv_aload_n hx hb dX6_run_128 rfl (lv_at hl 0 rfl) ?_
        refine va_get (D := D) (ci := 7) (v := .int n6.1.2.2.2.2.2.2.2.2.2.2.2.1) (C := RX6) (T := TX6) (N := 20) hx hb hts q1 hown hK hP 0 rfl rfl 7 (by decide) q9 (fun _ h9 => h9) rfl dX6_run_129 ?_
        refine lv_if_eq (tgt := 139) hx hb dX6_run_132 (by decide) (fun c_132_6 => ?_) (fun c_132_6 => ?_)
        · refine lv_iconst (v := 1) hx hb dX6_run_139 (by decide) ?_
          refine va_put (D := D) (ci := 7) (v := .int 1) (ty := .int) (C := RX6) (T := TX6) (N := 20) hx hb hts q1 tyX6 tyX6_ok nmX6 hown hK hP hD hS 0 rfl rfl 8 (by decide) q8 (fun _ h9 => h9) rfl (by decide +kernel) rfl rfl (Nat.le_of_ble_eq_true rfl) dX6_run_140 (fun H locs hP hD hS => ?_)
          have hP : va_P D vwCl (w6 cI cC h a1 a2 a3 a4 a5 a6 a7 a8 (sS12 1 (sS0 n8 (sS10 0 n6.1)))) H := w6p_12 hP
          have hD : va_D A (w6 cI cC h a1 a2 a3 a4 a5 a6 a7 a8 (sS12 1 (sS0 n8 (sS10 0 n6.1)))) := w6d_12 hD
          refine lv_iload_n hx hb dX6_run_143 rfl (lv_at hl 3 rfl) ?_
          refine lv_if_le (tgt := 151) hx hb dX6_run_144 (by decide) (fun c_144_7 => ?_) (fun c_144_7 => ?_)
          · refine lv_iload_n hx hb dX6_run_151 rfl (lv_at hl 3 rfl) ?_
            have e9 : fX6_run S = (n6.2.2, (sS12 1 (sS0 n8 (sS10 0 n6.1)))) := by rw [fX6_run, ← en1, if_neg c_7_1, ← en3, ← en4, ← en6, if_neg c_111_5, ← en8, if_pos c_132_6, if_pos c_144_7]
            exact rUi hx hb hr hlk hQ hP hS (by rw [e9]) (congrArg (fun z9 : (Int32 × SV) => (w6 cI cC h a1 a2 a3 a4 a5 a6 a7 a8 z9.2 : va_W)) e9).symm rfl dX6_run_152
          · refine lv_iconst (v := 0) hx hb dX6_run_147 (by decide) ?_
            refine lv_goto (tgt := 152) hx hb dX6_run_148 (by decide) ?_
            have e9 : fX6_run S = (0, (sS12 1 (sS0 n8 (sS10 0 n6.1)))) := by rw [fX6_run, ← en1, if_neg c_7_1, ← en3, ← en4, ← en6, if_neg c_111_5, ← en8, if_pos c_132_6, if_neg c_144_7]
            exact rUi hx hb hr hlk hQ hP hS (by rw [e9]) (congrArg (fun z9 : (Int32 × SV) => (w6 cI cC h a1 a2 a3 a4 a5 a6 a7 a8 z9.2 : va_W)) e9).symm rfl dX6_run_152
        · refine lv_iconst (v := 2) hx hb dX6_run_135 (by decide) ?_
          refine lv_goto (tgt := 140) hx hb dX6_run_136 (by decide) ?_
          refine va_put (D := D) (ci := 7) (v := .int 2) (ty := .int) (C := RX6) (T := TX6) (N := 20) hx hb hts q1 tyX6 tyX6_ok nmX6 hown hK hP hD hS 0 rfl rfl 8 (by decide) q8 (fun _ h9 => h9) rfl (by decide +kernel) rfl rfl (Nat.le_of_ble_eq_true rfl) dX6_run_140 (fun H locs hP hD hS => ?_)
          have hP : va_P D vwCl (w6 cI cC h a1 a2 a3 a4 a5 a6 a7 a8 (sS12 2 (sS0 n8 (sS10 0 n6.1)))) H := w6p_12 hP
          have hD : va_D A (w6 cI cC h a1 a2 a3 a4 a5 a6 a7 a8 (sS12 2 (sS0 n8 (sS10 0 n6.1)))) := w6d_12 hD
          refine lv_iload_n hx hb dX6_run_143 rfl (lv_at hl 3 rfl) ?_
          refine lv_if_le (tgt := 151) hx hb dX6_run_144 (by decide) (fun c_144_8 => ?_) (fun c_144_8 => ?_)
          · refine lv_iload_n hx hb dX6_run_151 rfl (lv_at hl 3 rfl) ?_
            have e9 : fX6_run S = (n6.2.2, (sS12 2 (sS0 n8 (sS10 0 n6.1)))) := by rw [fX6_run, ← en1, if_neg c_7_1, ← en3, ← en4, ← en6, if_neg c_111_5, ← en8, if_neg c_132_6, if_pos c_144_8]
            exact rUi hx hb hr hlk hQ hP hS (by rw [e9]) (congrArg (fun z9 : (Int32 × SV) => (w6 cI cC h a1 a2 a3 a4 a5 a6 a7 a8 z9.2 : va_W)) e9).symm rfl dX6_run_152
          · refine lv_iconst (v := 0) hx hb dX6_run_147 (by decide) ?_
            refine lv_goto (tgt := 152) hx hb dX6_run_148 (by decide) ?_
            have e9 : fX6_run S = (0, (sS12 2 (sS0 n8 (sS10 0 n6.1)))) := by rw [fX6_run, ← en1, if_neg c_7_1, ← en3, ← en4, ← en6, if_neg c_111_5, ← en8, if_neg c_132_6, if_neg c_144_8]
            exact rUi hx hb hr hlk hQ hP hS (by rw [e9]) (congrArg (fun z9 : (Int32 × SV) => (w6 cI cC h a1 a2 a3 a4 a5 a6 a7 a8 z9.2 : va_W)) e9).symm rfl dX6_run_152
def fX6_errorPosition (S : SV)  : (Int32 × SV) := (S.2.2.2.2.2.2.2.2.2.2.2.2.2.2.2.2.1, (sS12 0 S))
abbrev rmX6_errorPosition : Room := { frames := 0, cells := 0, slots := 0, locals := 0 }
set_option maxHeartbeats 4000000 in
set_option maxRecDepth 100000 in
theorem kX6_errorPosition (l : Launch) (D : va_G) (cI cC cT : ClassId) (h a1 a2 a3 a4 a5 a6 a7 a8 : Nat) (S : SV)   : mU l D (TY cI cC cT) yX6_errorPosition wsX6_errorPosition rmX6_errorPosition [.ref h] (w6 cI cC h a1 a2 a3 a4 a5 a6 a7 a8 S) (some (.int (fX6_errorPosition S).1)) (w6 cI cC h a1 a2 a3 a4 a5 a6 a7 a8 (fX6_errorPosition S).2) := by
  refine mU.ofW (cc := cX6_errorPosition) (maxL := 1) (ret := (some .int)) (by decide) rfl (Nat.le_of_ble_eq_true rfl) ?_
  intro p e s m args below meth c Q ls A hx hb hml hr hlk hts hown hP hK hD hS hl hQ
  have hown : s.vm.findClass RX6 = some m.cls := hown
  have hP : va_P D vwCl (w6 cI cC h a1 a2 a3 a4 a5 a6 a7 a8 S) s.heap := hP
  have hD : va_D A (w6 cI cC h a1 a2 a3 a4 a5 a6 a7 a8 S) := hD
  have hl : lv_has ls 1 [(0, .ref h)] := hl
  have q0 := hts (Cond.fieldLink RX6 39 "TavernStoolsModel" "code" "I") (by decide +kernel)
  have q1 : ∀ w ∈ u_ws RX6 TX6 20, w ∈ wsX6_errorPosition := by decide +kernel
  have q2 := hts (Cond.fieldLink RX6 25 "TavernStoolsModel" "error" "I") (by decide +kernel)
  generalize hHe : s.heap = H at hP ⊢
  have hS : va_S A s.heap H [] := hHe ▸ hS
  generalize hLe : ([] : List Loc) = locs at hS ⊢
  refine lv_aload_n hx hb dX6_errorPosition_0 rfl (lv_at hl 0 rfl) ?_
  refine lv_iconst (v := 0) hx hb dX6_errorPosition_1 (by decide) ?_
  refine va_put (D := D) (ci := 7) (v := .int 0) (ty := .int) (C := RX6) (T := TX6) (N := 20) hx hb hts q1 tyX6 tyX6_ok nmX6 hown hK hP hD hS 0 rfl rfl 8 (by decide) q0 (fun _ h9 => h9) rfl (by decide +kernel) rfl rfl (Nat.le_of_ble_eq_true rfl) dX6_errorPosition_2 (fun H locs hP hD hS => ?_)
  have hP : va_P D vwCl (w6 cI cC h a1 a2 a3 a4 a5 a6 a7 a8 (sS12 0 S)) H := w6p_12 hP
  have hD : va_D A (w6 cI cC h a1 a2 a3 a4 a5 a6 a7 a8 (sS12 0 S)) := w6d_12 hD
  refine lv_aload_n hx hb dX6_errorPosition_5 rfl (lv_at hl 0 rfl) ?_
  refine va_get (D := D) (ci := 7) (v := .int S.2.2.2.2.2.2.2.2.2.2.2.2.2.2.2.2.1) (C := RX6) (T := TX6) (N := 20) hx hb hts q1 hown hK hP 0 rfl rfl 13 (by decide) q2 (fun _ h9 => h9) rfl dX6_errorPosition_6 ?_
  have e9 : fX6_errorPosition S = (S.2.2.2.2.2.2.2.2.2.2.2.2.2.2.2.2.1, (sS12 0 S)) := by rw [fX6_errorPosition]
  exact rUi hx hb hr hlk hQ hP hS (by rw [e9]) (congrArg (fun z9 : (Int32 × SV) => (w6 cI cC h a1 a2 a3 a4 a5 a6 a7 a8 z9.2 : va_W)) e9).symm rfl dX6_errorPosition_9
def fX6_refusal (S : SV) (x1 : Int32) : (Int32 × SV) := (if S.2.2.2.2.2.2.2.2.2.2.2.2.2.1 = 0 then (0, (fX6_fails S 1).2) else (if x1 = 0 then ((fX6_fails S 0).2.2.2.2.2.2.2.2.2.2.2.2.2.2.1, (fX6_fails S 0).2) else ((fX6_fails S 0).2.2.2.2.2.2.2.2.2.2.2.2.2.2.2.1, (fX6_fails S 0).2)))
abbrev rmX6_refusal : Room := { frames := 1, cells := 0, slots := 0, locals := 21 }
set_option maxHeartbeats 4000000 in
set_option maxRecDepth 100000 in
theorem kX6_refusal (l : Launch) (D : va_G) (cI cC cT : ClassId) (h a1 a2 a3 a4 a5 a6 a7 a8 : Nat) (S : SV) (x1 : Int32)  : mU l D (TY cI cC cT) yX6_refusal wsX6_refusal rmX6_refusal [.ref h, .int x1] (w6 cI cC h a1 a2 a3 a4 a5 a6 a7 a8 S) (some (.int (fX6_refusal S x1).1)) (w6 cI cC h a1 a2 a3 a4 a5 a6 a7 a8 (fX6_refusal S x1).2) := by
  refine mU.ofW (cc := cX6_refusal) (maxL := 2) (ret := (some .int)) (by decide) rfl (Nat.le_of_ble_eq_true rfl) ?_
  intro p e s m args below meth c Q ls A hx hb hml hr hlk hts hown hP hK hD hS hl hQ
  have hown : s.vm.findClass RX6 = some m.cls := hown
  have hP : va_P D vwCl (w6 cI cC h a1 a2 a3 a4 a5 a6 a7 a8 S) s.heap := hP
  have hD : va_D A (w6 cI cC h a1 a2 a3 a4 a5 a6 a7 a8 S) := hD
  have hl : lv_has ls 2 [(0, .ref h), (1, .int x1)] := hl
  have q0 := hts (Cond.fieldLink RX6 46 "TavernStoolsModel" "why" "I") (by decide +kernel)
  have q1 : ∀ w ∈ u_ws RX6 TX6 20, w ∈ wsX6_refusal := by decide +kernel
  have q2 := hts (Cond.fieldLink RX6 49 "TavernStoolsModel" "detail" "I") (by decide +kernel)
  generalize hHe : s.heap = H at hP ⊢
  have hS : va_S A s.heap H [] := hHe ▸ hS
  generalize hLe : ([] : List Loc) = locs at hS ⊢
  refine lv_aload_n hx hb dX6_refusal_0 rfl (lv_at hl 0 rfl) ?_
  refine lv_aload_n hx hb dX6_refusal_1 rfl (lv_at hl 0 rfl) ?_
  refine va_get (D := D) (ci := 7) (v := .int S.2.2.2.2.2.2.2.2.2.2.2.2.2.1) (C := RX6) (T := TX6) (N := 20) hx hb hts q1 hown hK hP 0 rfl rfl 9 (by decide) q0 (fun _ h9 => h9) rfl dX6_refusal_2 ?_
  refine lv_if_ne (tgt := 12) hx hb dX6_refusal_5 (by decide) (fun c_5_1 => ?_) (fun c_5_1 => ?_)
  · refine lv_iconst (v := 0) hx hb dX6_refusal_12 (by decide) ?_
    obtain ⟨n1, en1⟩ : ∃ z9, z9 = (fX6_fails S 0) := ⟨_, rfl⟩
    try rw [← en1] at hg
    have k9 := (kX6_fails l D cI cC cT h a1 a2 a3 a4 a5 a6 a7 a8 S 0)
    rw [← en1] at k9
    refine fUV (As := [.int 0]) (rest := []) (st' := [.int n1.1]) ⟨hx, hb, hml, hown, hts⟩ k9 (cwV 1 hts gX6_refusal_X6_fails rfl rfl rfl (by decide +kernel) ⟨Nat.le_of_ble_eq_true rfl, Nat.le_of_ble_eq_true rfl⟩) hP hK hD hS [0, 1, 2, 3, 4, 5, 6, 7, 8] rfl rfl (by decide) rfl (w6 cI cC h a1 a2 a3 a4 a5 a6 a7 a8 n1.2) rfl rfl 0 (ci := 7) rfl rfl rfl rfl hl.1 rfl rfl (Nat.le_of_ble_eq_true rfl) ⟨Nat.zero_le _, Nat.zero_le _⟩ dX6_refusal_13 (fun H locs hP hD hS => ?_)
    refine lv_if_eq (tgt := 23) hx hb dX6_refusal_16 (by decide) (fun c_16 => ?_) (fun c_16 => absurd (by rw [en1]; exact fails_0 _) c_16)
    refine lv_iload_n hx hb dX6_refusal_23 rfl (lv_at hl 1 rfl) ?_
    refine lv_if_eq (tgt := 34) hx hb dX6_refusal_24 (by decide) (fun c_24_2 => ?_) (fun c_24_2 => ?_)
    · refine lv_aload_n hx hb dX6_refusal_34 rfl (lv_at hl 0 rfl) ?_
      refine va_get (D := D) (ci := 7) (v := .int n1.2.2.2.2.2.2.2.2.2.2.2.2.2.2.1) (C := RX6) (T := TX6) (N := 20) hx hb hts q1 hown hK hP 0 rfl rfl 9 (by decide) q0 (fun _ h9 => h9) rfl dX6_refusal_35 ?_
      have e9 : fX6_refusal S x1 = (n1.2.2.2.2.2.2.2.2.2.2.2.2.2.2.1, n1.2) := by rw [fX6_refusal, if_neg c_5_1, ← en1, if_pos c_24_2]
      exact rUi hx hb hr hlk hQ hP hS (by rw [e9]) (congrArg (fun z9 : (Int32 × SV) => (w6 cI cC h a1 a2 a3 a4 a5 a6 a7 a8 z9.2 : va_W)) e9).symm rfl dX6_refusal_38
    · refine lv_aload_n hx hb dX6_refusal_27 rfl (lv_at hl 0 rfl) ?_
      refine va_get (D := D) (ci := 7) (v := .int n1.2.2.2.2.2.2.2.2.2.2.2.2.2.2.2.1) (C := RX6) (T := TX6) (N := 20) hx hb hts q1 hown hK hP 0 rfl rfl 10 (by decide) q2 (fun _ h9 => h9) rfl dX6_refusal_28 ?_
      refine lv_goto (tgt := 38) hx hb dX6_refusal_31 (by decide) ?_
      have e9 : fX6_refusal S x1 = (n1.2.2.2.2.2.2.2.2.2.2.2.2.2.2.2.1, n1.2) := by rw [fX6_refusal, if_neg c_5_1, ← en1, if_neg c_24_2]
      exact rUi hx hb hr hlk hQ hP hS (by rw [e9]) (congrArg (fun z9 : (Int32 × SV) => (w6 cI cC h a1 a2 a3 a4 a5 a6 a7 a8 z9.2 : va_W)) e9).symm rfl dX6_refusal_38
  · refine lv_iconst (v := 1) hx hb dX6_refusal_8 (by decide) ?_
    refine lv_goto (tgt := 13) hx hb dX6_refusal_9 (by decide) ?_
    obtain ⟨n2, en2⟩ : ∃ z9, z9 = (fX6_fails S 1) := ⟨_, rfl⟩
    try rw [← en2] at hg
    have k9 := (kX6_fails l D cI cC cT h a1 a2 a3 a4 a5 a6 a7 a8 S 1)
    rw [← en2] at k9
    refine fUV (As := [.int 1]) (rest := []) (st' := [.int n2.1]) ⟨hx, hb, hml, hown, hts⟩ k9 (cwV 1 hts gX6_refusal_X6_fails rfl rfl rfl (by decide +kernel) ⟨Nat.le_of_ble_eq_true rfl, Nat.le_of_ble_eq_true rfl⟩) hP hK hD hS [0, 1, 2, 3, 4, 5, 6, 7, 8] rfl rfl (by decide) rfl (w6 cI cC h a1 a2 a3 a4 a5 a6 a7 a8 n2.2) rfl rfl 0 (ci := 7) rfl rfl rfl rfl hl.1 rfl rfl (Nat.le_of_ble_eq_true rfl) ⟨Nat.zero_le _, Nat.zero_le _⟩ dX6_refusal_13 (fun H locs hP hD hS => ?_)
    refine lv_if_eq (tgt := 23) hx hb dX6_refusal_16 (by decide) (fun c_16 => absurd c_16 (by rw [en2, fails_1]; decide)) (fun c_16 => ?_)
    refine lv_iconst (v := 0) hx hb dX6_refusal_19 (by decide) ?_
    refine lv_goto (tgt := 38) hx hb dX6_refusal_20 (by decide) ?_
    have e9 : fX6_refusal S x1 = (0, n2.2) := by rw [fX6_refusal, if_pos c_5_1, ← en2]
    exact rUi hx hb hr hlk hQ hP hS (by rw [e9]) (congrArg (fun z9 : (Int32 × SV) => (w6 cI cC h a1 a2 a3 a4 a5 a6 a7 a8 z9.2 : va_W)) e9).symm rfl dX6_refusal_38
def lX6_summed_4 (S : SV) (x1 : Int32) (v : (Int32 × Int32)) : (Int32 × Int32) ⊕ ((Int32 × Int32)) := (if (S.1 (0 : Int32).toNatClampNeg) ≤ v.2 then (.inr (v.1, v.2)) else (.inl ((v.1 + (fX6_of S v.2 x1)), (v.2 + 1))))
def glX6_summed_4 (S : SV) (x1 : Int32) (v : (Int32 × Int32)) : Prop := ((vp_in 0 114) ∧ (if (S.1 (0 : Int32).toNatClampNeg) ≤ v.2 then True else ((gX6_of S v.2 x1) ∧ True)))
def fX6_summed (S : SV) (x1 : Int32) : Int32 := (itv (0, 0) (lX6_summed_4 S x1) ((fun v : (Int32 × Int32) => ((S.1 (0 : Int32).toNatClampNeg).toInt - v.2.toInt).toNat) (0, 0) + 1) (0, 0)).1
def gX6_summed (S : SV) (x1 : Int32) : Prop := ((∃ r9 : (Int32 × Int32), lrun (lX6_summed_4 S x1) (glX6_summed_4 S x1) ((fun v : (Int32 × Int32) => ((S.1 (0 : Int32).toNatClampNeg).toInt - v.2.toInt).toNat) (0, 0) + 1) (0, 0) r9) ∧ True)
abbrev rmX6_summed : Room := { frames := 1, cells := 0, slots := 0, locals := 22 }
set_option maxHeartbeats 4000000 in
set_option maxRecDepth 100000 in
theorem kX6_summed (l : Launch) (D : va_G) (cI cC cT : ClassId) (h a1 a2 a3 a4 a5 a6 a7 a8 : Nat) (S : SV) (x1 : Int32) (hg : gX6_summed S x1) : mR l D (TY cI cC cT) yX6_summed wsX6_summed rmX6_summed [.ref h, .int x1] (w6 cI cC h a1 a2 a3 a4 a5 a6 a7 a8 S) (some (.int (fX6_summed S x1))) := by
  refine mR.ofW (cc := cX6_summed) (maxL := 4) (ret := (some .int)) (by decide) rfl (Nat.le_of_ble_eq_true rfl) ?_
  intro p e s m args below meth c Q ls hx hb hml hr hlk hts hown hP hK hl hQ
  have hown : s.vm.findClass RX6 = some m.cls := hown
  have hP : va_P D vwCl (w6 cI cC h a1 a2 a3 a4 a5 a6 a7 a8 S) s.heap := hP
  have hl : lv_has ls 4 [(0, .ref h), (1, .int x1)] := hl
  have q0 := hts (Cond.fieldLink RX6 7 "TavernStoolsModel" "g" "[I") (by decide +kernel)
  have q1 : ∀ w ∈ u_ws RX6 TX6 20, w ∈ wsX6_summed := by decide +kernel
  unfold gX6_summed at hg
  refine lv_iconst (v := 0) hx hb dX6_summed_0 (by decide) ?_
  refine lv_istore_n (lv' := [(2, .int 0), (0, .ref h), (1, .int x1)]) hx hb dX6_summed_1 rfl hl (by decide) rfl (fun ls hl => ?_)
  refine lv_iconst (v := 0) hx hb dX6_summed_2 (by decide) ?_
  refine lv_istore_n (lv' := [(3, .int 0), (2, .int 0), (0, .ref h), (1, .int x1)]) hx hb dX6_summed_3 rfl hl (by decide) rfl (fun ls hl => ?_)
  obtain ⟨n1, en1⟩ : ∃ z9, z9 = (itv (0, 0) (lX6_summed_4 S x1) ((fun v : (Int32 × Int32) => ((S.1 (0 : Int32).toNatClampNeg).toInt - v.2.toInt).toNat) (0, 0) + 1) (0, 0)) := ⟨_, rfl⟩
  try rw [← en1] at hg
  obtain ⟨o3, hg⟩ := hg
  have L9 := lrun_val (d := (0, 0)) o3
  rw [← en1] at L9
  refine loopWs (lX6_summed_4 S x1) (glX6_summed_4 S x1) (fun v : (Int32 × Int32) => ∀ ls, lv_has ls 4 [(0, .ref h), (1, .int x1), (2, .int v.1), (3, .int v.2)] → W p l e rmX6_summed s m args below meth c s.heap [] 0 0 Q (F0 m 4 ls [])) (fun r9 : (Int32 × Int32) => ∀ ls, lv_has ls 4 [(0, .ref h), (1, .int x1), (2, .int r9.1), (3, .int r9.2)] → W p l e rmX6_summed s m args below meth c s.heap [] 0 0 Q (F0 m 29 ls [])) ?_ _ (0, 0) n1 L9 ?_ ls (lv_sub hl [2, 3, 1, 0] rfl)
  · intro v hg kb kx ls hl
    unfold glX6_summed_4 at hg
    refine lv_iload_n hx hb dX6_summed_4 rfl (lv_at hl 3 rfl) ?_
    refine lv_aload_n hx hb dX6_summed_5 rfl (lv_at hl 0 rfl) ?_
    refine va_get (D := D) (ci := 7) (v := .ref a1) (C := RX6) (T := TX6) (N := 20) hx hb hts q1 hown hK hP 0 rfl rfl 0 (by decide) q0 (fun _ h9 => h9) rfl dX6_summed_6 ?_
    refine lv_iconst (v := 0) hx hb dX6_summed_9 (by decide) ?_
    obtain ⟨o1, hg⟩ := hg
    refine va_iald hx hb hK hP 1 0 rfl rfl o1 dX6_summed_10 ?_
    refine lv_icmp_ge (tgt := 29) hx hb dX6_summed_11 (by decide) (fun c_11_1 => ?_) (fun c_11_1 => ?_)
    · rw [if_pos c_11_1] at hg
      exact kx (v.1, v.2) (by rw [lX6_summed_4, if_pos c_11_1]) ls (lv_sub hl [0, 1, 2, 3] rfl)
    · rw [if_neg c_11_1] at hg
      refine lv_iload_n hx hb dX6_summed_14 rfl (lv_at hl 2 rfl) ?_
      refine lv_aload_n hx hb dX6_summed_15 rfl (lv_at hl 0 rfl) ?_
      refine lv_iload_n hx hb dX6_summed_16 rfl (lv_at hl 3 rfl) ?_
      refine lv_iload_n hx hb dX6_summed_17 rfl (lv_at hl 1 rfl) ?_
      obtain ⟨o2, hg⟩ := hg
      refine fRV (As := [.int v.2, .int x1]) (rest := [.int v.1]) (st' := [.int (fX6_of S v.2 x1), .int v.1]) ⟨hx, hb, hml, hown, hts⟩ (kX6_of l D cI cC cT h a1 a2 a3 a4 a5 a6 a7 a8 S v.2 x1 o2) (cwV 2 hts gX6_summed_X6_of rfl rfl rfl (by decide +kernel) ⟨Nat.le_of_ble_eq_true rfl, Nat.le_of_ble_eq_true rfl⟩) hP hK [0, 1, 2, 3, 4, 5, 6, 7, 8] rfl 0 (ci := 7) rfl rfl rfl rfl hl.1 rfl rfl (Nat.le_of_ble_eq_true rfl) ⟨Nat.zero_le _, Nat.zero_le _⟩ dX6_summed_18 ?_
      refine lv_iadd hx hb dX6_summed_21 ?_
      refine lv_istore_n (lv' := [(2, .int (v.1 + (fX6_of S v.2 x1))), (0, .ref h), (1, .int x1), (3, .int v.2)]) hx hb dX6_summed_22 rfl hl (by decide) rfl (fun ls hl => ?_)
      refine lv_iinc (v := (v.2 + 1)) (lv' := [(3, .int (v.2 + 1)), (2, .int (v.1 + (fX6_of S v.2 x1))), (0, .ref h), (1, .int x1)]) hx hb dX6_summed_23 hl (k := 3) rfl rfl (by decide) rfl (fun ls hl => ?_)
      refine lv_goto (tgt := 4) hx hb dX6_summed_26 (by decide) ?_
      exact kb ((v.1 + (fX6_of S v.2 x1)), (v.2 + 1)) (by rw [lX6_summed_4, if_neg c_11_1]) ls (lv_sub hl [2, 3, 1, 0] rfl)
  · intro ls hl
    refine lv_iload_n hx hb dX6_summed_29 rfl (lv_at hl 2 rfl) ?_
    exact rRi hx hb hr hlk hQ (by rw [fX6_summed, ← en1]) rfl dX6_summed_30
def lX6_cats_4 (S : SV) (v : (Int32 × Int32)) : (Int32 × Int32) ⊕ ((Int32 × Int32)) := (if (S.1 (1 : Int32).toNatClampNeg) ≤ v.2 then (.inr (v.1, v.2)) else (if (fX6_isCat S v.2) = 0 then (.inl ((v.1 + 0), (v.2 + 1))) else (.inl ((v.1 + 1), (v.2 + 1)))))
def glX6_cats_4 (S : SV) (v : (Int32 × Int32)) : Prop := ((vp_in 1 114) ∧ (if (S.1 (1 : Int32).toNatClampNeg) ≤ v.2 then True else ((gX6_isCat S v.2) ∧ True)))
def fX6_cats (S : SV)  : Int32 := (itv (0, 0) (lX6_cats_4 S) ((fun v : (Int32 × Int32) => ((S.1 (1 : Int32).toNatClampNeg).toInt - v.2.toInt).toNat) (0, 0) + 1) (0, 0)).1
def gX6_cats (S : SV)  : Prop := ((∃ r9 : (Int32 × Int32), lrun (lX6_cats_4 S) (glX6_cats_4 S) ((fun v : (Int32 × Int32) => ((S.1 (1 : Int32).toNatClampNeg).toInt - v.2.toInt).toNat) (0, 0) + 1) (0, 0) r9) ∧ True)
abbrev rmX6_cats : Room := { frames := 2, cells := 0, slots := 0, locals := 43 }
set_option maxHeartbeats 4000000 in
set_option maxRecDepth 100000 in
theorem kX6_cats (l : Launch) (D : va_G) (cI cC cT : ClassId) (h a1 a2 a3 a4 a5 a6 a7 a8 : Nat) (S : SV)  (hg : gX6_cats S) : mR l D (TY cI cC cT) yX6_cats wsX6_cats rmX6_cats [.ref h] (w6 cI cC h a1 a2 a3 a4 a5 a6 a7 a8 S) (some (.int (fX6_cats S))) := by
  refine mR.ofW (cc := cX6_cats) (maxL := 3) (ret := (some .int)) (by decide) rfl (Nat.le_of_ble_eq_true rfl) ?_
  intro p e s m args below meth c Q ls hx hb hml hr hlk hts hown hP hK hl hQ
  have hown : s.vm.findClass RX6 = some m.cls := hown
  have hP : va_P D vwCl (w6 cI cC h a1 a2 a3 a4 a5 a6 a7 a8 S) s.heap := hP
  have hl : lv_has ls 3 [(0, .ref h)] := hl
  have q0 := hts (Cond.fieldLink RX6 7 "TavernStoolsModel" "g" "[I") (by decide +kernel)
  have q1 : ∀ w ∈ u_ws RX6 TX6 20, w ∈ wsX6_cats := by decide +kernel
  unfold gX6_cats at hg
  refine lv_iconst (v := 0) hx hb dX6_cats_0 (by decide) ?_
  refine lv_istore_n (lv' := [(1, .int 0), (0, .ref h)]) hx hb dX6_cats_1 rfl hl (by decide) rfl (fun ls hl => ?_)
  refine lv_iconst (v := 0) hx hb dX6_cats_2 (by decide) ?_
  refine lv_istore_n (lv' := [(2, .int 0), (1, .int 0), (0, .ref h)]) hx hb dX6_cats_3 rfl hl (by decide) rfl (fun ls hl => ?_)
  obtain ⟨n1, en1⟩ : ∃ z9, z9 = (itv (0, 0) (lX6_cats_4 S) ((fun v : (Int32 × Int32) => ((S.1 (1 : Int32).toNatClampNeg).toInt - v.2.toInt).toNat) (0, 0) + 1) (0, 0)) := ⟨_, rfl⟩
  try rw [← en1] at hg
  obtain ⟨o3, hg⟩ := hg
  have L9 := lrun_val (d := (0, 0)) o3
  rw [← en1] at L9
  refine loopWs (lX6_cats_4 S) (glX6_cats_4 S) (fun v : (Int32 × Int32) => ∀ ls, lv_has ls 3 [(0, .ref h), (1, .int v.1), (2, .int v.2)] → W p l e rmX6_cats s m args below meth c s.heap [] 0 0 Q (F0 m 4 ls [])) (fun r9 : (Int32 × Int32) => ∀ ls, lv_has ls 3 [(0, .ref h), (1, .int r9.1), (2, .int r9.2)] → W p l e rmX6_cats s m args below meth c s.heap [] 0 0 Q (F0 m 36 ls [])) ?_ _ (0, 0) n1 L9 ?_ ls (lv_sub hl [2, 1, 0] rfl)
  · intro v hg kb kx ls hl
    unfold glX6_cats_4 at hg
    refine lv_iload_n hx hb dX6_cats_4 rfl (lv_at hl 2 rfl) ?_
    refine lv_aload_n hx hb dX6_cats_5 rfl (lv_at hl 0 rfl) ?_
    refine va_get (D := D) (ci := 7) (v := .ref a1) (C := RX6) (T := TX6) (N := 20) hx hb hts q1 hown hK hP 0 rfl rfl 0 (by decide) q0 (fun _ h9 => h9) rfl dX6_cats_6 ?_
    refine lv_iconst (v := 1) hx hb dX6_cats_9 (by decide) ?_
    obtain ⟨o1, hg⟩ := hg
    refine va_iald hx hb hK hP 1 0 rfl rfl o1 dX6_cats_10 ?_
    refine lv_icmp_ge (tgt := 36) hx hb dX6_cats_11 (by decide) (fun c_11_1 => ?_) (fun c_11_1 => ?_)
    · rw [if_pos c_11_1] at hg
      exact kx (v.1, v.2) (by rw [lX6_cats_4, if_pos c_11_1]) ls (lv_sub hl [0, 1, 2] rfl)
    · rw [if_neg c_11_1] at hg
      refine lv_iload_n hx hb dX6_cats_14 rfl (lv_at hl 1 rfl) ?_
      refine lv_aload_n hx hb dX6_cats_15 rfl (lv_at hl 0 rfl) ?_
      refine lv_iload_n hx hb dX6_cats_16 rfl (lv_at hl 2 rfl) ?_
      obtain ⟨o2, hg⟩ := hg
      refine fRV (As := [.int v.2]) (rest := [.int v.1]) (st' := [.int (fX6_isCat S v.2), .int v.1]) ⟨hx, hb, hml, hown, hts⟩ (kX6_isCat l D cI cC cT h a1 a2 a3 a4 a5 a6 a7 a8 S v.2 o2) (cwV 1 hts gX6_cats_X6_isCat rfl rfl rfl (by decide +kernel) ⟨Nat.le_of_ble_eq_true rfl, Nat.le_of_ble_eq_true rfl⟩) hP hK [0, 1, 2, 3, 4, 5, 6, 7, 8] rfl 0 (ci := 7) rfl rfl rfl rfl hl.1 rfl rfl (Nat.le_of_ble_eq_true rfl) ⟨Nat.zero_le _, Nat.zero_le _⟩ dX6_cats_17 ?_
      refine lv_if_eq (tgt := 27) hx hb dX6_cats_20 (by decide) (fun c_20_2 => ?_) (fun c_20_2 => ?_)
      · refine lv_iconst (v := 0) hx hb dX6_cats_27 (by decide) ?_
        refine lv_iadd hx hb dX6_cats_28 ?_
        refine lv_istore_n (lv' := [(1, .int (v.1 + 0)), (0, .ref h), (2, .int v.2)]) hx hb dX6_cats_29 rfl hl (by decide) rfl (fun ls hl => ?_)
        refine lv_iinc (v := (v.2 + 1)) (lv' := [(2, .int (v.2 + 1)), (1, .int (v.1 + 0)), (0, .ref h)]) hx hb dX6_cats_30 hl (k := 2) rfl rfl (by decide) rfl (fun ls hl => ?_)
        refine lv_goto (tgt := 4) hx hb dX6_cats_33 (by decide) ?_
        exact kb ((v.1 + 0), (v.2 + 1)) (by rw [lX6_cats_4, if_neg c_11_1, if_pos c_20_2]) ls (lv_sub hl [2, 1, 0] rfl)
      · refine lv_iconst (v := 1) hx hb dX6_cats_23 (by decide) ?_
        refine lv_goto (tgt := 28) hx hb dX6_cats_24 (by decide) ?_
        refine lv_iadd hx hb dX6_cats_28 ?_
        refine lv_istore_n (lv' := [(1, .int (v.1 + 1)), (0, .ref h), (2, .int v.2)]) hx hb dX6_cats_29 rfl hl (by decide) rfl (fun ls hl => ?_)
        refine lv_iinc (v := (v.2 + 1)) (lv' := [(2, .int (v.2 + 1)), (1, .int (v.1 + 1)), (0, .ref h)]) hx hb dX6_cats_30 hl (k := 2) rfl rfl (by decide) rfl (fun ls hl => ?_)
        refine lv_goto (tgt := 4) hx hb dX6_cats_33 (by decide) ?_
        exact kb ((v.1 + 1), (v.2 + 1)) (by rw [lX6_cats_4, if_neg c_11_1, if_neg c_20_2]) ls (lv_sub hl [2, 1, 0] rfl)
  · intro ls hl
    refine lv_iload_n hx hb dX6_cats_36 rfl (lv_at hl 1 rfl) ?_
    exact rRi hx hb hr hlk hQ (by rw [fX6_cats, ← en1]) rfl dX6_cats_37
def fX6_account (S : SV) (x1 : Int32) : (Int32 × SV) := (if (fX6_in x1 0 12) = 0 then (0, (fX6_fails S 1).2) else (if x1 = 0 then (((fX6_fails S 0).2.1 (0 : Int32).toNatClampNeg), (fX6_fails S 0).2) else (if x1 = 1 then ((fX6_summed (fX6_fails S 0).2 3), (fX6_fails S 0).2) else (if x1 = 2 then (((fX6_fails S 0).2.1 (1 : Int32).toNatClampNeg), (fX6_fails S 0).2) else (if x1 = 3 then ((fX6_cats (fX6_fails S 0).2), (fX6_fails S 0).2) else (if x1 = 4 then ((fX6_taken (fX6_fails S 0).2 0 (((fX6_fails S 0).2.1 (0 : Int32).toNatClampNeg) - 1)), (fX6_fails S 0).2) else (if x1 = 5 then (((fX6_fails S 0).2.1 (2 : Int32).toNatClampNeg), (fX6_fails S 0).2) else (if x1 = 6 then ((fX6_underStools (fX6_fails S 0).2), (fX6_fails S 0).2) else (if x1 = 10 then ((fX6_summed (fX6_fails S 0).2 2), (fX6_fails S 0).2) else (if x1 = 11 then ((fX6_fails S 0).2.2.2.2.2.2.2.2.2.2.2.2.2.2.2.2.1, (fX6_fails S 0).2) else (if x1 = 12 then ((fX6_fails S 0).2.2.2.2.2.2.2.2.2.2.1, (fX6_fails S 0).2) else (((fX6_fails S 0).2.1 (((3 + x1) - 7)).toNatClampNeg), (fX6_fails S 0).2))))))))))))
def gX6_account (S : SV) (x1 : Int32) : Prop := (if (fX6_in x1 0 12) = 0 then True else (if x1 = 0 then ((vp_in 0 114) ∧ True) else (if x1 = 1 then ((gX6_summed (fX6_fails S 0).2 3) ∧ True) else (if x1 = 2 then ((vp_in 1 114) ∧ True) else (if x1 = 3 then ((gX6_cats (fX6_fails S 0).2) ∧ True) else (if x1 = 4 then ((vp_in 0 114) ∧ (gX6_taken (fX6_fails S 0).2 0 (((fX6_fails S 0).2.1 (0 : Int32).toNatClampNeg) - 1)) ∧ True) else (if x1 = 5 then ((vp_in 2 114) ∧ True) else (if x1 = 6 then ((gX6_underStools (fX6_fails S 0).2) ∧ True) else (if x1 = 10 then ((gX6_summed (fX6_fails S 0).2 2) ∧ True) else (if x1 = 11 then True else (if x1 = 12 then True else ((vp_in ((3 + x1) - 7) 114) ∧ True))))))))))))
abbrev rmX6_account : Room := { frames := 3, cells := 0, slots := 0, locals := 65 }
set_option maxHeartbeats 4000000 in
set_option maxRecDepth 100000 in
theorem kX6_account (l : Launch) (D : va_G) (cI cC cT : ClassId) (h a1 a2 a3 a4 a5 a6 a7 a8 : Nat) (S : SV) (x1 : Int32) (hg : gX6_account S x1) : mU l D (TY cI cC cT) yX6_account wsX6_account rmX6_account [.ref h, .int x1] (w6 cI cC h a1 a2 a3 a4 a5 a6 a7 a8 S) (some (.int (fX6_account S x1).1)) (w6 cI cC h a1 a2 a3 a4 a5 a6 a7 a8 (fX6_account S x1).2) := by
  refine mU.ofW (cc := cX6_account) (maxL := 2) (ret := (some .int)) (by decide) rfl (Nat.le_of_ble_eq_true rfl) ?_
  intro p e s m args below meth c Q ls A hx hb hml hr hlk hts hown hP hK hD hS hl hQ
  have hown : s.vm.findClass RX6 = some m.cls := hown
  have hP : va_P D vwCl (w6 cI cC h a1 a2 a3 a4 a5 a6 a7 a8 S) s.heap := hP
  have hD : va_D A (w6 cI cC h a1 a2 a3 a4 a5 a6 a7 a8 S) := hD
  have hl : lv_has ls 2 [(0, .ref h), (1, .int x1)] := hl
  have q0 := hts (Cond.fieldLink RX6 7 "TavernStoolsModel" "g" "[I") (by decide +kernel)
  have q1 : ∀ w ∈ u_ws RX6 TX6 20, w ∈ wsX6_account := by decide +kernel
  have q2 := hts (Cond.fieldLink RX6 180 "TavernStoolsModel" "length" "I") (by decide +kernel)
  have q3 := hts (Cond.fieldLink RX6 55 "TavernStoolsModel" "changes" "I") (by decide +kernel)
  unfold gX6_account at hg
  generalize hHe : s.heap = H at hP ⊢
  have hS : va_S A s.heap H [] := hHe ▸ hS
  generalize hLe : ([] : List Loc) = locs at hS ⊢
  refine lv_aload_n hx hb dX6_account_0 rfl (lv_at hl 0 rfl) ?_
  refine lv_iload_n hx hb dX6_account_1 rfl (lv_at hl 1 rfl) ?_
  refine lv_iconst (v := 0) hx hb dX6_account_2 (by decide) ?_
  refine lv_bipush (v := 12) hx hb dX6_account_3 (by decide) ?_
  refine fRS (As := [.int x1, .int 0, .int 12]) (rest := [.ref h]) (st' := [.int (fX6_in x1 0 12), .ref h]) ⟨hx, hb, hml, hown, hts⟩ (kX6_in l D cI cC cT x1 0 12) (va_cwS 3 hts gX6_account_X6_in rfl rfl rfl (by decide +kernel) ⟨Nat.le_of_ble_eq_true rfl, Nat.le_of_ble_eq_true rfl⟩) hP hK [] rfl rfl hl.1 rfl rfl (Nat.le_of_ble_eq_true rfl) ⟨Nat.zero_le _, Nat.zero_le _⟩ dX6_account_5 ?_
  refine lv_if_eq (tgt := 15) hx hb dX6_account_8 (by decide) (fun c_8_1 => ?_) (fun c_8_1 => ?_)
  · rw [if_pos c_8_1] at hg
    refine lv_iconst (v := 1) hx hb dX6_account_15 (by decide) ?_
    obtain ⟨n1, en1⟩ : ∃ z9, z9 = (fX6_fails S 1) := ⟨_, rfl⟩
    try rw [← en1] at hg
    have k9 := (kX6_fails l D cI cC cT h a1 a2 a3 a4 a5 a6 a7 a8 S 1)
    rw [← en1] at k9
    refine fUV (As := [.int 1]) (rest := []) (st' := [.int n1.1]) ⟨hx, hb, hml, hown, hts⟩ k9 (cwV 1 hts gX6_account_X6_fails rfl rfl rfl (by decide +kernel) ⟨Nat.le_of_ble_eq_true rfl, Nat.le_of_ble_eq_true rfl⟩) hP hK hD hS [0, 1, 2, 3, 4, 5, 6, 7, 8] rfl rfl (by decide) rfl (w6 cI cC h a1 a2 a3 a4 a5 a6 a7 a8 n1.2) rfl rfl 0 (ci := 7) rfl rfl rfl rfl hl.1 rfl rfl (Nat.le_of_ble_eq_true rfl) ⟨Nat.zero_le _, Nat.zero_le _⟩ dX6_account_16 (fun H locs hP hD hS => ?_)
    refine lv_if_eq (tgt := 24) hx hb dX6_account_19 (by decide) (fun c_19 => absurd c_19 (by rw [en1, fails_1]; decide)) (fun c_19 => ?_)
    refine lv_iconst (v := 0) hx hb dX6_account_22 (by decide) ?_
    have e9 : fX6_account S x1 = (0, n1.2) := by rw [fX6_account, if_pos c_8_1, ← en1]
    exact rUi hx hb hr hlk hQ hP hS (by rw [e9]) (congrArg (fun z9 : (Int32 × SV) => (w6 cI cC h a1 a2 a3 a4 a5 a6 a7 a8 z9.2 : va_W)) e9).symm rfl dX6_account_23
  · rw [if_neg c_8_1] at hg
    refine lv_iconst (v := 0) hx hb dX6_account_11 (by decide) ?_
    refine lv_goto (tgt := 16) hx hb dX6_account_12 (by decide) ?_
    obtain ⟨n2, en2⟩ : ∃ z9, z9 = (fX6_fails S 0) := ⟨_, rfl⟩
    try rw [← en2] at hg
    have k9 := (kX6_fails l D cI cC cT h a1 a2 a3 a4 a5 a6 a7 a8 S 0)
    rw [← en2] at k9
    refine fUV (As := [.int 0]) (rest := []) (st' := [.int n2.1]) ⟨hx, hb, hml, hown, hts⟩ k9 (cwV 1 hts gX6_account_X6_fails rfl rfl rfl (by decide +kernel) ⟨Nat.le_of_ble_eq_true rfl, Nat.le_of_ble_eq_true rfl⟩) hP hK hD hS [0, 1, 2, 3, 4, 5, 6, 7, 8] rfl rfl (by decide) rfl (w6 cI cC h a1 a2 a3 a4 a5 a6 a7 a8 n2.2) rfl rfl 0 (ci := 7) rfl rfl rfl rfl hl.1 rfl rfl (Nat.le_of_ble_eq_true rfl) ⟨Nat.zero_le _, Nat.zero_le _⟩ dX6_account_16 (fun H locs hP hD hS => ?_)
    refine lv_if_eq (tgt := 24) hx hb dX6_account_19 (by decide) (fun c_19 => ?_) (fun c_19 => absurd (by rw [en2]; exact fails_0 _) c_19)
    refine lv_iload_n hx hb dX6_account_24 rfl (lv_at hl 1 rfl) ?_
    by_cases c_25_0 : x1 = 0
    · refine lv_tableIn (off := 67) (tgt := 92) hx hb dX6_account_25 (by rw [c_25_0]; decide) (by rw [c_25_0]; decide) (by rw [c_25_0]; rfl) (by decide) ?_
      rw [if_pos c_25_0] at hg
      refine lv_aload_n hx hb dX6_account_92 rfl (lv_at hl 0 rfl) ?_
      refine va_get (D := D) (ci := 7) (v := .ref a1) (C := RX6) (T := TX6) (N := 20) hx hb hts q1 hown hK hP 0 rfl rfl 0 (by decide) q0 (fun _ h9 => h9) rfl dX6_account_93 ?_
      refine lv_iconst (v := 0) hx hb dX6_account_96 (by decide) ?_
      obtain ⟨o1, hg⟩ := hg
      refine va_iald hx hb hK hP 1 0 rfl rfl o1 dX6_account_97 ?_
      have e9 : fX6_account S x1 = ((n2.2.1 (0 : Int32).toNatClampNeg), n2.2) := by rw [fX6_account, if_neg c_8_1, ← en2, if_pos c_25_0]
      exact rUi hx hb hr hlk hQ hP hS (by rw [e9]) (congrArg (fun z9 : (Int32 × SV) => (w6 cI cC h a1 a2 a3 a4 a5 a6 a7 a8 z9.2 : va_W)) e9).symm rfl dX6_account_98
    · rw [if_neg c_25_0] at hg
      by_cases c_25_1 : x1 = 1
      · refine lv_tableIn (off := 74) (tgt := 99) hx hb dX6_account_25 (by rw [c_25_1]; decide) (by rw [c_25_1]; decide) (by rw [c_25_1]; rfl) (by decide) ?_
        rw [if_pos c_25_1] at hg
        refine lv_aload_n hx hb dX6_account_99 rfl (lv_at hl 0 rfl) ?_
        refine lv_iconst (v := 3) hx hb dX6_account_100 (by decide) ?_
        obtain ⟨o2, hg⟩ := hg
        refine fRV (As := [.int 3]) (rest := []) (st' := [.int (fX6_summed n2.2 3)]) ⟨hx, hb, hml, hown, hts⟩ (kX6_summed l D cI cC cT h a1 a2 a3 a4 a5 a6 a7 a8 n2.2 3 o2) (cwV 1 hts gX6_account_X6_summed rfl rfl rfl (by decide +kernel) ⟨Nat.le_of_ble_eq_true rfl, Nat.le_of_ble_eq_true rfl⟩) hP hK [0, 1, 2, 3, 4, 5, 6, 7, 8] rfl 0 (ci := 7) rfl rfl rfl rfl hl.1 rfl rfl (Nat.le_of_ble_eq_true rfl) ⟨Nat.zero_le _, Nat.zero_le _⟩ dX6_account_101 ?_
        have e9 : fX6_account S x1 = ((fX6_summed n2.2 3), n2.2) := by rw [fX6_account, if_neg c_8_1, ← en2, if_neg c_25_0, if_pos c_25_1]
        exact rUi hx hb hr hlk hQ hP hS (by rw [e9]) (congrArg (fun z9 : (Int32 × SV) => (w6 cI cC h a1 a2 a3 a4 a5 a6 a7 a8 z9.2 : va_W)) e9).symm rfl dX6_account_104
      · rw [if_neg c_25_1] at hg
        by_cases c_25_2 : x1 = 2
        · refine lv_tableIn (off := 80) (tgt := 105) hx hb dX6_account_25 (by rw [c_25_2]; decide) (by rw [c_25_2]; decide) (by rw [c_25_2]; rfl) (by decide) ?_
          rw [if_pos c_25_2] at hg
          refine lv_aload_n hx hb dX6_account_105 rfl (lv_at hl 0 rfl) ?_
          refine va_get (D := D) (ci := 7) (v := .ref a1) (C := RX6) (T := TX6) (N := 20) hx hb hts q1 hown hK hP 0 rfl rfl 0 (by decide) q0 (fun _ h9 => h9) rfl dX6_account_106 ?_
          refine lv_iconst (v := 1) hx hb dX6_account_109 (by decide) ?_
          obtain ⟨o3, hg⟩ := hg
          refine va_iald hx hb hK hP 1 0 rfl rfl o3 dX6_account_110 ?_
          have e9 : fX6_account S x1 = ((n2.2.1 (1 : Int32).toNatClampNeg), n2.2) := by rw [fX6_account, if_neg c_8_1, ← en2, if_neg c_25_0, if_neg c_25_1, if_pos c_25_2]
          exact rUi hx hb hr hlk hQ hP hS (by rw [e9]) (congrArg (fun z9 : (Int32 × SV) => (w6 cI cC h a1 a2 a3 a4 a5 a6 a7 a8 z9.2 : va_W)) e9).symm rfl dX6_account_111
        · rw [if_neg c_25_2] at hg
          by_cases c_25_3 : x1 = 3
          · refine lv_tableIn (off := 87) (tgt := 112) hx hb dX6_account_25 (by rw [c_25_3]; decide) (by rw [c_25_3]; decide) (by rw [c_25_3]; rfl) (by decide) ?_
            rw [if_pos c_25_3] at hg
            refine lv_aload_n hx hb dX6_account_112 rfl (lv_at hl 0 rfl) ?_
            obtain ⟨o4, hg⟩ := hg
            refine fRV (As := []) (rest := []) (st' := [.int (fX6_cats n2.2)]) ⟨hx, hb, hml, hown, hts⟩ (kX6_cats l D cI cC cT h a1 a2 a3 a4 a5 a6 a7 a8 n2.2 o4) (cwV 0 hts gX6_account_X6_cats rfl rfl rfl (by decide +kernel) ⟨Nat.le_of_ble_eq_true rfl, Nat.le_of_ble_eq_true rfl⟩) hP hK [0, 1, 2, 3, 4, 5, 6, 7, 8] rfl 0 (ci := 7) rfl rfl rfl rfl hl.1 rfl rfl (Nat.le_of_ble_eq_true rfl) ⟨Nat.zero_le _, Nat.zero_le _⟩ dX6_account_113 ?_
            have e9 : fX6_account S x1 = ((fX6_cats n2.2), n2.2) := by rw [fX6_account, if_neg c_8_1, ← en2, if_neg c_25_0, if_neg c_25_1, if_neg c_25_2, if_pos c_25_3]
            exact rUi hx hb hr hlk hQ hP hS (by rw [e9]) (congrArg (fun z9 : (Int32 × SV) => (w6 cI cC h a1 a2 a3 a4 a5 a6 a7 a8 z9.2 : va_W)) e9).symm rfl dX6_account_116
          · rw [if_neg c_25_3] at hg
            by_cases c_25_4 : x1 = 4
            · refine lv_tableIn (off := 92) (tgt := 117) hx hb dX6_account_25 (by rw [c_25_4]; decide) (by rw [c_25_4]; decide) (by rw [c_25_4]; rfl) (by decide) ?_
              rw [if_pos c_25_4] at hg
              refine lv_aload_n hx hb dX6_account_117 rfl (lv_at hl 0 rfl) ?_
              refine lv_iconst (v := 0) hx hb dX6_account_118 (by decide) ?_
              refine lv_aload_n hx hb dX6_account_119 rfl (lv_at hl 0 rfl) ?_
              refine va_get (D := D) (ci := 7) (v := .ref a1) (C := RX6) (T := TX6) (N := 20) hx hb hts q1 hown hK hP 0 rfl rfl 0 (by decide) q0 (fun _ h9 => h9) rfl dX6_account_120 ?_
              refine lv_iconst (v := 0) hx hb dX6_account_123 (by decide) ?_
              obtain ⟨o5, hg⟩ := hg
              refine va_iald hx hb hK hP 1 0 rfl rfl o5 dX6_account_124 ?_
              refine lv_iconst (v := 1) hx hb dX6_account_125 (by decide) ?_
              refine lv_isub hx hb dX6_account_126 ?_
              obtain ⟨o6, hg⟩ := hg
              refine fRV (As := [.int 0, .int ((n2.2.1 (0 : Int32).toNatClampNeg) - 1)]) (rest := []) (st' := [.int (fX6_taken n2.2 0 ((n2.2.1 (0 : Int32).toNatClampNeg) - 1))]) ⟨hx, hb, hml, hown, hts⟩ (kX6_taken l D cI cC cT h a1 a2 a3 a4 a5 a6 a7 a8 n2.2 0 ((n2.2.1 (0 : Int32).toNatClampNeg) - 1) o6) (cwV 2 hts gX6_account_X6_taken rfl rfl rfl (by decide +kernel) ⟨Nat.le_of_ble_eq_true rfl, Nat.le_of_ble_eq_true rfl⟩) hP hK [0, 1, 2, 3, 4, 5, 6, 7, 8] rfl 0 (ci := 7) rfl rfl rfl rfl hl.1 rfl rfl (Nat.le_of_ble_eq_true rfl) ⟨Nat.zero_le _, Nat.zero_le _⟩ dX6_account_127 ?_
              have e9 : fX6_account S x1 = ((fX6_taken n2.2 0 ((n2.2.1 (0 : Int32).toNatClampNeg) - 1)), n2.2) := by rw [fX6_account, if_neg c_8_1, ← en2, if_neg c_25_0, if_neg c_25_1, if_neg c_25_2, if_neg c_25_3, if_pos c_25_4]
              exact rUi hx hb hr hlk hQ hP hS (by rw [e9]) (congrArg (fun z9 : (Int32 × SV) => (w6 cI cC h a1 a2 a3 a4 a5 a6 a7 a8 z9.2 : va_W)) e9).symm rfl dX6_account_130
            · rw [if_neg c_25_4] at hg
              by_cases c_25_5 : x1 = 5
              · refine lv_tableIn (off := 106) (tgt := 131) hx hb dX6_account_25 (by rw [c_25_5]; decide) (by rw [c_25_5]; decide) (by rw [c_25_5]; rfl) (by decide) ?_
                rw [if_pos c_25_5] at hg
                refine lv_aload_n hx hb dX6_account_131 rfl (lv_at hl 0 rfl) ?_
                refine va_get (D := D) (ci := 7) (v := .ref a1) (C := RX6) (T := TX6) (N := 20) hx hb hts q1 hown hK hP 0 rfl rfl 0 (by decide) q0 (fun _ h9 => h9) rfl dX6_account_132 ?_
                refine lv_iconst (v := 2) hx hb dX6_account_135 (by decide) ?_
                obtain ⟨o7, hg⟩ := hg
                refine va_iald hx hb hK hP 1 0 rfl rfl o7 dX6_account_136 ?_
                have e9 : fX6_account S x1 = ((n2.2.1 (2 : Int32).toNatClampNeg), n2.2) := by rw [fX6_account, if_neg c_8_1, ← en2, if_neg c_25_0, if_neg c_25_1, if_neg c_25_2, if_neg c_25_3, if_neg c_25_4, if_pos c_25_5]
                exact rUi hx hb hr hlk hQ hP hS (by rw [e9]) (congrArg (fun z9 : (Int32 × SV) => (w6 cI cC h a1 a2 a3 a4 a5 a6 a7 a8 z9.2 : va_W)) e9).symm rfl dX6_account_137
              · rw [if_neg c_25_5] at hg
                by_cases c_25_6 : x1 = 6
                · refine lv_tableIn (off := 113) (tgt := 138) hx hb dX6_account_25 (by rw [c_25_6]; decide) (by rw [c_25_6]; decide) (by rw [c_25_6]; rfl) (by decide) ?_
                  rw [if_pos c_25_6] at hg
                  refine lv_aload_n hx hb dX6_account_138 rfl (lv_at hl 0 rfl) ?_
                  obtain ⟨o8, hg⟩ := hg
                  refine fRV (As := []) (rest := []) (st' := [.int (fX6_underStools n2.2)]) ⟨hx, hb, hml, hown, hts⟩ (kX6_underStools l D cI cC cT h a1 a2 a3 a4 a5 a6 a7 a8 n2.2 o8) (cwV 0 hts gX6_account_X6_underStools rfl rfl rfl (by decide +kernel) ⟨Nat.le_of_ble_eq_true rfl, Nat.le_of_ble_eq_true rfl⟩) hP hK [0, 1, 2, 3, 4, 5, 6, 7, 8] rfl 0 (ci := 7) rfl rfl rfl rfl hl.1 rfl rfl (Nat.le_of_ble_eq_true rfl) ⟨Nat.zero_le _, Nat.zero_le _⟩ dX6_account_139 ?_
                  have e9 : fX6_account S x1 = ((fX6_underStools n2.2), n2.2) := by rw [fX6_account, if_neg c_8_1, ← en2, if_neg c_25_0, if_neg c_25_1, if_neg c_25_2, if_neg c_25_3, if_neg c_25_4, if_neg c_25_5, if_pos c_25_6]
                  exact rUi hx hb hr hlk hQ hP hS (by rw [e9]) (congrArg (fun z9 : (Int32 × SV) => (w6 cI cC h a1 a2 a3 a4 a5 a6 a7 a8 z9.2 : va_W)) e9).symm rfl dX6_account_142
                · rw [if_neg c_25_6] at hg
                  by_cases c_25_10 : x1 = 10
                  · refine lv_tableIn (off := 118) (tgt := 143) hx hb dX6_account_25 (by rw [c_25_10]; decide) (by rw [c_25_10]; decide) (by rw [c_25_10]; rfl) (by decide) ?_
                    rw [if_pos c_25_10] at hg
                    refine lv_aload_n hx hb dX6_account_143 rfl (lv_at hl 0 rfl) ?_
                    refine lv_iconst (v := 2) hx hb dX6_account_144 (by decide) ?_
                    obtain ⟨o9, hg⟩ := hg
                    refine fRV (As := [.int 2]) (rest := []) (st' := [.int (fX6_summed n2.2 2)]) ⟨hx, hb, hml, hown, hts⟩ (kX6_summed l D cI cC cT h a1 a2 a3 a4 a5 a6 a7 a8 n2.2 2 o9) (cwV 1 hts gX6_account_X6_summed rfl rfl rfl (by decide +kernel) ⟨Nat.le_of_ble_eq_true rfl, Nat.le_of_ble_eq_true rfl⟩) hP hK [0, 1, 2, 3, 4, 5, 6, 7, 8] rfl 0 (ci := 7) rfl rfl rfl rfl hl.1 rfl rfl (Nat.le_of_ble_eq_true rfl) ⟨Nat.zero_le _, Nat.zero_le _⟩ dX6_account_145 ?_
                    have e9 : fX6_account S x1 = ((fX6_summed n2.2 2), n2.2) := by rw [fX6_account, if_neg c_8_1, ← en2, if_neg c_25_0, if_neg c_25_1, if_neg c_25_2, if_neg c_25_3, if_neg c_25_4, if_neg c_25_5, if_neg c_25_6, if_pos c_25_10]
                    exact rUi hx hb hr hlk hQ hP hS (by rw [e9]) (congrArg (fun z9 : (Int32 × SV) => (w6 cI cC h a1 a2 a3 a4 a5 a6 a7 a8 z9.2 : va_W)) e9).symm rfl dX6_account_148
                  · rw [if_neg c_25_10] at hg
                    by_cases c_25_11 : x1 = 11
                    · refine lv_tableIn (off := 124) (tgt := 149) hx hb dX6_account_25 (by rw [c_25_11]; decide) (by rw [c_25_11]; decide) (by rw [c_25_11]; rfl) (by decide) ?_
                      rw [if_pos c_25_11] at hg
                      refine lv_aload_n hx hb dX6_account_149 rfl (lv_at hl 0 rfl) ?_
                      refine va_get (D := D) (ci := 7) (v := .int n2.2.2.2.2.2.2.2.2.2.2.2.2.2.2.2.2.1) (C := RX6) (T := TX6) (N := 20) hx hb hts q1 hown hK hP 0 rfl rfl 12 (by decide) q2 (fun _ h9 => h9) rfl dX6_account_150 ?_
                      have e9 : fX6_account S x1 = (n2.2.2.2.2.2.2.2.2.2.2.2.2.2.2.2.2.1, n2.2) := by rw [fX6_account, if_neg c_8_1, ← en2, if_neg c_25_0, if_neg c_25_1, if_neg c_25_2, if_neg c_25_3, if_neg c_25_4, if_neg c_25_5, if_neg c_25_6, if_neg c_25_10, if_pos c_25_11]
                      exact rUi hx hb hr hlk hQ hP hS (by rw [e9]) (congrArg (fun z9 : (Int32 × SV) => (w6 cI cC h a1 a2 a3 a4 a5 a6 a7 a8 z9.2 : va_W)) e9).symm rfl dX6_account_153
                    · rw [if_neg c_25_11] at hg
                      by_cases c_25_12 : x1 = 12
                      · refine lv_tableIn (off := 129) (tgt := 154) hx hb dX6_account_25 (by rw [c_25_12]; decide) (by rw [c_25_12]; decide) (by rw [c_25_12]; rfl) (by decide) ?_
                        rw [if_pos c_25_12] at hg
                        refine lv_aload_n hx hb dX6_account_154 rfl (lv_at hl 0 rfl) ?_
                        refine va_get (D := D) (ci := 7) (v := .int n2.2.2.2.2.2.2.2.2.2.2.1) (C := RX6) (T := TX6) (N := 20) hx hb hts q1 hown hK hP 0 rfl rfl 5 (by decide) q3 (fun _ h9 => h9) rfl dX6_account_155 ?_
                        have e9 : fX6_account S x1 = (n2.2.2.2.2.2.2.2.2.2.2.1, n2.2) := by rw [fX6_account, if_neg c_8_1, ← en2, if_neg c_25_0, if_neg c_25_1, if_neg c_25_2, if_neg c_25_3, if_neg c_25_4, if_neg c_25_5, if_neg c_25_6, if_neg c_25_10, if_neg c_25_11, if_pos c_25_12]
                        exact rUi hx hb hr hlk hQ hP hS (by rw [e9]) (congrArg (fun z9 : (Int32 × SV) => (w6 cI cC h a1 a2 a3 a4 a5 a6 a7 a8 z9.2 : va_W)) e9).symm rfl dX6_account_158
                      · rw [if_neg c_25_12] at hg
                        refine lv_tableDef (tgt := 159) [0, 1, 2, 3, 4, 5, 6, 10, 11, 12] hx hb dX6_account_25 (by decide) (by decide) (List.forall_mem_cons.mpr ⟨tn c_25_0 (by decide), List.forall_mem_cons.mpr ⟨tn c_25_1 (by decide), List.forall_mem_cons.mpr ⟨tn c_25_2 (by decide), List.forall_mem_cons.mpr ⟨tn c_25_3 (by decide), List.forall_mem_cons.mpr ⟨tn c_25_4 (by decide), List.forall_mem_cons.mpr ⟨tn c_25_5 (by decide), List.forall_mem_cons.mpr ⟨tn c_25_6 (by decide), List.forall_mem_cons.mpr ⟨tn c_25_10 (by decide), List.forall_mem_cons.mpr ⟨tn c_25_11 (by decide), List.forall_mem_cons.mpr ⟨tn c_25_12 (by decide), List.forall_mem_nil _⟩⟩⟩⟩⟩⟩⟩⟩⟩⟩) (by decide) ?_
                        refine lv_aload_n hx hb dX6_account_159 rfl (lv_at hl 0 rfl) ?_
                        refine va_get (D := D) (ci := 7) (v := .ref a1) (C := RX6) (T := TX6) (N := 20) hx hb hts q1 hown hK hP 0 rfl rfl 0 (by decide) q0 (fun _ h9 => h9) rfl dX6_account_160 ?_
                        refine lv_iconst (v := 3) hx hb dX6_account_163 (by decide) ?_
                        refine lv_iload_n hx hb dX6_account_164 rfl (lv_at hl 1 rfl) ?_
                        refine lv_iadd hx hb dX6_account_165 ?_
                        refine lv_bipush (v := 7) hx hb dX6_account_166 (by decide) ?_
                        refine lv_isub hx hb dX6_account_168 ?_
                        obtain ⟨o10, hg⟩ := hg
                        refine va_iald hx hb hK hP 1 0 rfl rfl o10 dX6_account_169 ?_
                        have e9 : fX6_account S x1 = ((n2.2.1 (((3 + x1) - 7)).toNatClampNeg), n2.2) := by rw [fX6_account, if_neg c_8_1, ← en2, if_neg c_25_0, if_neg c_25_1, if_neg c_25_2, if_neg c_25_3, if_neg c_25_4, if_neg c_25_5, if_neg c_25_6, if_neg c_25_10, if_neg c_25_11, if_neg c_25_12]
                        exact rUi hx hb hr hlk hQ hP hS (by rw [e9]) (congrArg (fun z9 : (Int32 × SV) => (w6 cI cC h a1 a2 a3 a4 a5 a6 a7 a8 z9.2 : va_W)) e9).symm rfl dX6_account_170
def fX6_isWell (S : SV)  : (Int32 × SV) := (if ((S.1 (2 : Int32).toNatClampNeg) + (fX6_underStools (sS12 0 S))) = (6 + (S.1 (5 : Int32).toNatClampNeg)) then (1, (sS12 0 S)) else (0, (sS12 0 S)))
def gX6_isWell (S : SV)  : Prop := ((vp_in 2 114) ∧ (gX6_underStools (sS12 0 S)) ∧ (vp_in 5 114) ∧ True)
abbrev rmX6_isWell : Room := { frames := 2, cells := 0, slots := 0, locals := 44 }
set_option maxHeartbeats 4000000 in
set_option maxRecDepth 100000 in
theorem kX6_isWell (l : Launch) (D : va_G) (cI cC cT : ClassId) (h a1 a2 a3 a4 a5 a6 a7 a8 : Nat) (S : SV)  (hg : gX6_isWell S) : mU l D (TY cI cC cT) yX6_isWell wsX6_isWell rmX6_isWell [.ref h] (w6 cI cC h a1 a2 a3 a4 a5 a6 a7 a8 S) (some (.int (fX6_isWell S).1)) (w6 cI cC h a1 a2 a3 a4 a5 a6 a7 a8 (fX6_isWell S).2) := by
  refine mU.ofW (cc := cX6_isWell) (maxL := 1) (ret := (some .boolean)) (by decide) rfl (Nat.le_of_ble_eq_true rfl) ?_
  intro p e s m args below meth c Q ls A hx hb hml hr hlk hts hown hP hK hD hS hl hQ
  have hown : s.vm.findClass RX6 = some m.cls := hown
  have hP : va_P D vwCl (w6 cI cC h a1 a2 a3 a4 a5 a6 a7 a8 S) s.heap := hP
  have hD : va_D A (w6 cI cC h a1 a2 a3 a4 a5 a6 a7 a8 S) := hD
  have hl : lv_has ls 1 [(0, .ref h)] := hl
  have q0 := hts (Cond.fieldLink RX6 39 "TavernStoolsModel" "code" "I") (by decide +kernel)
  have q1 : ∀ w ∈ u_ws RX6 TX6 20, w ∈ wsX6_isWell := by decide +kernel
  have q2 := hts (Cond.fieldLink RX6 7 "TavernStoolsModel" "g" "[I") (by decide +kernel)
  unfold gX6_isWell at hg
  generalize hHe : s.heap = H at hP ⊢
  have hS : va_S A s.heap H [] := hHe ▸ hS
  generalize hLe : ([] : List Loc) = locs at hS ⊢
  refine lv_aload_n hx hb dX6_isWell_0 rfl (lv_at hl 0 rfl) ?_
  refine lv_iconst (v := 0) hx hb dX6_isWell_1 (by decide) ?_
  refine va_put (D := D) (ci := 7) (v := .int 0) (ty := .int) (C := RX6) (T := TX6) (N := 20) hx hb hts q1 tyX6 tyX6_ok nmX6 hown hK hP hD hS 0 rfl rfl 8 (by decide) q0 (fun _ h9 => h9) rfl (by decide +kernel) rfl rfl (Nat.le_of_ble_eq_true rfl) dX6_isWell_2 (fun H locs hP hD hS => ?_)
  have hP : va_P D vwCl (w6 cI cC h a1 a2 a3 a4 a5 a6 a7 a8 (sS12 0 S)) H := w6p_12 hP
  have hD : va_D A (w6 cI cC h a1 a2 a3 a4 a5 a6 a7 a8 (sS12 0 S)) := w6d_12 hD
  refine lv_aload_n hx hb dX6_isWell_5 rfl (lv_at hl 0 rfl) ?_
  refine va_get (D := D) (ci := 7) (v := .ref a1) (C := RX6) (T := TX6) (N := 20) hx hb hts q1 hown hK hP 0 rfl rfl 0 (by decide) q2 (fun _ h9 => h9) rfl dX6_isWell_6 ?_
  refine lv_iconst (v := 2) hx hb dX6_isWell_9 (by decide) ?_
  obtain ⟨o1, hg⟩ := hg
  refine va_iald hx hb hK hP 1 0 rfl rfl o1 dX6_isWell_10 ?_
  try rw [show (sS12 0 S).1 = S.1 from rfl]
  refine lv_aload_n hx hb dX6_isWell_11 rfl (lv_at hl 0 rfl) ?_
  obtain ⟨o2, hg⟩ := hg
  refine fRV (As := []) (rest := [.int (S.1 (2 : Int32).toNatClampNeg)]) (st' := [.int (fX6_underStools (sS12 0 S)), .int (S.1 (2 : Int32).toNatClampNeg)]) ⟨hx, hb, hml, hown, hts⟩ (kX6_underStools l D cI cC cT h a1 a2 a3 a4 a5 a6 a7 a8 (sS12 0 S) o2) (cwV 0 hts gX6_isWell_X6_underStools rfl rfl rfl (by decide +kernel) ⟨Nat.le_of_ble_eq_true rfl, Nat.le_of_ble_eq_true rfl⟩) hP hK [0, 1, 2, 3, 4, 5, 6, 7, 8] rfl 0 (ci := 7) rfl rfl rfl rfl hl.1 rfl rfl (Nat.le_of_ble_eq_true rfl) ⟨Nat.zero_le _, Nat.zero_le _⟩ dX6_isWell_12 ?_
  refine lv_iadd hx hb dX6_isWell_15 ?_
  refine lv_bipush (v := 6) hx hb dX6_isWell_16 (by decide) ?_
  refine lv_aload_n hx hb dX6_isWell_18 rfl (lv_at hl 0 rfl) ?_
  refine va_get (D := D) (ci := 7) (v := .ref a1) (C := RX6) (T := TX6) (N := 20) hx hb hts q1 hown hK hP 0 rfl rfl 0 (by decide) q2 (fun _ h9 => h9) rfl dX6_isWell_19 ?_
  refine lv_iconst (v := 5) hx hb dX6_isWell_22 (by decide) ?_
  obtain ⟨o3, hg⟩ := hg
  refine va_iald hx hb hK hP 1 0 rfl rfl o3 dX6_isWell_23 ?_
  try rw [show (sS12 0 S).1 = S.1 from rfl]
  refine lv_iadd hx hb dX6_isWell_24 ?_
  refine lv_icmp_ne (tgt := 32) hx hb dX6_isWell_25 (by decide) (fun c_25_1 => ?_) (fun c_25_1 => ?_)
  · refine lv_iconst (v := 0) hx hb dX6_isWell_32 (by decide) ?_
    have e9 : fX6_isWell S = (0, (sS12 0 S)) := by rw [fX6_isWell, if_neg c_25_1]
    exact rUi hx hb hr hlk hQ hP hS (by rw [e9]) (congrArg (fun z9 : (Int32 × SV) => (w6 cI cC h a1 a2 a3 a4 a5 a6 a7 a8 z9.2 : va_W)) e9).symm rfl dX6_isWell_33
  · refine lv_iconst (v := 1) hx hb dX6_isWell_28 (by decide) ?_
    refine lv_goto (tgt := 33) hx hb dX6_isWell_29 (by decide) ?_
    have e9 : fX6_isWell S = (1, (sS12 0 S)) := by rw [fX6_isWell, if_pos c_25_1]
    exact rUi hx hb hr hlk hQ hP hS (by rw [e9]) (congrArg (fun z9 : (Int32 × SV) => (w6 cI cC h a1 a2 a3 a4 a5 a6 a7 a8 z9.2 : va_W)) e9).symm rfl dX6_isWell_33
theorem zX6_isWell (S : SV)  : (fX6_isWell S).1 = 0 ∨ (fX6_isWell S).1 = 1 := by
  unfold fX6_isWell
  repeat' split
  all_goals first | exact Or.inl rfl | exact Or.inr rfl
def lX6_meanHeight_36 (n1 : (Int32 × SV)) (v : (Int32 × Int32)) : (Int32 × Int32) ⊕ ((Int32 × Int32)) := (if (n1.2.1 (0 : Int32).toNatClampNeg) ≤ v.2 then (.inr (v.1, v.2)) else (if (fX6_of n1.2 v.2 5) < 0 then (.inl ((v.1 + 0), (v.2 + 1))) else (.inl ((v.1 + (fX6_of n1.2 v.2 0)), (v.2 + 1)))))
def glX6_meanHeight_36 (n1 : (Int32 × SV)) (v : (Int32 × Int32)) : Prop := ((vp_in 0 114) ∧ (if (n1.2.1 (0 : Int32).toNatClampNeg) ≤ v.2 then True else ((gX6_of n1.2 v.2 5) ∧ (if (fX6_of n1.2 v.2 5) < 0 then True else ((gX6_of n1.2 v.2 0) ∧ True)))))
def fX6_meanHeight (S : SV)  : (UInt64 × SV) := (if (fX6_taken S 0 ((S.1 (0 : Int32).toNatClampNeg) - 1)) = 0 then (FP.dconst0, (fX6_fails S 1).2) else ((FP.ddiv (FP.i2d (itv (0, 0) (lX6_meanHeight_36 (fX6_fails S 0)) ((fun v : (Int32 × Int32) => (((fX6_fails S 0).2.1 (0 : Int32).toNatClampNeg).toInt - v.2.toInt).toNat) (0, 0) + 1) (0, 0)).1) (FP.i2d (fX6_taken S 0 ((S.1 (0 : Int32).toNatClampNeg) - 1)))), (fX6_fails S 0).2))
def gX6_meanHeight (S : SV)  : Prop := ((vp_in 0 114) ∧ (gX6_taken S 0 ((S.1 (0 : Int32).toNatClampNeg) - 1)) ∧ (if (fX6_taken S 0 ((S.1 (0 : Int32).toNatClampNeg) - 1)) = 0 then True else ((∃ r9 : (Int32 × Int32), lrun (lX6_meanHeight_36 (fX6_fails S 0)) (glX6_meanHeight_36 (fX6_fails S 0)) ((fun v : (Int32 × Int32) => (((fX6_fails S 0).2.1 (0 : Int32).toNatClampNeg).toInt - v.2.toInt).toNat) (0, 0) + 1) (0, 0) r9) ∧ ((vf_n64 (FP.ddiv (FP.i2d (itv (0, 0) (lX6_meanHeight_36 (fX6_fails S 0)) ((fun v : (Int32 × Int32) => (((fX6_fails S 0).2.1 (0 : Int32).toNatClampNeg).toInt - v.2.toInt).toNat) (0, 0) + 1) (0, 0)).1) (FP.i2d (fX6_taken S 0 ((S.1 (0 : Int32).toNatClampNeg) - 1))))) ∧ True))))
abbrev rmX6_meanHeight : Room := { frames := 2, cells := 0, slots := 0, locals := 46 }
set_option maxHeartbeats 4000000 in
set_option maxRecDepth 100000 in
theorem kX6_meanHeight (l : Launch) (D : va_G) (cI cC cT : ClassId) (h a1 a2 a3 a4 a5 a6 a7 a8 : Nat) (S : SV)  (hg : gX6_meanHeight S) : mU l D (TY cI cC cT) yX6_meanHeight wsX6_meanHeight rmX6_meanHeight [.ref h] (w6 cI cC h a1 a2 a3 a4 a5 a6 a7 a8 S) (some (.double (fX6_meanHeight S).1)) (w6 cI cC h a1 a2 a3 a4 a5 a6 a7 a8 (fX6_meanHeight S).2) := by
  refine mU.ofW (cc := cX6_meanHeight) (maxL := 4) (ret := (some .double)) (by decide) rfl (Nat.le_of_ble_eq_true rfl) ?_
  intro p e s m args below meth c Q ls A hx hb hml hr hlk hts hown hP hK hD hS hl hQ
  have hown : s.vm.findClass RX6 = some m.cls := hown
  have hP : va_P D vwCl (w6 cI cC h a1 a2 a3 a4 a5 a6 a7 a8 S) s.heap := hP
  have hD : va_D A (w6 cI cC h a1 a2 a3 a4 a5 a6 a7 a8 S) := hD
  have hl : lv_has ls 4 [(0, .ref h)] := hl
  have q0 := hts (Cond.fieldLink RX6 7 "TavernStoolsModel" "g" "[I") (by decide +kernel)
  have q1 : ∀ w ∈ u_ws RX6 TX6 20, w ∈ wsX6_meanHeight := by decide +kernel
  unfold gX6_meanHeight at hg
  generalize hHe : s.heap = H at hP ⊢
  have hS : va_S A s.heap H [] := hHe ▸ hS
  generalize hLe : ([] : List Loc) = locs at hS ⊢
  refine lv_aload_n hx hb dX6_meanHeight_0 rfl (lv_at hl 0 rfl) ?_
  refine lv_iconst (v := 0) hx hb dX6_meanHeight_1 (by decide) ?_
  refine lv_aload_n hx hb dX6_meanHeight_2 rfl (lv_at hl 0 rfl) ?_
  refine va_get (D := D) (ci := 7) (v := .ref a1) (C := RX6) (T := TX6) (N := 20) hx hb hts q1 hown hK hP 0 rfl rfl 0 (by decide) q0 (fun _ h9 => h9) rfl dX6_meanHeight_3 ?_
  refine lv_iconst (v := 0) hx hb dX6_meanHeight_6 (by decide) ?_
  obtain ⟨o1, hg⟩ := hg
  refine va_iald hx hb hK hP 1 0 rfl rfl o1 dX6_meanHeight_7 ?_
  refine lv_iconst (v := 1) hx hb dX6_meanHeight_8 (by decide) ?_
  refine lv_isub hx hb dX6_meanHeight_9 ?_
  obtain ⟨o2, hg⟩ := hg
  refine fRV (As := [.int 0, .int ((S.1 (0 : Int32).toNatClampNeg) - 1)]) (rest := []) (st' := [.int (fX6_taken S 0 ((S.1 (0 : Int32).toNatClampNeg) - 1))]) ⟨hx, hb, hml, hown, hts⟩ (kX6_taken l D cI cC cT h a1 a2 a3 a4 a5 a6 a7 a8 S 0 ((S.1 (0 : Int32).toNatClampNeg) - 1) o2) (cwV 2 hts gX6_meanHeight_X6_taken rfl rfl rfl (by decide +kernel) ⟨Nat.le_of_ble_eq_true rfl, Nat.le_of_ble_eq_true rfl⟩) hP hK [0, 1, 2, 3, 4, 5, 6, 7, 8] rfl 0 (ci := 7) rfl rfl rfl rfl hl.1 rfl rfl (Nat.le_of_ble_eq_true rfl) ⟨Nat.zero_le _, Nat.zero_le _⟩ dX6_meanHeight_10 ?_
  refine lv_istore_n (lv' := [(1, .int (fX6_taken S 0 ((S.1 (0 : Int32).toNatClampNeg) - 1))), (0, .ref h)]) hx hb dX6_meanHeight_13 rfl hl (by decide) rfl (fun ls hl => ?_)
  refine lv_aload_n hx hb dX6_meanHeight_14 rfl (lv_at hl 1 rfl) ?_
  refine lv_iload_n hx hb dX6_meanHeight_15 rfl (lv_at hl 0 rfl) ?_
  refine lv_if_ne (tgt := 23) hx hb dX6_meanHeight_16 (by decide) (fun c_16_1 => ?_) (fun c_16_1 => ?_)
  · rw [if_neg c_16_1] at hg
    refine lv_iconst (v := 0) hx hb dX6_meanHeight_23 (by decide) ?_
    obtain ⟨n1, en1⟩ : ∃ z9, z9 = (fX6_fails S 0) := ⟨_, rfl⟩
    try rw [← en1] at hg
    have k9 := (kX6_fails l D cI cC cT h a1 a2 a3 a4 a5 a6 a7 a8 S 0)
    rw [← en1] at k9
    refine fUV (As := [.int 0]) (rest := []) (st' := [.int n1.1]) ⟨hx, hb, hml, hown, hts⟩ k9 (cwV 1 hts gX6_meanHeight_X6_fails rfl rfl rfl (by decide +kernel) ⟨Nat.le_of_ble_eq_true rfl, Nat.le_of_ble_eq_true rfl⟩) hP hK hD hS [0, 1, 2, 3, 4, 5, 6, 7, 8] rfl rfl (by decide) rfl (w6 cI cC h a1 a2 a3 a4 a5 a6 a7 a8 n1.2) rfl rfl 0 (ci := 7) rfl rfl rfl rfl hl.1 rfl rfl (Nat.le_of_ble_eq_true rfl) ⟨Nat.zero_le _, Nat.zero_le _⟩ dX6_meanHeight_24 (fun H locs hP hD hS => ?_)
    refine lv_if_eq (tgt := 32) hx hb dX6_meanHeight_27 (by decide) (fun c_27 => ?_) (fun c_27 => absurd (by rw [en1]; exact fails_0 _) c_27)
    refine lv_iconst (v := 0) hx hb dX6_meanHeight_32 (by decide) ?_
    refine lv_istore_n (lv' := [(2, .int 0), (1, .int (fX6_taken S 0 ((S.1 (0 : Int32).toNatClampNeg) - 1))), (0, .ref h)]) hx hb dX6_meanHeight_33 rfl hl (by decide) rfl (fun ls hl => ?_)
    refine lv_iconst (v := 0) hx hb dX6_meanHeight_34 (by decide) ?_
    refine lv_istore_n (lv' := [(3, .int 0), (2, .int 0), (1, .int (fX6_taken S 0 ((S.1 (0 : Int32).toNatClampNeg) - 1))), (0, .ref h)]) hx hb dX6_meanHeight_35 rfl hl (by decide) rfl (fun ls hl => ?_)
    obtain ⟨n2, en2⟩ : ∃ z9, z9 = (itv (0, 0) (lX6_meanHeight_36 n1) ((fun v : (Int32 × Int32) => ((n1.2.1 (0 : Int32).toNatClampNeg).toInt - v.2.toInt).toNat) (0, 0) + 1) (0, 0)) := ⟨_, rfl⟩
    try rw [← en2] at hg
    obtain ⟨o6, hg⟩ := hg
    have L9 := lrun_val (d := (0, 0)) o6
    rw [← en2] at L9
    refine loopWs (lX6_meanHeight_36 n1) (glX6_meanHeight_36 n1) (fun v : (Int32 × Int32) => ∀ (H : Heap) (locs : List Loc) ls, va_P D vwCl (w6 cI cC h a1 a2 a3 a4 a5 a6 a7 a8 n1.2) H → va_D A (w6 cI cC h a1 a2 a3 a4 a5 a6 a7 a8 n1.2) → va_S A s.heap H locs → lv_has ls 4 [(0, .ref h), (1, .int (fX6_taken S 0 ((S.1 (0 : Int32).toNatClampNeg) - 1))), (2, .int v.1), (3, .int v.2)] → W p l e rmX6_meanHeight s m args below meth c H locs 0 0 Q (F0 m 36 ls [])) (fun r9 : (Int32 × Int32) => ∀ (H : Heap) (locs : List Loc) ls, va_P D vwCl (w6 cI cC h a1 a2 a3 a4 a5 a6 a7 a8 n1.2) H → va_D A (w6 cI cC h a1 a2 a3 a4 a5 a6 a7 a8 n1.2) → va_S A s.heap H locs → lv_has ls 4 [(0, .ref h), (1, .int (fX6_taken S 0 ((S.1 (0 : Int32).toNatClampNeg) - 1))), (2, .int r9.1), (3, .int r9.2)] → W p l e rmX6_meanHeight s m args below meth c H locs 0 0 Q (F0 m 74 ls [])) ?_ _ (0, 0) n2 L9 ?_ _ _ ls hP hD hS (lv_sub hl [3, 2, 1, 0] rfl)
    · intro v hg kb kx H locs ls hP hD hS hl
      unfold glX6_meanHeight_36 at hg
      refine lv_iload_n hx hb dX6_meanHeight_36 rfl (lv_at hl 3 rfl) ?_
      refine lv_aload_n hx hb dX6_meanHeight_37 rfl (lv_at hl 0 rfl) ?_
      refine va_get (D := D) (ci := 7) (v := .ref a1) (C := RX6) (T := TX6) (N := 20) hx hb hts q1 hown hK hP 0 rfl rfl 0 (by decide) q0 (fun _ h9 => h9) rfl dX6_meanHeight_38 ?_
      refine lv_iconst (v := 0) hx hb dX6_meanHeight_41 (by decide) ?_
      obtain ⟨o3, hg⟩ := hg
      refine va_iald hx hb hK hP 1 0 rfl rfl o3 dX6_meanHeight_42 ?_
      refine lv_icmp_ge (tgt := 74) hx hb dX6_meanHeight_43 (by decide) (fun c_43_2 => ?_) (fun c_43_2 => ?_)
      · rw [if_pos c_43_2] at hg
        exact kx (v.1, v.2) (by rw [lX6_meanHeight_36, if_pos c_43_2]) H locs ls hP hD hS (lv_sub hl [0, 1, 2, 3] rfl)
      · rw [if_neg c_43_2] at hg
        refine lv_iload_n hx hb dX6_meanHeight_46 rfl (lv_at hl 2 rfl) ?_
        refine lv_aload_n hx hb dX6_meanHeight_47 rfl (lv_at hl 0 rfl) ?_
        refine lv_iload_n hx hb dX6_meanHeight_48 rfl (lv_at hl 3 rfl) ?_
        refine lv_iconst (v := 5) hx hb dX6_meanHeight_49 (by decide) ?_
        obtain ⟨o4, hg⟩ := hg
        refine fRV (As := [.int v.2, .int 5]) (rest := [.int v.1]) (st' := [.int (fX6_of n1.2 v.2 5), .int v.1]) ⟨hx, hb, hml, hown, hts⟩ (kX6_of l D cI cC cT h a1 a2 a3 a4 a5 a6 a7 a8 n1.2 v.2 5 o4) (cwV 2 hts gX6_meanHeight_X6_of rfl rfl rfl (by decide +kernel) ⟨Nat.le_of_ble_eq_true rfl, Nat.le_of_ble_eq_true rfl⟩) hP hK [0, 1, 2, 3, 4, 5, 6, 7, 8] rfl 0 (ci := 7) rfl rfl rfl rfl hl.1 rfl rfl (Nat.le_of_ble_eq_true rfl) ⟨Nat.zero_le _, Nat.zero_le _⟩ dX6_meanHeight_50 ?_
        refine lv_if_lt (tgt := 65) hx hb dX6_meanHeight_53 (by decide) (fun c_53_3 => ?_) (fun c_53_3 => ?_)
        · rw [if_pos c_53_3] at hg
          refine lv_iconst (v := 0) hx hb dX6_meanHeight_65 (by decide) ?_
          refine lv_iadd hx hb dX6_meanHeight_66 ?_
          refine lv_istore_n (lv' := [(2, .int (v.1 + 0)), (0, .ref h), (1, .int (fX6_taken S 0 ((S.1 (0 : Int32).toNatClampNeg) - 1))), (3, .int v.2)]) hx hb dX6_meanHeight_67 rfl hl (by decide) rfl (fun ls hl => ?_)
          refine lv_iinc (v := (v.2 + 1)) (lv' := [(3, .int (v.2 + 1)), (2, .int (v.1 + 0)), (0, .ref h), (1, .int (fX6_taken S 0 ((S.1 (0 : Int32).toNatClampNeg) - 1)))]) hx hb dX6_meanHeight_68 hl (k := 3) rfl rfl (by decide) rfl (fun ls hl => ?_)
          refine lv_goto (tgt := 36) hx hb dX6_meanHeight_71 (by decide) ?_
          exact kb ((v.1 + 0), (v.2 + 1)) (by rw [lX6_meanHeight_36, if_neg c_43_2, if_pos c_53_3]) H locs ls hP hD hS (lv_sub hl [2, 3, 1, 0] rfl)
        · rw [if_neg c_53_3] at hg
          refine lv_aload_n hx hb dX6_meanHeight_56 rfl (lv_at hl 0 rfl) ?_
          refine lv_iload_n hx hb dX6_meanHeight_57 rfl (lv_at hl 3 rfl) ?_
          refine lv_iconst (v := 0) hx hb dX6_meanHeight_58 (by decide) ?_
          obtain ⟨o5, hg⟩ := hg
          refine fRV (As := [.int v.2, .int 0]) (rest := [.int v.1]) (st' := [.int (fX6_of n1.2 v.2 0), .int v.1]) ⟨hx, hb, hml, hown, hts⟩ (kX6_of l D cI cC cT h a1 a2 a3 a4 a5 a6 a7 a8 n1.2 v.2 0 o5) (cwV 2 hts gX6_meanHeight_X6_of rfl rfl rfl (by decide +kernel) ⟨Nat.le_of_ble_eq_true rfl, Nat.le_of_ble_eq_true rfl⟩) hP hK [0, 1, 2, 3, 4, 5, 6, 7, 8] rfl 0 (ci := 7) rfl rfl rfl rfl hl.1 rfl rfl (Nat.le_of_ble_eq_true rfl) ⟨Nat.zero_le _, Nat.zero_le _⟩ dX6_meanHeight_59 ?_
          refine lv_goto (tgt := 66) hx hb dX6_meanHeight_62 (by decide) ?_
          refine lv_iadd hx hb dX6_meanHeight_66 ?_
          refine lv_istore_n (lv' := [(2, .int (v.1 + (fX6_of n1.2 v.2 0))), (0, .ref h), (1, .int (fX6_taken S 0 ((S.1 (0 : Int32).toNatClampNeg) - 1))), (3, .int v.2)]) hx hb dX6_meanHeight_67 rfl hl (by decide) rfl (fun ls hl => ?_)
          refine lv_iinc (v := (v.2 + 1)) (lv' := [(3, .int (v.2 + 1)), (2, .int (v.1 + (fX6_of n1.2 v.2 0))), (0, .ref h), (1, .int (fX6_taken S 0 ((S.1 (0 : Int32).toNatClampNeg) - 1)))]) hx hb dX6_meanHeight_68 hl (k := 3) rfl rfl (by decide) rfl (fun ls hl => ?_)
          refine lv_goto (tgt := 36) hx hb dX6_meanHeight_71 (by decide) ?_
          exact kb ((v.1 + (fX6_of n1.2 v.2 0)), (v.2 + 1)) (by rw [lX6_meanHeight_36, if_neg c_43_2, if_neg c_53_3]) H locs ls hP hD hS (lv_sub hl [2, 3, 1, 0] rfl)
    · intro H locs ls hP hD hS hl
      refine lv_iload_n hx hb dX6_meanHeight_74 rfl (lv_at hl 2 rfl) ?_
      refine lv_i2d hx hb dX6_meanHeight_75 ?_
      refine lv_iload_n hx hb dX6_meanHeight_76 rfl (lv_at hl 1 rfl) ?_
      refine lv_i2d hx hb dX6_meanHeight_77 ?_
      obtain ⟨o7, hg⟩ := hg
      refine lv_ddiv hx hb dX6_meanHeight_78 o7 ?_
      have e9 : fX6_meanHeight S = ((FP.ddiv (FP.i2d n2.1) (FP.i2d (fX6_taken S 0 ((S.1 (0 : Int32).toNatClampNeg) - 1)))), n1.2) := by rw [fX6_meanHeight, if_neg c_16_1, ← en1, ← en2]
      exact rUd hx hb hr hlk hQ hP hS (by rw [e9]) (congrArg (fun z9 : (UInt64 × SV) => (w6 cI cC h a1 a2 a3 a4 a5 a6 a7 a8 z9.2 : va_W)) e9).symm dX6_meanHeight_79
  · rw [if_pos c_16_1] at hg
    refine lv_iconst (v := 1) hx hb dX6_meanHeight_19 (by decide) ?_
    refine lv_goto (tgt := 24) hx hb dX6_meanHeight_20 (by decide) ?_
    obtain ⟨n3, en3⟩ : ∃ z9, z9 = (fX6_fails S 1) := ⟨_, rfl⟩
    try rw [← en3] at hg
    have k9 := (kX6_fails l D cI cC cT h a1 a2 a3 a4 a5 a6 a7 a8 S 1)
    rw [← en3] at k9
    refine fUV (As := [.int 1]) (rest := []) (st' := [.int n3.1]) ⟨hx, hb, hml, hown, hts⟩ k9 (cwV 1 hts gX6_meanHeight_X6_fails rfl rfl rfl (by decide +kernel) ⟨Nat.le_of_ble_eq_true rfl, Nat.le_of_ble_eq_true rfl⟩) hP hK hD hS [0, 1, 2, 3, 4, 5, 6, 7, 8] rfl rfl (by decide) rfl (w6 cI cC h a1 a2 a3 a4 a5 a6 a7 a8 n3.2) rfl rfl 0 (ci := 7) rfl rfl rfl rfl hl.1 rfl rfl (Nat.le_of_ble_eq_true rfl) ⟨Nat.zero_le _, Nat.zero_le _⟩ dX6_meanHeight_24 (fun H locs hP hD hS => ?_)
    refine lv_if_eq (tgt := 32) hx hb dX6_meanHeight_27 (by decide) (fun c_27 => absurd c_27 (by rw [en3, fails_1]; decide)) (fun c_27 => ?_)
    refine lv_dconst0 hx hb dX6_meanHeight_30 ?_
    have e9 : fX6_meanHeight S = (FP.dconst0, n3.2) := by rw [fX6_meanHeight, if_pos c_16_1, ← en3]
    exact rUd hx hb hr hlk hQ hP hS (by rw [e9]) (congrArg (fun z9 : (UInt64 × SV) => (w6 cI cC h a1 a2 a3 a4 a5 a6 a7 a8 z9.2 : va_W)) e9).symm dX6_meanHeight_31
def fX6_undo (S : SV)  : (Int32 × SV) := (if S.2.2.2.2.2.2.2.2.2.1 = 0 then (0, (fX6_fails S 1).2) else (((fX6_fails S 0).2.2.2.2.2.2.2.2.2.2.1 - 1), (sS0 (fX6_copies (fX6_fails S 0).2.2.1 912 (fX6_fails S 0).2.1 114 (114 * ((fX6_fails S 0).2.2.2.2.2.2.2.2.2.2.1 - 1)) 0) (sS9 ((fX6_fails S 0).2.2.2.2.2.2.2.2.2.2.1 - 1) (fX6_fails S 0).2))))
def gX6_undo (S : SV)  : Prop := (if S.2.2.2.2.2.2.2.2.2.1 = 0 then True else ((gX6_copies (fX6_fails S 0).2.2.1 912 (fX6_fails S 0).2.1 114 (114 * ((fX6_fails S 0).2.2.2.2.2.2.2.2.2.2.1 - 1)) 0) ∧ True))
abbrev rmX6_undo : Room := { frames := 1, cells := 0, slots := 0, locals := 24 }
set_option maxHeartbeats 4000000 in
set_option maxRecDepth 100000 in
theorem kX6_undo (l : Launch) (D : va_G) (cI cC cT : ClassId) (h a1 a2 a3 a4 a5 a6 a7 a8 : Nat) (S : SV)  (hg : gX6_undo S) : mU l D (TY cI cC cT) yX6_undo wsX6_undo rmX6_undo [.ref h] (w6 cI cC h a1 a2 a3 a4 a5 a6 a7 a8 S) (some (.int (fX6_undo S).1)) (w6 cI cC h a1 a2 a3 a4 a5 a6 a7 a8 (fX6_undo S).2) := by
  refine mU.ofW (cc := cX6_undo) (maxL := 1) (ret := (some .int)) (by decide) rfl (Nat.le_of_ble_eq_true rfl) ?_
  intro p e s m args below meth c Q ls A hx hb hml hr hlk hts hown hP hK hD hS hl hQ
  have hown : s.vm.findClass RX6 = some m.cls := hown
  have hP : va_P D vwCl (w6 cI cC h a1 a2 a3 a4 a5 a6 a7 a8 S) s.heap := hP
  have hD : va_D A (w6 cI cC h a1 a2 a3 a4 a5 a6 a7 a8 S) := hD
  have hl : lv_has ls 1 [(0, .ref h)] := hl
  have q0 := hts (Cond.fieldLink RX6 55 "TavernStoolsModel" "changes" "I") (by decide +kernel)
  have q1 : ∀ w ∈ u_ws RX6 TX6 20, w ∈ wsX6_undo := by decide +kernel
  have q2 := hts (Cond.fieldLink RX6 13 "TavernStoolsModel" "kept" "[I") (by decide +kernel)
  have q3 := hts (Cond.fieldLink RX6 7 "TavernStoolsModel" "g" "[I") (by decide +kernel)
  unfold gX6_undo at hg
  generalize hHe : s.heap = H at hP ⊢
  have hS : va_S A s.heap H [] := hHe ▸ hS
  generalize hLe : ([] : List Loc) = locs at hS ⊢
  refine lv_aload_n hx hb dX6_undo_0 rfl (lv_at hl 0 rfl) ?_
  refine lv_aload_n hx hb dX6_undo_1 rfl (lv_at hl 0 rfl) ?_
  refine va_get (D := D) (ci := 7) (v := .int S.2.2.2.2.2.2.2.2.2.1) (C := RX6) (T := TX6) (N := 20) hx hb hts q1 hown hK hP 0 rfl rfl 5 (by decide) q0 (fun _ h9 => h9) rfl dX6_undo_2 ?_
  refine lv_if_ne (tgt := 12) hx hb dX6_undo_5 (by decide) (fun c_5_1 => ?_) (fun c_5_1 => ?_)
  · rw [if_neg c_5_1] at hg
    refine lv_iconst (v := 0) hx hb dX6_undo_12 (by decide) ?_
    obtain ⟨n1, en1⟩ : ∃ z9, z9 = (fX6_fails S 0) := ⟨_, rfl⟩
    try rw [← en1] at hg
    have k9 := (kX6_fails l D cI cC cT h a1 a2 a3 a4 a5 a6 a7 a8 S 0)
    rw [← en1] at k9
    refine fUV (As := [.int 0]) (rest := []) (st' := [.int n1.1]) ⟨hx, hb, hml, hown, hts⟩ k9 (cwV 1 hts gX6_undo_X6_fails rfl rfl rfl (by decide +kernel) ⟨Nat.le_of_ble_eq_true rfl, Nat.le_of_ble_eq_true rfl⟩) hP hK hD hS [0, 1, 2, 3, 4, 5, 6, 7, 8] rfl rfl (by decide) rfl (w6 cI cC h a1 a2 a3 a4 a5 a6 a7 a8 n1.2) rfl rfl 0 (ci := 7) rfl rfl rfl rfl hl.1 rfl rfl (Nat.le_of_ble_eq_true rfl) ⟨Nat.zero_le _, Nat.zero_le _⟩ dX6_undo_13 (fun H locs hP hD hS => ?_)
    refine lv_if_eq (tgt := 21) hx hb dX6_undo_16 (by decide) (fun c_16 => ?_) (fun c_16 => absurd (by rw [en1]; exact fails_0 _) c_16)
    refine lv_aload_n hx hb dX6_undo_21 rfl (lv_at hl 0 rfl) ?_
    refine lv_dup hx hb dX6_undo_22 rfl ?_
    refine va_get (D := D) (ci := 7) (v := .int n1.2.2.2.2.2.2.2.2.2.2.1) (C := RX6) (T := TX6) (N := 20) hx hb hts q1 hown hK hP 0 rfl rfl 5 (by decide) q0 (fun _ h9 => h9) rfl dX6_undo_23 ?_
    refine lv_iconst (v := 1) hx hb dX6_undo_26 (by decide) ?_
    refine lv_isub hx hb dX6_undo_27 ?_
    refine va_put (D := D) (ci := 7) (v := .int (n1.2.2.2.2.2.2.2.2.2.2.1 - 1)) (ty := .int) (C := RX6) (T := TX6) (N := 20) hx hb hts q1 tyX6 tyX6_ok nmX6 hown hK hP hD hS 0 rfl rfl 5 (by decide) q0 (fun _ h9 => h9) rfl (by decide +kernel) rfl rfl (Nat.le_of_ble_eq_true rfl) dX6_undo_28 (fun H locs hP hD hS => ?_)
    have hP : va_P D vwCl (w6 cI cC h a1 a2 a3 a4 a5 a6 a7 a8 (sS9 (n1.2.2.2.2.2.2.2.2.2.2.1 - 1) n1.2)) H := w6p_9 hP
    have hD : va_D A (w6 cI cC h a1 a2 a3 a4 a5 a6 a7 a8 (sS9 (n1.2.2.2.2.2.2.2.2.2.2.1 - 1) n1.2)) := w6d_9 hD
    refine lv_aload_n hx hb dX6_undo_31 rfl (lv_at hl 0 rfl) ?_
    refine va_get (D := D) (ci := 7) (v := .ref a2) (C := RX6) (T := TX6) (N := 20) hx hb hts q1 hown hK hP 0 rfl rfl 1 (by decide) q2 (fun _ h9 => h9) rfl dX6_undo_32 ?_
    refine lv_bipush (v := 114) hx hb dX6_undo_35 (by decide) ?_
    refine lv_aload_n hx hb dX6_undo_37 rfl (lv_at hl 0 rfl) ?_
    refine va_get (D := D) (ci := 7) (v := .int (n1.2.2.2.2.2.2.2.2.2.2.1 - 1)) (C := RX6) (T := TX6) (N := 20) hx hb hts q1 hown hK hP 0 rfl rfl 5 (by decide) q0 (fun _ h9 => h9) rfl dX6_undo_38 ?_
    refine lv_imul hx hb dX6_undo_41 ?_
    refine lv_aload_n hx hb dX6_undo_42 rfl (lv_at hl 0 rfl) ?_
    refine va_get (D := D) (ci := 7) (v := .ref a1) (C := RX6) (T := TX6) (N := 20) hx hb hts q1 hown hK hP 0 rfl rfl 0 (by decide) q3 (fun _ h9 => h9) rfl dX6_undo_43 ?_
    refine lv_iconst (v := 0) hx hb dX6_undo_46 (by decide) ?_
    obtain ⟨n2, en2⟩ : ∃ z9, z9 = (fX6_copies n1.2.2.1 912 n1.2.1 114 (114 * (n1.2.2.2.2.2.2.2.2.2.2.1 - 1)) 0) := ⟨_, rfl⟩
    try rw [← en2] at hg
    obtain ⟨o1, hg⟩ := hg
    have k9 := (kX6_copies l D cI cC cT a2 a1 n1.2.2.1 912 n1.2.1 114 (114 * (n1.2.2.2.2.2.2.2.2.2.2.1 - 1)) 0 o1)
    rw [← en2] at k9
    refine fUS (As := [.ref a2, .int (114 * (n1.2.2.2.2.2.2.2.2.2.2.1 - 1)), .ref a1, .int 0]) (rest := []) (st' := []) ⟨hx, hb, hml, hown, hts⟩ k9 (va_cwS 4 hts gX6_undo_X6_copies rfl rfl rfl (by decide +kernel) ⟨Nat.le_of_ble_eq_true rfl, Nat.le_of_ble_eq_true rfl⟩) hP hK hD hS [2, 1] rfl rfl (by decide) rfl (w6 cI cC h a1 a2 a3 a4 a5 a6 a7 a8 (sS0 n2 (sS9 (n1.2.2.2.2.2.2.2.2.2.2.1 - 1) n1.2))) rfl rfl rfl hl.1 rfl rfl (Nat.le_of_ble_eq_true rfl) ⟨Nat.zero_le _, Nat.zero_le _⟩ dX6_undo_47 (fun H locs hP hD hS => ?_)
    refine lv_aload_n hx hb dX6_undo_50 rfl (lv_at hl 0 rfl) ?_
    refine va_get (D := D) (ci := 7) (v := .int (n1.2.2.2.2.2.2.2.2.2.2.1 - 1)) (C := RX6) (T := TX6) (N := 20) hx hb hts q1 hown hK hP 0 rfl rfl 5 (by decide) q0 (fun _ h9 => h9) rfl dX6_undo_51 ?_
    have e9 : fX6_undo S = ((n1.2.2.2.2.2.2.2.2.2.2.1 - 1), (sS0 n2 (sS9 (n1.2.2.2.2.2.2.2.2.2.2.1 - 1) n1.2))) := by rw [fX6_undo, if_neg c_5_1, ← en1, ← en2]
    exact rUi hx hb hr hlk hQ hP hS (by rw [e9]) (congrArg (fun z9 : (Int32 × SV) => (w6 cI cC h a1 a2 a3 a4 a5 a6 a7 a8 z9.2 : va_W)) e9).symm rfl dX6_undo_54
  · rw [if_pos c_5_1] at hg
    refine lv_iconst (v := 1) hx hb dX6_undo_8 (by decide) ?_
    refine lv_goto (tgt := 13) hx hb dX6_undo_9 (by decide) ?_
    obtain ⟨n3, en3⟩ : ∃ z9, z9 = (fX6_fails S 1) := ⟨_, rfl⟩
    try rw [← en3] at hg
    have k9 := (kX6_fails l D cI cC cT h a1 a2 a3 a4 a5 a6 a7 a8 S 1)
    rw [← en3] at k9
    refine fUV (As := [.int 1]) (rest := []) (st' := [.int n3.1]) ⟨hx, hb, hml, hown, hts⟩ k9 (cwV 1 hts gX6_undo_X6_fails rfl rfl rfl (by decide +kernel) ⟨Nat.le_of_ble_eq_true rfl, Nat.le_of_ble_eq_true rfl⟩) hP hK hD hS [0, 1, 2, 3, 4, 5, 6, 7, 8] rfl rfl (by decide) rfl (w6 cI cC h a1 a2 a3 a4 a5 a6 a7 a8 n3.2) rfl rfl 0 (ci := 7) rfl rfl rfl rfl hl.1 rfl rfl (Nat.le_of_ble_eq_true rfl) ⟨Nat.zero_le _, Nat.zero_le _⟩ dX6_undo_13 (fun H locs hP hD hS => ?_)
    refine lv_if_eq (tgt := 21) hx hb dX6_undo_16 (by decide) (fun c_16 => absurd c_16 (by rw [en3, fails_1]; decide)) (fun c_16 => ?_)
    refine lv_iconst (v := 0) hx hb dX6_undo_19 (by decide) ?_
    have e9 : fX6_undo S = (0, n3.2) := by rw [fX6_undo, if_pos c_5_1, ← en3]
    exact rUi hx hb hr hlk hQ hP hS (by rw [e9]) (congrArg (fun z9 : (Int32 × SV) => (w6 cI cC h a1 a2 a3 a4 a5 a6 a7 a8 z9.2 : va_W)) e9).symm rfl dX6_undo_20
def fX6_save (S : SV)  : (Int32 × SV) := ((S.1 (1 : Int32).toNatClampNeg), (sS2 (fX6_copies S.1 114 S.2.2.1 114 0 0) (sS8 1 (sS12 0 S))))
def gX6_save (S : SV)  : Prop := ((gX6_copies S.1 114 S.2.2.1 114 0 0) ∧ (vp_in 1 114) ∧ True)
abbrev rmX6_save : Room := { frames := 1, cells := 0, slots := 0, locals := 24 }
set_option maxHeartbeats 4000000 in
set_option maxRecDepth 100000 in
theorem kX6_save (l : Launch) (D : va_G) (cI cC cT : ClassId) (h a1 a2 a3 a4 a5 a6 a7 a8 : Nat) (S : SV)  (hg : gX6_save S) : mU l D (TY cI cC cT) yX6_save wsX6_save rmX6_save [.ref h] (w6 cI cC h a1 a2 a3 a4 a5 a6 a7 a8 S) (some (.int (fX6_save S).1)) (w6 cI cC h a1 a2 a3 a4 a5 a6 a7 a8 (fX6_save S).2) := by
  refine mU.ofW (cc := cX6_save) (maxL := 1) (ret := (some .int)) (by decide) rfl (Nat.le_of_ble_eq_true rfl) ?_
  intro p e s m args below meth c Q ls A hx hb hml hr hlk hts hown hP hK hD hS hl hQ
  have hown : s.vm.findClass RX6 = some m.cls := hown
  have hP : va_P D vwCl (w6 cI cC h a1 a2 a3 a4 a5 a6 a7 a8 S) s.heap := hP
  have hD : va_D A (w6 cI cC h a1 a2 a3 a4 a5 a6 a7 a8 S) := hD
  have hl : lv_has ls 1 [(0, .ref h)] := hl
  have q0 := hts (Cond.fieldLink RX6 39 "TavernStoolsModel" "code" "I") (by decide +kernel)
  have q1 : ∀ w ∈ u_ws RX6 TX6 20, w ∈ wsX6_save := by decide +kernel
  have q2 := hts (Cond.fieldLink RX6 242 "TavernStoolsModel" "isSaved" "Z") (by decide +kernel)
  have q3 := hts (Cond.fieldLink RX6 7 "TavernStoolsModel" "g" "[I") (by decide +kernel)
  have q4 := hts (Cond.fieldLink RX6 16 "TavernStoolsModel" "saved" "[I") (by decide +kernel)
  unfold gX6_save at hg
  generalize hHe : s.heap = H at hP ⊢
  have hS : va_S A s.heap H [] := hHe ▸ hS
  generalize hLe : ([] : List Loc) = locs at hS ⊢
  refine lv_aload_n hx hb dX6_save_0 rfl (lv_at hl 0 rfl) ?_
  refine lv_iconst (v := 0) hx hb dX6_save_1 (by decide) ?_
  refine va_put (D := D) (ci := 7) (v := .int 0) (ty := .int) (C := RX6) (T := TX6) (N := 20) hx hb hts q1 tyX6 tyX6_ok nmX6 hown hK hP hD hS 0 rfl rfl 8 (by decide) q0 (fun _ h9 => h9) rfl (by decide +kernel) rfl rfl (Nat.le_of_ble_eq_true rfl) dX6_save_2 (fun H locs hP hD hS => ?_)
  have hP : va_P D vwCl (w6 cI cC h a1 a2 a3 a4 a5 a6 a7 a8 (sS12 0 S)) H := w6p_12 hP
  have hD : va_D A (w6 cI cC h a1 a2 a3 a4 a5 a6 a7 a8 (sS12 0 S)) := w6d_12 hD
  refine lv_aload_n hx hb dX6_save_5 rfl (lv_at hl 0 rfl) ?_
  refine lv_iconst (v := 1) hx hb dX6_save_6 (by decide) ?_
  refine va_put (D := D) (ci := 7) (v := .int 1) (ty := .boolean) (C := RX6) (T := TX6) (N := 20) hx hb hts q1 tyX6 tyX6_ok nmX6 hown hK hP hD hS 0 rfl rfl 4 (by decide) q2 (fun _ h9 => h9) rfl (by decide +kernel) rfl rfl (Nat.le_of_ble_eq_true rfl) dX6_save_7 (fun H locs hP hD hS => ?_)
  have hP : va_P D vwCl (w6 cI cC h a1 a2 a3 a4 a5 a6 a7 a8 (sS8 1 (sS12 0 S))) H := w6p_8 hP
  have hD : va_D A (w6 cI cC h a1 a2 a3 a4 a5 a6 a7 a8 (sS8 1 (sS12 0 S))) := w6d_8 hD
  refine lv_aload_n hx hb dX6_save_10 rfl (lv_at hl 0 rfl) ?_
  refine va_get (D := D) (ci := 7) (v := .ref a1) (C := RX6) (T := TX6) (N := 20) hx hb hts q1 hown hK hP 0 rfl rfl 0 (by decide) q3 (fun _ h9 => h9) rfl dX6_save_11 ?_
  refine lv_iconst (v := 0) hx hb dX6_save_14 (by decide) ?_
  refine lv_aload_n hx hb dX6_save_15 rfl (lv_at hl 0 rfl) ?_
  refine va_get (D := D) (ci := 7) (v := .ref a3) (C := RX6) (T := TX6) (N := 20) hx hb hts q1 hown hK hP 0 rfl rfl 2 (by decide) q4 (fun _ h9 => h9) rfl dX6_save_16 ?_
  refine lv_iconst (v := 0) hx hb dX6_save_19 (by decide) ?_
  obtain ⟨n1, en1⟩ : ∃ z9, z9 = (fX6_copies S.1 114 S.2.2.1 114 0 0) := ⟨_, rfl⟩
  try rw [← en1] at hg
  obtain ⟨o1, hg⟩ := hg
  have k9 := (kX6_copies l D cI cC cT a1 a3 S.1 114 S.2.2.1 114 0 0 o1)
  rw [← en1] at k9
  refine fUS (As := [.ref a1, .int 0, .ref a3, .int 0]) (rest := []) (st' := []) ⟨hx, hb, hml, hown, hts⟩ k9 (va_cwS 4 hts gX6_save_X6_copies rfl rfl rfl (by decide +kernel) ⟨Nat.le_of_ble_eq_true rfl, Nat.le_of_ble_eq_true rfl⟩) hP hK hD hS [1, 3] rfl rfl (by decide) rfl (w6 cI cC h a1 a2 a3 a4 a5 a6 a7 a8 (sS2 n1 (sS8 1 (sS12 0 S)))) rfl rfl rfl hl.1 rfl rfl (Nat.le_of_ble_eq_true rfl) ⟨Nat.zero_le _, Nat.zero_le _⟩ dX6_save_20 (fun H locs hP hD hS => ?_)
  refine lv_aload_n hx hb dX6_save_23 rfl (lv_at hl 0 rfl) ?_
  refine va_get (D := D) (ci := 7) (v := .ref a1) (C := RX6) (T := TX6) (N := 20) hx hb hts q1 hown hK hP 0 rfl rfl 0 (by decide) q3 (fun _ h9 => h9) rfl dX6_save_24 ?_
  refine lv_iconst (v := 1) hx hb dX6_save_27 (by decide) ?_
  obtain ⟨o2, hg⟩ := hg
  refine va_iald hx hb hK hP 1 0 rfl rfl o2 dX6_save_28 ?_
  try rw [show (sS2 n1 (sS8 1 (sS12 0 S))).1 = S.1 from rfl]
  have e9 : fX6_save S = ((S.1 (1 : Int32).toNatClampNeg), (sS2 n1 (sS8 1 (sS12 0 S)))) := by rw [fX6_save, ← en1]
  exact rUi hx hb hr hlk hQ hP hS (by rw [e9]) (congrArg (fun z9 : (Int32 × SV) => (w6 cI cC h a1 a2 a3 a4 a5 a6 a7 a8 z9.2 : va_W)) e9).symm rfl dX6_save_29
def fX6_restore (S : SV)  : (Int32 × SV) := (if S.2.2.2.2.2.2.2.2.1 = 0 then (0, (fX6_fails S 1).2) else (((fX6_copies (fX6_fails S 0).2.2.2.1 114 (fX6_fails S 0).2.1 114 0 0) (1 : Int32).toNatClampNeg), (sS9 0 (sS0 (fX6_copies (fX6_fails S 0).2.2.2.1 114 (fX6_fails S 0).2.1 114 0 0) (fX6_fails S 0).2))))
def gX6_restore (S : SV)  : Prop := (if S.2.2.2.2.2.2.2.2.1 = 0 then True else ((gX6_copies (fX6_fails S 0).2.2.2.1 114 (fX6_fails S 0).2.1 114 0 0) ∧ (vp_in 1 114) ∧ True))
abbrev rmX6_restore : Room := { frames := 1, cells := 0, slots := 0, locals := 24 }
set_option maxHeartbeats 4000000 in
set_option maxRecDepth 100000 in
theorem kX6_restore (l : Launch) (D : va_G) (cI cC cT : ClassId) (h a1 a2 a3 a4 a5 a6 a7 a8 : Nat) (S : SV)  (hg : gX6_restore S) : mU l D (TY cI cC cT) yX6_restore wsX6_restore rmX6_restore [.ref h] (w6 cI cC h a1 a2 a3 a4 a5 a6 a7 a8 S) (some (.int (fX6_restore S).1)) (w6 cI cC h a1 a2 a3 a4 a5 a6 a7 a8 (fX6_restore S).2) := by
  refine mU.ofW (cc := cX6_restore) (maxL := 1) (ret := (some .int)) (by decide) rfl (Nat.le_of_ble_eq_true rfl) ?_
  intro p e s m args below meth c Q ls A hx hb hml hr hlk hts hown hP hK hD hS hl hQ
  have hown : s.vm.findClass RX6 = some m.cls := hown
  have hP : va_P D vwCl (w6 cI cC h a1 a2 a3 a4 a5 a6 a7 a8 S) s.heap := hP
  have hD : va_D A (w6 cI cC h a1 a2 a3 a4 a5 a6 a7 a8 S) := hD
  have hl : lv_has ls 1 [(0, .ref h)] := hl
  have q0 := hts (Cond.fieldLink RX6 242 "TavernStoolsModel" "isSaved" "Z") (by decide +kernel)
  have q1 : ∀ w ∈ u_ws RX6 TX6 20, w ∈ wsX6_restore := by decide +kernel
  have q2 := hts (Cond.fieldLink RX6 16 "TavernStoolsModel" "saved" "[I") (by decide +kernel)
  have q3 := hts (Cond.fieldLink RX6 7 "TavernStoolsModel" "g" "[I") (by decide +kernel)
  have q4 := hts (Cond.fieldLink RX6 55 "TavernStoolsModel" "changes" "I") (by decide +kernel)
  unfold gX6_restore at hg
  generalize hHe : s.heap = H at hP ⊢
  have hS : va_S A s.heap H [] := hHe ▸ hS
  generalize hLe : ([] : List Loc) = locs at hS ⊢
  refine lv_aload_n hx hb dX6_restore_0 rfl (lv_at hl 0 rfl) ?_
  refine lv_aload_n hx hb dX6_restore_1 rfl (lv_at hl 0 rfl) ?_
  refine va_get (D := D) (ci := 7) (v := .int S.2.2.2.2.2.2.2.2.1) (C := RX6) (T := TX6) (N := 20) hx hb hts q1 hown hK hP 0 rfl rfl 4 (by decide) q0 (fun _ h9 => h9) rfl dX6_restore_2 ?_
  refine lv_if_eq (tgt := 12) hx hb dX6_restore_5 (by decide) (fun c_5_1 => ?_) (fun c_5_1 => ?_)
  · rw [if_pos c_5_1] at hg
    refine lv_iconst (v := 1) hx hb dX6_restore_12 (by decide) ?_
    obtain ⟨n1, en1⟩ : ∃ z9, z9 = (fX6_fails S 1) := ⟨_, rfl⟩
    try rw [← en1] at hg
    have k9 := (kX6_fails l D cI cC cT h a1 a2 a3 a4 a5 a6 a7 a8 S 1)
    rw [← en1] at k9
    refine fUV (As := [.int 1]) (rest := []) (st' := [.int n1.1]) ⟨hx, hb, hml, hown, hts⟩ k9 (cwV 1 hts gX6_restore_X6_fails rfl rfl rfl (by decide +kernel) ⟨Nat.le_of_ble_eq_true rfl, Nat.le_of_ble_eq_true rfl⟩) hP hK hD hS [0, 1, 2, 3, 4, 5, 6, 7, 8] rfl rfl (by decide) rfl (w6 cI cC h a1 a2 a3 a4 a5 a6 a7 a8 n1.2) rfl rfl 0 (ci := 7) rfl rfl rfl rfl hl.1 rfl rfl (Nat.le_of_ble_eq_true rfl) ⟨Nat.zero_le _, Nat.zero_le _⟩ dX6_restore_13 (fun H locs hP hD hS => ?_)
    refine lv_if_eq (tgt := 21) hx hb dX6_restore_16 (by decide) (fun c_16 => absurd c_16 (by rw [en1, fails_1]; decide)) (fun c_16 => ?_)
    refine lv_iconst (v := 0) hx hb dX6_restore_19 (by decide) ?_
    have e9 : fX6_restore S = (0, n1.2) := by rw [fX6_restore, if_pos c_5_1, ← en1]
    exact rUi hx hb hr hlk hQ hP hS (by rw [e9]) (congrArg (fun z9 : (Int32 × SV) => (w6 cI cC h a1 a2 a3 a4 a5 a6 a7 a8 z9.2 : va_W)) e9).symm rfl dX6_restore_20
  · rw [if_neg c_5_1] at hg
    refine lv_iconst (v := 0) hx hb dX6_restore_8 (by decide) ?_
    refine lv_goto (tgt := 13) hx hb dX6_restore_9 (by decide) ?_
    obtain ⟨n2, en2⟩ : ∃ z9, z9 = (fX6_fails S 0) := ⟨_, rfl⟩
    try rw [← en2] at hg
    have k9 := (kX6_fails l D cI cC cT h a1 a2 a3 a4 a5 a6 a7 a8 S 0)
    rw [← en2] at k9
    refine fUV (As := [.int 0]) (rest := []) (st' := [.int n2.1]) ⟨hx, hb, hml, hown, hts⟩ k9 (cwV 1 hts gX6_restore_X6_fails rfl rfl rfl (by decide +kernel) ⟨Nat.le_of_ble_eq_true rfl, Nat.le_of_ble_eq_true rfl⟩) hP hK hD hS [0, 1, 2, 3, 4, 5, 6, 7, 8] rfl rfl (by decide) rfl (w6 cI cC h a1 a2 a3 a4 a5 a6 a7 a8 n2.2) rfl rfl 0 (ci := 7) rfl rfl rfl rfl hl.1 rfl rfl (Nat.le_of_ble_eq_true rfl) ⟨Nat.zero_le _, Nat.zero_le _⟩ dX6_restore_13 (fun H locs hP hD hS => ?_)
    refine lv_if_eq (tgt := 21) hx hb dX6_restore_16 (by decide) (fun c_16 => ?_) (fun c_16 => absurd (by rw [en2]; exact fails_0 _) c_16)
    refine lv_aload_n hx hb dX6_restore_21 rfl (lv_at hl 0 rfl) ?_
    refine va_get (D := D) (ci := 7) (v := .ref a3) (C := RX6) (T := TX6) (N := 20) hx hb hts q1 hown hK hP 0 rfl rfl 2 (by decide) q2 (fun _ h9 => h9) rfl dX6_restore_22 ?_
    refine lv_iconst (v := 0) hx hb dX6_restore_25 (by decide) ?_
    refine lv_aload_n hx hb dX6_restore_26 rfl (lv_at hl 0 rfl) ?_
    refine va_get (D := D) (ci := 7) (v := .ref a1) (C := RX6) (T := TX6) (N := 20) hx hb hts q1 hown hK hP 0 rfl rfl 0 (by decide) q3 (fun _ h9 => h9) rfl dX6_restore_27 ?_
    refine lv_iconst (v := 0) hx hb dX6_restore_30 (by decide) ?_
    obtain ⟨n3, en3⟩ : ∃ z9, z9 = (fX6_copies n2.2.2.2.1 114 n2.2.1 114 0 0) := ⟨_, rfl⟩
    try rw [← en3] at hg
    obtain ⟨o1, hg⟩ := hg
    have k9 := (kX6_copies l D cI cC cT a3 a1 n2.2.2.2.1 114 n2.2.1 114 0 0 o1)
    rw [← en3] at k9
    refine fUS (As := [.ref a3, .int 0, .ref a1, .int 0]) (rest := []) (st' := []) ⟨hx, hb, hml, hown, hts⟩ k9 (va_cwS 4 hts gX6_restore_X6_copies rfl rfl rfl (by decide +kernel) ⟨Nat.le_of_ble_eq_true rfl, Nat.le_of_ble_eq_true rfl⟩) hP hK hD hS [3, 1] rfl rfl (by decide) rfl (w6 cI cC h a1 a2 a3 a4 a5 a6 a7 a8 (sS0 n3 n2.2)) rfl rfl rfl hl.1 rfl rfl (Nat.le_of_ble_eq_true rfl) ⟨Nat.zero_le _, Nat.zero_le _⟩ dX6_restore_31 (fun H locs hP hD hS => ?_)
    refine lv_aload_n hx hb dX6_restore_34 rfl (lv_at hl 0 rfl) ?_
    refine lv_iconst (v := 0) hx hb dX6_restore_35 (by decide) ?_
    refine va_put (D := D) (ci := 7) (v := .int 0) (ty := .int) (C := RX6) (T := TX6) (N := 20) hx hb hts q1 tyX6 tyX6_ok nmX6 hown hK hP hD hS 0 rfl rfl 5 (by decide) q4 (fun _ h9 => h9) rfl (by decide +kernel) rfl rfl (Nat.le_of_ble_eq_true rfl) dX6_restore_36 (fun H locs hP hD hS => ?_)
    have hP : va_P D vwCl (w6 cI cC h a1 a2 a3 a4 a5 a6 a7 a8 (sS9 0 (sS0 n3 n2.2))) H := w6p_9 hP
    have hD : va_D A (w6 cI cC h a1 a2 a3 a4 a5 a6 a7 a8 (sS9 0 (sS0 n3 n2.2))) := w6d_9 hD
    refine lv_aload_n hx hb dX6_restore_39 rfl (lv_at hl 0 rfl) ?_
    refine va_get (D := D) (ci := 7) (v := .ref a1) (C := RX6) (T := TX6) (N := 20) hx hb hts q1 hown hK hP 0 rfl rfl 0 (by decide) q3 (fun _ h9 => h9) rfl dX6_restore_40 ?_
    refine lv_iconst (v := 1) hx hb dX6_restore_43 (by decide) ?_
    obtain ⟨o2, hg⟩ := hg
    refine va_iald hx hb hK hP 1 0 rfl rfl o2 dX6_restore_44 ?_
    try rw [show (sS9 0 (sS0 n3 n2.2)).1 = n3 from rfl]
    have e9 : fX6_restore S = ((n3 (1 : Int32).toNatClampNeg), (sS9 0 (sS0 n3 n2.2))) := by rw [fX6_restore, if_neg c_5_1, ← en2, ← en3]
    exact rUi hx hb hr hlk hQ hP hS (by rw [e9]) (congrArg (fun z9 : (Int32 × SV) => (w6 cI cC h a1 a2 a3 a4 a5 a6 a7 a8 z9.2 : va_W)) e9).symm rfl dX6_restore_45
