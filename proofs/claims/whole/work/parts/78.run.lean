/-! Run: the whole -/
theorem fuelJ {j : Nat} (hj : j ≤ 100000) : ((nI j).toInt - (0 : Int32).toInt).toNat + 1 = j + 1 := by
  rw [nI_toInt (by omega), z0]; omega
theorem WT.ext {K n m : Nat} {g g' : Nat → Int32} (h : WT K n m g) (e : ∀ t, t < 114 → g' t = g t) : WT K n m g' := by
  obtain ⟨⟨h1, h2, h3, h4, h5, h6⟩, h7, h8⟩ := h
  have s : ∀ i w, i < 12 → w < 6 → qs g' i w = qs g i w := fun i w a b => e _ (by omega)
  have r : ∀ k w, k < 12 → w < 3 → qp g' k w = qp g k w := fun k w a b => e _ (by omega)
  refine ⟨⟨(e 0 (by omega)).trans h1, (e 1 (by omega)).trans h2, h3, h4, by rw [e 2 (by omega)]; exact h5, by rw [e 2 (by omega)]; exact h6⟩, fun i hi => ?_, fun k hk => ?_⟩
  · rw [s i 0 (by omega) (by omega), s i 1 (by omega) (by omega), s i 2 (by omega) (by omega), s i 3 (by omega) (by omega), s i 4 (by omega) (by omega), s i 5 (by omega) (by omega)]
    obtain ⟨a, b, c, d, f, x | ⟨k, k1, k2, k3⟩⟩ := h7 i hi
    · exact ⟨a, b, c, d, f, .inl x⟩
    · exact ⟨a, b, c, d, f, .inr ⟨k, k1, k2, by rw [r k 2 (by omega) (by omega)]; exact k3⟩⟩
  · rw [r k 0 (by omega) (by omega), r k 1 (by omega) (by omega), r k 2 (by omega) (by omega)]
    obtain ⟨a, b, x | ⟨i, i1, i2, i3, i4⟩⟩ := h8 k hk
    · exact ⟨a, b, .inl x⟩
    · exact ⟨a, b, .inr ⟨i, i1, i2, by rw [s i 5 (by omega) (by omega)]; exact i3, fun w => by rw [s i 3 (by omega) (by omega)]; exact i4 w⟩⟩
theorem KP.ext {a b : Nat → Int32} {S : SV} {k' : Nat → Int32} {c' : Int32} (h : KP a S k' c') (e : ∀ t, t < 114 → a t = b t) : KP b S k' c' := by
  rcases h with h | ⟨h1, h2⟩
  · exact .inl h
  · refine .inr ⟨h1, fun c hc hch => ?_⟩
    obtain ⟨x, y, z⟩ := h2 c hc hch
    exact ⟨x, fun t ht => (y t ht).trans (e t ht), z⟩
def rS1 (bf t : Nat → Int32) (u j : Nat) (S : SV) : SV := sS10 1 (sS3 bf (sS11 0 (sS12 0 (sS15 0 (sS16 (-1) (cS S t u j))))))
theorem rS1_0 (bf t : Nat → Int32) (u j : Nat) (S : SV) : (rS1 bf t u j S).1 = S.1 := by rw [rS1, pj_10_0, pj_3_0, pj_11_0, pj_12_0, pj_15_0, pj_16_0, cS, pj_19_0, pj_18_0, pj_7_0]
theorem rS1_1 (bf t : Nat → Int32) (u j : Nat) (S : SV) : (rS1 bf t u j S).2.1 = S.2.1 := by rw [rS1, pj_10_1, pj_3_1, pj_11_1, pj_12_1, pj_15_1, pj_16_1, cS, pj_19_1, pj_18_1, pj_7_1]
theorem rS1_2 (bf t : Nat → Int32) (u j : Nat) (S : SV) : (rS1 bf t u j S).2.2.1 = S.2.2.1 := by rw [rS1, pj_10_2, pj_3_2, pj_11_2, pj_12_2, pj_15_2, pj_16_2, cS, pj_19_2, pj_18_2, pj_7_2]
theorem rS1_3 (bf t : Nat → Int32) (u j : Nat) (S : SV) : (rS1 bf t u j S).2.2.2.1 = bf := by rw [rS1, pj_10_3, pj_3_3]
theorem rS1_4 (bf t : Nat → Int32) (u j : Nat) (S : SV) : (rS1 bf t u j S).2.2.2.2.1 = S.2.2.2.2.1 := by rw [rS1, pj_10_4, pj_3_4, pj_11_4, pj_12_4, pj_15_4, pj_16_4, cS, pj_19_4, pj_18_4, pj_7_4]
theorem rS1_5 (bf t : Nat → Int32) (u j : Nat) (S : SV) : (rS1 bf t u j S).2.2.2.2.2.1 = S.2.2.2.2.2.1 := by rw [rS1, pj_10_5, pj_3_5, pj_11_5, pj_12_5, pj_15_5, pj_16_5, cS, pj_19_5, pj_18_5, pj_7_5]
theorem rS1_6 (bf t : Nat → Int32) (u j : Nat) (S : SV) : (rS1 bf t u j S).2.2.2.2.2.2.1 = S.2.2.2.2.2.2.1 := by rw [rS1, pj_10_6, pj_3_6, pj_11_6, pj_12_6, pj_15_6, pj_16_6, cS, pj_19_6, pj_18_6, pj_7_6]
theorem rS1_7 (bf t : Nat → Int32) (u j : Nat) (S : SV) : (rS1 bf t u j S).2.2.2.2.2.2.2.1 = t := by rw [rS1, pj_10_7, pj_3_7, pj_11_7, pj_12_7, pj_15_7, pj_16_7, cS, pj_19_7, pj_18_7, pj_7_7]
theorem rS1_8 (bf t : Nat → Int32) (u j : Nat) (S : SV) : (rS1 bf t u j S).2.2.2.2.2.2.2.2.1 = S.2.2.2.2.2.2.2.2.1 := by rw [rS1, pj_10_8, pj_3_8, pj_11_8, pj_12_8, pj_15_8, pj_16_8, cS, pj_19_8, pj_18_8, pj_7_8]
theorem rS1_9 (bf t : Nat → Int32) (u j : Nat) (S : SV) : (rS1 bf t u j S).2.2.2.2.2.2.2.2.2.1 = S.2.2.2.2.2.2.2.2.2.1 := by rw [rS1, pj_10_9, pj_3_9, pj_11_9, pj_12_9, pj_15_9, pj_16_9, cS, pj_19_9, pj_18_9, pj_7_9]
theorem rS1_10 (bf t : Nat → Int32) (u j : Nat) (S : SV) : (rS1 bf t u j S).2.2.2.2.2.2.2.2.2.2.1 = 1 := by rw [rS1, pj_10_10]
theorem rS1_11 (bf t : Nat → Int32) (u j : Nat) (S : SV) : (rS1 bf t u j S).2.2.2.2.2.2.2.2.2.2.2.1 = 0 := by rw [rS1, pj_10_11, pj_3_11, pj_11_11]
theorem rS1_12 (bf t : Nat → Int32) (u j : Nat) (S : SV) : (rS1 bf t u j S).2.2.2.2.2.2.2.2.2.2.2.2.1 = 0 := by rw [rS1, pj_10_12, pj_3_12, pj_11_12, pj_12_12]
theorem rS1_13 (bf t : Nat → Int32) (u j : Nat) (S : SV) : (rS1 bf t u j S).2.2.2.2.2.2.2.2.2.2.2.2.2.1 = S.2.2.2.2.2.2.2.2.2.2.2.2.2.1 := by rw [rS1, pj_10_13, pj_3_13, pj_11_13, pj_12_13, pj_15_13, pj_16_13, cS, pj_19_13, pj_18_13, pj_7_13]
theorem rS1_14 (bf t : Nat → Int32) (u j : Nat) (S : SV) : (rS1 bf t u j S).2.2.2.2.2.2.2.2.2.2.2.2.2.2.1 = S.2.2.2.2.2.2.2.2.2.2.2.2.2.2.1 := by rw [rS1, pj_10_14, pj_3_14, pj_11_14, pj_12_14, pj_15_14, pj_16_14, cS, pj_19_14, pj_18_14, pj_7_14]
theorem rS1_15 (bf t : Nat → Int32) (u j : Nat) (S : SV) : (rS1 bf t u j S).2.2.2.2.2.2.2.2.2.2.2.2.2.2.2.1 = 0 := by rw [rS1, pj_10_15, pj_3_15, pj_11_15, pj_12_15, pj_15_15]
theorem rS1_16 (bf t : Nat → Int32) (u j : Nat) (S : SV) : (rS1 bf t u j S).2.2.2.2.2.2.2.2.2.2.2.2.2.2.2.2.1 = -1 := by rw [rS1, pj_10_16, pj_3_16, pj_11_16, pj_12_16, pj_15_16, pj_16_16]
theorem rS1_17 (bf t : Nat → Int32) (u j : Nat) (S : SV) : (rS1 bf t u j S).2.2.2.2.2.2.2.2.2.2.2.2.2.2.2.2.2.1 = S.2.2.2.2.2.2.2.2.2.2.2.2.2.2.2.2.2.1 := by rw [rS1, pj_10_17, pj_3_17, pj_11_17, pj_12_17, pj_15_17, pj_16_17, cS, pj_19_17, pj_18_17, pj_7_17]
theorem rS1_18 (bf t : Nat → Int32) (u j : Nat) (S : SV) : (rS1 bf t u j S).2.2.2.2.2.2.2.2.2.2.2.2.2.2.2.2.2.2.1 = nI u := by rw [rS1, pj_10_18, pj_3_18, pj_11_18, pj_12_18, pj_15_18, pj_16_18, cS, pj_19_18, pj_18_18]
theorem rS1_19 (bf t : Nat → Int32) (u j : Nat) (S : SV) : (rS1 bf t u j S).2.2.2.2.2.2.2.2.2.2.2.2.2.2.2.2.2.2.2 = nI j := by rw [rS1, pj_10_19, pj_3_19, pj_11_19, pj_12_19, pj_15_19, pj_16_19, cS, pj_19_19]
/-- what a run comes to, on both sides -/
def ROUT (K : Nat) (C : CV) (S : SV) (o : Option String) (v : Int32) (C' : CV) (T' : TV) (Hs' : HV) (G' : Nat → TV) (X' : XV) (w : Int32) (S' : SV) : Prop :=
  ((o = none ∧ S'.2.2.2.2.2.2.2.2.2.2.2.2.1 = 0 ∧ v = w) ∨ (o = some "java/lang/IllegalArgumentException" ∧ S'.2.2.2.2.2.2.2.2.2.2.2.2.1 = 1) ∨ (o = some "java/lang/UnsupportedOperationException" ∧ S'.2.2.2.2.2.2.2.2.2.2.2.2.1 = 2)) ∧ (∃ n' m', WT K n' m' S'.1) ∧ T' = tvOf S'.1 ∧ S'.2.2.2.2.2.2.2.2.2.2.1 = 0 ∧ HR K Hs' G' S'.2.1 S'.2.2.2.2.2.2.2.2.2.1 ∧ TX X' S' 0 ∧ S'.2.2.2.2.2.1 = S.2.2.2.2.2.1 ∧ S'.2.2.2.2.2.2.2.2.2.2.2.2.2.2.2.2.2.1 = S.2.2.2.2.2.2.2.2.2.2.2.2.2.2.2.2.2.1 ∧ S'.2.2.1 = S.2.2.1 ∧ S'.2.2.2.2.2.2.2.2.1 = S.2.2.2.2.2.2.2.2.1 ∧ C'.1 = C.1 ∧ C'.2.1 = S'.2.2.2.2.2.2.2.2.2.2.2.2.2.2.2.2.1 ∧ C'.2.2.1 = S'.2.2.2.2.2.2.2.2.2.2.2.2.2.1 ∧ C'.2.2.2 = S'.2.2.2.2.2.2.2.2.2.2.2.2.2.2.1
theorem run_eq {K n m len : Nat} (C : CV) (S : SV) (Hs : HV) (G : Nat → TV) (X : XV) (hT : WT K n m S.1) (hw : S.2.2.2.2.2.2.2.2.2.2.1 = 0) (hH : HR K Hs G S.2.1 S.2.2.2.2.2.2.2.2.2.1) (hX : TX X S len) (hK : K + len ≤ 9000) (h16 : C.2.1 = S.2.2.2.2.2.2.2.2.2.2.2.2.2.2.2.2.1) (h13 : C.2.2.1 = S.2.2.2.2.2.2.2.2.2.2.2.2.2.1) (h14 : C.2.2.2 = S.2.2.2.2.2.2.2.2.2.2.2.2.2.2.1) :
    gX6_run S ∧ ∃ o v C' T' Hs' G' X' w S', fX5_run C (tvOf S.1) Hs G X = (o, v, C', T', Hs', G', X') ∧ fX6_run S = (w, S') ∧ ROUT (K + len) C S o v C' T' Hs' G' X' w S' := by
  obtain ⟨gt, u, j, r, t, hu, hj, ⟨e1, e2, hjl, ho⟩ | ⟨e1, e2⟩⟩ := text_eq hX
  · obtain ⟨n1, hn1⟩ : ∃ n1, n1 = fX4_readOrders X := ⟨_, rfl⟩
    have n11 : n1.1 = -1 := by rw [hn1, e1]
    obtain ⟨n2, hn2⟩ : ∃ n2, n2 = fX4_clear n1.2 := ⟨_, rfl⟩
    have hn2v : n2 = (X.1, r, 0, nI u, nI j) := by rw [hn2, hn1, e1]; rfl
    have n24 : n2.2.2.2.2 = nI j := by rw [hn2v]
    have n21 : n2.2.1 = r := by rw [hn2v]
    obtain ⟨n3, hn3⟩ : ∃ n3, n3 = fX1_prepare Hs G (tvOf S.1) := ⟨_, rfl⟩
    obtain ⟨jh, c, hjh, hc, hHs, hch, hring⟩ := id hH
    obtain ⟨F, hF⟩ : ∃ F, F = fX6_fails (sS15 0 (sS16 (-1) (fX6_isText S).2)) 0 := ⟨_, rfl⟩
    have hF2 : F = (0, sS11 0 (sS12 0 (sS15 0 (sS16 (-1) (cS S t u j))))) := by rw [hF, e2]; exact fl0 _
    have f1 : F.2.1 = S.1 := by rw [hF2]; show (sS11 0 (sS12 0 (sS15 0 (sS16 (-1) (cS S t u j))))).1 = S.1; rw [pj_11_0, pj_12_0, pj_15_0, pj_16_0, cS, pj_19_0, pj_18_0, pj_7_0]
    obtain ⟨cp1, cp2⟩ := cp_r F.2.1 F.2.2.2.2.1 (na := 114) (nb := 114) (a := 0) (b := 0) (x := 0) (y := 0) rfl rfl (by omega) (by omega) (by omega) (by omega)
    obtain ⟨bf, hbf⟩ : ∃ bf, bf = fX6_copies F.2.1 114 F.2.2.2.2.1 114 0 0 := ⟨_, rfl⟩
    have hbt : ∀ z, z < 114 → bf z = S.1 z := fun z hz => by
      rw [hbf, cp1]
      show (if 0 ≤ z ∧ z < 0 + 114 then F.2.1 (0 + (z - 0)) else _) = _
      rw [if_pos (by omega), f1, show 0 + (z - 0) = z by omega]
    obtain ⟨S1, hS1⟩ : ∃ S1, S1 = sS10 1 (sS3 bf F.2) := ⟨_, rfl⟩
    have hS1v : S1 = rS1 bf t u j S := by rw [hS1, hF2, rS1]
    have s0 : S1.1 = S.1 := by rw [hS1v, rS1_0]
    have s19 : S1.2.2.2.2.2.2.2.2.2.2.2.2.2.2.2.2.2.2.2 = nI j := by rw [hS1v, rS1_19]
    have s9 : S1.2.2.2.2.2.2.2.2.2.1 = nI c := by rw [hS1v, rS1_9]; exact hch
    have s10 : S1.2.2.2.2.2.2.2.2.2.2.1 = 1 := by rw [hS1v, rS1_10]
    have s7 : S1.2.2.2.2.2.2.2.1 = t := by rw [hS1v, rS1_7]
    have s12 : S1.2.2.2.2.2.2.2.2.2.2.2.2.1 = 0 := by rw [hS1v, rS1_12]
    have s13 : S1.2.2.2.2.2.2.2.2.2.2.2.2.2.1 = S.2.2.2.2.2.2.2.2.2.2.2.2.2.1 := by rw [hS1v, rS1_13]
    have s14 : S1.2.2.2.2.2.2.2.2.2.2.2.2.2.2.1 = S.2.2.2.2.2.2.2.2.2.2.2.2.2.2.1 := by rw [hS1v, rS1_14]
    have s3 : S1.2.2.2.1 = bf := by rw [hS1v, rS1_3]
    have s16 : S1.2.2.2.2.2.2.2.2.2.2.2.2.2.2.2.2.1 = -1 := by rw [hS1v, rS1_16]
    have s15 : S1.2.2.2.2.2.2.2.2.2.2.2.2.2.2.2.1 = 0 := by rw [hS1v, rS1_15]
    have s1 : S1.2.1 = S.2.1 := by rw [hS1v, rS1_1]
    have s2 : S1.2.2.1 = S.2.2.1 := by rw [hS1v, rS1_2]
    have s5 : S1.2.2.2.2.2.1 = S.2.2.2.2.2.1 := by rw [hS1v, rS1_5]
    have s8 : S1.2.2.2.2.2.2.2.2.1 = S.2.2.2.2.2.2.2.2.1 := by rw [hS1v, rS1_8]
    have s17 : S1.2.2.2.2.2.2.2.2.2.2.2.2.2.2.2.2.2.1 = S.2.2.2.2.2.2.2.2.2.2.2.2.2.2.2.2.2.1 := by rw [hS1v, rS1_17]
    obtain ⟨Rc, Rr, d1, d2, d3⟩ := run_loop C (tvOf S.1) Hs G X n1 n3 n2 S1 n24 hj s19 hc s9 (by rw [s10]; decide) (fun i hi => by rw [n21, s7]; exact ho i hi) (C.1, n1.1, C.2.2.1, C.2.2.2) j 0 K n m S1 0 (by omega) (by omega) (by omega) (by rw [s0]; exact hT) (RN.rfl' S1) s12 (s13.trans h13.symm) (s14.trans h14.symm)
    rw [s0] at d1
    have hIc : itv ((C.1, n1.1, C.2.2.1, C.2.2.2), tvOf S.1, 0, 0) (lX5_run_51 C (tvOf S.1) Hs G X n1 n2 n3) ((fun v : (CV × TV × Int32 × Int32) => (n2.2.2.2.2.toInt - v.2.2.2.toInt).toNat) ((C.1, n1.1, C.2.2.1, C.2.2.2), tvOf S.1, 0, 0) + 1) ((C.1, n1.1, C.2.2.1, C.2.2.2), tvOf S.1, 0, 0) = Rc := itv_eq (by
      show itr _ ((n2.2.2.2.2.toInt - (0 : Int32).toInt).toNat + 1) _ = _
      rw [n24, fuelJ (by omega)]; exact d1)
    have hfr : (fun v : (SV × Int32 × Int32) => (v.1.2.2.2.2.2.2.2.2.2.2.2.2.2.2.2.2.2.2.2.toInt - v.2.1.toInt).toNat) (S1, 0, 0) + 1 = j + 1 := by
      show (S1.2.2.2.2.2.2.2.2.2.2.2.2.2.2.2.2.2.2.2.toInt - (0 : Int32).toInt).toNat + 1 = j + 1
      rw [s19, fuelJ (by omega)]
    have hIr : itv (S1, 0, 0) lX6_run_66 ((fun v : (SV × Int32 × Int32) => (v.1.2.2.2.2.2.2.2.2.2.2.2.2.2.2.2.2.2.2.2.toInt - v.2.1.toInt).toNat) (S1, 0, 0) + 1) (S1, 0, 0) = Rr := by
      rw [hfr]; exact lrun_itv d2
    have gl : ∃ r9 : (SV × Int32 × Int32), lrun lX6_run_66 glX6_run_66 ((fun v : (SV × Int32 × Int32) => (v.1.2.2.2.2.2.2.2.2.2.2.2.2.2.2.2.2.2.2.2.toInt - v.2.1.toInt).toNat) (S1, 0, 0) + 1) (S1, 0, 0) r9 := ⟨Rr, by rw [hfr]; exact d2⟩
    have it1 : (fX6_isText S).1 = 1 := by rw [e2]
    have q1 : ¬ (fX6_isText S).1 = 0 := by rw [it1]; decide
    have pb : fX1_prepare Hs G (tvOf bf) = n3 := by rw [hn3, tv_ext hbt]
    have tb : ∀ O, fX1_takeBack Hs n3 O = tvOf S.1 := fun O => by
      rw [fX1_takeBack, hn3, fX1_prepare, if_pos rfl]
    rcases d3 with ⟨v, n', m', S', b0, b1, b2, b3, b4, b5, hR, b6, b7, b8⟩ | ⟨v, S', b0, b9, b1, b3, b4, b10, hR, b6, b11, b7, b8⟩ | ⟨S', b1, b3, b4, b10, hR, b6, b11⟩
    · -- every order went well
      obtain ⟨k', ch', kb1, kb2, kb3⟩ := kb_r (sS10 0 S') (c := c) hc (by rw [pj_10_9, (hR.2.2.2.2.2.2.2.1)]; exact s9)
      have kp : KP S.1 (sS10 0 S') k' ch' := kb3.ext (fun z hz => by rw [pj_10_3, (hR.2.2.1), s3]; exact hbt z hz)
      have hk : HR K (fX1_keep Hs) (fX1_prepare Hs G (tvOf S.1)) k' ch' := HR.keep (S := sS10 0 S') (by rw [pj_10_1, pj_10_9, (hR.1), (hR.2.2.2.2.2.2.2.1), s1, s9]; rw [hch] at hH; exact hH) (pj_10_10 _ _) hT kp
      have c2 : Rr.1.2.2.2.2.2.2.2.2.2.2.2.2.1 ≤ 0 := by rw [b4, b6]; decide
      refine ⟨?_, none, nI j, Rc.1, Rc.2.1, fX1_keep Hs, n3, n2, nI j, sS1 k' (sS9 ch' (sS12 0 (sS10 0 S'))), ?_, ?_, .inl ⟨rfl, ?_, rfl⟩, ⟨n', m', ?_⟩, ?_, ?_, ?_, ⟨?_, ?_, by omega, fun z hz => absurd hz (by omega)⟩, ?_, ?_, ?_, ?_, ?_, ?_, ?_, ?_⟩
      · rw [gX6_run, if_neg q1, ← hF, ← hbf, ← hS1, hIr, if_pos c2, b4]
        exact ⟨gt, cp2, gl, kb2, trivial⟩
      · rw [fX5_run, ← hn1, ← hn2, ← hn3, if_pos n11, hIc, if_pos (by rw [b3]; exact nI_le (a := 0) (by omega) (by omega)), if_neg (by rw [b3]; exact (fun e => absurd (congrArg Int32.toInt e) (by rw [nI_toInt (by omega), show (-3 : Int32).toInt = -3 by decide]; omega))), if_pos (by rw [b3]; exact nI_le (a := 0) (by omega) (by omega)), n24]
      · rw [fX6_run, if_neg q1, ← hF, ← hbf, ← hS1, hIr, if_pos c2, b4, kb1, pj_1_19, pj_9_19, pj_12_19, pj_10_19, (hR.2.2.2.2.2.2.2.2.2.2.2.2.2), s19]
      · rw [pj_1_12, pj_9_12, pj_12_12]
      · rw [pj_1_0, pj_9_0, pj_12_0, pj_10_0]; exact b5.mono (by omega)
      · rw [pj_1_0, pj_9_0, pj_12_0, pj_10_0]; exact b2
      · rw [pj_1_10, pj_9_10, pj_12_10, pj_10_10]
      · rw [pj_1_1, pj_1_9, pj_9_9, hn3]; exact hk.mono (by omega)
      · rw [hn2v]; rfl
      · show (sS1 k' (sS9 ch' (sS12 0 (sS10 0 S')))).2.2.2.2.2.2.2.2.2.2.2.2.2.2.2.1 = _
        rw [pj_1_15, pj_9_15, pj_12_15, pj_10_15, (hR.2.2.2.2.2.2.2.2.2.1), s15]; rfl
      · rw [pj_1_5, pj_9_5, pj_12_5, pj_10_5, (hR.2.2.2.2.1), s5]
      · rw [pj_1_17, pj_9_17, pj_12_17, pj_10_17, (hR.2.2.2.2.2.2.2.2.2.2.2.1), s17]
      · rw [pj_1_2, pj_9_2, pj_12_2, pj_10_2, (hR.2.1), s2]
      · rw [pj_1_8, pj_9_8, pj_12_8, pj_10_8, (hR.2.2.2.2.2.2.1), s8]
      · rw [b1]
      · rw [pj_1_16, pj_9_16, pj_12_16, pj_10_16, (hR.2.2.2.2.2.2.2.2.2.2.1), s16, b1, n11]
      · rw [pj_1_13, pj_9_13, pj_12_13, pj_10_13, b7, b1]
      · rw [pj_1_14, pj_9_14, pj_12_14, pj_10_14, b8, b1]
    · -- an order failed
      obtain ⟨cq1, cq2⟩ := cp_r S'.2.2.2.1 S'.1 (na := 114) (nb := 114) (a := 0) (b := 0) (x := 0) (y := 0) rfl rfl (by omega) (by omega) (by omega) (by omega)
      obtain ⟨fr, hfr2⟩ : ∃ fr, fr = fX6_copies S'.2.2.2.1 114 S'.1 114 0 0 := ⟨_, rfl⟩
      have hft : ∀ z, z < 114 → fr z = S.1 z := fun z hz => by
        rw [hfr2, cq1]
        show (if 0 ≤ z ∧ z < 0 + 114 then S'.2.2.2.1 (0 + (z - 0)) else _) = _
        rw [if_pos (by omega), (hR.2.2.1), s3, show 0 + (z - 0) = z by omega]; exact hbt z hz
      have c2 : ¬ Rr.1.2.2.2.2.2.2.2.2.2.2.2.2.1 ≤ 0 := by rw [b4]; exact pos_nle b6
      have nv : ¬ 0 ≤ Rc.2.2.1 := by rw [b3]; intro e; rw [Int32.lt_iff_toInt_lt] at b0; rw [Int32.le_iff_toInt_le] at e; omega
      refine ⟨?_, some "java/lang/IllegalArgumentException", 0, Rc.1, tvOf S.1, Hs, n3, n2, 0, sS12 1 (sS0 fr (sS10 0 S')), ?_, ?_, .inr (.inl ⟨rfl, ?_⟩), ⟨n, m, ?_⟩, ?_, ?_, ?_, ⟨?_, ?_, by omega, fun z hz => absurd hz (by omega)⟩, ?_, ?_, ?_, ?_, ?_, ?_, ?_, ?_⟩
      · rw [gX6_run, if_neg q1, ← hF, ← hbf, ← hS1, hIr, if_neg c2, b4]
        exact ⟨gt, cp2, gl, cq2, trivial⟩
      · rw [fX5_run, ← hn1, ← hn2, ← hn3, if_pos n11, hIc, if_neg nv, tb, if_neg (by rw [b3]; exact b9), if_neg nv]
      · rw [fX6_run, if_neg q1, ← hF, ← hbf, ← hS1, hIr, if_neg c2, if_pos (by rw [b4, b11]), if_pos (by rw [b10]; decide), b10, b4, ← hfr2]
      · rw [pj_12_12]
      · rw [pj_12_0, pj_0_0]; exact (hT.ext hft).mono (by omega)
      · rw [pj_12_0, pj_0_0]; exact (tv_ext hft).symm
      · rw [pj_12_10, pj_0_10, pj_10_10]
      · rw [pj_12_1, pj_0_1, pj_10_1, pj_12_9, pj_0_9, pj_10_9, (hR.1), (hR.2.2.2.2.2.2.2.1), s1, s9, ← hch, hn3]; exact (hH.prep _).mono (by omega)
      · rw [hn2v]; rfl
      · show (sS12 1 (sS0 fr (sS10 0 S'))).2.2.2.2.2.2.2.2.2.2.2.2.2.2.2.1 = _
        rw [pj_12_15, pj_0_15, pj_10_15, (hR.2.2.2.2.2.2.2.2.2.1), s15]; rfl
      · rw [pj_12_5, pj_0_5, pj_10_5, (hR.2.2.2.2.1), s5]
      · rw [pj_12_17, pj_0_17, pj_10_17, (hR.2.2.2.2.2.2.2.2.2.2.2.1), s17]
      · rw [pj_12_2, pj_0_2, pj_10_2, (hR.2.1), s2]
      · rw [pj_12_8, pj_0_8, pj_10_8, (hR.2.2.2.2.2.2.1), s8]
      · rw [b1]
      · rw [pj_12_16, pj_0_16, pj_10_16, (hR.2.2.2.2.2.2.2.2.2.2.1), s16, b1, n11]
      · rw [pj_12_13, pj_0_13, pj_10_13, b7, b1]
      · rw [pj_12_14, pj_0_14, pj_10_14, b8, b1]
    · -- an order was refused
      obtain ⟨cq1, cq2⟩ := cp_r S'.2.2.2.1 S'.1 (na := 114) (nb := 114) (a := 0) (b := 0) (x := 0) (y := 0) rfl rfl (by omega) (by omega) (by omega) (by omega)
      obtain ⟨fr, hfr2⟩ : ∃ fr, fr = fX6_copies S'.2.2.2.1 114 S'.1 114 0 0 := ⟨_, rfl⟩
      have hft : ∀ z, z < 114 → fr z = S.1 z := fun z hz => by
        rw [hfr2, cq1]
        show (if 0 ≤ z ∧ z < 0 + 114 then S'.2.2.2.1 (0 + (z - 0)) else _) = _
        rw [if_pos (by omega), (hR.2.2.1), s3, show 0 + (z - 0) = z by omega]; exact hbt z hz
      have c2 : ¬ Rr.1.2.2.2.2.2.2.2.2.2.2.2.2.1 ≤ 0 := by rw [b4]; exact pos_nle b6
      have nv : ¬ 0 ≤ Rc.2.2.1 := by rw [b3]; decide
      refine ⟨?_, some "java/lang/UnsupportedOperationException", 0, Rc.1, tvOf S.1, Hs, n3, n2, 0, sS12 2 (sS0 fr (sS10 0 S')), ?_, ?_, .inr (.inr ⟨rfl, ?_⟩), ⟨n, m, ?_⟩, ?_, ?_, ?_, ⟨?_, ?_, by omega, fun z hz => absurd hz (by omega)⟩, ?_, ?_, ?_, ?_, ?_, ?_, ?_, ?_⟩
      · rw [gX6_run, if_neg q1, ← hF, ← hbf, ← hS1, hIr, if_neg c2, b4]
        exact ⟨gt, cp2, gl, cq2, trivial⟩
      · rw [fX5_run, ← hn1, ← hn2, ← hn3, if_pos n11, hIc, if_neg nv, tb, if_pos (by rw [b3])]
      · rw [fX6_run, if_neg q1, ← hF, ← hbf, ← hS1, hIr, if_neg c2, if_neg (by rw [b4, b11]; decide), if_pos (by rw [b10]; decide), b10, b4, ← hfr2]
      · rw [pj_12_12]
      · rw [pj_12_0, pj_0_0]; exact (hT.ext hft).mono (by omega)
      · rw [pj_12_0, pj_0_0]; exact (tv_ext hft).symm
      · rw [pj_12_10, pj_0_10, pj_10_10]
      · rw [pj_12_1, pj_0_1, pj_10_1, pj_12_9, pj_0_9, pj_10_9, (hR.1), (hR.2.2.2.2.2.2.2.1), s1, s9, ← hch, hn3]; exact (hH.prep _).mono (by omega)
      · rw [hn2v]; rfl
      · show (sS12 2 (sS0 fr (sS10 0 S'))).2.2.2.2.2.2.2.2.2.2.2.2.2.2.2.1 = _
        rw [pj_12_15, pj_0_15, pj_10_15, (hR.2.2.2.2.2.2.2.2.2.1), s15]; rfl
      · rw [pj_12_5, pj_0_5, pj_10_5, (hR.2.2.2.2.1), s5]
      · rw [pj_12_17, pj_0_17, pj_10_17, (hR.2.2.2.2.2.2.2.2.2.2.2.1), s17]
      · rw [pj_12_2, pj_0_2, pj_10_2, (hR.2.1), s2]
      · rw [pj_12_8, pj_0_8, pj_10_8, (hR.2.2.2.2.2.2.1), s8]
      · rw [b1]
      · rw [pj_12_16, pj_0_16, pj_10_16, (hR.2.2.2.2.2.2.2.2.2.2.1), s16, b1, n11]
      · rw [pj_12_13, pj_0_13, pj_10_13, b1]
      · rw [pj_12_14, pj_0_14, pj_10_14, b1]
  · -- no text
    have q1 : (fX6_isText S).1 = 0 := by rw [e2]
    have q2 : fX6_run S = (0, (sS11 0 (sS12 1 (sS15 0 (sS16 (nI u) (cS S t u j)))))) := by
      rw [fX6_run, if_pos q1, e2]
      show (0, (fX6_fails (sS15 0 (sS16 (cS S t u j).2.2.2.2.2.2.2.2.2.2.2.2.2.2.2.2.2.2.1 (cS S t u j))) 1).2) = _
      rw [cS_p, fl1]
    have q3 : ¬ nI u = (-1 : Int32) := fun e => absurd (congrArg Int32.toInt e) (by have := hX.2.2.1; rw [nI_toInt (by omega), show (-1 : Int32).toInt = -1 by decide]; omega)
    have q4 : fX5_run C (tvOf S.1) Hs G X = (some "java/lang/IllegalArgumentException", 0, (C.1, nI u, C.2.2.1, C.2.2.2), tvOf S.1, Hs, G, (X.1, r, 0, nI u, nI j)) := by
      rw [fX5_run, if_neg (by rw [e1]; exact q3), e1]; rfl
    refine ⟨?_, some "java/lang/IllegalArgumentException", 0, _, _, _, _, _, _, _, q4, q2, .inr (.inl ⟨rfl, ?_⟩), ⟨n, m, ?_⟩, ?_, ?_, ?_, ⟨?_, ?_, by omega, fun z hz => absurd hz (by omega)⟩, ?_, ?_, ?_, ?_, ?_, ?_, ?_, ?_⟩
    · rw [gX6_run, if_pos q1]; exact ⟨gt, trivial⟩
    · rw [pj_11_12, pj_12_12]
    · rw [pj_11_0, pj_12_0, pj_15_0, pj_16_0, cS, pj_19_0, pj_18_0, pj_7_0]; exact hT.mono (by omega)
    · rw [pj_11_0, pj_12_0, pj_15_0, pj_16_0, cS, pj_19_0, pj_18_0, pj_7_0]
    · rw [pj_11_10, pj_12_10, pj_15_10, pj_16_10, cS, pj_19_10, pj_18_10, pj_7_10]; exact hw
    · rw [pj_11_1, pj_12_1, pj_15_1, pj_16_1, cS, pj_19_1, pj_18_1, pj_7_1, pj_11_9, pj_12_9, pj_15_9, pj_16_9, pj_19_9, pj_18_9, pj_7_9]; exact hH.mono (by omega)
    · rfl
    · show (sS11 0 (sS12 1 (sS15 0 (sS16 (nI u) (cS S t u j))))).2.2.2.2.2.2.2.2.2.2.2.2.2.2.2.1 = _
      rw [pj_11_15, pj_12_15, pj_15_15]; rfl
    · rw [pj_11_5, pj_12_5, pj_15_5, pj_16_5, cS, pj_19_5, pj_18_5, pj_7_5]
    · rw [pj_11_17, pj_12_17, pj_15_17, pj_16_17, cS, pj_19_17, pj_18_17, pj_7_17]
    · rw [pj_11_2, pj_12_2, pj_15_2, pj_16_2, cS, pj_19_2, pj_18_2, pj_7_2]
    · rw [pj_11_8, pj_12_8, pj_15_8, pj_16_8, cS, pj_19_8, pj_18_8, pj_7_8]
    · rfl
    · rw [pj_11_16, pj_12_16, pj_15_16, pj_16_16]
    · rw [pj_11_13, pj_12_13, pj_15_13, pj_16_13, cS, pj_19_13, pj_18_13, pj_7_13]; exact h13
    · rw [pj_11_14, pj_12_14, pj_15_14, pj_16_14, cS, pj_19_14, pj_18_14, pj_7_14]; exact h14
