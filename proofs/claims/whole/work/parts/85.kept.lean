/-! The law's cases: lines, texts, accounts, what was kept -/
theorem taken_v {K n m : Nat} (S : SV) (h : WT K n m S.1) : ∃ v : Nat, v ≤ 12 ∧ fX3_takenStools (tvOf S.1) 0 ((tvOf S.1).2.2.1 - 1) = nI v ∧ fX6_taken S 0 (S.1 0 - 1) = nI v ∧ gX6_taken S 0 (S.1 0 - 1) := by
  have hn : S.1 0 = nI n := h.1.1
  have n12 : n ≤ 12 := h.1.2.2.1
  have hg : (tvOf S.1).2.2.1 = nI n := hn
  by_cases n0 : n = 0
  · subst n0
    have e : S.1 0 - 1 = -1 := by rw [hn]; decide
    have e2 : (tvOf S.1).2.2.1 - 1 = -1 := e
    have l1 : lX6_taken_5 S (-1) (0, 0) = .inr (0, 0) := by rw [lX6_taken_5]; exact if_pos (by decide)
    have l2 : glX6_taken_5 S (-1) (0, 0) := by rw [glX6_taken_5]; rw [if_pos (show (-1 : Int32) < 0 by decide)]; trivial
    have l3 : lX3_takenStools_5 (tvOf S.1) 0 (-1) (0, 0) = .inr (0, 0) := by rw [lX3_takenStools_5]; exact if_pos (by decide)
    have r3 : ∀ f, itr (lX3_takenStools_5 (tvOf S.1) 0 (-1)) (f + 1) ((0 : Int32), (0 : Int32)) = .inr (0, 0) := fun f => by simp only [itr, l3]
    have r : ∀ f, lrun (lX6_taken_5 S (-1)) (glX6_taken_5 S (-1)) (f + 1) (0, 0) (0, 0) := fun f => ⟨l2, .inr l1⟩
    rw [e, e2]
    refine ⟨0, by omega, ?_, ?_, ?_⟩
    · rw [fX3_takenStools]; exact congrArg Prod.fst (itv_eq (r3 _))
    · rw [fX6_taken]; exact congrArg Prod.fst (lrun_itv (r _))
    · exact ⟨⟨_, r _⟩, trivial⟩
  · obtain ⟨t1, t2⟩ := taken_all S h (by omega)
    obtain ⟨n', rfl⟩ : ∃ n', n = n' + 1 := ⟨n - 1, by omega⟩
    have e2 : (tvOf S.1).2.2.1 - 1 = nI n' := by rw [hg, nI_pred]
    have hf := fuel0 hg (by omega)
    have key := (fo_itv (f := lX3_takenStools_5 (tvOf S.1) 0 (nI n')) ((0, 0) : Int32 × Int32) (fun (a : Int32) j => (a, nI j)) (fun a => (a, nI (n' + 1))) (fun a k => if qs S.1 k 5 = -1 then a + 0 else a + 1) (fun a k => ∃ v : Nat, v ≤ k ∧ a = nI v) (n' + 1) (fun a j hj hI => by
      obtain ⟨v, hv, rfl⟩ := hI
      have c1 : ¬ nI n' < nI j := by rw [Int32.lt_iff_toInt_lt, nI_toInt (by omega), nI_toInt (by omega)]; omega
      rw [lX3_takenStools_5]
      dsimp only
      rw [if_neg c1, if_neg (up_le hg (by omega) hj), rS S.1 (w := 5) (y := 5) (show j < 12 by omega) (by decide) rfl]
      by_cases z : qs S.1 j 5 = -1
      · rw [if_pos z, if_pos z, nI_1]; exact ⟨rfl, v, by omega, Int32.add_zero _⟩
      · rw [if_neg z, if_neg z, nI_1, nI_1]; exact ⟨rfl, v + 1, by omega, rfl⟩) (fun a _ => by
      have c1 : nI n' < nI (n' + 1) := by rw [Int32.lt_iff_toInt_lt, nI_toInt (by omega), nI_toInt (by omega)]; omega
      rw [lX3_takenStools_5]; exact if_pos c1) (n' + 1) 0 0 _ (by omega) hf ⟨0, by omega, rfl⟩)
    obtain ⟨k1, v, hv, k2⟩ := key
    have e3 : fX3_takenStools (tvOf S.1) 0 (nI n') = nI v := by rw [fX3_takenStools, ← k2]; exact congrArg Prod.fst k1
    rw [e2] at t1 ⊢
    exact ⟨v, by omega, e3, t1.trans e3, t2⟩
theorem stWell {K n m : Nat} {g : Nat → Int32} (h : WT K n m g) : fX3_stoolsAreWell (tvOf g) = 1 := by
  have n12 := h.1.2.2.1
  have m12 := h.1.2.2.2.1
  have hg : (tvOf g).2.2.1 = nI n := h.1.1
  have hf := fuel0 hg (by omega)
  have key := itr_seq (f := lX3_stoolsAreWell_2 (tvOf g)) (fun i => nI i) (.inl (nI n)) n 0 _ hf (fun i _ hi => by
    have hi' : i < n := by omega
    show lX3_stoolsAreWell_2 (tvOf g) (nI i) = .inl (nI (i + 1))
    rw [lX3_stoolsAreWell_2, if_neg (up_le hg (by omega) hi'), rS g (w := 5) (y := 5) (show i < 12 by omega) (by decide) rfl]
    rcases h.who hi' with z | ⟨k, hk, z, z2⟩
    · rw [if_pos z, nI_1]
    · have my : (if ¬ qp g k 0 = 0 ∨ qs g i 3 = 0 then (1 : Int32) else 0) = 1 := if_pos (by
        rcases h.sit hk with y | ⟨i2, hi2, y, -, y3⟩
        · rw [y] at z2; exact absurd z2.symm (nI_m1 (by omega))
        · have : i2 = i := nI_inj (by omega) (by omega) (y.symm.trans z2)
          subst this
          by_cases q : qp g k 0 = 0
          · exact .inr (y3 q)
          · exact .inl q)
      rw [z, if_neg (nI_m1 (by omega)), rP g (w := 2) (y := 2) (show k < 12 by omega) (by decide) rfl, z2, if_pos rfl, may_c h hk hi', my, if_neg one_ne, nI_1]) (by
    show lX3_stoolsAreWell_2 (tvOf g) (nI (0 + n)) = _
    rw [Nat.zero_add, lX3_stoolsAreWell_2, if_pos (at_le hg)])
  have w : itv (.inl 0) (lX3_stoolsAreWell_2 (tvOf g)) ((fun v : Int32 => ((tvOf g).2.2.1.toInt - v.toInt).toNat) 0 + 1) 0 = .inl (nI n) := itv_eq key
  rw [fX3_stoolsAreWell, w]; rfl
theorem siWell {K n m : Nat} {g : Nat → Int32} (h : WT K n m g) : fX3_sittersAreWell (tvOf g) = 1 := by
  have n12 := h.1.2.2.1
  have m12 := h.1.2.2.2.1
  have hg : (tvOf g).2.2.2.1 = nI m := h.1.2.1
  have hf := fuel0 hg (by omega)
  have key := itr_seq (f := lX3_sittersAreWell_2 (tvOf g)) (fun i => nI i) (.inl (nI m)) m 0 _ hf (fun k _ hk => by
    have hk' : k < m := by omega
    show lX3_sittersAreWell_2 (tvOf g) (nI k) = .inl (nI (k + 1))
    rw [lX3_sittersAreWell_2, if_neg (up_le hg (by omega) hk'), rP g (w := 2) (y := 2) (show k < 12 by omega) (by decide) rfl]
    rcases h.sit hk' with z | ⟨i, hi, z, z2, -⟩
    · rw [if_pos z, nI_1]
    · rw [z, if_neg (nI_m1 (by omega)), rS g (w := 5) (y := 5) (show i < 12 by omega) (by decide) rfl, z2, if_pos rfl, nI_1]) (by
    show lX3_sittersAreWell_2 (tvOf g) (nI (0 + m)) = _
    rw [Nat.zero_add, lX3_sittersAreWell_2, if_pos (at_le hg)])
  have w : itv (.inl 0) (lX3_sittersAreWell_2 (tvOf g)) ((fun v : Int32 => ((tvOf g).2.2.2.1.toInt - v.toInt).toNat) 0 + 1) 0 = .inl (nI m) := itv_eq key
  rw [fX3_sittersAreWell, w]; rfl
theorem c2' : (2 : Int32).toNatClampNeg = 2 := by decide
theorem c5' : (5 : Int32).toNatClampNeg = 5 := by decide
theorem c_31 {xs : Nat → Int32} {L : Nat} (hL : L ≤ 2560) (i : Nat) (S : CV) (T : TV) (Tr : TV) (Sn : TV) (Hs : HV) (G : (Nat → TV)) (Xt : XV) (Ln : LV) (Mo : SV) (O : (Nat → Int64)) (Oq : (Nat → UInt64)) (hi : i + 5 ≤ L) (hR : Rel i S T Tr Sn Hs G Xt Ln Mo O Oq) : gM_31 S T Tr Sn Hs G Xt Ln Mo O Oq xs L (nI i) ∧ Rel (i + 5) S T Tr Sn Hs G Xt Ln (fM_31 S T Tr Sn Hs G Xt Ln Mo O Oq xs L (nI i)) O Oq := by
  obtain ⟨K, len, hk, R⟩ := hR
  obtain ⟨⟨n, m, h⟩, r2, -⟩ := id R
  subst r2
  have n12 := h.1.2.2.1
  obtain ⟨u1, u2⟩ := under_r (sS12 0 Mo) (n := n) (by rw [pj_12_0]; exact h.1.1) n12
  rw [pj_12_0] at u1
  have s4 := sum_c Mo.1 (w := 4) (y := 4) h.1.1 n12 (by decide) rfl
  have e : fX5_isWell S (tvOf Mo.1) = (if Mo.1 2 + fX6_underStools (sS12 0 Mo) = 6 + Mo.1 5 then 1 else 0) := by
    rw [fX5_isWell, cs_eq h, if_pos rfl, stWell h, if_neg one_ne, siWell h, if_neg one_ne, s4, u1]; rfl
  have v2 : vp_in 2 114 := gHd (j := 2) rfl (by omega)
  have v5 : vp_in 5 114 := gHd (j := 5) rfl (by omega)
  have e2 : fX6_isWell Mo = ((if Mo.1 2 + fX6_underStools (sS12 0 Mo) = 6 + Mo.1 5 then 1 else 0), sS12 0 Mo) := by
    rw [fX6_isWell, c2', c5']
    by_cases z : Mo.1 2 + fX6_underStools (sS12 0 Mo) = 6 + Mo.1 5
    · rw [if_pos z, if_pos z]
    · rw [if_neg z, if_neg z]
  rw [gM_31, fM_31, e2]
  exact ⟨⟨⟨v2, u2, v5, trivial⟩, e, trivial⟩, ⟨K, len, by omega, R.sb ((SB.rfl' Mo).s12 0)⟩⟩
theorem hsum_r (S : SV) {K n m : Nat} (h : WT K n m S.1) (F : Int32 × SV) (hF : F.2.1 = S.1) : (itv ((0 : Int32), (0 : Int32)) (lX6_meanHeight_36 F) ((fun v : (Int32 × Int32) => ((F.2.1 (0 : Int32).toNatClampNeg).toInt - v.2.toInt).toNat) (0, 0) + 1) (0, 0)).1 = fX3_sumOfTakenHeights (tvOf S.1) ∧ (∃ r9 : (Int32 × Int32), lrun (lX6_meanHeight_36 F) (glX6_meanHeight_36 F) ((fun v : (Int32 × Int32) => ((F.2.1 (0 : Int32).toNatClampNeg).toInt - v.2.toInt).toNat) (0, 0) + 1) (0, 0) r9) := by
  have n12 := h.1.2.2.1
  have m12 := h.1.2.2.2.1
  have hg : F.2.1 (0 : Int32).toNatClampNeg = nI n := by rw [c0, hF]; exact h.1.1
  have hf := fuel0 hg (by omega)
  have v0 : vp_in 0 114 := gHd (j := 0) rfl (by omega)
  have key := (fo_loop (f := lX6_meanHeight_36 F) (P := glX6_meanHeight_36 F) (fun (a : Int32) j => (a, nI j)) (fun a => (a, nI n)) (fun a k => if qs S.1 k 5 = -1 then a + 0 else a + qs S.1 k 0) (fun _ _ => True) n (fun a j hj _ => by
    have hc := up_le hg (by omega) hj
    have o5 : fX6_of F.2 (nI j) 5 = qs S.1 j 5 := (rO F.2 (w := 5) (y := 5) (show j < 12 by omega) (by decide) rfl).trans (by rw [hF])
    have o0 : fX6_of F.2 (nI j) 0 = qs S.1 j 0 := (rO F.2 (w := 0) (y := 0) (show j < 12 by omega) (by decide) rfl).trans (by rw [hF])
    have g5 : gX6_of F.2 (nI j) 5 := gO F.2 (w := 5) (y := 5) (show j < 12 by omega) (by decide) rfl
    have g0 : gX6_of F.2 (nI j) 0 := gO F.2 (w := 0) (y := 0) (show j < 12 by omega) (by decide) rfl
    rw [glX6_meanHeight_36, lX6_meanHeight_36]
    dsimp only
    rw [if_neg hc, if_neg hc, o5, o0, nI_1]
    rcases h.who hj with z | ⟨k, hk, z, -⟩
    · rw [z, if_pos m1_lt, if_pos m1_lt, if_pos rfl]; exact ⟨⟨v0, g5, trivial⟩, rfl, trivial⟩
    · have q1 : ¬ nI k < 0 := nI_pos (by omega)
      rw [z, if_neg q1, if_neg q1, if_neg (nI_m1 (by omega))]; exact ⟨⟨v0, g5, g0, trivial⟩, rfl, trivial⟩) (fun a _ => by
    rw [glX6_meanHeight_36, lX6_meanHeight_36]
    dsimp only
    rw [if_pos (at_le hg), if_pos (at_le hg)]; exact ⟨⟨v0, trivial⟩, rfl⟩) n 0 0 _ (by omega) hf trivial).1
  have hg2 : (tvOf S.1).2.2.1 = nI n := h.1.1
  have hf2 := fuel0 hg2 (by omega)
  have key2 := (fo_itv (f := lX3_sumOfTakenHeights_4 (tvOf S.1)) ((0, 0) : Int32 × Int32) (fun (a : Int32) j => (a, nI j)) (fun a => (a, nI n)) (fun a k => if qs S.1 k 5 = -1 then a + 0 else a + qs S.1 k 0) (fun _ _ => True) n (fun a j hj _ => by
    rw [lX3_sumOfTakenHeights_4]
    dsimp only
    rw [if_neg (up_le hg2 (by omega) hj), rS S.1 (w := 5) (y := 5) (show j < 12 by omega) (by decide) rfl, rS S.1 (w := 0) (y := 0) (show j < 12 by omega) (by decide) rfl, nI_1]
    by_cases z : qs S.1 j 5 = -1
    · rw [if_pos z, if_pos z]; exact ⟨rfl, trivial⟩
    · rw [if_neg z, if_neg z]; exact ⟨rfl, trivial⟩) (fun a _ => by
    rw [lX3_sumOfTakenHeights_4]; exact if_pos (at_le hg2)) n 0 0 _ (by omega) hf2 trivial).1
  refine ⟨?_, ⟨_, key⟩⟩
  exact (congrArg Prod.fst (lrun_itv (d := ((0, 0) : Int32 × Int32)) key)).trans (congrArg Prod.fst key2).symm
theorem dvf (O : Nat → UInt64) {x : UInt64} (h : FP.Core.dIsNaN x = false) : Op.cmpValue (FP.dcmp (vf_upd O (0 : Int32).toNatClampNeg x (0 : Int32).toNatClampNeg) x) .l = 0 := by rw [vfu]; exact dself h
theorem mean_n (a : Int32) {v : Nat} (hv : v ≤ 12) (v0 : v ≠ 0) : FP.Core.dIsNaN (FP.ddiv (FP.i2d a) (FP.i2d (nI v))) = false := by
  rw [Bool.eq_false_iff]
  intro e
  have hz : nI v ≠ 0 := fun e => v0 (nI_inj (b := 0) (by omega) (by omega) e)
  rcases (FP.Core.ddiv_nan_iff _ _).mp e with q | q | ⟨s, t, q, -⟩ | ⟨-, q⟩
  · exact (FP.Core.i2d_fin a).ne_nan q
  · exact (FP.Core.i2d_fin (nI v)).ne_nan q
  · exact (FP.Core.i2d_fin a).ne_inf s q
  · exact FP.Core.i2d_ne_zero hz ((FP.Core.zero_bits2 _).mp q)
theorem c_32 {xs : Nat → Int32} {L : Nat} (hL : L ≤ 2560) (i : Nat) (S : CV) (T : TV) (Tr : TV) (Sn : TV) (Hs : HV) (G : (Nat → TV)) (Xt : XV) (Ln : LV) (Mo : SV) (O : (Nat → Int64)) (Oq : (Nat → UInt64)) (hi : i + 5 ≤ L) (hR : Rel i S T Tr Sn Hs G Xt Ln Mo O Oq) : gM_32 S T Tr Sn Hs G Xt Ln Mo O Oq xs L (nI i) ∧ Rel (i + 5) S T Tr Sn Hs G Xt Ln (fM_32 S T Tr Sn Hs G Xt Ln Mo O Oq xs L (nI i)).1 O (fM_32 S T Tr Sn Hs G Xt Ln Mo O Oq xs L (nI i)).2 := by
  obtain ⟨K, len, hk, R⟩ := hR
  obtain ⟨⟨n, m, h⟩, r2, -⟩ := id R
  subst r2
  obtain ⟨v, hv, t1, t2, t3⟩ := taken_v Mo h
  obtain ⟨s1, s2⟩ := hsum_r Mo h (fX6_fails Mo 0) (by rw [fl0]; exact f0_0 Mo 0)
  have v0' : vp_in 0 114 := gHd (j := 0) rfl (by omega)
  simp only [gM_32, fM_32, ite_self]
  by_cases z : v = 0
  · subst z
    have e1 : fX6_meanHeight Mo = (FP.dconst0, sS11 0 (sS12 1 Mo)) := by rw [fX6_meanHeight, c0, t2]; rw [if_pos (show nI 0 = 0 from rfl), fl1]
    have e2 : fX5_meanHeight S (tvOf Mo.1) = (some "java/lang/ArithmeticException", 0) := by rw [fX5_meanHeight, t1]; exact if_neg (by decide)
    have e3 : fL_meanHeight S (tvOf Mo.1) Oq = (1, Oq) := by rw [fL_meanHeight, e2]; exact if_neg (nn _)
    have g1 : gX6_meanHeight Mo := by rw [gX6_meanHeight, c0, t2]; rw [if_pos (show nI 0 = 0 from rfl)]; exact ⟨v0', t3, trivial⟩
    have g2 : gX5_meanHeight S (tvOf Mo.1) := by rw [gX5_meanHeight, t1]; rw [if_neg (show ¬ (1 : Int32) ≤ nI 0 by decide)]; trivial
    rw [gL_meanHeight, e2, if_neg (nn _), e3, e1, if_neg one_ne]
    exact ⟨⟨⟨g2, .inr rfl, trivial⟩, g1, thr Mo 1, trivial⟩, ⟨K, len, by omega, R.sb (sbf Mo 1)⟩⟩
  · have q1 : (1 : Int32) ≤ nI v := nI_le (a := 1) (by omega) (by omega)
    have q2 : ¬ nI v = 0 := fun e => z (nI_inj (b := 0) (by omega) (by omega) e)
    have nan := mean_n (fX3_sumOfTakenHeights (tvOf Mo.1)) hv z
    have e1 : fX6_meanHeight Mo = (FP.ddiv (FP.i2d (fX3_sumOfTakenHeights (tvOf Mo.1))) (FP.i2d (nI v)), sS11 0 (sS12 0 Mo)) := by
      rw [fX6_meanHeight, s1, c0, t2, if_neg q2, fl0]
    have e2 : fX5_meanHeight S (tvOf Mo.1) = (none, FP.ddiv (FP.i2d (fX3_sumOfTakenHeights (tvOf Mo.1))) (FP.i2d (nI v))) := by rw [fX5_meanHeight, t1, if_pos q1]
    have e3 : fL_meanHeight S (tvOf Mo.1) Oq = (0, vf_upd Oq (0 : Int32).toNatClampNeg (FP.ddiv (FP.i2d (fX3_sumOfTakenHeights (tvOf Mo.1))) (FP.i2d (nI v)))) := by rw [fL_meanHeight, e2]; exact if_pos rfl
    have g1 : gX6_meanHeight Mo := by
      rw [gX6_meanHeight, s1, c0, t2, if_neg q2]; exact ⟨v0', t3, by first | exact s2 | (rw [c0] at s2; exact s2), n64 nan, trivial⟩
    have g2 : gX5_meanHeight S (tvOf Mo.1) := by rw [gX5_meanHeight, t1, if_pos q1]; exact ⟨n64 nan, trivial⟩
    rw [gL_meanHeight, e2, if_pos rfl, e3, e1, if_pos rfl]
    refine ⟨⟨⟨g2, .inl rfl, v01, trivial⟩, g1, thr Mo 0, v01, ?_⟩, ⟨K, len, by omega, R.sb (sbf Mo 0)⟩⟩
    split
    · trivial
    · rename_i hc
      exact absurd (dvf Oq nan) hc
theorem c_33 {xs : Nat → Int32} {L : Nat} (hL : L ≤ 2560) (i : Nat) (S : CV) (T : TV) (Tr : TV) (Sn : TV) (Hs : HV) (G : (Nat → TV)) (Xt : XV) (Ln : LV) (Mo : SV) (O : (Nat → Int64)) (Oq : (Nat → UInt64)) (hi : i + 5 ≤ L) (hR : Rel i S T Tr Sn Hs G Xt Ln Mo O Oq) : gM_33 S T Tr Sn Hs G Xt Ln Mo O Oq xs L (nI i) ∧ Rel (i + 5) S (fM_33 S T Tr Sn Hs G Xt Ln Mo O Oq xs L (nI i)).1 Tr Sn (fM_33 S T Tr Sn Hs G Xt Ln Mo O Oq xs L (nI i)).2.1 G Xt Ln (fM_33 S T Tr Sn Hs G Xt Ln Mo O Oq xs L (nI i)).2.2.1 (fM_33 S T Tr Sn Hs G Xt Ln Mo O Oq xs L (nI i)).2.2.2 Oq := by
  obtain ⟨K, len, hk, R⟩ := hR
  obtain ⟨⟨n, m, h⟩, r2, r3, r4, r5, ⟨z, r6, r7⟩, r8, r9, r10, r11, r12⟩ := id R
  subst r2
  obtain ⟨j, c, hj, hc, hHs, hch, hring⟩ := id r4
  simp only [gM_33, fM_33, ite_self]
  by_cases y : c = 0
  · subst y
    have z9 : Mo.2.2.2.2.2.2.2.2.2.1 = 0 := hch
    have e1 : fX6_undo Mo = (0, sS11 0 (sS12 1 Mo)) := by rw [fX6_undo, if_pos z9, fl1]
    have e2 : fX5_undo S (tvOf Mo.1) Hs G = (some "java/lang/IllegalStateException", 0, tvOf Mo.1, Hs) := by rw [fX5_undo, hHs]; exact if_neg (by show ¬ (1 : Int32) ≤ nI 0; decide)
    have e3 : fL_undo S (tvOf Mo.1) Hs G O = (1, tvOf Mo.1, Hs, O) := by rw [fL_undo, e2]; exact if_neg (nn _)
    rw [gL_undo, e2, if_neg (nn _), e3, e1, if_neg one_ne, gX6_undo, if_pos z9]
    exact ⟨⟨⟨.inr rfl, trivial⟩, trivial, thr Mo 1, trivial⟩, ⟨K, len, by omega, R.sb (sbf Mo 1)⟩⟩
  · have z9 : ¬ Mo.2.2.2.2.2.2.2.2.2.1 = 0 := by rw [hch]; exact fun e => y (nI_inj (b := 0) (by omega) (by omega) e)
    have q1 : (1 : Int32) ≤ nI c := nI_le (a := 1) (by omega) (by omega)
    obtain ⟨c', rfl⟩ : ∃ c', c = c' + 1 := ⟨c - 1, by omega⟩
    have pr : nI (c' + 1) - 1 = nI c' := nI_pred c'
    obtain ⟨n', m', q, w1, w2, w3⟩ := hring c' (by omega)
    have ix : (j + 9 - (c' + 1) + c') % 9 = (j + 8) % 9 := by omega
    rw [ix] at w2
    have k8 : (nI ((j + 8) % 9)).toNatClampNeg = (j + 8) % 9 := nI_clamp (by omega)
    have sb : fX1_stepBack Hs G (tvOf Mo.1) = ((nI ((j + 8) % 9), nI c'), tvOf q) := by
      rw [fX1_stepBack, hHs]
      dsimp only
      rw [ring8 j hj, pr, fX1_takeBack]
      dsimp only
      rw [k8, w2]
    have e2 : fX5_undo S (tvOf Mo.1) Hs G = (none, nI c', tvOf q, (nI ((j + 8) % 9), nI c')) := by
      rw [fX5_undo, sb, hHs]; exact if_pos q1
    have e3 : fL_undo S (tvOf Mo.1) Hs G O = (0, tvOf q, (nI ((j + 8) % 9), nI c'), vp_updL O (0 : Int32).toNatClampNeg (nI c').toInt64) := by rw [fL_undo, e2]; exact if_pos rfl
    obtain ⟨cp1, cp2⟩ := cp_r Mo.2.1 Mo.1 (na := 912) (nb := 114) (a := 114 * c') (b := 0) (x := nI (114 * c')) (y := 0) rfl rfl (by omega) (by omega) (by omega) (by omega)
    obtain ⟨fr, hfr⟩ : ∃ fr, fr = fX6_copies Mo.2.1 912 Mo.1 114 (nI (114 * c')) 0 := ⟨_, rfl⟩
    have hft : ∀ t, t < 114 → fr t = q t := fun t ht => by
      rw [hfr, cp1]
      show (if 0 ≤ t ∧ t < 0 + 114 then Mo.2.1 (114 * c' + (t - 0)) else _) = _
      rw [if_pos (by omega), w3 t ht, Nat.sub_zero]
    have p9 : (fX6_fails Mo 0).2.2.2.2.2.2.2.2.2.2.1 - 1 = nI c' := by
      rw [fl0]; show (sS11 0 (sS12 0 Mo)).2.2.2.2.2.2.2.2.2.1 - 1 = _
      rw [pj_11_9, pj_12_9, hch, pr]
    have p1 : (fX6_fails Mo 0).2.2.1 = Mo.2.1 := by rw [fl0]; show (sS11 0 (sS12 0 Mo)).2.1 = _; rw [pj_11_1, pj_12_1]
    have p0 : (fX6_fails Mo 0).2.1 = Mo.1 := by rw [fl0]; exact f0_0 Mo 0
    have e1 : fX6_undo Mo = (nI c', (sS0 fr (sS9 (nI c') (sS11 0 (sS12 0 Mo))))) := by
      rw [fX6_undo, if_neg z9, p9, p1, p0, n114 (by omega), ← hfr, fl0]
    have g1 : gX6_undo Mo := by
      rw [gX6_undo, if_neg z9, p9, p1, p0, n114 (by omega)]; exact ⟨cp2, trivial⟩
    rw [gL_undo, e2, if_pos rfl, e3, e1, if_pos rfl]
    refine ⟨⟨⟨.inl rfl, v01, trivial⟩, g1, ?_, v01, lg0 O _, trivial⟩, ⟨K, len, by omega, ⟨n', m', ?_⟩, ?_, ?_, ?_, ?_, ⟨z, r6, ?_⟩, ?_, ?_, ?_, ?_, ?_⟩⟩
    · rw [fX6_thrown]; show (sS0 fr (sS9 (nI c') (sS11 0 (sS12 0 Mo)))).2.2.2.2.2.2.2.2.2.2.2.2.1 = 0; rw [pj_0_12, pj_9_12, pj_11_12, pj_12_12]
    · rw [pj_0_0]; exact w1.ext hft
    · rw [pj_0_0]; exact (tv_ext hft).symm
    · rw [pj_0_10, pj_9_10, pj_11_10, pj_12_10]; exact r3
    · rw [pj_0_1, pj_9_1, pj_11_1, pj_12_1, pj_0_9, pj_9_9]
      refine ⟨(j + 8) % 9, c', by omega, by omega, rfl, rfl, fun k hk' => ?_⟩
      obtain ⟨n2, m2, q2, y1, y2, y3⟩ := hring k (by omega)
      refine ⟨n2, m2, q2, y1, ?_, y3⟩
      rw [← y2]; exact congrArg G (by omega)
    · exact r5.eq (by rw [pj_0_15, pj_9_15, pj_11_15, pj_12_15]) (by rw [pj_0_4, pj_9_4, pj_11_4, pj_12_4])
    · exact r7.eq (by rw [pj_0_17, pj_9_17, pj_11_17, pj_12_17]) (by rw [pj_0_5, pj_9_5, pj_11_5, pj_12_5])
    · rw [pj_0_8, pj_9_8, pj_11_8, pj_12_8]; exact r8
    · exact r9.eq (by rw [pj_0_8, pj_9_8, pj_11_8, pj_12_8]) (by rw [pj_0_2, pj_9_2, pj_11_2, pj_12_2])
    · rw [pj_0_16, pj_9_16, pj_11_16, pj_12_16]; exact r10
    · rw [pj_0_13, pj_9_13, pj_11_13, pj_12_13]; exact r11
    · rw [pj_0_14, pj_9_14, pj_11_14, pj_12_14]; exact r12
theorem c_34 {xs : Nat → Int32} {L : Nat} (hL : L ≤ 2560) (i : Nat) (S : CV) (T : TV) (Tr : TV) (Sn : TV) (Hs : HV) (G : (Nat → TV)) (Xt : XV) (Ln : LV) (Mo : SV) (O : (Nat → Int64)) (Oq : (Nat → UInt64)) (hi : i + 5 ≤ L) (hR : Rel i S T Tr Sn Hs G Xt Ln Mo O Oq) : gM_34 S T Tr Sn Hs G Xt Ln Mo O Oq xs L (nI i) ∧ Rel (i + 5) (fM_34 S T Tr Sn Hs G Xt Ln Mo O Oq xs L (nI i)).1 T Tr (fM_34 S T Tr Sn Hs G Xt Ln Mo O Oq xs L (nI i)).2.1 Hs G Xt Ln (fM_34 S T Tr Sn Hs G Xt Ln Mo O Oq xs L (nI i)).2.2 O Oq := by
  obtain ⟨K, len, hk, R⟩ := hR
  obtain ⟨⟨n, m, h⟩, r2, r3, r4, r5, ⟨z, r6, r7⟩, r8, r9, r10, r11, r12⟩ := id R
  subst r2
  obtain ⟨cp1, cp2⟩ := cp_r Mo.1 Mo.2.2.1 (na := 114) (nb := 114) (a := 0) (b := 0) (x := 0) (y := 0) rfl rfl (by omega) (by omega) (by omega) (by omega)
  obtain ⟨fr, hfr⟩ : ∃ fr, fr = fX6_copies Mo.1 114 Mo.2.2.1 114 0 0 := ⟨_, rfl⟩
  have hft : ∀ t, t < 114 → Mo.1 t = fr t := fun t ht => by
    rw [hfr, cp1]
    show _ = (if 0 ≤ t ∧ t < 0 + 114 then Mo.1 (0 + (t - 0)) else _)
    rw [if_pos (by omega), show 0 + (t - 0) = t by omega]
  have v1 : vp_in 1 114 := gHd (j := 1) rfl (by omega)
  have e1 : fX6_save Mo = (Mo.1 1, (sS2 fr (sS8 1 (sS12 0 Mo)))) := by rw [fX6_save, c1, hfr]
  have e2 : fX5_save S (tvOf Mo.1) Sn = (Mo.1 1, (1, S.2.1, S.2.2.1, S.2.2.2), tvOf Mo.1) := rfl
  rw [gM_34, fM_34, e1, e2]
  refine ⟨⟨⟨cp2, v1, trivial⟩, rfl, trivial⟩, ⟨K, len, by omega, ⟨n, m, ?_⟩, ?_, ?_, ?_, ?_, ⟨z, r6, ?_⟩, ?_, ?_, ?_, ?_, ?_⟩⟩
  · rw [pj_2_0, pj_8_0, pj_12_0]; exact h
  · rw [pj_2_0, pj_8_0, pj_12_0]
  · rw [pj_2_10, pj_8_10, pj_12_10]; exact r3
  · rw [pj_2_1, pj_8_1, pj_12_1, pj_2_9, pj_8_9, pj_12_9]; exact r4
  · exact r5.eq (by rw [pj_2_15, pj_8_15, pj_12_15]) (by rw [pj_2_4, pj_8_4, pj_12_4])
  · exact r7.eq (by rw [pj_2_17, pj_8_17, pj_12_17]) (by rw [pj_2_5, pj_8_5, pj_12_5])
  · rw [pj_2_8, pj_8_8]
  · refine .inr ⟨by rw [pj_2_8, pj_8_8], n, m, Mo.1, h, rfl, fun t ht => ?_⟩
    rw [pj_2_2]; exact hft t ht
  · rw [pj_2_16, pj_8_16, pj_12_16]; exact r10
  · rw [pj_2_13, pj_8_13, pj_12_13]; exact r11
  · rw [pj_2_14, pj_8_14, pj_12_14]; exact r12
theorem c_35 {xs : Nat → Int32} {L : Nat} (hL : L ≤ 2560) (i : Nat) (S : CV) (T : TV) (Tr : TV) (Sn : TV) (Hs : HV) (G : (Nat → TV)) (Xt : XV) (Ln : LV) (Mo : SV) (O : (Nat → Int64)) (Oq : (Nat → UInt64)) (hi : i + 5 ≤ L) (hR : Rel i S T Tr Sn Hs G Xt Ln Mo O Oq) : gM_35 S T Tr Sn Hs G Xt Ln Mo O Oq xs L (nI i) ∧ Rel (i + 5) S (fM_35 S T Tr Sn Hs G Xt Ln Mo O Oq xs L (nI i)).1 Tr Sn (fM_35 S T Tr Sn Hs G Xt Ln Mo O Oq xs L (nI i)).2.1 G Xt Ln (fM_35 S T Tr Sn Hs G Xt Ln Mo O Oq xs L (nI i)).2.2.1 (fM_35 S T Tr Sn Hs G Xt Ln Mo O Oq xs L (nI i)).2.2.2 Oq := by
  obtain ⟨K, len, hk, R⟩ := hR
  obtain ⟨⟨n, m, h⟩, r2, r3, r4, r5, ⟨z, r6, r7⟩, r8, r9, r10, r11, r12⟩ := id R
  subst r2
  simp only [gM_35, fM_35, ite_self]
  rcases id r9 with y | ⟨y, n', m', q, w1, w2, w3⟩
  · have e1 : fX6_restore Mo = (0, sS11 0 (sS12 1 Mo)) := by rw [fX6_restore, if_pos y, fl1]
    have e2 : fX5_restore S (tvOf Mo.1) Sn Hs = (some "java/lang/IllegalStateException", 0, tvOf Mo.1, Hs) := by rw [fX5_restore, if_pos (r8.trans y)]
    have e3 : fL_restore S (tvOf Mo.1) Sn Hs O = (1, tvOf Mo.1, Hs, O) := by rw [fL_restore, e2]; exact if_neg (nn _)
    rw [gL_restore, e2, if_neg (nn _), e3, e1, if_neg one_ne, gX6_restore, if_pos y]
    exact ⟨⟨⟨.inr rfl, trivial⟩, trivial, thr Mo 1, trivial⟩, ⟨K, len, by omega, R.sb (sbf Mo 1)⟩⟩
  · have y0 : ¬ Mo.2.2.2.2.2.2.2.2.1 = 0 := by rw [y]; exact one_ne
    obtain ⟨j, c, hj, hc, hHs, hch, hring⟩ := id r4
    obtain ⟨cp1, cp2⟩ := cp_r Mo.2.2.1 Mo.1 (na := 114) (nb := 114) (a := 0) (b := 0) (x := 0) (y := 0) rfl rfl (by omega) (by omega) (by omega) (by omega)
    obtain ⟨fr, hfr⟩ : ∃ fr, fr = fX6_copies Mo.2.2.1 114 Mo.1 114 0 0 := ⟨_, rfl⟩
    have hft : ∀ t, t < 114 → fr t = q t := fun t ht => by
      rw [hfr, cp1]
      show (if 0 ≤ t ∧ t < 0 + 114 then Mo.2.2.1 (0 + (t - 0)) else _) = _
      rw [if_pos (by omega), w3 t ht, show 0 + (t - 0) = t by omega]
    have p2 : (fX6_fails Mo 0).2.2.2.1 = Mo.2.2.1 := by rw [fl0]; show (sS11 0 (sS12 0 Mo)).2.2.1 = _; rw [pj_11_2, pj_12_2]
    have p0 : (fX6_fails Mo 0).2.1 = Mo.1 := by rw [fl0]; exact f0_0 Mo 0
    have v1 : vp_in 1 114 := gHd (j := 1) rfl (by omega)
    have e1 : fX6_restore Mo = (q 1, (sS9 0 (sS0 fr (sS11 0 (sS12 0 Mo))))) := by rw [fX6_restore, if_neg y0, p2, p0, ← hfr, fl0, c1, hft 1 (by omega)]
    have g1 : gX6_restore Mo := by rw [gX6_restore, if_neg y0, p2, p0]; exact ⟨cp2, v1, trivial⟩
    have e2 : fX5_restore S (tvOf Mo.1) Sn Hs = (none, q 1, tvOf q, (Hs.1, 0)) := by
      rw [fX5_restore, if_neg (fun e => y0 (r8.symm.trans e)), w2]; rfl
    have e3 : fL_restore S (tvOf Mo.1) Sn Hs O = (0, tvOf q, (Hs.1, 0), vp_updL O (0 : Int32).toNatClampNeg (q 1).toInt64) := by rw [fL_restore, e2]; exact if_pos rfl
    rw [gL_restore, e2, if_pos rfl, e3, e1, if_pos rfl]
    refine ⟨⟨⟨.inl rfl, v01, trivial⟩, g1, ?_, v01, lg0 O _, trivial⟩, ⟨K, len, by omega, ⟨n', m', ?_⟩, ?_, ?_, ?_, ?_, ⟨z, r6, ?_⟩, ?_, ?_, ?_, ?_, ?_⟩⟩
    · rw [fX6_thrown]; show (sS9 0 (sS0 fr (sS11 0 (sS12 0 Mo)))).2.2.2.2.2.2.2.2.2.2.2.2.1 = 0; rw [pj_9_12, pj_0_12, pj_11_12, pj_12_12]
    · rw [pj_9_0, pj_0_0]; exact w1.ext hft
    · rw [pj_9_0, pj_0_0]; exact (tv_ext hft).symm
    · rw [pj_9_10, pj_0_10, pj_11_10, pj_12_10]; exact r3
    · rw [pj_9_1, pj_0_1, pj_11_1, pj_12_1, pj_9_9]
      exact ⟨j, 0, hj, by omega, by rw [hHs]; rfl, rfl, fun k hk' => absurd hk' (by omega)⟩
    · exact r5.eq (by rw [pj_9_15, pj_0_15, pj_11_15, pj_12_15]) (by rw [pj_9_4, pj_0_4, pj_11_4, pj_12_4])
    · exact r7.eq (by rw [pj_9_17, pj_0_17, pj_11_17, pj_12_17]) (by rw [pj_9_5, pj_0_5, pj_11_5, pj_12_5])
    · rw [pj_9_8, pj_0_8, pj_11_8, pj_12_8]; exact r8
    · exact r9.eq (by rw [pj_9_8, pj_0_8, pj_11_8, pj_12_8]) (by rw [pj_9_2, pj_0_2, pj_11_2, pj_12_2])
    · rw [pj_9_16, pj_0_16, pj_11_16, pj_12_16]; exact r10
    · rw [pj_9_13, pj_0_13, pj_11_13, pj_12_13]; exact r11
    · rw [pj_9_14, pj_0_14, pj_11_14, pj_12_14]; exact r12
