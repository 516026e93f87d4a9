theorem z0 : (0 : Int32).toInt = 0 := by decide
/-- how many stools of a stretch are taken -/
theorem taken_eq (S : SV) (n a b : Nat) (hn : S.1 0 = nI n) (h12 : n ≤ 12) (hb : b < n) (ha : a ≤ b + 1) (hocc : ∀ i, i < n → S.1 (6 + (6 * i + 5)) = -1 ∨ ¬ S.1 (6 + (6 * i + 5)) < 0) : fX6_taken S (nI a) (nI b) = fX3_takenStools (tvOf S.1) (nI a) (nI b) ∧ gX6_taken S (nI a) (nI b) := by
  have hn2 : (tvOf S.1).2.2.1 = nI n := hn
  have key := lrun_sim (f := lX3_takenStools_5 (tvOf S.1) (nI a) (nI b)) (g := lX6_taken_5 S (nI b)) (P := glX6_taken_5 S (nI b)) (fun u v => u = v ∧ ∃ k, k ≤ b + 1 ∧ v.2 = nI k) (fun r q => r = q) (fun v => b + 1 - v.2.toNatClampNeg) (by
    intro u v hR
    obtain ⟨rfl, k, hk, hv⟩ := hR
    by_cases h : b < k
    · have hc : nI b < u.2 := by rw [hv]; exact nI_lt h (by omega)
      refine ⟨?_, Or.inr ⟨(u.1, u.2), (u.1, u.2), ?_, ?_, rfl⟩⟩
      · rw [glX6_taken_5, if_pos hc]; trivial
      · rw [lX3_takenStools_5, if_pos hc]
      · rw [lX6_taken_5, if_pos hc]
    · have hc : ¬ nI b < u.2 := by rw [hv, Int32.lt_iff_toInt_lt, nI_toInt (by omega), nI_toInt (by omega)]; omega
      have hd : ¬ nI n ≤ u.2 := by rw [hv]; exact nI_ge (by omega) (by omega)
      have e1 := of_tv S (x := u.2) (y := 5) k 5 hv rfl (by omega) (by omega)
      have e2 := of_eq S (x := u.2) (y := 5) k 5 hv rfl (by omega) (by omega)
      have ho := hocc k (by omega)
      rw [← e2.1, e1] at ho
      have hμ : b + 1 - (u.2 + 1).toNatClampNeg < b + 1 - u.2.toNatClampNeg := by rw [hv, nI_1, nI_clamp (by omega), nI_clamp (by omega)]; omega
      have hnx : ∃ k', k' ≤ b + 1 ∧ u.2 + 1 = nI k' := ⟨k + 1, by omega, by rw [hv, nI_1]⟩
      refine ⟨?_, Or.inl ?_⟩
      · rw [glX6_taken_5, if_neg hc]; exact ⟨e2.2, trivial⟩
      · by_cases hz : fX3_ofStool (tvOf S.1) u.2 5 = -1
        · refine ⟨(u.1 + 0, u.2 + 1), (u.1 + 0, u.2 + 1), ?_, ?_, ⟨rfl, hnx⟩, hμ⟩
          · rw [lX3_takenStools_5, hn2, if_neg hc, if_neg hd, if_pos hz]
          · rw [lX6_taken_5, if_neg hc, e1, hz, if_pos (by decide)]
        · have hz2 : ¬ fX3_ofStool (tvOf S.1) u.2 5 < 0 := ho.resolve_left hz
          refine ⟨(u.1 + 1, u.2 + 1), (u.1 + 1, u.2 + 1), ?_, ?_, ⟨rfl, hnx⟩, hμ⟩
          · rw [lX3_takenStools_5, hn2, if_neg hc, if_neg hd, if_neg hz]
          · rw [lX6_taken_5, if_neg hc, e1, if_neg hz2])
  have hf1 : ((nI n).toInt - (nI a).toInt).toNat + 1 = n - a + 1 := by rw [nI_fuel (by omega) (by omega)]
  have hf2 : ((nI b).toInt + 1 - (nI a).toInt).toNat + 1 = b + 1 - a + 1 := by rw [nI_toInt (by omega), nI_toInt (by omega)]; omega
  obtain ⟨r, q, h1, h2, h3⟩ := key (n - a + 1) (b + 1 - a + 1) (0, nI a) (0, nI a) ⟨rfl, a, ha, rfl⟩ (by show b + 1 - (nI a).toNatClampNeg < n - a + 1; rw [nI_clamp (by omega)]; omega) (by show b + 1 - (nI a).toNatClampNeg < b + 1 - a + 1; rw [nI_clamp (by omega)]; omega)
  refine ⟨?_, ?_⟩
  · rw [fX6_taken, fX3_takenStools, hn2]
    rw [hf1, hf2, lrun_itv h2, itv_eq h1, h3]
  · rw [gX6_taken, hf2]
    exact ⟨⟨q, h2⟩, trivial⟩
