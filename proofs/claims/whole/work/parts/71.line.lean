/-! Lines -/
abbrev sgnM (S : SV) : Int32 := S.2.2.2.2.2.2.2.2.2.2.2.2.2.2.2.2.2.1
abbrev sgnR (S : SV) : Nat → Int32 := S.2.2.2.2.2.1
def LZ (z : Nat) (Ln : LV) (S : SV) : Prop := Ln.2 = nI z ∧ sgnM S = nI z ∧ (∀ t, t < z → Ln.1 t = sgnR S t) ∧ ∀ t, narrow .char (.int (Ln.1 t)) = .int (Ln.1 t)
def LW (S0 : SV) (z : Nat) (Ln : LV) (S : SV) : Prop := LZ z Ln S ∧ ∃ s5 v, S = sS17 v (sS5 s5 S0)
theorem LW.row {S0 S : SV} {z : Nat} {Ln : LV} (h : LW S0 z Ln S) : S.1 = S0.1 := by
  obtain ⟨-, s5, v, rfl⟩ := h
  rfl
theorem lw_add {S0 S : SV} {z : Nat} {Ln : LV} {c x : Int32} (h : LW S0 z Ln S) (hz : z < 600) (hc : vp_nar .char c = (x.toUInt32 % 65536).toInt32) : LW S0 (z + 1) (fX2_add Ln c) (fX6_writes S x) ∧ gX6_writes S x := by
  obtain ⟨⟨h1, h2, h3, h4⟩, s5, v, hS⟩ := h
  have a1 : ¬ Ln.2 < 0 := by rw [h1]; exact nI_pos (by omega)
  have a2 : ¬ (600 : Int32) ≤ Ln.2 := by rw [h1]; exact nI_ge (b := 600) hz (by omega)
  have e1 : fX2_add Ln c = (upd Ln.1 z (x.toUInt32 % 65536).toInt32, nI (z + 1)) := by
    rw [fX2_add, if_neg a1, if_neg a2, hc, h1, nI_clamp (by omega), nI_1]
  have h2' : S.2.2.2.2.2.2.2.2.2.2.2.2.2.2.2.2.2.1 = nI z := h2
  have e2 : fX6_writes S x = sS17 (nI (z + 1)) (sS5 (upd (sgnR S) z (x.toUInt32 % 65536).toInt32) S) := by
    rw [fX6_writes, h2', nI_clamp (by omega), nI_1, pk_vc]
  rw [e1, e2]
  refine ⟨⟨⟨rfl, rfl, fun t ht => ?_, fun t => ?_⟩, ?_⟩, ?_⟩
  · show (if t = z then _ else Ln.1 t) = (if t = z then _ else sgnR S t)
    by_cases c : t = z
    · rw [if_pos c, if_pos c]
    · rw [if_neg c, if_neg c]; exact h3 t (by omega)
  · show narrow .char (.int (if t = z then _ else Ln.1 t)) = .int (if t = z then _ else Ln.1 t)
    by_cases c : t = z
    · rw [if_pos c]; exact pk_nc x
    · rw [if_neg c]; exact h4 t
  · rw [hS]; exact ⟨_, _, rfl⟩
  · rw [gX6_writes, h2']
    exact ⟨vp_in_nI (by omega) (by omega), trivial⟩
theorem lw_num {S0 S : SV} {z : Nat} {Ln : LV} (x : Int32) (h : LW S0 z Ln S) (hz : z + 2 ≤ 600) : ∃ z', z' ≤ z + 2 ∧ LW S0 z' (fX2_addNumber Ln x) (fX6_writesNumber S x) ∧ gX6_writesNumber S x := by
  rw [fX2_addNumber, fX6_writesNumber, gX6_writesNumber]
  by_cases c : x ≤ 9
  · rw [if_pos c, if_pos c, if_pos c]
    obtain ⟨a, b⟩ := lw_add (x := 48 + (x - x / 10 * 10)) h (by omega) (pk_vc _)
    exact ⟨z + 1, by omega, a, b, trivial⟩
  · rw [if_neg c, if_neg c, if_neg c]
    obtain ⟨a, b⟩ := lw_add (x := 48 + (x / 10)) h (by omega) (pk_vc _)
    obtain ⟨a2, b2⟩ := lw_add (x := 48 + (x - x / 10 * 10)) a (by omega) (pk_vc _)
    exact ⟨z + 2, by omega, a2, b, b2, trivial⟩
theorem at_c2 (L : LV) (c : Int32) {k : Nat} (hk : k ≤ 600) : fX2_addTimes L c (nI k) = fo (fun L _ => fX2_add L c) 0 k L := by
  have hf := fuel0 (x := nI k) (n := k) rfl (by omega)
  exact congrArg Prod.fst (fo_itv (f := lX2_addTimes_2 L c (nI k)) ((L, 0) : LV × Int32) (fun (a : LV) j => (a, nI j)) (fun a => (a, nI k)) (fun L _ => fX2_add L c) (fun _ _ => True) k (fun a j hj _ => ⟨by
    have c1 : ¬ nI k ≤ nI j := nI_ge hj (by omega)
    have c2 : ¬ (600 : Int32) ≤ nI j := nI_ge (b := 600) (by omega) (by omega)
    rw [lX2_addTimes_2, if_neg c1, if_neg c2, nI_1], trivial⟩) (fun a _ => by
    rw [lX2_addTimes_2, if_pos (Int32.le_refl _)]) k 0 L _ (by omega) hf trivial).1
theorem lw_times1 {S0 S : SV} {z k i : Nat} {Ln : LV} (h : LW S0 z Ln S) (hi : i < 12) (hk : qs S0.1 i 1 = nI k) (hz : z + k ≤ 600) : ∃ S', lrun (lX6_stoolLine_66 (nI i)) (glX6_stoolLine_66 (nI i)) (((fX6_of S (nI i) 1).toInt - (0 : Int32).toInt).toNat + 1) (S, 0) (S', nI k) ∧ LW S0 (z + k) (fX2_addTimes Ln 39 (nI k)) S' := by
  have ho : ∀ S', S'.1 = S0.1 → fX6_of S' (nI i) 1 = nI k := fun S' q => by rw [rO S' (w := 1) (y := 1) hi (by decide) rfl, q, hk]
  have hf := fuel0 (x := fX6_of S (nI i) 1) (n := k) (ho S h.row) (by omega)
  rw [at_c2 _ _ (by omega)]
  have key := fo_loop (f := lX6_stoolLine_66 (nI i)) (P := glX6_stoolLine_66 (nI i)) (fun (S' : SV) j => (S', nI j)) (fun S' => (S', nI k)) (fun S' _ => fX6_writes S' 39) (fun S' j => LW S0 (z + j) (fo (fun L _ => fX2_add L 39) 0 j Ln) S') k (fun S' j hj hI => by
    have o := ho S' hI.row
    have c1 : ¬ nI k ≤ nI j := nI_ge hj (by omega)
    obtain ⟨a, b⟩ := lw_add (c := 39) (x := 39) hI (by omega) (by decide +kernel)
    refine ⟨?_, ?_, ?_⟩
    · rw [glX6_stoolLine_66]; dsimp only; rw [o, if_neg c1]; exact ⟨gO S' hi (by decide) rfl, b, trivial⟩
    · rw [lX6_stoolLine_66]; dsimp only; rw [o, if_neg c1, nI_1]
    · rw [fo_succ]; exact a) (fun S' hI => by
    have o := ho S' hI.row
    exact ⟨by rw [glX6_stoolLine_66]; dsimp only; rw [o, if_pos (Int32.le_refl _)]; exact ⟨gO S' hi (by decide) rfl, trivial⟩, by rw [lX6_stoolLine_66]; dsimp only; rw [o, if_pos (Int32.le_refl _)]⟩) k 0 S _ (by omega) hf h
  exact ⟨_, key.1, key.2⟩
theorem lw_times4 {S0 S : SV} {z k i : Nat} {Ln : LV} (h : LW S0 z Ln S) (hi : i < 12) (hk : qs S0.1 i 4 = nI k) (hz : z + k ≤ 600) : ∃ S', lrun (lX6_stoolLine_90 (nI i)) (glX6_stoolLine_90 (nI i)) (((fX6_of S (nI i) 4).toInt - (0 : Int32).toInt).toNat + 1) (S, 0) (S', nI k) ∧ LW S0 (z + k) (fX2_addTimes Ln 111 (nI k)) S' := by
  have ho : ∀ S', S'.1 = S0.1 → fX6_of S' (nI i) 4 = nI k := fun S' q => by rw [rO S' (w := 4) (y := 4) hi (by decide) rfl, q, hk]
  have hf := fuel0 (x := fX6_of S (nI i) 4) (n := k) (ho S h.row) (by omega)
  rw [at_c2 _ _ (by omega)]
  have key := fo_loop (f := lX6_stoolLine_90 (nI i)) (P := glX6_stoolLine_90 (nI i)) (fun (S' : SV) j => (S', nI j)) (fun S' => (S', nI k)) (fun S' _ => fX6_writes S' 111) (fun S' j => LW S0 (z + j) (fo (fun L _ => fX2_add L 111) 0 j Ln) S') k (fun S' j hj hI => by
    have o := ho S' hI.row
    have c1 : ¬ nI k ≤ nI j := nI_ge hj (by omega)
    obtain ⟨a, b⟩ := lw_add (c := 111) (x := 111) hI (by omega) (by decide +kernel)
    refine ⟨?_, ?_, ?_⟩
    · rw [glX6_stoolLine_90]; dsimp only; rw [o, if_neg c1]; exact ⟨gO S' hi (by decide) rfl, b, trivial⟩
    · rw [lX6_stoolLine_90]; dsimp only; rw [o, if_neg c1, nI_1]
    · rw [fo_succ]; exact a) (fun S' hI => by
    have o := ho S' hI.row
    exact ⟨by rw [glX6_stoolLine_90]; dsimp only; rw [o, if_pos (Int32.le_refl _)]; exact ⟨gO S' hi (by decide) rfl, trivial⟩, by rw [lX6_stoolLine_90]; dsimp only; rw [o, if_pos (Int32.le_refl _)]⟩) k 0 S _ (by omega) hf h
  exact ⟨_, key.1, key.2⟩
/-- the line of a stool -/
theorem sl_eq {K n m : Nat} (C : CV) (S : SV) (Ln : LV) (h : WT K n m S.1) (hK : K ≤ 560) (h4 : ∀ t, narrow .char (.int (Ln.1 t)) = .int (Ln.1 t)) {i : Nat} (hi : i < n) : ∃ z s5, z ≤ 600 ∧ fX5_stoolLine C (tvOf S.1) Ln (nI i) = (none, nI z, (fX5_stoolLine C (tvOf S.1) Ln (nI i)).2.2) ∧ fX6_stoolLine S (nI i) = (nI z, sS17 (nI z) (sS5 s5 (sS11 0 (sS12 0 S)))) ∧ LZ z (fX5_stoolLine C (tvOf S.1) Ln (nI i)).2.2 (sS17 (nI z) (sS5 s5 (sS11 0 (sS12 0 S)))) ∧ gX6_stoolLine S (nI i) := by
  have hn := h.1.2.2.1
  have hi12 : i < 12 := by omega
  obtain ⟨b0, b1, b2, -, b4, -⟩ := h.2.1 i hi
  obtain ⟨k1, hk1, k11, k12⟩ := of_rng b1.1 (by omega) b1.2
  obtain ⟨k4, hk4, k41, k42⟩ := of_rng b4.1 (by omega) b4.2
  rcases isStool_cases S h.1.1 hn (nI i) with ⟨i', hi', ei, e1, e2⟩ | ⟨e1, e2⟩
  · rw [fX5_stoolLine, fX6_stoolLine, gX6_stoolLine, e2, if_neg one_ne, if_neg one_ne, fX5_requireStool, e1, if_neg one_ne, if_pos rfl]
    rw [rS S.1 (w := 0) (y := 0) hi12 (by decide) rfl, rS S.1 (w := 1) (y := 1) hi12 (by decide) rfl, rS S.1 (w := 2) (y := 2) hi12 (by decide) rfl, rS S.1 (w := 4) (y := 4) hi12 (by decide) rfl]
    have hS0 : (fX6_fails S 0).2 = sS11 0 (sS12 0 S) := by rw [fl0]
    rw [hS0]
    have ho : ∀ S' : SV, S'.1 = S.1 → ∀ (w : Nat) (y : Int32), y = nI w → w < 6 → fX6_of S' (nI i) y = qs S.1 i w := fun S' q w y hy hw => by rw [rO S' hi12 hw hy, q]
    have w0 : LW (sS11 0 (sS12 0 S)) 0 (fX2_clear Ln) (sS17 0 (sS11 0 (sS12 0 S))) := ⟨⟨rfl, rfl, fun t ht => absurd ht (by omega), h4⟩, sgnR S, 0, rfl⟩
    obtain ⟨z1, hz1, w1, g1⟩ := lw_num (nI i) w0 (by omega)
    generalize fX6_writesNumber (sS17 0 (sS11 0 (sS12 0 S))) (nI i) = S1 at w1 g1 ⊢
    generalize fX2_addNumber (fX2_clear Ln) (nI i) = L1 at w1 ⊢
    obtain ⟨w2, g2⟩ := lw_add (c := 94) (x := 94) w1 (by omega) (by decide +kernel)
    generalize fX6_writes S1 94 = S2 at w2 g2 ⊢
    generalize fX2_add L1 94 = L2 at w2 ⊢
    rw [ho S2 w2.row 0 0 rfl (by omega)]
    obtain ⟨z3, hz3, w3, g3⟩ := lw_num (qs S.1 i 0) w2 (by omega)
    generalize fX6_writesNumber S2 (qs S.1 i 0) = S3 at w3 g3 ⊢
    generalize fX2_addNumber L2 (qs S.1 i 0) = L3 at w3 ⊢
    obtain ⟨w4, g4⟩ := lw_add (c := 126) (x := 126) w3 (by omega) (by decide +kernel)
    generalize fX6_writes S3 126 = S4 at w4 g4 ⊢
    generalize fX2_add L3 126 = L4 at w4 ⊢
    rw [ho S4 w4.row 2 2 rfl (by omega)]
    obtain ⟨z5, hz5, w5, g5⟩ := lw_num (qs S.1 i 2) w4 (by omega)
    generalize fX6_writesNumber S4 (qs S.1 i 2) = S5 at w5 g5 ⊢
    generalize fX2_addNumber L4 (qs S.1 i 2) = L5 at w5 ⊢
    obtain ⟨S6, r6, w6⟩ := lw_times1 w5 hi12 (k := k1) hk1 (by omega)
    rw [hk1, hk4]
    have q6 : itv (S5, (0 : Int32)) (lX6_stoolLine_66 (nI i)) ((fun v : (SV × Int32) => ((fX6_of v.1 (nI i) 1).toInt - v.2.toInt).toNat) (S5, 0) + 1) (S5, 0) = (S6, nI k1) := lrun_itv r6
    rw [q6]
    generalize fX2_addTimes L5 39 (nI k1) = L6 at w6 ⊢
    obtain ⟨S7, r7, w7⟩ := lw_times4 w6 hi12 (k := k4) hk4 (by omega)
    have q7 : itv (S6, (0 : Int32)) (lX6_stoolLine_90 (nI i)) ((fun v : (SV × Int32) => ((fX6_of v.1 (nI i) 4).toInt - v.2.toInt).toNat) (S6, 0) + 1) (S6, 0) = (S7, nI k4) := lrun_itv r7
    dsimp only at q7 ⊢
    rw [q7]
    generalize fX2_addTimes L6 111 (nI k4) = L7 at w7 ⊢
    obtain ⟨v1, s5, v, hS7⟩ := w7
    have hv : v = nI (z5 + k1 + k4) := by
      have := v1.2.1
      rw [hS7] at this
      exact this
    rw [hv] at hS7
    refine ⟨z5 + k1 + k4, s5, by omega, by rw [v1.1], ?_, by rw [← hS7]; exact v1, gIsStool _ _, g1, g2, gO _ hi12 (by decide) rfl, g3, g4, gO _ hi12 (by decide) rfl, g5, ⟨_, r6⟩, ⟨_, r7⟩, trivial⟩
    rw [← hS7]
    exact congrArg (fun r => (r, S7)) v1.2.1
  · exfalso
    rw [fX3_hasStool, if_neg (nI_pos (by omega)), if_neg (show ¬ (tvOf S.1).2.2.1 ≤ nI i from up_le h.1.1 (by omega) hi)] at e1
    exact one_ne e1
/-- the line of the row: one place -/
theorem seat_r {K n m : Nat} (C : CV) {S0 S : SV} {z j : Nat} {L : LV} (w : LW S0 z L S) (h : WT K n m S0.1) (hj : j < n) (hz : z + 2 ≤ 600) : ∃ z' S', z' ≤ z + 2 ∧ lX6_line_12 (S, nI j) = .inl (S', nI (j + 1)) ∧ glX6_line_12 (S, nI j) ∧ LW S0 z' (fX5_writeSeat C (tvOf S0.1) L (nI j)) S' := by
  have hn := h.1.2.2.1
  have hm := h.1.2.2.2.1
  have hj12 : j < 12 := by omega
  have v0 : vp_in 0 114 := gHd (j := 0) rfl (by omega)
  have hq : S.1 (0 : Int32).toNatClampNeg = nI n := by rw [c0, w.row]; exact h.1.1
  have hc : ¬ nI n ≤ nI j := nI_ge hj (by omega)
  have ho : ∀ S' : SV, S'.1 = S0.1 → ∀ (w : Nat) (y : Int32), y = nI w → w < 6 → fX6_of S' (nI j) y = qs S0.1 j w := fun S' q w y hy hw => by rw [rO S' hj12 hw hy, q]
  have go : ∀ (S' : SV) (w : Nat) (y : Int32), y = nI w → w < 6 → gX6_of S' (nI j) y := fun S' w y hy hw => gO S' hj12 hw hy
  have tail : ∀ (S1 : SV) (L1 : LV) (z1 : Nat), z1 < 600 → LW S0 z1 L1 S1 → ∃ S2, (if 0 ≤ qs S0.1 j 5 then (if (fX6_isCat S1 (qs S0.1 j 5)) = 0 then (Sum.inl ((fX6_writes S1 (97 + qs S0.1 j 5)), nI (j + 1)) : (SV × Int32) ⊕ (SV × Int32)) else (.inl ((fX6_writes S1 (65 + qs S0.1 j 5)), nI (j + 1)))) else (.inl ((fX6_writes S1 46), nI (j + 1)))) = .inl (S2, nI (j + 1)) ∧ (if 0 ≤ qs S0.1 j 5 then ((gX6_isCat S1 (qs S0.1 j 5)) ∧ (if (fX6_isCat S1 (qs S0.1 j 5)) = 0 then ((gX6_writes S1 (97 + qs S0.1 j 5)) ∧ True) else ((gX6_writes S1 (65 + qs S0.1 j 5)) ∧ True))) else ((gX6_writes S1 46) ∧ True)) ∧ LW S0 (z1 + 1) (if qs S0.1 j 5 = (-1) then (fX2_add L1 46) else (if (fX3_ofSitter (tvOf S0.1) (qs S0.1 j 5) 0) = 0 then (fX2_add L1 ((65 + qs S0.1 j 5).toUInt32 % 65536).toInt32) else (fX2_add L1 ((97 + qs S0.1 j 5).toUInt32 % 65536).toInt32))) S2 := fun S1 L1 z1 hz1 w1 => by
    rcases h.who hj with e | ⟨k, hk, e, -⟩
    · have c1 : ¬ 0 ≤ qs S0.1 j 5 := by rw [e]; decide
      obtain ⟨a, b⟩ := lw_add (c := 46) (x := 46) w1 hz1 (by decide +kernel)
      rw [if_neg c1, if_neg c1, if_pos e]
      exact ⟨_, rfl, ⟨b, trivial⟩, a⟩
    · have c1 : (0 : Int32) ≤ qs S0.1 j 5 := by rw [e]; exact nI_pos' (by omega)
      have c2 : ¬ qs S0.1 j 5 = -1 := by rw [e]; exact nI_m1 (by omega)
      rw [if_pos c1, if_pos c1, if_neg c2, e]
      obtain ⟨i1, i2⟩ := isCat_eq S1 (k := k) (by omega)
      rw [i1, w1.row, rP S0.1 (w := 0) (y := 0) (show k < 12 by omega) (by decide) rfl]
      by_cases c3 : qp S0.1 k 0 = 0
      · obtain ⟨a, b⟩ := lw_add (x := 65 + nI k) w1 hz1 (pk_vc _)
        rw [if_pos c3, if_neg one_ne, if_neg one_ne, if_pos c3]
        exact ⟨_, rfl, ⟨i2, b, trivial⟩, a⟩
      · obtain ⟨a, b⟩ := lw_add (x := 97 + nI k) w1 hz1 (pk_vc _)
        rw [if_neg c3, if_pos rfl, if_pos rfl, if_neg c3]
        exact ⟨_, rfl, ⟨i2, b, trivial⟩, a⟩
  rw [lX6_line_12, glX6_line_12, fX5_writeSeat]
  dsimp only
  rw [hq, if_neg hc, if_neg hc, nI_1, ho S w.row 3 3 rfl (by omega), ho S w.row 5 5 rfl (by omega), rS S0.1 (w := 3) (y := 3) hj12 (by decide) rfl, rS S0.1 (w := 5) (y := 5) hj12 (by decide) rfl]
  by_cases cb : qs S0.1 j 3 = 1
  · obtain ⟨a, b⟩ := lw_add (c := 124) (x := 124) w (by omega) (by decide +kernel)
    rw [if_pos cb, if_pos cb, if_pos cb, ho (fX6_writes S 124) a.row 5 5 rfl (by omega)]
    obtain ⟨S2, t1, t2, t3⟩ := tail _ _ _ (by omega) a
    exact ⟨z + 1 + 1, S2, by omega, t1, ⟨v0, go _ 3 3 rfl (by omega), b, go _ 5 5 rfl (by omega), t2⟩, t3⟩
  · rw [if_neg cb, if_neg cb, if_neg cb]
    obtain ⟨S2, t1, t2, t3⟩ := tail _ _ _ (by omega) w
    exact ⟨z + 1, S2, by omega, t1, ⟨v0, go _ 3 3 rfl (by omega), go _ 5 5 rfl (by omega), t2⟩, t3⟩
theorem li_c {K n m : Nat} (C : CV) {g : Nat → Int32} (h : WT K n m g) (Ln : LV) : fX5_line C (tvOf g) Ln = ((fo (fun L k => fX5_writeSeat C (tvOf g) L (nI k)) 0 n (fX2_clear Ln)).2, fo (fun L k => fX5_writeSeat C (tvOf g) L (nI k)) 0 n (fX2_clear Ln)) := by
  have hn := h.1.2.2.1
  have hg : (tvOf g).2.2.1 = nI n := h.1.1
  have hf := fuel0 hg (by omega)
  have key := (fo_itv (f := lX5_line_9 C (tvOf g) Ln (fX2_clear Ln)) ((fX2_clear Ln, 0) : LV × Int32) (fun (a : LV) j => (a, nI j)) (fun a => (a, nI n)) (fun L k => fX5_writeSeat C (tvOf g) L (nI k)) (fun _ _ => True) n (fun a j hj _ => ⟨by
    rw [lX5_line_9, if_neg (up_le hg (by omega) hj), nI_1], trivial⟩) (fun a _ => by
    rw [lX5_line_9, if_pos (at_le hg)]) n 0 (fX2_clear Ln) _ (by omega) hf trivial).1
  have key' : itv (fX2_clear Ln, (0 : Int32)) (lX5_line_9 C (tvOf g) Ln (fX2_clear Ln)) ((fun v : (LV × Int32) => ((tvOf g).2.2.1.toInt - v.2.toInt).toNat) ((fX2_clear Ln), 0) + 1) (fX2_clear Ln, 0) = _ := key
  rw [fX5_line, key']
theorem li_r {K n m : Nat} (C : CV) (S : SV) (Ln : LV) (h : WT K n m S.1) (h4 : ∀ t, narrow .char (.int (Ln.1 t)) = .int (Ln.1 t)) : ∃ z s5, z ≤ 600 ∧ (fX5_line C (tvOf S.1) Ln).1 = nI z ∧ fX6_line S = (nI z, sS17 (nI z) (sS5 s5 (sS12 0 S))) ∧ LZ z (fX5_line C (tvOf S.1) Ln).2 (sS17 (nI z) (sS5 s5 (sS12 0 S))) ∧ gX6_line S := by
  have hn := h.1.2.2.1
  have v0 : vp_in 0 114 := gHd (j := 0) rfl (by omega)
  have hq : (sS17 0 (sS12 0 S)).1 (0 : Int32).toNatClampNeg = nI n := by rw [c0]; exact h.1.1
  have hf := fuel0 hq (by omega)
  have w0 : LW (sS12 0 S) 0 (fX2_clear Ln) (sS17 0 (sS12 0 S)) := ⟨⟨rfl, rfl, fun t ht => absurd ht (by omega), h4⟩, sgnR S, 0, rfl⟩
  -- the reference's loop, by the class's
  have key : ∀ (c j fuel : Nat) (L : LV) (S' : SV) (z : Nat), j + c = n → c < fuel → z ≤ 2 * j → LW (sS12 0 S) z L S' → ∃ z' S'', z' ≤ 2 * n ∧ lrun lX6_line_12 glX6_line_12 fuel (S', nI j) (S'', nI n) ∧ LW (sS12 0 S) z' (fo (fun L k => fX5_writeSeat C (tvOf S.1) L (nI k)) j c L) S'' := by
    intro c
    induction c with
    | zero =>
      intro j fuel L S' z hj hf hz w
      have : j = n := by omega
      subst this
      cases fuel with
      | zero => exact absurd hf (by omega)
      | succ fuel =>
        have hc : S'.1 (0 : Int32).toNatClampNeg ≤ nI j := by rw [c0, w.row]; exact at_le h.1.1
        refine ⟨z, S', hz, ⟨?_, Or.inr ?_⟩, w⟩
        · rw [glX6_line_12, if_pos hc]; exact ⟨v0, trivial⟩
        · rw [lX6_line_12, if_pos hc]
    | succ c ih =>
      intro j fuel L S' z hj hf hz w
      cases fuel with
      | zero => exact absurd hf (by omega)
      | succ fuel =>
        obtain ⟨z', S2, e1, e2, e3, e4⟩ := seat_r C w (K := K) (n := n) (m := m) h (show j < n by omega) (by omega)
        obtain ⟨z'', S3, f1, f2, f3⟩ := ih (j + 1) fuel _ S2 z' (by omega) (by omega) (by omega) e4
        exact ⟨z'', S3, f1, ⟨e3, Or.inl ⟨_, e2, f2⟩⟩, f3⟩
  obtain ⟨z, S', e1, e2, e3⟩ := key n 0 _ _ _ 0 (by omega) hf (by omega) w0
  have w1 : itv ((sS17 0 (sS12 0 S)), (0 : Int32)) lX6_line_12 ((fun v : (SV × Int32) => ((v.1.1 (0 : Int32).toNatClampNeg).toInt - v.2.toInt).toNat) ((sS17 0 (sS12 0 S)), 0) + 1) ((sS17 0 (sS12 0 S)), 0) = (S', nI n) := lrun_itv e2
  obtain ⟨l1, s5, v, hS⟩ := e3
  have hv : v = nI z := by
    have := l1.2.1
    rw [hS] at this
    exact this
  rw [hv] at hS
  rw [li_c C h]
  refine ⟨z, s5, by omega, l1.1, ?_, by rw [← hS]; exact l1, ⟨_, e2⟩, trivial⟩
  rw [fX6_line, w1, ← hS]
  exact congrArg (fun r => (r, S')) l1.2.1
