/-! Brawls, whole -/
theorem WT.occ {K n m : Nat} {g : Nat → Int32} (h : WT K n m g) : ∀ i, i < n → g (6 + (6 * i + 5)) = -1 ∨ ¬ g (6 + (6 * i + 5)) < 0 := fun i hi => by
  have hm := h.1.2.2.2.1
  rcases h.who hi with w | ⟨k, hk, w, -⟩
  · exact Or.inl w
  · refine Or.inr ?_
    have w' : g (6 + (6 * i + 5)) = nI k := w
    rw [w']; exact nI_pos (by omega)
theorem taken_all {K n m : Nat} (S : SV) (h : WT K n m S.1) (h0 : 0 < n) : fX6_taken S 0 (S.1 0 - 1) = fX3_takenStools (tvOf S.1) 0 ((tvOf S.1).2.2.1 - 1) ∧ gX6_taken S 0 (S.1 0 - 1) := by
  have hn := h.1.2.2.1
  have e : S.1 0 - 1 = nI (n - 1) := by
    rw [h.1.1]
    obtain ⟨n', rfl⟩ : ∃ n', n = n' + 1 := ⟨n - 1, by omega⟩
    rw [nI_pred]; rfl
  have e2 : (tvOf S.1).2.2.1 - 1 = nI (n - 1) := e
  rw [e, e2]
  exact taken_eq S n 0 (n - 1) h.1.1 hn (by omega) (by omega) h.occ
theorem brawl_out {K n m : Nat} (C : CV) (S : SV) (h : WT K n m S.1) {c : Nat} (hc : c ≤ 8) (hch : S.2.2.2.2.2.2.2.2.2.1 = nI c) (x y : Int32) : Out K C S (fX5_letBrawl C (tvOf S.1) x y) (fX6_brawl S x y) 1 2 3 ∧ gX6_brawl S x y := by
  have hn := h.1.2.2.1
  have hm := h.1.2.2.2.1
  have v0 : vp_in 0 114 := gHd (j := 0) rfl (by omega)
  have v4 : vp_in 4 114 := gHd (j := 4) rfl (by omega)
  rcases isStool_cases S h.1.1 hn x with ⟨i, hi, rfl, e1, e2⟩ | ⟨e1, e2⟩
  · rcases isStool_cases S h.1.1 hn y with ⟨j, hj, rfl, e3, e4⟩ | ⟨e3, e4⟩
    · rw [fX5_letBrawl, fX6_brawl, gX6_brawl, e1, e2, e3, e4, if_neg one_ne, if_neg one_ne, if_neg one_ne, if_neg one_ne, if_neg one_ne, if_neg one_ne]
      by_cases hij : i ≤ j
      · have cij : nI i ≤ nI j := nI_le hij (by omega)
        rw [if_pos cij, if_pos cij, if_pos cij]
        have hS0 : (fX6_fails S 0).2.1 = S.1 := by rw [fl0]; rfl
        obtain ⟨t1, t2⟩ := taken_eq (fX6_fails S 0).2 n i j (by rw [hS0]; exact h.1.1) hn hj (by omega) (by rw [hS0]; exact h.occ)
        obtain ⟨t3, t4⟩ := taken_all (fX6_fails S 0).2 (K := K) (n := n) (m := m) (by rw [hS0]; exact h) (by omega)
        rw [hS0] at t1 t3 t4
        rw [hS0, c0, t1]
        by_cases hz : fX3_takenStools (tvOf S.1) (nI i) (nI j) = 0
        · rw [if_pos hz, if_pos hz, if_pos hz, t3]
          refine ⟨Or.inr (Or.inr (Or.inr ⟨8, _, rfl, ?_⟩)), gIsStool _ _, gIsStool _ _, t2, v0, t4, trivial⟩
          rw [fl0]; rfl
        · rw [if_neg hz, if_neg hz, if_neg hz]
          obtain ⟨k', ch', s1, s2, s3⟩ := kf_r S hc hch
          have q : (fX6_keeps_g (fX6_fails S 0).2).1 = S.1 := by rw [s1]; rfl
          generalize fX6_keeps_g (fX6_fails S 0).2 = S2 at s1 s2 q ⊢
          have hw : WT K n m (upd S.1 4 (S.1 4 + 1)) := h.upH (by omega) (by omega) (by omega)
          have ej : nI j = nI (j + 1) - 1 := (nI_pred j).symm
          have et : ((tvOf S.1).1, (tvOf S.1).2.1, (tvOf S.1).2.2.1, (tvOf S.1).2.2.2.1, (tvOf S.1).2.2.2.2.1, (tvOf S.1).2.2.2.2.2.1, (tvOf S.1).2.2.2.2.2.2.1 + 1, (tvOf S.1).2.2.2.2.2.2.2) = tvOf (upd S.1 4 (S.1 4 + 1)) := tv_h4 S.1 _
          obtain ⟨s0, b1, b2⟩ := bs_r (a := i) (e := j + 1) S2 hw (fun z hz => by rw [q, upd_ne _ _ hz]) (by omega) (by omega)
          obtain ⟨gc, b3, b4, b5⟩ := bs_c (a := i) (e := j + 1) hw (by omega) (by omega) s0 b1
          obtain ⟨b6, b7⟩ := b2 gc b4
          rw [← ej] at b3 b6 b7
          rw [et, b3, b6]
          generalize fo (bst (upd S.1 4 (S.1 4 + 1)) i (j + 1) m) 0 m (gc, s0, 0) = z at b5 ⊢
          obtain ⟨d1, d2, d3⟩ := b5
          obtain ⟨f1, f2, f3, f4⟩ := BR.done hw d1
          -- the row that the reference takes is the class's, but for the number of brawls
          have t : TK n m S2.1 z.2.1 (upd z.1 4 (S.1 4)) := by
            refine ⟨fun k hk => by rw [upd_ne _ _ (by omega)]; exact f1.1 k hk, fun k hk i hi e => by rw [upd_ne _ _ (by omega)]; exact f1.2.1 k hk i hi e, fun i hi e => by rw [upd_ne _ _ (by omega)]; exact f1.2.2.1 i hi e, fun w z1 z2 => ?_⟩
            rw [q]
            by_cases w4 : w = 4
            · rw [w4, upd_same]
            · rw [upd_ne _ _ w4, f1.2.2.2 w z1 z2, upd_ne _ _ w4]
          obtain ⟨l1, l2⟩ := lt_r S2 (K := K) (n := n) (m := m) (by rw [q]; exact h) z.2.1 f2 f3 t
          obtain ⟨v, hv1, hv2, hv3⟩ := of_rng d2 (by omega) d3
          have r4 : z.1 4 = S.1 4 + 1 := (f1.heads (by omega)).trans (upd_same _ _ _)
          have row : upd (upd z.1 4 (S.1 4)) 4 ((upd z.1 4 (S.1 4)) 4 + 1) = z.1 := by
            funext w
            by_cases w4 : w = 4
            · rw [w4, upd_same, upd_same, r4]
            · rw [upd_ne _ _ w4, upd_ne _ _ w4]
          have final : sS0 (upd (fX6_takesSeats (sS6 z.2.1 S2)).1 (4 : Int32).toNatClampNeg ((fX6_takesSeats (sS6 z.2.1 S2)).1 (4 : Int32).toNatClampNeg + 1)) (fX6_takesSeats (sS6 z.2.1 S2)) = sS0 z.1 (sS6 z.2.1 S2) := by
            rw [l1, c4]
            refine Eq.trans ?_ (congrArg (fun r => sS0 r (sS6 z.2.1 S2)) row)
            rfl
          refine ⟨Or.inl ⟨v, z.1, z.2.1, k', 0, ch', n, m, by omega, by rw [← hv1], ?_, f4.mono (Nat.le_succ K), s3⟩, gIsStool _ _, gIsStool _ _, t2, s2, b7, l2, v4, v4, trivial⟩
          rw [← hv1]
          refine congrArg (fun r => (z.2.2, r)) ?_
          exact final.trans (by rw [s1])
      · have cij : ¬ nI i ≤ nI j := nI_ge (by omega) (by omega)
        rw [if_neg cij, if_neg cij, if_neg cij]
        exact ⟨Or.inr (Or.inr (Or.inl ⟨rfl, by rw [fl2]⟩)), gIsStool _ _, gIsStool _ _, trivial⟩
    · rw [fX5_letBrawl, fX6_brawl, gX6_brawl, e1, e2, e3, e4, if_neg one_ne, if_neg one_ne, if_neg one_ne, if_pos rfl, if_pos rfl, if_pos rfl]
      exact ⟨Or.inr (Or.inl ⟨rfl, by rw [fl1]⟩), gIsStool _ _, gIsStool _ _, trivial⟩
  · rw [fX5_letBrawl, fX6_brawl, gX6_brawl, e1, e2, if_pos rfl, if_pos rfl, if_pos rfl]
    exact ⟨Or.inr (Or.inl ⟨rfl, by rw [fl1]⟩), gIsStool _ _, trivial⟩
/-- how many would move -/
theorem would_eq {K n m : Nat} (C : CV) (S : SV) (h : WT K n m S.1) (Tr : TV) : ∃ s', fX6_wouldMove S = ((fX5_wouldMove C (tvOf S.1) Tr).1, sS6 s' (sS12 0 S)) ∧ gX6_wouldMove S := by
  have hn := h.1.2.2.1
  have v0 : vp_in 0 114 := gHd (j := 0) rfl (by omega)
  have e0 : S.1 (0 : Int32).toNatClampNeg - 1 = nI n - 1 := by rw [c0, h.1.1]
  have e1 : (tvOf S.1).2.2.1 - 1 = nI n - 1 := congrArg (fun z : Int32 => z - 1) h.1.1
  obtain ⟨s0, b1, b2⟩ := bs_r (a := 0) (e := n) (sS12 0 S) h (fun _ _ => rfl) (by omega) (by omega)
  obtain ⟨gc, b3, b4, b5⟩ := bs_c (a := 0) (e := n) h (by omega) (by omega) s0 b1
  obtain ⟨b6, b7⟩ := b2 gc b4
  rw [nI_0] at b3 b6 b7
  rw [fX6_wouldMove, gX6_wouldMove, fX5_wouldMove, e0, e1, fX3_copy, b3, b6]
  exact ⟨_, rfl, v0, b7, trivial⟩
