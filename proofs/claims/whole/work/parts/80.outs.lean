/-! Changes once more: the one word that each never answers has no code -/
theorem stool_out2 {K n m : Nat} (C : CV) (S : SV) (h : WT K n m S.1) {c : Nat} (hc : c ≤ 8) (hch : S.2.2.2.2.2.2.2.2.2.1 = nI c) (x1 x2 x3 x4 : Int32) : Out K C S (fX5_setUpStool C (tvOf S.1) x1 x2 x3 x4) (fX6_stool S x1 x2 x3 x4) 77 1 2 ∧ gX6_stool S x1 x2 x3 x4 := by
  have hn := h.1.2.2.1
  have v0 : vp_in 0 114 := gHd (j := 0) rfl (by omega)
  have wrong : fX5_setUpStool C (tvOf S.1) x1 x2 x3 x4 = (-2, C, tvOf S.1) → fX6_stool S x1 x2 x3 x4 = (0, (fX6_fails S 1).2) → Out K C S (fX5_setUpStool C (tvOf S.1) x1 x2 x3 x4) (fX6_stool S x1 x2 x3 x4) 77 1 2 := fun a b => by
    rw [a, b, fl1]
    exact Or.inr (Or.inr (Or.inl ⟨rfl, rfl⟩))
  rcases in_split x1 1 40 with ⟨a1, a2⟩ | ⟨a1, a2, a3⟩
  · refine ⟨wrong ?_ ?_, ?_⟩
    · rw [fX5_setUpStool]
      by_cases y : x1 < 1
      · rw [if_pos y]
      · rw [if_neg y, if_pos (a2.resolve_left y)]
    · rw [fX6_stool, a1, if_pos rfl]
    · rw [gX6_stool, a1, if_pos rfl]; trivial
  rcases in_split x2 0 9 with ⟨b1, b2⟩ | ⟨b1, b2, b3⟩
  · refine ⟨wrong ?_ ?_, ?_⟩
    · rw [fX5_setUpStool, if_neg a2, if_neg a3]
      by_cases y : x2 < 0
      · rw [if_pos y]
      · rw [if_neg y, if_pos (b2.resolve_left y)]
    · rw [fX6_stool, a1, if_neg one_ne, b1, if_pos rfl]
    · rw [gX6_stool, a1, if_neg one_ne, b1, if_pos rfl]; trivial
  rcases in_split x3 0 9 with ⟨d1, d2⟩ | ⟨d1, d2, d3⟩
  · refine ⟨wrong ?_ ?_, ?_⟩
    · rw [fX5_setUpStool, if_neg a2, if_neg a3, if_neg b2, if_neg b3]
      by_cases y : x3 < 0
      · rw [if_pos y]
      · rw [if_neg y, if_neg (fun z => by
          have q := d2.resolve_left y
          rw [Int32.lt_iff_toInt_lt] at q
          rw [Int32.le_iff_toInt_le] at z
          omega)]
    · rw [fX6_stool, a1, if_neg one_ne, b1, if_neg one_ne, d1, if_pos rfl]
    · rw [gX6_stool, a1, if_neg one_ne, b1, if_neg one_ne, d1, if_pos rfl]; trivial
  rw [fX5_setUpStool, if_neg a2, if_neg a3, if_neg b2, if_neg b3, if_neg d2, if_pos (le_of_nlt d3), fX6_stool, a1, if_neg one_ne, b1, if_neg one_ne, d1, if_neg one_ne, gX6_stool, a1, if_neg one_ne, b1, if_neg one_ne, d1, if_neg one_ne]
  have hT : (tvOf S.1).2.2.1 = nI n := h.1.1
  have hS : (fX6_fails S 0).2.1 (0 : Int32).toNatClampNeg = nI n := by rw [fl0, c0]; exact h.1.1
  rw [hT, hS]
  by_cases h12 : n = 12
  · subst h12
    rw [if_neg (show ¬ nI 12 < 12 by decide), if_pos (show nI 12 = 12 from rfl), if_pos (show nI 12 = 12 from rfl)]
    refine ⟨Or.inr (Or.inr (Or.inr ⟨1, 12, rfl, ?_⟩)), v0, trivial⟩
    rw [fl0]; rfl
  · have hn2 : n < 12 := by omega
    have l12 : nI n < 12 := nI_lt (a := n) (b := 12) hn2 (by omega)
    have e12 : ¬ nI n = 12 := fun z => h12 (nI_inj (b := 12) (by omega) (by omega) z)
    rw [if_pos l12, if_neg e12, if_neg e12, stRow_c S.1 hn2 h.1.1]
    obtain ⟨k', ch', s1, s2, s3⟩ := kf_r S hc hch
    have q : (fX6_keeps_g (fX6_fails S 0).2).1 = S.1 := by rw [s1]; rfl
    generalize fX6_keeps_g (fX6_fails S 0).2 = S2 at s1 s2 q ⊢
    rw [c0, q, h.1.1]
    have rr : ∀ b : Int32, fX6_lays (fX6_lays (fX6_lays (fX6_lays (fX6_lays (fX6_lays (sS0 (upd S.1 0 (nI n + 1)) S2) (nI n) 0 x1) (nI n) 1 x2) (nI n) 2 x3) (nI n) 3 b) (nI n) 4 0) (nI n) 5 (-1) = sS0 (stRow S.1 n x1 x2 x3 b) S2 := fun b => by
      rw [one_lay _ _ (a := 0) (x := 0) hn2 (by decide) rfl, one_lay _ _ (a := 1) (x := 1) hn2 (by decide) rfl, one_lay _ _ (a := 2) (x := 2) hn2 (by decide) rfl, one_lay _ _ (a := 3) (x := 3) hn2 (by decide) rfl, one_lay _ _ (a := 4) (x := 4) hn2 (by decide) rfl, one_lay _ _ (a := 5) (x := 5) hn2 (by decide) rfl, stRow, h.1.1]
    rw [rr 0, rr 1]
    have gl : ∀ (S' : SV) (w v : Int32) (j : Nat), w = nI j → j < 6 → gX6_lays S' (nI n) w v := fun S' w v j e hj => (rL S' v hn2 hj e).2
    have wt : ∀ b : Int32, (b = 0 ∨ b = 1) → WT (K + 1) (n + 1) m (stRow S.1 n x1 x2 x3 b) := fun b hb => stRow_wt (h.mono (Nat.le_succ K)) hn2 (nlt_rng (by decide) (by decide) a2 a3) (nlt_rng (by decide) (by decide) b2 b3) (nlt_rng (by decide) (by decide) d2 d3) hb
    by_cases h4 : x4 = 0
    · rw [if_pos h4, if_pos h4, if_pos h4]
      refine ⟨Or.inl ⟨n, stRow S.1 n x1 x2 x3 0, seats S, k', 0, ch', n + 1, m, by omega, rfl, by rw [s1]; rfl, wt 0 (Or.inl rfl), s3⟩, v0, s2, v0, v0, v0, gl _ _ _ 0 rfl (by omega), gl _ _ _ 1 rfl (by omega), gl _ _ _ 2 rfl (by omega), gl _ _ _ 3 rfl (by omega), gl _ _ _ 4 rfl (by omega), gl _ _ _ 5 rfl (by omega), trivial⟩
    · rw [if_neg h4, if_neg h4, if_neg h4]
      refine ⟨Or.inl ⟨n, stRow S.1 n x1 x2 x3 1, seats S, k', 0, ch', n + 1, m, by omega, rfl, by rw [s1]; rfl, wt 1 (Or.inr rfl), s3⟩, v0, s2, v0, v0, v0, gl _ _ _ 0 rfl (by omega), gl _ _ _ 1 rfl (by omega), gl _ _ _ 2 rfl (by omega), gl _ _ _ 3 rfl (by omega), gl _ _ _ 4 rfl (by omega), gl _ _ _ 5 rfl (by omega), trivial⟩
theorem comes_out2 {K n m : Nat} (C : CV) (S : SV) (h : WT K n m S.1) {c : Nat} (hc : c ≤ 8) (hch : S.2.2.2.2.2.2.2.2.2.1 = nI c) {x0 x1 : Int32} (r0 : 0 ≤ x0.toInt ∧ x0.toInt ≤ 9) (r1 : 1 ≤ x1.toInt ∧ x1.toInt ≤ 200) : Out K C S (if (tvOf S.1).2.2.2.1 < 12 then ((fX3_addSitter (tvOf S.1) x0 x1).1, C, (fX3_addSitter (tvOf S.1) x0 x1).2) else ((fX5_refuse C 1 (tvOf S.1).2.2.2.1).1, (fX5_refuse C 1 (tvOf S.1).2.2.2.1).2, tvOf S.1)) (fX6_comes (fX6_fails S 0).2 x0 x1) 77 1 2 ∧ gX6_comes (fX6_fails S 0).2 x0 x1 := by
  have hm := h.1.2.2.2.1
  have v1 : vp_in 1 114 := gHd (j := 1) rfl (by omega)
  have hT : (tvOf S.1).2.2.2.1 = nI m := h.1.2.1
  have hS : (fX6_fails S 0).2.1 (1 : Int32).toNatClampNeg = nI m := by rw [fl0, c1]; exact h.1.2.1
  rw [fX6_comes, gX6_comes, hT, hS]
  by_cases h12 : m = 12
  · subst h12
    rw [if_neg (show ¬ nI 12 < 12 by decide), if_pos (show nI 12 = 12 from rfl), if_pos (show nI 12 = 12 from rfl)]
    refine ⟨Or.inr (Or.inr (Or.inr ⟨1, 12, rfl, ?_⟩)), v1, trivial⟩
    rw [fl0]; rfl
  · have hm2 : m < 12 := by omega
    have l12 : nI m < 12 := nI_lt (a := m) (b := 12) hm2 (by omega)
    have e12 : ¬ nI m = 12 := fun z => h12 (nI_inj (b := 12) (by omega) (by omega) z)
    rw [if_pos l12, if_neg e12, if_neg e12, siRow_c S.1 hm2 h.1.2.1]
    obtain ⟨k', ch', s1, s2, s3⟩ := kf_r S hc hch
    have q : (fX6_keeps_g (fX6_fails S 0).2).1 = S.1 := by rw [s1]; rfl
    generalize fX6_keeps_g (fX6_fails S 0).2 = S2 at s1 s2 q ⊢
    rw [c1, q, h.1.2.1, ixP (w := 0) (y := 0) hm2 (by decide) rfl, ixP (w := 1) (y := 1) hm2 (by decide) rfl, ixP (w := 2) (y := 2) hm2 (by decide) rfl, nI_clamp (show 78 + (3 * m + 0) < 2 ^ 31 by omega), nI_clamp (show 78 + (3 * m + 1) < 2 ^ 31 by omega), nI_clamp (show 78 + (3 * m + 2) < 2 ^ 31 by omega)]
    have r3 : upd (upd (upd S.1 (78 + (3 * m + 0)) x0) (78 + (3 * m + 1)) x1) (78 + (3 * m + 2)) (-1) 1 = S.1 1 := by
      rw [hd_upP _ _ (by omega), hd_upP _ _ (by omega), hd_upP _ _ (by omega)]
    rw [r3]
    have r4 : upd (upd (upd (upd S.1 (78 + (3 * m + 0)) x0) (78 + (3 * m + 1)) x1) (78 + (3 * m + 2)) (-1)) 1 (S.1 1 + 1) = siRow S.1 m x0 x1 := rfl
    rw [r4]
    have r5 : siRow S.1 m x0 x1 1 - 1 = nI m := by
      show S.1 1 + 1 - 1 = nI m
      rw [h.1.2.1, nI_1, nI_pred]
    rw [r5]
    refine ⟨Or.inl ⟨m, siRow S.1 m x0 x1, seats S, k', 0, ch', n, m + 1, by omega, rfl, by rw [s1]; rfl, siRow_wt (h.mono (Nat.le_succ K)) hm2 r0 r1, s3⟩, v1, s2, v1, vp_in_nI (by omega) (by omega), vp_in_nI (by omega) (by omega), vp_in_nI (by omega) (by omega), v1, v1, v1, trivial⟩
theorem sitter_out2 {K n m : Nat} (C : CV) (S : SV) (h : WT K n m S.1) {c : Nat} (hc : c ≤ 8) (hch : S.2.2.2.2.2.2.2.2.2.1 = nI c) {x0 : Int32} (r0 : 0 ≤ x0.toInt ∧ x0.toInt ≤ 9) (x1 : Int32) : Out K C S (fX5_letSitterCome C (tvOf S.1) x0 x1) (if fX6_in x1 1 200 = 0 then (0, (fX6_fails S 1).2) else ((fX6_comes (fX6_fails S 0).2 x0 x1).1, (fX6_comes (fX6_fails S 0).2 x0 x1).2)) 77 1 2 ∧ (if fX6_in x1 1 200 = 0 then True else gX6_comes (fX6_fails S 0).2 x0 x1 ∧ True) := by
  rcases in_split x1 1 200 with ⟨a1, a2⟩ | ⟨a1, a2, a3⟩
  · rw [a1, if_pos rfl, if_pos rfl, fX5_letSitterCome]
    refine ⟨Or.inr (Or.inr (Or.inl ⟨?_, by rw [fl1]⟩)), trivial⟩
    by_cases y : x1 < 1
    · rw [if_pos y]
    · rw [if_neg y, if_neg (fun z => by
        have q := a2.resolve_left y
        rw [Int32.lt_iff_toInt_lt] at q
        rw [Int32.le_iff_toInt_le] at z
        omega)]
  · rw [a1, if_neg one_ne, if_neg one_ne, fX5_letSitterCome, if_neg a2, if_pos (le_of_nlt a3)]
    obtain ⟨u1, u2⟩ := comes_out2 C S h hc hch r0 (nlt_rng (A := 1) (B := 200) (by decide) (by decide) a2 a3)
    exact ⟨u1, u2, trivial⟩
theorem cat_out2 {K n m : Nat} (C : CV) (S : SV) (h : WT K n m S.1) {c : Nat} (hc : c ≤ 8) (hch : S.2.2.2.2.2.2.2.2.2.1 = nI c) (x1 : Int32) : Out K C S (fX5_letSitterCome C (tvOf S.1) 0 x1) (fX6_cat S x1) 77 1 2 ∧ gX6_cat S x1 :=
  sitter_out2 C S h hc hch (x0 := 0) (by rw [z0]; omega) x1
theorem guest_out2 {K n m : Nat} (C : CV) (S : SV) (h : WT K n m S.1) {c : Nat} (hc : c ≤ 8) (hch : S.2.2.2.2.2.2.2.2.2.1 = nI c) (x0 x1 : Int32) : Out K C S (fX5_letGuestCome C (tvOf S.1) x0 x1) (fX6_guest S x0 x1) 77 1 2 ∧ gX6_guest S x0 x1 := by
  rcases in_split x0 1 9 with ⟨a1, a2⟩ | ⟨a1, a2, a3⟩
  · rw [fX6_guest, gX6_guest, a1, if_pos rfl, if_pos rfl, fX5_letGuestCome]
    refine ⟨Or.inr (Or.inr (Or.inl ⟨?_, by rw [fl1]⟩)), trivial⟩
    by_cases y : x0 < 1
    · rw [if_pos y]
    · rw [if_neg y, if_neg (fun z => by
        have q := a2.resolve_left y
        rw [Int32.lt_iff_toInt_lt] at q
        rw [Int32.le_iff_toInt_le] at z
        omega)]
  · rw [fX6_guest, gX6_guest, a1, if_neg one_ne, if_neg one_ne, fX5_letGuestCome, if_neg a2, if_pos (le_of_nlt a3)]
    have r := nlt_rng (A := 1) (B := 9) (by decide) (by decide) a2 a3
    exact sitter_out2 C S h hc hch (x0 := x0) (by omega) x1

theorem coin_out2 {K n m : Nat} (C : CV) (S : SV) (h : WT K n m S.1) {c : Nat} (hc : c ≤ 8) (hch : S.2.2.2.2.2.2.2.2.2.1 = nI c) (hK : K ≤ 10000) (x : Int32) : Out K C S (fX5_putCoin C (tvOf S.1) x) (fX6_coin S x) 1 77 2 ∧ gX6_coin S x := by
  have hn := h.1.2.2.1
  have hm := h.1.2.2.2.1
  have v2 : vp_in 2 114 := gHd (j := 2) rfl (by omega)
  rcases isStool_cases S h.1.1 hn x with ⟨i, hi, rfl, e1, e2⟩ | ⟨e1, e2⟩
  · rw [fX5_putCoin, fX6_coin, gX6_coin, e1, e2, if_neg one_ne, if_neg one_ne, if_neg one_ne]
    have p2 : (fX6_fails S 0).2.1 (2 : Int32).toNatClampNeg = S.1 2 := by rw [fl0, c2]; rfl
    have hp : (tvOf S.1).2.2.2.2.1 = S.1 2 := rfl
    rw [p2, hp]
    by_cases hz : S.1 2 = 0
    · have hz1 : ¬ 1 ≤ S.1 2 := by rw [hz]; decide
      rw [if_neg hz1, if_pos hz, if_pos hz]
      obtain ⟨u1, u2⟩ := under_r (fX6_fails S 0).2 (n := n) (by rw [fl0]; exact h.1.1) hn
      refine ⟨Or.inr (Or.inr (Or.inr ⟨5, _, rfl, ?_⟩)), gIsStool _ _, v2, u2, trivial⟩
      rw [u1, sum_c S.1 (w := 4) (y := 4) h.1.1 hn (by decide) rfl, fl0]
      rfl
    · have hz1 : 1 ≤ S.1 2 := by
        rw [Int32.le_iff_toInt_le, show (1 : Int32).toInt = 1 by decide]
        have := h.1.2.2.2.2.1
        have : (S.1 2).toInt ≠ 0 := fun z => hz (toI_eq (by rw [z, z0]))
        omega
      have hz2 : 1 ≤ (S.1 2).toInt := by rw [Int32.le_iff_toInt_le, show (1 : Int32).toInt = 1 by decide] at hz1; exact hz1
      rw [if_pos hz1, if_neg hz, if_neg hz]
      have o2 : fX6_of (fX6_fails S 0).2 (nI i) 2 = qs S.1 i 2 := by rw [fl0]; exact rO _ (w := 2) (y := 2) (by omega) (by decide) rfl
      have o4 : fX6_of (fX6_fails S 0).2 (nI i) 4 = qs S.1 i 4 := by rw [fl0]; exact rO _ (w := 4) (y := 4) (by omega) (by decide) rfl
      rw [o2, o4, rS S.1 (w := 2) (y := 2) (show i < 12 by omega) (by decide) rfl, rS S.1 (w := 4) (y := 4) (show i < 12 by omega) (by decide) rfl]
      by_cases hw : qs S.1 i 2 = 0
      · rw [if_pos hw, if_pos hw, if_pos hw]
        refine ⟨Or.inr (Or.inr (Or.inr ⟨6, _, rfl, ?_⟩)), gIsStool _ _, v2, gO _ (by omega) (by decide) rfl, gO _ (by omega) (by decide) rfl, trivial⟩
        rw [fl0]
        rfl
      · rw [if_neg hw, if_neg hw, if_neg hw]
        obtain ⟨k', ch', s1, s2, s3⟩ := kf_r S hc hch
        rw [s1, c2]
        have t1 : (sS11 0 (sS1 k' (sS9 ch' (sS12 0 S)))).1 = S.1 := rfl
        rw [t1]
        have a4 : fX6_of (sS0 (upd S.1 2 (S.1 2 - 1)) (sS11 0 (sS1 k' (sS9 ch' (sS12 0 S))))) (nI i) 4 = qs S.1 i 4 := (rO _ (w := 4) (y := 4) (by omega) (by decide) rfl).trans (qs_upH _ _ (by omega))
        rw [a4]
        obtain ⟨l1, l2⟩ := rL (sS0 (upd S.1 2 (S.1 2 - 1)) (sS11 0 (sS1 k' (sS9 ch' (sS12 0 S))))) (i := i) (w := 4) (y := 4) (qs S.1 i 4 + 1) (by omega) (by decide) rfl
        rw [l1]
        have a2 : fX6_of (sS0 (upd (upd S.1 2 (S.1 2 - 1)) (6 + (6 * i + 4)) (qs S.1 i 4 + 1)) (sS11 0 (sS1 k' (sS9 ch' (sS12 0 S))))) (nI i) 2 = qs S.1 i 2 := (rO _ (w := 2) (y := 2) (by omega) (by decide) rfl).trans (by
          show qs (upd (upd S.1 2 (S.1 2 - 1)) (6 + (6 * i + 4)) (qs S.1 i 4 + 1)) i 2 = _
          rw [qs_upS _ _ (by omega) (by omega), if_neg (by omega), qs_upH _ _ (by omega)])
        have t2 : sS0 (upd (sS0 (upd S.1 2 (S.1 2 - 1)) (sS11 0 (sS1 k' (sS9 ch' (sS12 0 S))))).1 (6 + (6 * i + 4)) (qs S.1 i 4 + 1)) (sS0 (upd S.1 2 (S.1 2 - 1)) (sS11 0 (sS1 k' (sS9 ch' (sS12 0 S))))) = sS0 (upd (upd S.1 2 (S.1 2 - 1)) (6 + (6 * i + 4)) (qs S.1 i 4 + 1)) (sS11 0 (sS1 k' (sS9 ch' (sS12 0 S)))) := rfl
        rw [t2, a2]
        obtain ⟨l3, l4⟩ := rL (sS0 (upd (upd S.1 2 (S.1 2 - 1)) (6 + (6 * i + 4)) (qs S.1 i 4 + 1)) (sS11 0 (sS1 k' (sS9 ch' (sS12 0 S))))) (i := i) (w := 2) (y := 2) (qs S.1 i 2 - 1) (by omega) (by decide) rfl
        rw [l3]
        have t3 : sS0 (upd (sS0 (upd (upd S.1 2 (S.1 2 - 1)) (6 + (6 * i + 4)) (qs S.1 i 4 + 1)) (sS11 0 (sS1 k' (sS9 ch' (sS12 0 S))))).1 (6 + (6 * i + 2)) (qs S.1 i 2 - 1)) (sS0 (upd (upd S.1 2 (S.1 2 - 1)) (6 + (6 * i + 4)) (qs S.1 i 4 + 1)) (sS11 0 (sS1 k' (sS9 ch' (sS12 0 S))))) = sS0 (upd (upd (upd S.1 2 (S.1 2 - 1)) (6 + (6 * i + 4)) (qs S.1 i 4 + 1)) (6 + (6 * i + 2)) (qs S.1 i 2 - 1)) (sS11 0 (sS1 k' (sS9 ch' (sS12 0 S)))) := rfl
        rw [t3]
        have a5 : fX6_of (sS0 (upd (upd (upd S.1 2 (S.1 2 - 1)) (6 + (6 * i + 4)) (qs S.1 i 4 + 1)) (6 + (6 * i + 2)) (qs S.1 i 2 - 1)) (sS11 0 (sS1 k' (sS9 ch' (sS12 0 S))))) (nI i) 2 = qs S.1 i 2 - 1 := (rO _ (w := 2) (y := 2) (by omega) (by decide) rfl).trans (by
          show qs (upd (upd (upd S.1 2 (S.1 2 - 1)) (6 + (6 * i + 4)) (qs S.1 i 4 + 1)) (6 + (6 * i + 2)) (qs S.1 i 2 - 1)) i 2 = _
          rw [qs_upS _ _ (by omega) (by omega), if_pos ⟨rfl, rfl⟩])
        rw [a5]
        obtain ⟨b0, b1, b2, b3, b4, b5⟩ := h.2.1 i hi
        have o1 : (1 : Int32).toInt = 1 := by decide
        have w0 : (qs S.1 i 2).toInt ≠ 0 := fun z => hw (toI_eq (by rw [z, z0]))
        have w1 : (qs S.1 i 2 - 1).toInt = (qs S.1 i 2).toInt - 1 := by rw [fb_subI (by rw [o1]; omega) (by rw [o1]; omega), o1]
        have w2 : (qs S.1 i 4 + 1).toInt = (qs S.1 i 4).toInt + 1 := by rw [fb_addI (by rw [o1]; omega) (by rw [o1]; omega), o1]
        have w3 : (S.1 2 - 1).toInt = (S.1 2).toInt - 1 := by rw [fb_subI (by rw [o1]; omega) (by rw [o1]; have := h.1.2.2.2.2.2; omega), o1]
        obtain ⟨v, hv1, hv2, hv3⟩ := of_rng (x := qs S.1 i 2 - 1) (a := 0) (b := 9) (by omega) (by omega) (by omega)
        refine ⟨Or.inl ⟨v, _, seats S, k', 0, ch', n, m, by omega, ?_, by rw [← hv1]; rfl, ?_, s3⟩, gIsStool _ _, v2, gO _ (by omega) (by decide) rfl, s2, v2, v2, gO _ (by omega) (by decide) rfl, l2, gO _ (by omega) (by decide) rfl, l4, gO _ (by omega) (by decide) rfl, trivial⟩
        · rw [fX3_addCoin, rS S.1 (w := 2) (y := 2) (show i < 12 by omega) (by decide) rfl, hp, tv_h2, rS _ (w := 4) (y := 4) (show i < 12 by omega) (by decide) rfl, qs_upH _ _ (by omega), tv_setS _ (w := 4) (y := 4) _ (show i < 12 by omega) (by decide) rfl, tv_setS _ (w := 2) (y := 2) _ (show i < 12 by omega) (by decide) rfl, hv1]
        · exact (((h.mono (Nat.le_succ K)).upH (c := 2) (by omega) (by omega) (fun _ => by rw [w3]; have := h.1.2.2.2.2.2; omega)).up hi (w := 4) (by omega) (by omega) (fun _ => by rw [w2]; omega)).up hi (w := 2) (by omega) (fun _ => by rw [w1]; omega) (by omega)
  · rw [fX5_putCoin, fX6_coin, gX6_coin, e1, e2, if_pos rfl, if_pos rfl, if_pos rfl]
    exact ⟨Or.inr (Or.inl ⟨rfl, by rw [fl1]⟩), gIsStool _ _, trivial⟩
theorem take_out2 {K n m : Nat} (C : CV) (S : SV) (h : WT K n m S.1) {c : Nat} (hc : c ≤ 8) (hch : S.2.2.2.2.2.2.2.2.2.1 = nI c) (hK : K ≤ 10000) (x : Int32) : Out K C S (fX5_takeCoinBack C (tvOf S.1) x) (fX6_takeCoin S x) 1 77 2 ∧ gX6_takeCoin S x := by
  have hn := h.1.2.2.1
  have hm := h.1.2.2.2.1
  have v2 : vp_in 2 114 := gHd (j := 2) rfl (by omega)
  rcases isStool_cases S h.1.1 hn x with ⟨i, hi, rfl, e1, e2⟩ | ⟨e1, e2⟩
  · have hi12 : i < 12 := by omega
    rw [fX5_takeCoinBack, fX6_takeCoin, gX6_takeCoin, e1, e2, if_neg one_ne, if_neg one_ne, if_neg one_ne]
    have o2 : fX6_of (fX6_fails S 0).2 (nI i) 2 = qs S.1 i 2 := by rw [fl0]; exact rO _ (w := 2) (y := 2) (by omega) (by decide) rfl
    have o4 : fX6_of (fX6_fails S 0).2 (nI i) 4 = qs S.1 i 4 := by rw [fl0]; exact rO _ (w := 4) (y := 4) (by omega) (by decide) rfl
    rw [o2, o4, rS S.1 (w := 2) (y := 2) hi12 (by decide) rfl, rS S.1 (w := 4) (y := 4) hi12 (by decide) rfl]
    by_cases hw : qs S.1 i 4 = 0
    · rw [if_pos hw, if_pos hw, if_pos hw]
      refine ⟨Or.inr (Or.inr (Or.inr ⟨7, _, rfl, ?_⟩)), gIsStool _ _, gO _ (by omega) (by decide) rfl, gO _ (by omega) (by decide) rfl, trivial⟩
      rw [fl0]
      rfl
    · rw [if_neg hw, if_neg hw, if_neg hw]
      obtain ⟨k', ch', s1, s2, s3⟩ := kf_r S hc hch
      have q : (fX6_keeps_g (fX6_fails S 0).2).1 = S.1 := by rw [s1]; rfl
      generalize fX6_keeps_g (fX6_fails S 0).2 = S2 at s1 s2 q ⊢
      rw [c2, q]
      have a4 : fX6_of (sS0 (upd S.1 2 (S.1 2 + 1)) S2) (nI i) 4 = qs S.1 i 4 := (rO _ (w := 4) (y := 4) hi12 (by decide) rfl).trans (qs_upH _ _ (by omega))
      have a2 : fX6_of (fX6_lays (sS0 (upd S.1 2 (S.1 2 + 1)) S2) (nI i) 4 (qs S.1 i 4 - 1)) (nI i) 2 = qs S.1 i 2 := by
        rw [one_lay _ _ (a := 4) (x := 4) hi12 (by decide) rfl]
        refine (rO _ (w := 2) (y := 2) hi12 (by decide) rfl).trans ?_
        show qs (upd (upd S.1 2 (S.1 2 + 1)) (6 + (6 * i + 4)) (qs S.1 i 4 - 1)) i 2 = _
        rw [qs_upS _ _ (by omega) (by omega), if_neg (by omega), qs_upH _ _ (by omega)]
      rw [a4, a2, min9]
      have a5 : fX6_of (fX6_lays (fX6_lays (sS0 (upd S.1 2 (S.1 2 + 1)) S2) (nI i) 4 (qs S.1 i 4 - 1)) (nI i) 2 (if qs S.1 i 2 + 1 < 9 then qs S.1 i 2 + 1 else 9)) (nI i) 2 = (if qs S.1 i 2 + 1 < 9 then qs S.1 i 2 + 1 else 9) := by
        rw [two_lays _ _ (a := 4) (b := 2) (x := 4) (y := 2) hi12 (by omega) (by decide) rfl rfl]
        refine (rO _ (w := 2) (y := 2) hi12 (by decide) rfl).trans ?_
        show qs (upd (upd (upd S.1 2 (S.1 2 + 1)) (6 + (6 * i + 4)) (qs S.1 i 4 - 1)) (6 + (6 * i + 2)) _) i 2 = _
        rw [qs_upS _ _ (by omega) (by omega), if_pos ⟨rfl, rfl⟩]
      rw [a5]
      obtain ⟨b0, b1, b2, b3, b4, b5⟩ := h.2.1 i hi
      have w0 : (qs S.1 i 4).toInt ≠ 0 := fun z => hw (toI_eq (by rw [z, z0]))
      have w1 : (qs S.1 i 2 + 1).toInt = (qs S.1 i 2).toInt + 1 := addI rfl o1I (by omega) (by omega)
      have w2 : (qs S.1 i 4 - 1).toInt = (qs S.1 i 4).toInt - 1 := subI rfl o1I (by omega) (by omega)
      have hp0 := h.1.2.2.2.2.1
      have hp1 := h.1.2.2.2.2.2
      have w3 : (S.1 2 + 1).toInt = (S.1 2).toInt + 1 := addI rfl o1I (by omega) (by omega)
      have w4 := min9I (x := qs S.1 i 2 + 1) (by omega)
      obtain ⟨v, hv1, hv2, hv3⟩ := of_rng w4.1 (by omega) w4.2
      refine ⟨Or.inl ⟨v, upd (upd (upd S.1 2 (S.1 2 + 1)) (6 + (6 * i + 4)) (qs S.1 i 4 - 1)) (6 + (6 * i + 2)) (if qs S.1 i 2 + 1 < 9 then qs S.1 i 2 + 1 else 9), seats S, k', 0, ch', n, m, by omega, ?_, ?_, ?_, s3⟩, gIsStool _ _, gO _ (by omega) (by decide) rfl, s2, v2, v2, gO _ (by omega) (by decide) rfl, (rL _ _ hi12 (by decide) rfl).2, gO _ (by omega) (by decide) rfl, (rL _ _ hi12 (by decide) rfl).2, gO _ (by omega) (by decide) rfl, trivial⟩
      · have hp : (tvOf S.1).2.2.2.2.1 = S.1 2 := rfl
        rw [fX3_removeCoin, rS S.1 (w := 2) (y := 2) hi12 (by decide) rfl, hp, tv_h2, rS _ (w := 4) (y := 4) hi12 (by decide) rfl, qs_upH _ _ (by omega), tv_setS _ (w := 4) (y := 4) _ hi12 (by decide) rfl, tv_setS _ (w := 2) (y := 2) _ hi12 (by decide) rfl, hv1]
      · rw [two_lays _ _ (a := 4) (b := 2) (x := 4) (y := 2) hi12 (by omega) (by decide) rfl rfl, ← hv1, s1]
        rfl
      · exact (((h.mono (Nat.le_succ K)).upH (c := 2) (by omega) (by omega) (fun _ => by rw [w3]; omega)).up hi (w := 4) (by omega) (by omega) (fun _ => by rw [w2]; omega)).up hi (w := 2) (by omega) (fun _ => w4) (by omega)
  · rw [fX5_takeCoinBack, fX6_takeCoin, gX6_takeCoin, e1, e2, if_pos rfl, if_pos rfl, if_pos rfl]
    exact ⟨Or.inr (Or.inl ⟨rfl, by rw [fl1]⟩), gIsStool _ _, trivial⟩
theorem getUp_out2 {K n m : Nat} (C : CV) (S : SV) (h : WT K n m S.1) {c : Nat} (hc : c ≤ 8) (hch : S.2.2.2.2.2.2.2.2.2.1 = nI c) (x : Int32) : Out K C S (fX5_letGetUp C (tvOf S.1) x) (fX6_getUp S x) 1 77 2 ∧ gX6_getUp S x := by
  have hn := h.1.2.2.1
  have hm := h.1.2.2.2.1
  rcases isSitter_cases S h.1.2.1 hm x with ⟨k, hk, rfl, e1, e2⟩ | ⟨e1, e2⟩
  · rw [fX5_letGetUp, fX6_getUp, gX6_getUp, e1, e2, if_neg one_ne, if_neg one_ne, if_neg one_ne]
    have b2 : fX6_by (fX6_fails S 0).2 (nI k) 2 = qp S.1 k 2 := by rw [fl0]; exact rB _ (w := 2) (y := 2) (by omega) (by decide) rfl
    rw [b2, sits_c hm h.se hk]
    have gb : gX6_by (fX6_fails S 0).2 (nI k) 2 := gB _ (by omega) (by decide) rfl
    rcases h.sit hk with e | ⟨i, hi, e, -, -⟩
    · rw [e, if_pos rfl, if_pos rfl, if_neg m1_nle, if_neg m1_nle]
      refine ⟨Or.inr (Or.inr (Or.inr ⟨4, nI k, rfl, ?_⟩)), gIsSitter _ _, gb, trivial⟩
      rw [fl0]; rfl
    · have n1 : ¬ qp S.1 k 2 = -1 := by rw [e]; exact nI_m1 (by omega)
      have n2 : (0 : Int32) ≤ qp S.1 k 2 := by rw [e]; exact nI_pos' (by omega)
      rw [if_neg n1, if_neg one_ne, if_pos n2, if_pos n2]
      obtain ⟨g1, l1, l2, l3, l4⟩ := leave_c h hk
      obtain ⟨k', ch', s1, s2, s3⟩ := kf_r S hc hch
      have q : (fX6_keeps_g (fX6_fails S 0).2).1 = S.1 := by rw [s1]; rfl
      generalize fX6_keeps_g (fX6_fails S 0).2 = S2 at s1 s2 q ⊢
      have t := tk_up h hk l2 l3 l4 (s := fun x => if x = k then -1 else qp S.1 x 2) (fun _ _ => rfl)
      obtain ⟨s', f1, f2, f3, f4, f5⟩ := one_r S2 (K := K) (n := n) (m := m) (by rw [q]; exact h) hk (-1) (row := g1) (Or.inl rfl) (by rw [q]; exact t)
      rw [f1, l1]
      refine ⟨Or.inl ⟨i, g1, s', k', 0, ch', n, m, by omega, by rw [e], by rw [e, s1], ?_, s3⟩, gIsSitter _ _, gb, s2, f2, vp_in_nI (by omega) (by omega), f3, trivial⟩
      rw [q] at f5
      refine (t.wt h (fun x hx => ?_) (fun x j hx hj z => ?_)).mono (Nat.le_succ K)
      · show (if x = k then (-1 : Int32) else qp S.1 x 2) = -1 ∨ _
        by_cases hxk : x = k
        · exact Or.inl (if_pos hxk)
        · simp only [if_neg hxk]; exact h.se x hx
      · replace z : (if x = k then (-1 : Int32) else qp S.1 x 2) = nI j := z
        by_cases hxk : x = k
        · rw [if_pos hxk] at z; exact absurd z.symm (nI_m1 (by omega))
        · rw [if_neg hxk] at z
          rcases h.sit hx with y | ⟨j', hj', y, -, y2⟩
          · rw [y] at z; exact absurd z.symm (nI_m1 (by omega))
          · rw [y] at z
            rw [← nI_inj (by omega) (by omega) z]; exact y2
  · rw [fX5_letGetUp, fX6_getUp, gX6_getUp, e1, e2, if_pos rfl, if_pos rfl, if_pos rfl]
    exact ⟨Or.inr (Or.inl ⟨rfl, by rw [fl1]⟩), gIsSitter _ _, trivial⟩
theorem sit_out2 {K n m : Nat} (C : CV) (S : SV) (h : WT K n m S.1) {c : Nat} (hc : c ≤ 8) (hch : S.2.2.2.2.2.2.2.2.2.1 = nI c) (x y : Int32) : Out K C S (fX5_seat C (tvOf S.1) x y) (fX6_sit S x y) 1 77 2 ∧ gX6_sit S x y := by
  have hn := h.1.2.2.1
  have hm := h.1.2.2.2.1
  rcases isSitter_cases S h.1.2.1 hm x with ⟨k, hk, rfl, e1, e2⟩ | ⟨e1, e2⟩
  · rcases isStool_cases S h.1.1 hn y with ⟨i, hi, rfl, e3, e4⟩ | ⟨e3, e4⟩
    · rw [fX5_seat, fX6_sit, gX6_sit, e1, e2, e3, e4, if_neg one_ne, if_neg one_ne, if_neg one_ne, if_neg one_ne, if_neg one_ne, if_neg one_ne]
      have b2 : fX6_by (fX6_fails S 0).2 (nI k) 2 = qp S.1 k 2 := by rw [fl0]; exact rB _ (w := 2) (y := 2) (by omega) (by decide) rfl
      have o5 : fX6_of (fX6_fails S 0).2 (nI i) 5 = qs S.1 i 5 := by rw [fl0]; exact rO _ (w := 5) (y := 5) (by omega) (by decide) rfl
      have gb : gX6_by (fX6_fails S 0).2 (nI k) 2 := gB _ (by omega) (by decide) rfl
      have go : gX6_of (fX6_fails S 0).2 (nI i) 5 := gO _ (by omega) (by decide) rfl
      rw [b2, o5, rS S.1 (w := 5) (y := 5) (show i < 12 by omega) (by decide) rfl]
      by_cases hs : qp S.1 k 2 = nI i
      · have hw := h.whoOf hk hi hs
        rw [if_pos hw, if_pos hs, if_pos hs]
        refine ⟨Or.inr (Or.inr (Or.inr ⟨4, nI k, rfl, ?_⟩)), gIsSitter _ _, gIsStool _ _, gb, trivial⟩
        rw [fl0]; rfl
      · have hw : ¬ qs S.1 i 5 = nI k := fun z => hs (h.sitOf hk hi z)
        rw [if_neg hw, if_neg hs, if_neg hs]
        rcases h.who hi with w | ⟨o, ho, w, -⟩
        · rw [w, if_pos rfl, if_pos m1_lt, if_pos m1_lt]
          obtain ⟨m1, m2⟩ := may_r (fX6_fails S 0).2 (n := n) (m := m) hn hm hk hi
          have m1' : fX6_maySit (fX6_fails S 0).2 (nI k) (nI i) = (if ¬ qp S.1 k 0 = 0 ∨ qs S.1 i 3 = 0 then 1 else 0) := by rw [m1, fl0]; rfl
          rw [m1', may_c h hk hi]
          by_cases hmay : ¬ qp S.1 k 0 = 0 ∨ qs S.1 i 3 = 0
          · rw [if_pos hmay, if_neg one_ne, if_neg one_ne, if_neg one_ne]
            obtain ⟨g1, l1, l2, l3, l4⟩ := leave_c h hk
            obtain ⟨k', ch', s1, s2, s3⟩ := kf_r S hc hch
            have q : (fX6_keeps_g (fX6_fails S 0).2).1 = S.1 := by rw [s1]; rfl
            generalize fX6_keeps_g (fX6_fails S 0).2 = S2 at s1 s2 q ⊢
            have t := tk_sit h hk hi w l3 l4 (s := fun x => if x = k then nI i else qp S.1 x 2) (fun _ _ => rfl)
            obtain ⟨s', f1, f2, f3, f4, f5⟩ := one_r S2 (K := K) (n := n) (m := m) (by rw [q]; exact h) hk (nI i) (row := upd (upd g1 (78 + (3 * k + 2)) (nI i)) (6 + (6 * i + 5)) (nI k)) (Or.inr ⟨i, hi, rfl, by rw [q]; exact w⟩) (by rw [q]; exact t)
            rw [q] at f5
            have hwt : WT K n m (upd (upd g1 (78 + (3 * k + 2)) (nI i)) (6 + (6 * i + 5)) (nI k)) := t.wt h (fun x hx => by
                show (if x = k then nI i else qp S.1 x 2) = -1 ∨ ∃ j, j < n ∧ (if x = k then nI i else qp S.1 x 2) = nI j
                by_cases hxk : x = k
                · rw [if_pos hxk]; exact Or.inr ⟨i, hi, rfl⟩
                · rw [if_neg hxk]; exact h.se x hx) (fun x j hx hj z => by
                replace z : (if x = k then nI i else qp S.1 x 2) = nI j := z
                by_cases hxk : x = k
                · rw [if_pos hxk] at z
                  have := nI_inj (by omega) (by omega) z
                  subst this
                  intro z0
                  rw [hxk] at z0
                  exact hmay.resolve_left (fun z => z z0)
                · rw [if_neg hxk] at z
                  rcases h.sit hx with y | ⟨j', hj', y, -, y2⟩
                  · rw [y] at z; exact absurd z.symm (nI_m1 (by omega))
                  · rw [y] at z
                    rw [← nI_inj (by omega) (by omega) z]; exact y2)
            rw [f1, l1, take_c g1 (show k < 12 by omega) (show i < 12 by omega), cw_c hwt hk]
            obtain ⟨w1, w2⟩ := cw_r (sS0 (upd (upd g1 (78 + (3 * k + 2)) (nI i)) (6 + (6 * i + 5)) (nI k)) (sS6 s' S2)) (K := K) (n := n) (m := m) hwt f4 hk
            have ec : sf (fun o => ck (sS0 (upd (upd g1 (78 + (3 * k + 2)) (nI i)) (6 + (6 * i + 5)) (nI k)) (sS6 s' S2)).1 (seats (sS0 (upd (upd g1 (78 + (3 * k + 2)) (nI i)) (6 + (6 * i + 5)) (nI k)) (sS6 s' S2))) k o) 0 m = sf (fun o => ck (upd (upd g1 (78 + (3 * k + 2)) (nI i)) (6 + (6 * i + 5)) (nI k)) (fun x => qp (upd (upd g1 (78 + (3 * k + 2)) (nI i)) (6 + (6 * i + 5)) (nI k)) x 2) k o) 0 m :=
              sf_congr (fun o _ ho => ck_cong (n := n) (fun _ _ => rfl) (fun _ _ => rfl) ((f5 k hk).trans (t.seat hk).symm) ((f5 o (by omega)).trans (t.seat (by omega)).symm) (f4 k hk) (f4 o (by omega)) hn)
            rw [ec] at w1
            rw [w1]
            have hb := sf_bound (w := fun o => ck (upd (upd g1 (78 + (3 * k + 2)) (nI i)) (6 + (6 * i + 5)) (nI k)) (fun x => qp (upd (upd g1 (78 + (3 * k + 2)) (nI i)) (6 + (6 * i + 5)) (nI k)) x 2) k o) 1 (c := m) (k := 0) (fun o _ _ => ck_le _ _ _ _)
            refine ⟨Or.inl ⟨_, _, s', k', 0, ch', n, m, Nat.le_trans hb (by omega), rfl, by rw [s1], hwt.mono (Nat.le_succ K), s3⟩, gIsSitter _ _, gIsStool _ _, gb, go, m2, s2, f2, vp_in_nI (by omega) (by omega), f3, w2, trivial⟩
          · rw [if_neg hmay, if_pos rfl, if_pos rfl, if_pos rfl]
            refine ⟨Or.inr (Or.inr (Or.inr ⟨3, nI i, rfl, ?_⟩)), gIsSitter _ _, gIsStool _ _, gb, go, m2, trivial⟩
            rw [fl0]; rfl
        · have n1 : ¬ qs S.1 i 5 = -1 := by rw [w]; exact nI_m1 (by omega)
          have n2 : ¬ qs S.1 i 5 < 0 := by rw [w]; exact nI_pos (by omega)
          rw [if_neg n1, if_neg n2, if_neg n2]
          refine ⟨Or.inr (Or.inr (Or.inr ⟨2, qs S.1 i 5, rfl, ?_⟩)), gIsSitter _ _, gIsStool _ _, gb, go, go, trivial⟩
          rw [fl0]; rfl
    · rw [fX5_seat, fX6_sit, gX6_sit, e1, e2, e3, e4, if_neg one_ne, if_neg one_ne, if_neg one_ne, if_pos rfl, if_pos rfl, if_pos rfl]
      exact ⟨Or.inr (Or.inl ⟨rfl, by rw [fl1]⟩), gIsSitter _ _, gIsStool _ _, trivial⟩
  · rw [fX5_seat, fX6_sit, gX6_sit, e1, e2, if_pos rfl, if_pos rfl, if_pos rfl]
    exact ⟨Or.inr (Or.inl ⟨rfl, by rw [fl1]⟩), gIsSitter _ _, trivial⟩
