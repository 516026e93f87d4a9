/-! Texts: one order -/
def LT (L : Int32) (nn : Nat) : Prop := (L = 98 ∧ nn = 2) ∨ (L = 99 ∧ nn = 1) ∨ (L = 103 ∧ nn = 2) ∨ (L = 107 ∧ nn = 1) ∨ (L = 110 ∧ nn = 0) ∨ (L = 112 ∧ nn = 2) ∨ (L = 115 ∧ nn = 4) ∨ (L = 117 ∧ nn = 1)
/-- order j is told alike in both rows -/
def OE (r t : Nat → Int32) (j : Nat) : Prop := ∃ L nn, LT L nn ∧ r (5 * j) = L ∧ t (5 * j) = L ∧ ∀ w, 1 ≤ w → w ≤ nn → r (5 * j + w) = t (5 * j + w)
def LOW (r r' : Nat → Int32) (j : Nat) : Prop := ∀ q, q < 5 * j → r' q = r q
theorem LOW.up {r r' : Nat → Int32} {j q : Nat} (v : Int32) (h : LOW r r' j) (hq : 5 * j ≤ q) : LOW r (upd r' q v) j := fun z hz => by
  rw [upd_ne _ _ (by omega)]; exact h z hz
theorem LOW.rfl' (r : Nat → Int32) (j : Nat) : LOW r r j := fun _ _ => rfl
/-- what an order comes to on both sides -/
def PO (X0 : XV) (S0 : SV) (len p j : Nat) (r t : Nat → Int32) (A : Int32 × XV) (B : Int32 × SV) : Prop :=
  (∃ p' r' t', p < p' ∧ p' ≤ len ∧ A = (1, cX X0 r' p' j) ∧ B = (1, cS S0 t' p' j) ∧ OE r' t' j ∧ LOW r r' j ∧ LOW t t' j) ∨
  (∃ p' r' t', p' ≤ len ∧ A = (0, cX X0 r' p' j) ∧ B = (0, cS S0 t' p' j))
theorem n5 {j : Nat} (hj : j < 1000) : (5 : Int32) * nI j = nI (5 * j) := by
  rw [show (5 : Int32) = nI 5 from rfl, nI_mul (by omega) (by omega) (by omega)]
theorem nI_2 (a : Nat) : nI a + 2 = nI (a + 2) := nI_add a 2
theorem nI_3 (a : Nat) : nI a + 3 = nI (a + 3) := nI_add a 3
theorem nI_4 (a : Nat) : nI a + 4 = nI (a + 4) := nI_add a 4
/-- a number, a sign, a number -/
theorem two_num {X0 : XV} {S0 : SV} {len : Nat} (h : TX X0 S0 len) (r t : Nat → Int32) {p j M1 M2 : Nat} {z1 z2 c : Int32} (hp : p ≤ len) (hj : j < 30) (hz1 : z1 = nI M1) (hz2 : z2 = nI M2) (h11 : 1 ≤ M1) (h13 : M1 ≤ 3) (h21 : 1 ≤ M2) (h23 : M2 ≤ 3) (hc : c ≠ -1) (X : XV) (S : SV) (hX : X = cX X0 r p j) (hS : S = cS S0 t p j) :
    (gX6_figures S (nI (5 * j + 1)) z1 ∧ (if (fX6_figures S (nI (5 * j + 1)) z1).1 = 0 then True else ((gX6_skips (fX6_figures S (nI (5 * j + 1)) z1).2 c) ∧ (if (fX6_skips (fX6_figures S (nI (5 * j + 1)) z1).2 c).1 = 0 then True else ((gX6_figures (fX6_skips (fX6_figures S (nI (5 * j + 1)) z1).2 c).2 (nI (5 * j + 2)) z2) ∧ True))))) ∧
    ((∃ p' v u, p < p' ∧ p' ≤ len ∧ (if (fX4_readNumber X 1 z1).1 = 0 then (0, (fX4_readNumber X 1 z1).2) else (if (fX4_readSign (fX4_readNumber X 1 z1).2 c).1 = 0 then (0, (fX4_readSign (fX4_readNumber X 1 z1).2 c).2) else (if (fX4_readNumber (fX4_readSign (fX4_readNumber X 1 z1).2 c).2 2 z2).1 = 0 then (0, (fX4_readNumber (fX4_readSign (fX4_readNumber X 1 z1).2 c).2 2 z2).2) else (1, (fX4_readNumber (fX4_readSign (fX4_readNumber X 1 z1).2 c).2 2 z2).2)))) = ((1 : Int32), cX X0 (upd (upd r (5 * j + 1) v) (5 * j + 2) u) p' j) ∧
        (if (fX6_figures S (nI (5 * j + 1)) z1).1 = 0 then (0, (fX6_figures S (nI (5 * j + 1)) z1).2) else (if (fX6_skips (fX6_figures S (nI (5 * j + 1)) z1).2 c).1 = 0 then (0, (fX6_skips (fX6_figures S (nI (5 * j + 1)) z1).2 c).2) else (if (fX6_figures (fX6_skips (fX6_figures S (nI (5 * j + 1)) z1).2 c).2 (nI (5 * j + 2)) z2).1 = 0 then (0, (fX6_figures (fX6_skips (fX6_figures S (nI (5 * j + 1)) z1).2 c).2 (nI (5 * j + 2)) z2).2) else (1, (fX6_figures (fX6_skips (fX6_figures S (nI (5 * j + 1)) z1).2 c).2 (nI (5 * j + 2)) z2).2)))) = ((1 : Int32), cS S0 (upd (upd t (5 * j + 1) v) (5 * j + 2) u) p' j)) ∨
     (∃ p' r' t', p' ≤ len ∧ (if (fX4_readNumber X 1 z1).1 = 0 then (0, (fX4_readNumber X 1 z1).2) else (if (fX4_readSign (fX4_readNumber X 1 z1).2 c).1 = 0 then (0, (fX4_readSign (fX4_readNumber X 1 z1).2 c).2) else (if (fX4_readNumber (fX4_readSign (fX4_readNumber X 1 z1).2 c).2 2 z2).1 = 0 then (0, (fX4_readNumber (fX4_readSign (fX4_readNumber X 1 z1).2 c).2 2 z2).2) else (1, (fX4_readNumber (fX4_readSign (fX4_readNumber X 1 z1).2 c).2 2 z2).2)))) = ((0 : Int32), cX X0 r' p' j) ∧
        (if (fX6_figures S (nI (5 * j + 1)) z1).1 = 0 then (0, (fX6_figures S (nI (5 * j + 1)) z1).2) else (if (fX6_skips (fX6_figures S (nI (5 * j + 1)) z1).2 c).1 = 0 then (0, (fX6_skips (fX6_figures S (nI (5 * j + 1)) z1).2 c).2) else (if (fX6_figures (fX6_skips (fX6_figures S (nI (5 * j + 1)) z1).2 c).2 (nI (5 * j + 2)) z2).1 = 0 then (0, (fX6_figures (fX6_skips (fX6_figures S (nI (5 * j + 1)) z1).2 c).2 (nI (5 * j + 2)) z2).2) else (1, (fX6_figures (fX6_skips (fX6_figures S (nI (5 * j + 1)) z1).2 c).2 (nI (5 * j + 2)) z2).2)))) = ((0 : Int32), cS S0 t' p' j))) := by
  subst hX; subst hS
  obtain ⟨g1, ⟨p1, v, q1, q2, e1, e2⟩ | ⟨e1, e2⟩⟩ := num_eq h r t (w := 1) (x := 1) (y := nI (5 * j + 1)) hp hj (by omega) rfl rfl hz1 h11 h13
  · rw [e1, e2]
    dsimp only
    rw [if_neg one_ne, if_neg one_ne, if_neg one_ne]
    obtain ⟨g2, ⟨d1, d2, d3⟩ | ⟨d1, d2, d3⟩⟩ := skip_eq h (upd r (5 * j + 1) v) (upd t (5 * j + 1) v) (j := j) q2 c
    · have hlt := ch_lt d1 hc
      rw [d2, d3]
      dsimp only
      rw [if_neg one_ne, if_neg one_ne, if_neg one_ne]
      obtain ⟨g3, ⟨p3, u, q5, q6, e3, e4⟩ | ⟨e3, e4⟩⟩ := num_eq h (upd r (5 * j + 1) v) (upd t (5 * j + 1) v) (p := p1 + 1) (w := 2) (x := 2) (y := nI (5 * j + 2)) (by omega) hj (by omega) rfl rfl hz2 h21 h23
      · rw [e3, e4]
        dsimp only
        rw [if_neg one_ne, if_neg one_ne]
        exact ⟨⟨g1, g2, g3, trivial⟩, Or.inl ⟨p3, v, u, by omega, q6, rfl, rfl⟩⟩
      · rw [e3, e4]
        dsimp only
        rw [if_pos rfl, if_pos rfl]
        exact ⟨⟨g1, g2, g3, trivial⟩, Or.inr ⟨p1 + 1, _, _, by omega, rfl, rfl⟩⟩
    · rw [d2, d3]
      dsimp only
      rw [if_pos rfl, if_pos rfl, if_pos rfl]
      exact ⟨⟨g1, g2, trivial⟩, Or.inr ⟨p1, _, _, q2, rfl, rfl⟩⟩
  · rw [e1, e2]
    dsimp only
    rw [if_pos rfl, if_pos rfl, if_pos rfl]
    exact ⟨⟨g1, trivial⟩, Or.inr ⟨p, _, _, hp, rfl, rfl⟩⟩
theorem oe2 {r t : Nat → Int32} {j : Nat} {L : Int32} (hL : LT L 2) (v u : Int32) : OE (upd (upd (upd r (5 * j) L) (5 * j + 1) v) (5 * j + 2) u) (upd (upd (upd t (5 * j) L) (5 * j + 1) v) (5 * j + 2) u) j := by
  refine ⟨L, 2, hL, by rw [upd_ne _ _ (by omega), upd_ne _ _ (by omega), upd_same], by rw [upd_ne _ _ (by omega), upd_ne _ _ (by omega), upd_same], fun w h1 h2 => ?_⟩
  by_cases w2 : w = 2
  · rw [w2, upd_same, upd_same]
  · have w1 : w = 1 := by omega
    rw [w1, upd_ne _ _ (by omega), upd_same, upd_ne _ _ (by omega), upd_same]
theorem oe1 {r t : Nat → Int32} {j : Nat} {L : Int32} (hL : LT L 1) (v : Int32) : OE (upd (upd r (5 * j) L) (5 * j + 1) v) (upd (upd t (5 * j) L) (5 * j + 1) v) j := by
  refine ⟨L, 1, hL, by rw [upd_ne _ _ (by omega), upd_same], by rw [upd_ne _ _ (by omega), upd_same], fun w h1 h2 => ?_⟩
  have w1 : w = 1 := by omega
  rw [w1, upd_same, upd_same]
theorem oe0 {r t : Nat → Int32} {j : Nat} {L : Int32} (hL : LT L 0) : OE (upd r (5 * j) L) (upd t (5 * j) L) j :=
  ⟨L, 0, hL, by rw [upd_same], by rw [upd_same], fun w h1 h2 => by omega⟩
theorem q4 (b : Nat → Int32) (q : Nat) (v u y z : Int32) : upd (upd (upd (upd b (q + 1) v) (q + 2) u) (q + 3) y) (q + 4) z (q + 1) = v ∧ upd (upd (upd (upd b (q + 1) v) (q + 2) u) (q + 3) y) (q + 4) z (q + 2) = u ∧ upd (upd (upd (upd b (q + 1) v) (q + 2) u) (q + 3) y) (q + 4) z (q + 3) = y ∧ upd (upd (upd (upd b (q + 1) v) (q + 2) u) (q + 3) y) (q + 4) z (q + 4) = z ∧ upd (upd (upd (upd b (q + 1) v) (q + 2) u) (q + 3) y) (q + 4) z q = b q := by
  refine ⟨?_, ?_, ?_, ?_, ?_⟩
  · rw [upd_ne _ _ (by omega), upd_ne _ _ (by omega), upd_ne _ _ (by omega), upd_same]
  · rw [upd_ne _ _ (by omega), upd_ne _ _ (by omega), upd_same]
  · rw [upd_ne _ _ (by omega), upd_same]
  · rw [upd_same]
  · rw [upd_ne _ _ (by omega), upd_ne _ _ (by omega), upd_ne _ _ (by omega), upd_ne _ _ (by omega)]
theorem oe4 {r t : Nat → Int32} {j : Nat} {L : Int32} (hL : LT L 4) (v u y z : Int32) : OE (upd (upd (upd (upd (upd r (5 * j) L) (5 * j + 1) v) (5 * j + 2) u) (5 * j + 3) y) (5 * j + 4) z) (upd (upd (upd (upd (upd t (5 * j) L) (5 * j + 1) v) (5 * j + 2) u) (5 * j + 3) y) (5 * j + 4) z) j := by
  obtain ⟨a1, a2, a3, a4, a5⟩ := q4 (upd r (5 * j) L) (5 * j) v u y z
  obtain ⟨b1, b2, b3, b4, b5⟩ := q4 (upd t (5 * j) L) (5 * j) v u y z
  refine ⟨L, 4, hL, a5.trans (upd_same _ _ _), b5.trans (upd_same _ _ _), fun w h1 h2 => ?_⟩
  rcases (show w = 1 ∨ w = 2 ∨ w = 3 ∨ w = 4 by omega) with rfl | rfl | rfl | rfl
  · exact a1.trans b1.symm
  · exact a2.trans b2.symm
  · exact a3.trans b3.symm
  · exact a4.trans b4.symm
/-- what stands behind the letter of a stool -/
theorem stool_num {X0 : XV} {S0 : SV} {len : Nat} (h : TX X0 S0 len) (r t : Nat → Int32) {p j : Nat} (hp : p ≤ len) (hj : j < 30) (X : XV) (hX : X = cX X0 r p j) :
    gX6_stoolHere (cS S0 t p j) (nI (5 * j)) ∧
    ((∃ p' v u y z, p < p' ∧ p' ≤ len ∧ (if (fX4_readNumber X 1 2).1 = 0 then (0, (fX4_readNumber X 1 2).2) else (if (fX4_readSign (fX4_readNumber X 1 2).2 47).1 = 0 then (0, (fX4_readSign (fX4_readNumber X 1 2).2 47).2) else (if (fX4_readNumber (fX4_readSign (fX4_readNumber X 1 2).2 47).2 2 1).1 = 0 then (0, (fX4_readNumber (fX4_readSign (fX4_readNumber X 1 2).2 47).2 2 1).2) else (if (fX4_readNumber (fX4_readNumber (fX4_readSign (fX4_readNumber X 1 2).2 47).2 2 1).2 3 1).1 = 0 then (0, (fX4_readNumber (fX4_readNumber (fX4_readSign (fX4_readNumber X 1 2).2 47).2 2 1).2 3 1).2) else (if (fX4_readBar (fX4_readNumber (fX4_readNumber (fX4_readSign (fX4_readNumber X 1 2).2 47).2 2 1).2 3 1).2).1 = 0 then (0, (fX4_readBar (fX4_readNumber (fX4_readNumber (fX4_readSign (fX4_readNumber X 1 2).2 47).2 2 1).2 3 1).2).2) else (1, (fX4_readBar (fX4_readNumber (fX4_readNumber (fX4_readSign (fX4_readNumber X 1 2).2 47).2 2 1).2 3 1).2).2)))))) = ((1 : Int32), cX X0 (upd (upd (upd (upd r (5 * j + 1) v) (5 * j + 2) u) (5 * j + 3) y) (5 * j + 4) z) p' j) ∧
        fX6_stoolHere (cS S0 t p j) (nI (5 * j)) = ((1 : Int32), cS S0 (upd (upd (upd (upd t (5 * j + 1) v) (5 * j + 2) u) (5 * j + 3) y) (5 * j + 4) z) p' j)) ∨
     (∃ p' r' t', p' ≤ len ∧ (if (fX4_readNumber X 1 2).1 = 0 then (0, (fX4_readNumber X 1 2).2) else (if (fX4_readSign (fX4_readNumber X 1 2).2 47).1 = 0 then (0, (fX4_readSign (fX4_readNumber X 1 2).2 47).2) else (if (fX4_readNumber (fX4_readSign (fX4_readNumber X 1 2).2 47).2 2 1).1 = 0 then (0, (fX4_readNumber (fX4_readSign (fX4_readNumber X 1 2).2 47).2 2 1).2) else (if (fX4_readNumber (fX4_readNumber (fX4_readSign (fX4_readNumber X 1 2).2 47).2 2 1).2 3 1).1 = 0 then (0, (fX4_readNumber (fX4_readNumber (fX4_readSign (fX4_readNumber X 1 2).2 47).2 2 1).2 3 1).2) else (if (fX4_readBar (fX4_readNumber (fX4_readNumber (fX4_readSign (fX4_readNumber X 1 2).2 47).2 2 1).2 3 1).2).1 = 0 then (0, (fX4_readBar (fX4_readNumber (fX4_readNumber (fX4_readSign (fX4_readNumber X 1 2).2 47).2 2 1).2 3 1).2).2) else (1, (fX4_readBar (fX4_readNumber (fX4_readNumber (fX4_readSign (fX4_readNumber X 1 2).2 47).2 2 1).2 3 1).2).2)))))) = ((0 : Int32), cX X0 r' p' j) ∧
        fX6_stoolHere (cS S0 t p j) (nI (5 * j)) = ((0 : Int32), cS S0 t' p' j))) := by
  subst hX
  simp only [fX6_stoolHere, gX6_stoolHere, nI_1, nI_2, nI_3, nI_4]
  obtain ⟨g1, ⟨p1, v, q1, q2, e1, e2⟩ | ⟨e1, e2⟩⟩ := num_eq h r t (w := 1) (x := 1) (y := nI (5 * j + 1)) (z := 2) (M := 2) hp hj (by omega) rfl rfl rfl (by omega) (by omega)
  · simp only [e1, e2, one_ne, ↓reduceIte]
    obtain ⟨g2, ⟨d1, d2, d3⟩ | ⟨d1, d2, d3⟩⟩ := skip_eq h (upd r (5 * j + 1) v) (upd t (5 * j + 1) v) (j := j) q2 47
    · have hlt := ch_lt d1 (by decide)
      simp only [d2, d3, one_ne, ↓reduceIte]
      obtain ⟨g3, ⟨p3, u, q5, q6, e3, e4⟩ | ⟨e3, e4⟩⟩ := num_eq h (upd r (5 * j + 1) v) (upd t (5 * j + 1) v) (p := p1 + 1) (w := 2) (x := 2) (y := nI (5 * j + 2)) (z := 1) (M := 1) (by omega) hj (by omega) rfl rfl rfl (by omega) (by omega)
      · simp only [e3, e4, one_ne, ↓reduceIte]
        obtain ⟨g4, ⟨p4, y, q7, q8, e5, e6⟩ | ⟨e5, e6⟩⟩ := num_eq h (upd (upd r (5 * j + 1) v) (5 * j + 2) u) (upd (upd t (5 * j + 1) v) (5 * j + 2) u) (p := p3) (w := 3) (x := 3) (y := nI (5 * j + 3)) (z := 1) (M := 1) q6 hj (by omega) rfl rfl rfl (by omega) (by omega)
        · simp only [e5, e6, one_ne, ↓reduceIte]
          obtain ⟨h5, g5⟩ := sg_r h (upd (upd (upd t (5 * j + 1) v) (5 * j + 2) u) (5 * j + 3) y) (j := j) q8
          have v4 : vp_in (nI (5 * j + 4)) 155 := vp_in_nI (by omega) (by omega)
          have c4' : (nI (5 * j + 4)).toNatClampNeg = 5 * j + 4 := nI_clamp (by omega)
          simp only [fX4_readBar, h5, c4']
          obtain ⟨-, ⟨b1, b2, -⟩ | ⟨b1, b2, -⟩⟩ := skip_eq h (upd (upd (upd r (5 * j + 1) v) (5 * j + 2) u) (5 * j + 3) y) (upd (upd (upd t (5 * j + 1) v) (5 * j + 2) u) (5 * j + 3) y) (j := j) q8 124
          · have hlt2 := ch_lt b1 (by decide)
            obtain ⟨g6, ⟨-, -, b4⟩ | ⟨b3, -, -⟩⟩ := skip_eq h r (upd (upd (upd (upd t (5 * j + 1) v) (5 * j + 2) u) (5 * j + 3) y) (5 * j + 4) 1) (j := j) q8 124
            · simp only [b2, cS_told, cS_row, b4, one_ne, b1, ↓reduceIte, setN X0 _ 1 hj (w := 4) (x := 4) (by omega) rfl]
              exact ⟨⟨g1, g2, g3, g4, g5, v4, g6, trivial⟩, Or.inl ⟨p4 + 1, v, u, y, 1, by omega, by omega, rfl, rfl⟩⟩
            · exact absurd b1 b3
          · obtain ⟨g6, ⟨b3, -, -⟩ | ⟨-, -, b4⟩⟩ := skip_eq h r (upd (upd (upd (upd t (5 * j + 1) v) (5 * j + 2) u) (5 * j + 3) y) (5 * j + 4) 0) (j := j) q8 124
            · exact absurd b3 b1
            · simp only [b2, cS_told, cS_row, b4, one_ne, b1, ↓reduceIte, upd_same, setN X0 _ 0 hj (w := 4) (x := 4) (by omega) rfl]
              exact ⟨⟨g1, g2, g3, g4, g5, v4, g6, v4, trivial⟩, Or.inl ⟨p4, v, u, y, 0, by omega, q8, rfl, rfl⟩⟩
        · simp only [e5, e6, ↓reduceIte]
          exact ⟨⟨g1, g2, g3, g4, trivial⟩, Or.inr ⟨p3, _, _, q6, rfl, rfl⟩⟩
      · simp only [e3, e4, ↓reduceIte]
        exact ⟨⟨g1, g2, g3, trivial⟩, Or.inr ⟨p1 + 1, _, _, by omega, rfl, rfl⟩⟩
    · simp only [d2, d3, ↓reduceIte]
      exact ⟨⟨g1, g2, trivial⟩, Or.inr ⟨p1, _, _, q2, rfl, rfl⟩⟩
  · simp only [e1, e2, ↓reduceIte]
    exact ⟨⟨g1, trivial⟩, Or.inr ⟨p, _, _, hp, rfl, rfl⟩⟩
