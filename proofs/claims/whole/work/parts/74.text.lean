/-! Texts: an order by its letter, the whole text -/
theorem order_eq {X0 : XV} {S0 : SV} {len : Nat} (h : TX X0 S0 len) (r t : Nat → Int32) {p j : Nat} (hp : p ≤ len) (hj : j < 30) : gX6_orderHere (cS S0 t p j) ∧ PO X0 S0 len p j r t (fX4_readOrder (cX X0 r p j)) (fX6_orderHere (cS S0 t p j)) := by
  obtain ⟨e2, e3⟩ := sg_r h t (j := j) hp
  have e1 := sg_c h r (j := j) hp
  have v5 : vp_in (nI (5 * j)) 155 := vp_in_nI (by omega) (by omega)
  have c5 : (nI (5 * j)).toNatClampNeg = 5 * j := nI_clamp (by omega)
  have hset : fX4_setNumber (cX X0 r p j) 0 (ch X0 len p) = cX X0 (upd r (5 * j) (ch X0 len p)) p j := setN X0 r (w := 0) (x := 0) _ hj (by omega) rfl
  have sk0 : ∀ c, ¬ ch X0 len p = c → fX6_skips (cS S0 (upd t (5 * j) (ch X0 len p)) p j) c = (0, cS S0 (upd t (5 * j) (ch X0 len p)) p j) := fun c hc => by
    rcases (skip_eq h r (upd t (5 * j) (ch X0 len p)) (j := j) hp c).2 with ⟨a, -, -⟩ | ⟨-, -, b⟩
    · exact absurd a hc
    · exact b
  have gsk : ∀ c, gX6_skips (cS S0 (upd t (5 * j) (ch X0 len p)) p j) c := fun c => (skip_eq h r (upd t (5 * j) (ch X0 len p)) (j := j) hp c).1
  have sk1 : ∀ c, ch X0 len p = c → fX6_skips (cS S0 (upd t (5 * j) (ch X0 len p)) p j) c = (1, cS S0 (upd t (5 * j) (ch X0 len p)) (p + 1) j) ∧ fX4_readSign (cX X0 (upd r (5 * j) (ch X0 len p)) p j) c = (1, cX X0 (upd r (5 * j) (ch X0 len p)) (p + 1) j) := fun c hc => by
    rcases (skip_eq h (upd r (5 * j) (ch X0 len p)) (upd t (5 * j) (ch X0 len p)) (j := j) hp c).2 with ⟨-, a, b⟩ | ⟨a, -, -⟩
    · exact ⟨b, a⟩
    · exact absurd hc a
  have lt : ∀ c : Int32, c ≠ -1 → ch X0 len p = c → p + 1 ≤ len := fun c hc hL => ch_lt hL hc
  -- what the two sides do first
  have hR : fX6_orderHere (cS S0 t p j) = fX6_orderHere (cS S0 t p j) := rfl
  generalize hL : ch X0 len p = L at *
  have low1 : ∀ (b : Nat → Int32), LOW b (upd b (5 * j) L) j := fun b => (LOW.rfl' b j).up L (Nat.le_refl _)
  -- numbers behind a letter: one
  have one : ∀ (M : Nat) (z : Int32), z = nI M → 1 ≤ M → M ≤ 3 → p + 1 ≤ len → LT L 1 → gX6_figures (cS S0 (upd t (5 * j) L) (p + 1) j) (nI (5 * j + 1)) z ∧
      ((∃ p' v, p < p' ∧ p' ≤ len ∧ fX4_readNumber (cX X0 (upd r (5 * j) L) (p + 1) j) 1 z = (1, cX X0 (upd (upd r (5 * j) L) (5 * j + 1) v) p' j) ∧ fX6_figures (cS S0 (upd t (5 * j) L) (p + 1) j) (nI (5 * j + 1)) z = (1, cS S0 (upd (upd t (5 * j) L) (5 * j + 1) v) p' j)) ∨
       (∃ r' t', fX4_readNumber (cX X0 (upd r (5 * j) L) (p + 1) j) 1 z = (0, cX X0 r' (p + 1) j) ∧ fX6_figures (cS S0 (upd t (5 * j) L) (p + 1) j) (nI (5 * j + 1)) z = (0, cS S0 t' (p + 1) j))) := fun M z hz m1 m3 hpl _ => by
    obtain ⟨g1, ⟨p1, v, q1, q2, f1, f2⟩ | ⟨f1, f2⟩⟩ := num_eq h (upd r (5 * j) L) (upd t (5 * j) L) (p := p + 1) (w := 1) (x := 1) (y := nI (5 * j + 1)) hpl hj (by omega) rfl rfl hz m1 m3
    · exact ⟨g1, Or.inl ⟨p1, v, by omega, q2, f1, f2⟩⟩
    · exact ⟨g1, Or.inr ⟨_, _, f1, f2⟩⟩
  have done1 : ∀ (p' : Nat) (v : Int32), p < p' → p' ≤ len → LT L 1 → ∀ A B, A = ((1 : Int32), cX X0 (upd (upd r (5 * j) L) (5 * j + 1) v) p' j) → B = ((1 : Int32), cS S0 (upd (upd t (5 * j) L) (5 * j + 1) v) p' j) → PO X0 S0 len p j r t A B := fun p' v h1 h2 hLT A B hA hB =>
    Or.inl ⟨p', _, _, h1, h2, hA, hB, oe1 hLT v, (low1 r).up v (by omega), (low1 t).up v (by omega)⟩
  have done2 : ∀ (p' : Nat) (v u : Int32), p < p' → p' ≤ len → LT L 2 → ∀ A B, A = ((1 : Int32), cX X0 (upd (upd (upd r (5 * j) L) (5 * j + 1) v) (5 * j + 2) u) p' j) → B = ((1 : Int32), cS S0 (upd (upd (upd t (5 * j) L) (5 * j + 1) v) (5 * j + 2) u) p' j) → PO X0 S0 len p j r t A B := fun p' v u h1 h2 hLT A B hA hB =>
    Or.inl ⟨p', _, _, h1, h2, hA, hB, oe2 hLT v u, ((low1 r).up v (by omega)).up u (by omega), ((low1 t).up v (by omega)).up u (by omega)⟩
  rw [gX6_orderHere, fX6_orderHere, cS_j, cS_told, e2, n5 (by omega), c5, cS_row, nI_1, nI_2]
  rw [fX4_readOrder, e1, hset]
  by_cases l98 : L = 98
  · subst l98
    have hp1 := lt 98 (by decide) rfl
    obtain ⟨s1, s2⟩ := sk1 98 rfl
    have z1 := sk0 110 (by decide); have z2 := sk0 115 (by decide); have z3 := sk0 103 (by decide); have z4 := sk0 107 (by decide); have z5 := sk0 112 (by decide)
    simp only [z1, z2, z3, z4, z5, s1, s2, one_ne, ↓reduceIte]
    obtain ⟨g, ⟨p', v, u, q1, q2, a, b⟩ | ⟨p', r', t', q2, a, b⟩⟩ := two_num h (upd r (5 * j) 98) (upd t (5 * j) 98) (p := p + 1) (j := j) (M1 := 2) (M2 := 2) (z1 := 2) (z2 := 2) (c := 45) hp1 hj rfl rfl (by omega) (by omega) (by omega) (by omega) (by decide) _ _ rfl rfl
    · exact ⟨⟨e3, v5, gsk _, gsk _, gsk _, gsk _, gsk _, gsk _, g⟩, done2 p' v u (by omega) q2 (by unfold LT; decide) _ _ a b⟩
    · exact ⟨⟨e3, v5, gsk _, gsk _, gsk _, gsk _, gsk _, gsk _, g⟩, Or.inr ⟨p', r', t', q2, a, b⟩⟩
  by_cases l99 : L = 99
  · subst l99
    have hp1 := lt 99 (by decide) rfl
    obtain ⟨s1, s2⟩ := sk1 99 rfl
    have z1 := sk0 110 (by decide); have z2 := sk0 115 (by decide); have z3 := sk0 103 (by decide); have z4 := sk0 107 (by decide); have z5 := sk0 112 (by decide); have z6 := sk0 98 (by decide); have z7 := sk0 117 (by decide)
    have n98 : ¬ (99 : Int32) = 98 := by decide
    simp only [z1, z2, z3, z4, z5, z6, z7, s1, s2, one_ne, n98, ↓reduceIte]
    have hLT : LT 99 1 := by unfold LT; decide
    obtain ⟨g, ⟨p', v, q1, q2, a, b⟩ | ⟨r', t', a, b⟩⟩ := one 2 2 rfl (by omega) (by omega) hp1 hLT
    · simp only [a, b, one_ne, ↓reduceIte]
      exact ⟨⟨e3, v5, gsk _, gsk _, gsk _, gsk _, gsk _, gsk _, gsk _, gsk _, g, trivial⟩, done1 p' v q1 q2 hLT _ _ rfl rfl⟩
    · simp only [a, b, one_ne, ↓reduceIte]
      exact ⟨⟨e3, v5, gsk _, gsk _, gsk _, gsk _, gsk _, gsk _, gsk _, gsk _, g, trivial⟩, Or.inr ⟨p + 1, r', t', hp1, rfl, rfl⟩⟩
  by_cases l103 : L = 103
  · subst l103
    have hp1 := lt 103 (by decide) rfl
    obtain ⟨s1, s2⟩ := sk1 103 rfl
    have z1 := sk0 110 (by decide); have z2 := sk0 115 (by decide)
    have n98 : ¬ (103 : Int32) = 98 := by decide
    have n99 : ¬ (103 : Int32) = 99 := by decide
    simp only [z1, z2, s1, s2, one_ne, n98, n99, ↓reduceIte]
    obtain ⟨g, ⟨p', v, u, q1, q2, a, b⟩ | ⟨p', r', t', q2, a, b⟩⟩ := two_num h (upd r (5 * j) 103) (upd t (5 * j) 103) (p := p + 1) (j := j) (M1 := 1) (M2 := 3) (z1 := 1) (z2 := 3) (c := 42) hp1 hj rfl rfl (by omega) (by omega) (by omega) (by omega) (by decide) _ _ rfl rfl
    · exact ⟨⟨e3, v5, gsk _, gsk _, gsk _, g⟩, done2 p' v u (by omega) q2 (by unfold LT; decide) _ _ a b⟩
    · exact ⟨⟨e3, v5, gsk _, gsk _, gsk _, g⟩, Or.inr ⟨p', r', t', q2, a, b⟩⟩
  by_cases l107 : L = 107
  · subst l107
    have hp1 := lt 107 (by decide) rfl
    obtain ⟨s1, s2⟩ := sk1 107 rfl
    have z1 := sk0 110 (by decide); have z2 := sk0 115 (by decide); have z3 := sk0 103 (by decide)
    have n98 : ¬ (107 : Int32) = 98 := by decide
    have n99 : ¬ (107 : Int32) = 99 := by decide
    have n103 : ¬ (107 : Int32) = 103 := by decide
    simp only [z1, z2, z3, s1, s2, one_ne, n98, n99, n103, ↓reduceIte]
    have hLT : LT 107 1 := by unfold LT; decide
    obtain ⟨g, ⟨p', v, q1, q2, a, b⟩ | ⟨r', t', a, b⟩⟩ := one 3 3 rfl (by omega) (by omega) hp1 hLT
    · simp only [a, b, one_ne, ↓reduceIte]
      exact ⟨⟨e3, v5, gsk _, gsk _, gsk _, gsk _, g, trivial⟩, done1 p' v q1 q2 hLT _ _ rfl rfl⟩
    · simp only [a, b, one_ne, ↓reduceIte]
      exact ⟨⟨e3, v5, gsk _, gsk _, gsk _, gsk _, g, trivial⟩, Or.inr ⟨p + 1, r', t', hp1, rfl, rfl⟩⟩
  by_cases l110 : L = 110
  · subst l110
    have hp1 := lt 110 (by decide) rfl
    obtain ⟨s1, s2⟩ := sk1 110 rfl
    have n98 : ¬ (110 : Int32) = 98 := by decide
    have n99 : ¬ (110 : Int32) = 99 := by decide
    have n103 : ¬ (110 : Int32) = 103 := by decide
    have n107 : ¬ (110 : Int32) = 107 := by decide
    simp only [s1, s2, one_ne, n98, n99, n103, n107, ↓reduceIte]
    exact ⟨⟨e3, v5, gsk _, trivial⟩, Or.inl ⟨p + 1, _, _, by omega, hp1, rfl, rfl, oe0 (by unfold LT; decide), low1 r, low1 t⟩⟩
  by_cases l112 : L = 112
  · subst l112
    have hp1 := lt 112 (by decide) rfl
    obtain ⟨s1, s2⟩ := sk1 112 rfl
    have z1 := sk0 110 (by decide); have z2 := sk0 115 (by decide); have z3 := sk0 103 (by decide); have z4 := sk0 107 (by decide)
    have n98 : ¬ (112 : Int32) = 98 := by decide
    have n99 : ¬ (112 : Int32) = 99 := by decide
    have n103 : ¬ (112 : Int32) = 103 := by decide
    have n107 : ¬ (112 : Int32) = 107 := by decide
    have n110 : ¬ (112 : Int32) = 110 := by decide
    simp only [z1, z2, z3, z4, s1, s2, one_ne, n98, n99, n103, n107, n110, ↓reduceIte]
    obtain ⟨g, ⟨p', v, u, q1, q2, a, b⟩ | ⟨p', r', t', q2, a, b⟩⟩ := two_num h (upd r (5 * j) 112) (upd t (5 * j) 112) (p := p + 1) (j := j) (M1 := 2) (M2 := 2) (z1 := 2) (z2 := 2) (c := 62) hp1 hj rfl rfl (by omega) (by omega) (by omega) (by omega) (by decide) _ _ rfl rfl
    · exact ⟨⟨e3, v5, gsk _, gsk _, gsk _, gsk _, gsk _, g⟩, done2 p' v u (by omega) q2 (by unfold LT; decide) _ _ a b⟩
    · exact ⟨⟨e3, v5, gsk _, gsk _, gsk _, gsk _, gsk _, g⟩, Or.inr ⟨p', r', t', q2, a, b⟩⟩
  by_cases l115 : L = 115
  · subst l115
    have hp1 := lt 115 (by decide) rfl
    obtain ⟨s1, s2⟩ := sk1 115 rfl
    have z1 := sk0 110 (by decide)
    have n98 : ¬ (115 : Int32) = 98 := by decide
    have n99 : ¬ (115 : Int32) = 99 := by decide
    have n103 : ¬ (115 : Int32) = 103 := by decide
    have n107 : ¬ (115 : Int32) = 107 := by decide
    have n110 : ¬ (115 : Int32) = 110 := by decide
    have n112 : ¬ (115 : Int32) = 112 := by decide
    simp only [z1, s1, s2, one_ne, n98, n99, n103, n107, n110, n112, ↓reduceIte]
    obtain ⟨g, ⟨p', v, u, y, z, q1, q2, a, b⟩ | ⟨p', r', t', q2, a, b⟩⟩ := stool_num h (upd r (5 * j) 115) (upd t (5 * j) 115) (p := p + 1) (j := j) hp1 hj _ rfl
    · rw [a]
      simp only [b]
      exact ⟨⟨e3, v5, gsk _, gsk _, g, trivial⟩, Or.inl ⟨p', _, _, by omega, q2, rfl, rfl, oe4 (by unfold LT; decide) v u y z, ((((low1 r).up v (by omega)).up u (by omega)).up y (by omega)).up z (by omega), ((((low1 t).up v (by omega)).up u (by omega)).up y (by omega)).up z (by omega)⟩⟩
    · rw [a]
      simp only [b]
      exact ⟨⟨e3, v5, gsk _, gsk _, g, trivial⟩, Or.inr ⟨p', r', t', q2, rfl, rfl⟩⟩
  by_cases l117 : L = 117
  · subst l117
    have hp1 := lt 117 (by decide) rfl
    obtain ⟨s1, s2⟩ := sk1 117 rfl
    have z1 := sk0 110 (by decide); have z2 := sk0 115 (by decide); have z3 := sk0 103 (by decide); have z4 := sk0 107 (by decide); have z5 := sk0 112 (by decide); have z6 := sk0 98 (by decide)
    have n98 : ¬ (117 : Int32) = 98 := by decide
    have n99 : ¬ (117 : Int32) = 99 := by decide
    have n103 : ¬ (117 : Int32) = 103 := by decide
    have n107 : ¬ (117 : Int32) = 107 := by decide
    have n110 : ¬ (117 : Int32) = 110 := by decide
    have n112 : ¬ (117 : Int32) = 112 := by decide
    have n115 : ¬ (117 : Int32) = 115 := by decide
    simp only [z1, z2, z3, z4, z5, z6, s1, s2, one_ne, n98, n99, n103, n107, n110, n112, n115, ↓reduceIte]
    have hLT : LT 117 1 := by unfold LT; decide
    obtain ⟨g, ⟨p', v, q1, q2, a, b⟩ | ⟨r', t', a, b⟩⟩ := one 2 2 rfl (by omega) (by omega) hp1 hLT
    · simp only [a, b, one_ne, ↓reduceIte]
      exact ⟨⟨e3, v5, gsk _, gsk _, gsk _, gsk _, gsk _, gsk _, gsk _, g, trivial⟩, done1 p' v q1 q2 hLT _ _ rfl rfl⟩
    · simp only [a, b, one_ne, ↓reduceIte]
      exact ⟨⟨e3, v5, gsk _, gsk _, gsk _, gsk _, gsk _, gsk _, gsk _, g, trivial⟩, Or.inr ⟨p + 1, r', t', hp1, rfl, rfl⟩⟩
  have z1 := sk0 110 l110; have z2 := sk0 115 l115; have z3 := sk0 103 l103; have z4 := sk0 107 l107; have z5 := sk0 112 l112; have z6 := sk0 98 l98; have z7 := sk0 117 l117; have z8 := sk0 99 l99
  simp only [z1, z2, z3, z4, z5, z6, z7, z8, l98, l99, l103, l107, l110, l112, l115, l117, ↓reduceIte]
  exact ⟨⟨e3, v5, gsk _, gsk _, gsk _, gsk _, gsk _, gsk _, gsk _, gsk _, trivial⟩, Or.inr ⟨p, _, _, hp, rfl, rfl⟩⟩
