/-! Texts: the whole of one -/
theorem OE.low {r t r' t' : Nat → Int32} {i j : Nat} (h : OE r t i) (hi : i < j) (h1 : LOW r r' j) (h2 : LOW t t' j) : OE r' t' i := by
  obtain ⟨L, nn, hL, a1, a2, a3⟩ := h
  have h4 : nn ≤ 4 := by unfold LT at hL; omega
  refine ⟨L, nn, hL, by rw [h1 _ (by omega)]; exact a1, by rw [h2 _ (by omega)]; exact a2, fun w b1 b2 => ?_⟩
  rw [h1 _ (by omega), h2 _ (by omega)]
  exact a3 w b1 b2
/-- nothing stands behind the end -/
theorem order_end {X0 : XV} {S0 : SV} {len : Nat} (h : TX X0 S0 len) (t : Nat → Int32) {j : Nat} (hj : j ≤ 30) : gX6_orderHere (cS S0 t len j) ∧ fX6_orderHere (cS S0 t len j) = (0, cS S0 (upd t (5 * j) (-1)) len j) := by
  obtain ⟨e2, e3⟩ := sg_r h t (j := j) (Nat.le_refl len)
  have hL : ch X0 len len = -1 := by rw [ch, if_neg (by omega)]
  rw [hL] at e2
  have v5 : vp_in (nI (5 * j)) 155 := vp_in_nI (by omega) (by omega)
  have c5 : (nI (5 * j)).toNatClampNeg = 5 * j := nI_clamp (by omega)
  have sk0 : ∀ c, ¬ (-1 : Int32) = c → fX6_skips (cS S0 (upd t (5 * j) (-1)) len j) c = (0, cS S0 (upd t (5 * j) (-1)) len j) := fun c hc => by
    rcases (skip_eq h t (upd t (5 * j) (-1)) (j := j) (Nat.le_refl len) c).2 with ⟨a, -, -⟩ | ⟨-, -, b⟩
    · rw [hL] at a; exact absurd a hc
    · exact b
  have gsk : ∀ c, gX6_skips (cS S0 (upd t (5 * j) (-1)) len j) c := fun c => (skip_eq h t (upd t (5 * j) (-1)) (j := j) (Nat.le_refl len) c).1
  rw [gX6_orderHere, fX6_orderHere, cS_j, cS_told, e2, n5 (by omega), c5, cS_row]
  have z1 := sk0 110 (by decide); have z2 := sk0 115 (by decide); have z3 := sk0 103 (by decide); have z4 := sk0 107 (by decide); have z5 := sk0 112 (by decide); have z6 := sk0 98 (by decide); have z7 := sk0 117 (by decide); have z8 := sk0 99 (by decide)
  simp only [z1, z2, z3, z4, z5, z6, z7, z8, ↓reduceIte]
  exact ⟨⟨e3, v5, gsk _, gsk _, gsk _, gsk _, gsk _, gsk _, gsk _, gsk _, trivial⟩, trivial⟩
def oC (y : (XV × Int32) ⊕ (Int32 × XV)) : Int32 × XV := Sum.elim (fun y9 => (y9.1.2.2.2.1, y9.1)) (fun q9 => q9) y
def oR (y : SV ⊕ (Int32 × SV)) : Int32 × SV := Sum.elim (fun y9 => (if y9.2.2.2.2.2.2.2.2.2.2.2.2.2.2.2.2.2.2.1 = y9.2.2.2.2.2.2.2.2.2.2.2.2.2.2.2.1 then (1, y9) else (0, y9))) (fun q9 => q9) y
def FR (X0 : XV) (S0 : SV) (len : Nat) (a : Int32 × XV) (b : Int32 × SV) : Prop := ∃ p j r t, p ≤ len ∧ j ≤ 30 ∧ ((a = (-1, cX X0 r p j) ∧ b = (1, cS S0 t p j) ∧ j ≤ len ∧ ∀ i, i < j → OE r t i) ∨ (a = (nI p, cX X0 r p j) ∧ b = (0, cS S0 t p j)))
theorem text_loop {X0 : XV} {S0 : SV} {len : Nat} (h : TX X0 S0 len) (Y : XV) : ∀ (c j p f1 f2 : Nat) (r t : Nat → Int32), j + c = 30 → c < f1 → c < f2 → 2 * j ≤ p → p ≤ len → (∀ i, i < j → OE r t i) →
    ∃ rc rr, itr (lX4_readOrders_12 Y) f1 (cX X0 r p j, nI j) = .inr rc ∧ lrun lX6_isText_10 glX6_isText_10 f2 (cS S0 t p j) rr ∧ FR X0 S0 len (oC rc) (oR rr) := by
  have h60 := h.2.2.1
  intro c
  induction c with
  | zero =>
    intro j p f1 f2 r t hj h1 h2 h2j hp hO
    have hj30 : j = 30 := by omega
    have hpl : p = len := by omega
    subst hj30; subst hpl
    cases f1 with
    | zero => exact absurd h1 (by omega)
    | succ f1 =>
      cases f2 with
      | zero => exact absurd h2 (by omega)
      | succ f2 =>
        obtain ⟨g, e⟩ := order_end h t (j := 30) (Nat.le_refl _)
        refine ⟨.inl (cX X0 r p 30, nI 30), .inr (0, cS S0 (upd t (5 * 30) (-1)) p 30), ?_, ⟨?_, Or.inr ?_⟩, p, 30, r, _, Nat.le_refl _, Nat.le_refl _, Or.inr ⟨rfl, rfl⟩⟩
        · simp only [itr]
          have e1 : lX4_readOrders_12 Y (cX X0 r p 30, nI 30) = .inr (.inl (cX X0 r p 30, nI 30)) := by
            rw [lX4_readOrders_12, if_pos (show (30 : Int32) ≤ nI 30 from Int32.le_refl _)]
          rw [e1]
        · rw [glX6_isText_10, e]
          dsimp only
          rw [if_pos rfl]
          exact ⟨g, trivial⟩
        · rw [lX6_isText_10, e]
          dsimp only
          rw [if_pos rfl]
  | succ c ih =>
    intro j p f1 f2 r t hj h1 h2 h2j hp hO
    cases f1 with
    | zero => exact absurd h1 (by omega)
    | succ f1 =>
      cases f2 with
      | zero => exact absurd h2 (by omega)
      | succ f2 =>
        have hj30 : j < 30 := by omega
        have n30 : ¬ (30 : Int32) ≤ nI j := nI_ge (b := 30) hj30 (by omega)
        obtain ⟨g, ⟨p', r', t', q1, q2, e1, e2, o1, o2, o3⟩ | ⟨p', r', t', q2, e1, e2⟩⟩ := order_eq h r t hp hj30
        · have hO' : ∀ i, i < j + 1 → OE r' t' i := fun i hi => by
            by_cases w : i = j
            · rw [w]; exact o1
            · exact (hO i (by omega)).low (show i < j by omega) o2 o3
          have eX : ((cX X0 r' p' j).1, (cX X0 r' p' j).2.1, (cX X0 r' p' j).2.2.1, (cX X0 r' p' j).2.2.2.1, (cX X0 r' p' j).2.2.2.2 + 1) = cX X0 r' p' (j + 1) := by
            show (X0.1, r', X0.2.2.1, nI p', nI j + 1) = _
            rw [nI_1]; rfl
          have hl : (cX X0 r' p' j).2.2.1 = nI len := h.1
          have hat : (cX X0 r' p' j).2.2.2.1 = nI p' := rfl
          obtain ⟨gs, sk⟩ := skip_eq h r' t' (j := j + 1) q2 59
          by_cases hlt : p' < len
          · have clt : nI p' < nI len := nI_lt hlt (by omega)
            rcases sk with ⟨-, s1, s2⟩ | ⟨-, s1, s2⟩
            · obtain ⟨rc, rr, i1, i2, i3⟩ := ih (j + 1) (p' + 1) f1 f2 r' t' (by omega) (by omega) (by omega) (by omega) (by omega) hO'
              refine ⟨rc, rr, ?_, ⟨?_, Or.inl ⟨_, ?_, i2⟩⟩, i3⟩
              · simp only [itr]
                have e3 : lX4_readOrders_12 Y (cX X0 r p j, nI j) = .inl (cX X0 r' (p' + 1) (j + 1), nI (j + 1)) := by
                  rw [lX4_readOrders_12]
                  dsimp only
                  rw [if_neg n30, e1]
                  dsimp only
                  rw [if_neg one_ne, hat, hl, if_pos clt]
                  rw [hat, hl] at eX
                  rw [eX, s1]
                  dsimp only
                  rw [if_neg one_ne, nI_1]
                rw [e3]
                exact i1
              · rw [glX6_isText_10, e2]
                dsimp only
                rw [if_neg one_ne, cS_j, nI_1, cS_ord]
                exact ⟨g, gs, trivial⟩
              · rw [lX6_isText_10, e2]
                dsimp only
                rw [if_neg one_ne, cS_j, nI_1, cS_ord, s2]
                dsimp only
                rw [if_neg one_ne]
            · refine ⟨.inr (nI p', cX X0 r' p' (j + 1)), .inl (cS S0 t' p' (j + 1)), ?_, ⟨?_, Or.inr ?_⟩, p', j + 1, r', t', q2, by omega, Or.inr ⟨rfl, ?_⟩⟩
              · simp only [itr]
                have e3 : lX4_readOrders_12 Y (cX X0 r p j, nI j) = .inr (.inr (nI p', cX X0 r' p' (j + 1))) := by
                  rw [lX4_readOrders_12]
                  dsimp only
                  rw [if_neg n30, e1]
                  dsimp only
                  rw [if_neg one_ne, hat, hl, if_pos clt]
                  rw [hat, hl] at eX
                  rw [eX, s1]
                  dsimp only
                  rw [if_pos rfl]
                  rfl
                rw [e3]
              · rw [glX6_isText_10, e2]
                dsimp only
                rw [if_neg one_ne, cS_j, nI_1, cS_ord]
                exact ⟨g, gs, trivial⟩
              · rw [lX6_isText_10, e2]
                dsimp only
                rw [if_neg one_ne, cS_j, nI_1, cS_ord, s2]
                dsimp only
                rw [if_pos rfl]
              · show (if (cS S0 t' p' (j + 1)).2.2.2.2.2.2.2.2.2.2.2.2.2.2.2.2.2.2.1 = (cS S0 t' p' (j + 1)).2.2.2.2.2.2.2.2.2.2.2.2.2.2.2.1 then ((1 : Int32), cS S0 t' p' (j + 1)) else (0, cS S0 t' p' (j + 1))) = _
                rw [cS_p, cS_len, h.2.1, if_neg (fun z => by have := nI_inj (by omega) (by omega) z; omega)]
          · have hpl : p' = len := by omega
            subst hpl
            have nlt : ¬ nI p' < nI p' := nI_nlt (Nat.le_refl _) (by omega)
            rcases sk with ⟨a, -, -⟩ | ⟨-, s1, s2⟩
            · exact absurd (ch_lt a (by decide)) (by omega)
            · refine ⟨.inr (-1, cX X0 r' p' (j + 1)), .inl (cS S0 t' p' (j + 1)), ?_, ⟨?_, Or.inr ?_⟩, p', j + 1, r', t', q2, by omega, Or.inl ⟨rfl, ?_, by omega, hO'⟩⟩
              · simp only [itr]
                have e3 : lX4_readOrders_12 Y (cX X0 r p j, nI j) = .inr (.inr (-1, cX X0 r' p' (j + 1))) := by
                  rw [lX4_readOrders_12]
                  dsimp only
                  rw [if_neg n30, e1]
                  dsimp only
                  rw [if_neg one_ne, hat, hl, if_neg nlt]
                  rw [hat, hl] at eX
                  rw [eX]
                rw [e3]
              · rw [glX6_isText_10, e2]
                dsimp only
                rw [if_neg one_ne, cS_j, nI_1, cS_ord]
                exact ⟨g, gs, trivial⟩
              · rw [lX6_isText_10, e2]
                dsimp only
                rw [if_neg one_ne, cS_j, nI_1, cS_ord, s2]
                dsimp only
                rw [if_pos rfl]
              · show (if (cS S0 t' p' (j + 1)).2.2.2.2.2.2.2.2.2.2.2.2.2.2.2.2.2.2.1 = (cS S0 t' p' (j + 1)).2.2.2.2.2.2.2.2.2.2.2.2.2.2.2.1 then ((1 : Int32), cS S0 t' p' (j + 1)) else (0, cS S0 t' p' (j + 1))) = _
                rw [cS_p, cS_len, h.2.1, if_pos rfl]
        · refine ⟨.inr (nI p', cX X0 r' p' j), .inr (0, cS S0 t' p' j), ?_, ⟨?_, Or.inr ?_⟩, p', j, r', t', q2, by omega, Or.inr ⟨rfl, rfl⟩⟩
          · simp only [itr]
            have e3 : lX4_readOrders_12 Y (cX X0 r p j, nI j) = .inr (.inr (nI p', cX X0 r' p' j)) := by
              rw [lX4_readOrders_12]
              dsimp only
              rw [if_neg n30, e1]
              dsimp only
              rw [if_pos rfl]
              rfl
            rw [e3]
          · rw [glX6_isText_10, e2]
            dsimp only
            rw [if_pos rfl]
            exact ⟨g, trivial⟩
          · rw [lX6_isText_10, e2]
            dsimp only
            rw [if_pos rfl]
theorem cS_start (S : SV) : sS19 0 (sS18 0 S) = cS S (tldR S) 0 0 := by
  have e : sS7 (tldR S) S = S := rfl
  rw [cS, e]; rfl
theorem text_eq {X : XV} {S : SV} {len : Nat} (h : TX X S len) : gX6_isText S ∧ FR X S len (fX4_readOrders X) (fX6_isText S) := by
  obtain ⟨rc, rr, i1, i2, i3⟩ := text_loop h X 30 0 0 31 61 X.2.1 (tldR S) (by omega) (by omega) (by omega) (by omega) (by omega) (fun i hi => absurd hi (by omega))
  have w1 : itv (.inl ((X.1, X.2.1, X.2.2.1, 0, 0), 0)) (lX4_readOrders_12 X) ((fun v : (XV × Int32) => ((30 : Int32).toInt - v.2.toInt).toNat) ((X.1, X.2.1, X.2.2.1, 0, 0), 0) + 1) ((X.1, X.2.1, X.2.2.1, 0, 0), 0) = rc := itv_eq i1
  have e1 : fX4_readOrders X = oC rc := by rw [fX4_readOrders, w1]; rfl
  have w2 : itv (.inl (sS19 0 (sS18 0 S))) lX6_isText_10 ((fun v : SV => 60) (sS19 0 (sS18 0 S)) + 1) (sS19 0 (sS18 0 S)) = rr := by
    rw [cS_start]; exact lrun_itv i2
  have e2 : fX6_isText S = oR rr := by rw [fX6_isText, w2]; rfl
  rw [e1, e2]
  refine ⟨⟨⟨rr, ?_⟩, trivial⟩, i3⟩
  rw [cS_start]; exact i2
