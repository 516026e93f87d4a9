/-! Texts: the signs, the numbers, the orders -/
abbrev tldR (S : SV) : Nat → Int32 := S.2.2.2.2.2.2.2.1
abbrev inpR (S : SV) : Nat → Int32 := S.2.2.2.2.1
abbrev lenM (S : SV) : Int32 := S.2.2.2.2.2.2.2.2.2.2.2.2.2.2.2.1
/-- what the class's text and the reference's have alike: len signs -/
def TX (X0 : XV) (S0 : SV) (len : Nat) : Prop := X0.2.2.1 = nI len ∧ lenM S0 = nI len ∧ len ≤ 60 ∧ ∀ t, t < len → X0.1 t = inpR S0 t ∧ 0 ≤ (X0.1 t).toInt
/-- at the sign p, in order j, with the rows r and t of numbers -/
def cX (X0 : XV) (r : Nat → Int32) (p j : Nat) : XV := (X0.1, r, X0.2.2.1, nI p, nI j)
def cS (S0 : SV) (t : Nat → Int32) (p j : Nat) : SV := sS19 (nI j) (sS18 (nI p) (sS7 t S0))
def ch (X0 : XV) (len p : Nat) : Int32 := if p < len then X0.1 p else -1
theorem cS_at (S0 : SV) (t : Nat → Int32) (p j q : Nat) : sS18 (nI q) (cS S0 t p j) = cS S0 t q j := by
  rw [cS, sw_18_19, id_18, cS]
theorem cS_row (S0 : SV) (t t' : Nat → Int32) (p j : Nat) : sS7 t' (cS S0 t p j) = cS S0 t' p j := by
  rw [cS, sw_7_19, sw_7_18, id_7, cS]
theorem cS_ord (S0 : SV) (t : Nat → Int32) (p j k : Nat) : sS19 (nI k) (cS S0 t p j) = cS S0 t p k := by
  rw [cS, id_19, cS]
theorem cS_told (S0 : SV) (t : Nat → Int32) (p j : Nat) : (cS S0 t p j).2.2.2.2.2.2.2.1 = t := by
  rw [cS, pj_19_7, pj_18_7, pj_7_7]
theorem cS_p (S0 : SV) (t : Nat → Int32) (p j : Nat) : (cS S0 t p j).2.2.2.2.2.2.2.2.2.2.2.2.2.2.2.2.2.2.1 = nI p := by
  rw [cS, pj_19_18, pj_18_18]
theorem cS_j (S0 : SV) (t : Nat → Int32) (p j : Nat) : (cS S0 t p j).2.2.2.2.2.2.2.2.2.2.2.2.2.2.2.2.2.2.2 = nI j := by
  rw [cS, pj_19_19]
theorem cS_len (S0 : SV) (t : Nat → Int32) (p j : Nat) : (cS S0 t p j).2.2.2.2.2.2.2.2.2.2.2.2.2.2.2.1 = lenM S0 := by
  rw [cS, pj_19_15, pj_18_15, pj_7_15]
theorem cS_inp (S0 : SV) (t : Nat → Int32) (p j : Nat) : (cS S0 t p j).2.2.2.2.1 = inpR S0 := by
  rw [cS, pj_19_4, pj_18_4, pj_7_4]
theorem upd_upd (t : Nat → Int32) (q : Nat) (v u : Int32) : upd (upd t q v) q u = upd t q u := by
  funext z
  show (if z = q then u else if z = q then v else t z) = (if z = q then u else t z)
  by_cases w : z = q
  · rw [if_pos w, if_pos w]
  · rw [if_neg w, if_neg w, if_neg w]
theorem sg_c {X0 : XV} {S0 : SV} {len : Nat} (h : TX X0 S0 len) (r : Nat → Int32) {p j : Nat} (hp : p ≤ len) : fX4_sign (cX X0 r p j) = ch X0 len p := by
  obtain ⟨h1, h2, h3, h4⟩ := h
  have a1 : ¬ nI p < 0 := nI_pos (by omega)
  have e : fX4_sign (cX X0 r p j) = (if nI p < 0 then (-1) else (if X0.2.2.1 ≤ nI p then (-1) else (if 60 ≤ nI p then (-1) else (X0.1 (nI p).toNatClampNeg)))) := rfl
  rw [e, if_neg a1, h1, ch]
  by_cases c : p < len
  · rw [if_neg (nI_ge c (by omega)), if_neg (show ¬ (60 : Int32) ≤ nI p from nI_ge (b := 60) (by omega) (by omega)), nI_clamp (by omega), if_pos c]
  · rw [if_pos (nI_le (by omega) (by omega)), if_neg c]
theorem sg_r {X0 : XV} {S0 : SV} {len : Nat} (h : TX X0 S0 len) (t : Nat → Int32) {p j : Nat} (hp : p ≤ len) : fX6_here (cS S0 t p j) = ch X0 len p ∧ gX6_here (cS S0 t p j) := by
  obtain ⟨h1, h2, h3, h4⟩ := h
  rw [fX6_here, gX6_here, cS_len, cS_p, cS_inp, h2, ch]
  by_cases c : p < len
  · rw [if_neg (nI_ge c (by omega)), if_neg (nI_ge c (by omega)), nI_clamp (by omega), if_pos c]
    exact ⟨(h4 p c).1.symm, vp_in_nI (by omega) (by omega), trivial⟩
  · rw [if_pos (nI_le (by omega) (by omega)), if_pos (nI_le (by omega) (by omega)), if_neg c]
    exact ⟨rfl, trivial⟩
/-- a sign that is wanted -/
theorem skip_eq {X0 : XV} {S0 : SV} {len : Nat} (h : TX X0 S0 len) (r t : Nat → Int32) {p j : Nat} (hp : p ≤ len) (c : Int32) : gX6_skips (cS S0 t p j) c ∧ ((ch X0 len p = c ∧ fX4_readSign (cX X0 r p j) c = (1, cX X0 r (p + 1) j) ∧ fX6_skips (cS S0 t p j) c = (1, cS S0 t (p + 1) j)) ∨ (¬ ch X0 len p = c ∧ fX4_readSign (cX X0 r p j) c = (0, cX X0 r p j) ∧ fX6_skips (cS S0 t p j) c = (0, cS S0 t p j))) := by
  obtain ⟨e2, e3⟩ := sg_r h t (j := j) hp
  refine ⟨⟨e3, trivial⟩, ?_⟩
  rw [fX4_readSign, fX6_skips, sg_c h r hp, e2]
  by_cases c1 : ch X0 len p = c
  · left
    rw [if_pos c1, if_pos c1]
    refine ⟨c1, ?_, ?_⟩
    · show (1, (X0.1, r, X0.2.2.1, nI p + 1, nI j)) = _
      rw [nI_1]; rfl
    · rw [cS_p, nI_1, cS_at]
  · right
    rw [if_neg c1, if_neg c1]
    exact ⟨c1, rfl, rfl⟩
theorem ch_lt {X0 : XV} {len p : Nat} {c : Int32} (h : ch X0 len p = c) (hc : c ≠ -1) : p < len := by
  unfold ch at h
  split at h
  · assumption
  · exact absurd h.symm hc
def isD (c : Int32) : Prop := ¬ c < 48 ∧ ¬ 57 < c
theorem dig_in (c : Int32) : (isD c ∧ fX6_in c 48 57 = 1) ∨ (¬ isD c ∧ fX6_in c 48 57 = 0) := by
  rcases in_split c 48 57 with ⟨a, b⟩ | ⟨a, b, d⟩
  · exact Or.inr ⟨fun z => b.elim z.1 z.2, a⟩
  · exact Or.inl ⟨⟨b, d⟩, a⟩
theorem isD_lt {X0 : XV} {len p : Nat} (h : isD (ch X0 len p)) : p < len := by
  unfold ch at h
  split at h
  · assumption
  · exact absurd (show (-1 : Int32) < 48 by decide) h.1
/-- the digits of a number -/
theorem num_loop {X0 : XV} {S0 : SV} {len : Nat} (h : TX X0 S0 len) (r t : Nat → Int32) (x1 x2 : Int32) {M j q : Nat} (hM : x2 = nI M) (hM3 : M ≤ 3) {y : Int32} (hy : y = nI q) (hq : q < 155) (X : XV) : ∀ (c k p f1 f2 : Nat) (v : Int32), k + c = M → c < f1 → c < f2 → p ≤ len →
    ∃ k' p' v', k ≤ k' ∧ k' ≤ M ∧ p ≤ p' ∧ p' ≤ len ∧ (0 < c → isD (ch X0 len p) → k < k' ∧ p < p') ∧
      itr (lX4_readNumber_11 X x1 x2) f1 (cX X0 r p j, v, nI k, ch X0 len p) = .inr (cX X0 r p' j, v', nI k', ch X0 len p') ∧
      lrun (lX6_figures_25 y x2) (glX6_figures_25 y x2) f2 (cS S0 (upd t q v) p j, nI k) (cS S0 (upd t q v') p' j, nI k') := by
  intro c
  induction c with
  | zero =>
    intro k p f1 f2 v hk h1 h2 hp
    have : k = M := by omega
    subst this
    have c1 : x2 ≤ nI k := by rw [hM]; exact Int32.le_refl _
    cases f1 with
    | zero => exact absurd h1 (by omega)
    | succ f1 =>
      cases f2 with
      | zero => exact absurd h2 (by omega)
      | succ f2 =>
        refine ⟨k, p, v, Nat.le_refl _, Nat.le_refl _, Nat.le_refl _, hp, fun z => absurd z (by omega), ?_, ?_, Or.inr ?_⟩
        · simp only [itr]
          rw [lX4_readNumber_11, if_pos c1]
        · rw [glX6_figures_25, if_pos c1]; trivial
        · rw [lX6_figures_25, if_pos c1]
  | succ c ih =>
    intro k p f1 f2 v hk h1 h2 hp
    have c1 : ¬ x2 ≤ nI k := by rw [hM]; exact nI_ge (by omega) (by omega)
    cases f1 with
    | zero => exact absurd h1 (by omega)
    | succ f1 =>
      cases f2 with
      | zero => exact absurd h2 (by omega)
      | succ f2 =>
        obtain ⟨e2, e3⟩ := sg_r h (upd t q v) (j := j) hp
        have vy : vp_in y 155 := by rw [hy]; exact vp_in_nI hq (by omega)
        have ec : y.toNatClampNeg = q := by rw [hy]; exact nI_clamp (by omega)
        rcases dig_in (ch X0 len p) with ⟨d1, d2⟩ | ⟨d1, d2⟩
        · have hlt := isD_lt d1
          obtain ⟨k', p', v', a1, a2, a3, a4, a5, a6, a7⟩ := ih (k + 1) (p + 1) f1 f2 ((10 * v + ch X0 len p) - 48) (by omega) (by omega) (by omega) (by omega)
          refine ⟨k', p', v', by omega, a2, by omega, a4, fun _ _ => ⟨by omega, by omega⟩, ?_, ?_, Or.inl ⟨_, ?_, a7⟩⟩
          · simp only [itr]
            have e : lX4_readNumber_11 X x1 x2 (cX X0 r p j, v, nI k, ch X0 len p) = .inl (cX X0 r (p + 1) j, (10 * v + ch X0 len p) - 48, nI (k + 1), ch X0 len (p + 1)) := by
              rw [lX4_readNumber_11]
              dsimp only
              rw [if_neg c1, if_neg d1.1, if_neg d1.2]
              have e4 : ((cX X0 r p j).1, (cX X0 r p j).2.1, (cX X0 r p j).2.2.1, (cX X0 r p j).2.2.2.1 + 1, (cX X0 r p j).2.2.2.2) = cX X0 r (p + 1) j := by
                show (X0.1, r, X0.2.2.1, nI p + 1, nI j) = _
                rw [nI_1]; rfl
              rw [e4, sg_c h r (show p + 1 ≤ len by omega), nI_1, Int32.mul_comm v 10]
            rw [e]
            exact a6
          · rw [glX6_figures_25]
            dsimp only
            rw [if_neg c1, e2, d2, if_neg one_ne]
            exact ⟨e3, vy, e3, vy, trivial⟩
          · rw [lX6_figures_25]
            dsimp only
            rw [if_neg c1, e2, d2, if_neg one_ne, ec, nI_1]
            rw [cS_told, upd_same, upd_upd, cS_p, nI_1, cS_row, cS_at]
        · refine ⟨k, p, v, Nat.le_refl _, by omega, Nat.le_refl _, hp, fun _ z => absurd z d1, ?_, ?_, Or.inr ?_⟩
          · simp only [itr]
            have e : lX4_readNumber_11 X x1 x2 (cX X0 r p j, v, nI k, ch X0 len p) = .inr (cX X0 r p j, v, nI k, ch X0 len p) := by
              rw [lX4_readNumber_11]
              dsimp only
              rw [if_neg c1]
              by_cases w : ch X0 len p < 48
              · rw [if_pos w]
              · rw [if_neg w, if_pos (Classical.byContradiction (fun z => d1 ⟨w, z⟩))]
            rw [e]
          · rw [glX6_figures_25]
            dsimp only
            rw [if_neg c1, e2, d2, if_pos rfl]
            exact ⟨e3, trivial⟩
          · rw [lX6_figures_25]
            dsimp only
            rw [if_neg c1, e2, d2, if_pos rfl]
theorem setN (X0 : XV) (r : Nat → Int32) {p j w : Nat} {x : Int32} (v : Int32) (hj : j < 30) (hw : w < 5) (hx : x = nI w) : fX4_setNumber (cX X0 r p j) x v = cX X0 (upd r (5 * j + w) v) p j := by
  subst hx
  have a1 : ¬ (cX X0 r p j).2.2.2.2 < 0 := nI_pos (show j < 2 ^ 31 by omega)
  have a2 : ¬ (30 : Int32) ≤ (cX X0 r p j).2.2.2.2 := nI_ge (a := j) (b := 30) hj (by omega)
  have a3 : ¬ nI w < 0 := nI_pos (by omega)
  have a4 : ¬ (5 : Int32) ≤ nI w := nI_ge (a := w) (b := 5) hw (by omega)
  have e : (cX X0 r p j).2.2.2.2 * 5 + nI w = nI (5 * j + w) := by
    show nI j * 5 + nI w = _
    rw [show (5 : Int32) = nI 5 from rfl, nI_mul (by omega) (by omega) (by omega), nI_add, Nat.mul_comm]
  rw [fX4_setNumber, if_neg a1, if_neg a2, if_neg a3, if_neg a4, e, nI_clamp (by omega)]
  rfl
/-- a number -/
theorem num_eq {X0 : XV} {S0 : SV} {len : Nat} (h : TX X0 S0 len) (r t : Nat → Int32) {p j w M : Nat} {x y z : Int32} (hp : p ≤ len) (hj : j < 30) (hw : w < 5) (hx : x = nI w) (hy : y = nI (5 * j + w)) (hz : z = nI M) (hM : 1 ≤ M) (hM3 : M ≤ 3) :
    gX6_figures (cS S0 t p j) y z ∧ ((∃ p' v, p < p' ∧ p' ≤ len ∧ fX4_readNumber (cX X0 r p j) x z = (1, cX X0 (upd r (5 * j + w) v) p' j) ∧ fX6_figures (cS S0 t p j) y z = (1, cS S0 (upd t (5 * j + w) v) p' j)) ∨
      (fX4_readNumber (cX X0 r p j) x z = (0, cX X0 (upd r (5 * j + w) 0) p j) ∧ fX6_figures (cS S0 t p j) y z = (0, cS S0 t p j))) := by
  obtain ⟨e2, e3⟩ := sg_r h t (j := j) hp
  have ec : y.toNatClampNeg = 5 * j + w := by rw [hy]; exact nI_clamp (by omega)
  have vy : vp_in y 155 := by rw [hy]; exact vp_in_nI (by omega) (by omega)
  have hf1 : M < (z.toInt - (0 : Int32).toInt).toNat + 1 := fuel0 hz (by omega)
  obtain ⟨k', p', v', a1, a2, a3, a4, a5, a6, a7⟩ := num_loop h r t x z hz hM3 (j := j) hy (by omega) (cX X0 r p j) M 0 p _ _ 0 (by omega) hf1 hf1 hp
  have w1 : itv (cX X0 r p j, (0 : Int32), (0 : Int32), (fX4_sign (cX X0 r p j))) (lX4_readNumber_11 (cX X0 r p j) x z) ((fun v : (XV × Int32 × Int32 × Int32) => (z.toInt - v.2.2.1.toInt).toNat) (cX X0 r p j, 0, 0, (fX4_sign (cX X0 r p j))) + 1) (cX X0 r p j, 0, 0, (fX4_sign (cX X0 r p j))) = (cX X0 r p' j, v', nI k', ch X0 len p') := by
    rw [sg_c h r hp]; exact itv_eq a6
  rw [fX4_readNumber, w1]
  dsimp only
  rw [setN X0 r v' hj hw hx]
  rw [fX6_figures, gX6_figures, e2]
  rcases dig_in (ch X0 len p) with ⟨d1, d2⟩ | ⟨d1, d2⟩
  · obtain ⟨b1, b2⟩ := a5 (by omega) d1
    rw [d2, if_neg one_ne, if_neg one_ne, ec]
    rw [cS_told, cS_row]
    refine ⟨⟨e3, vy, ⟨_, a7⟩, trivial⟩, Or.inl ⟨p', v', b2, a4, ?_, ?_⟩⟩
    · rw [if_neg (nI_nle (by omega) (by omega))]
    · exact congrArg (fun q : SV × Int32 => ((1 : Int32), q.1)) (lrun_itv (d := ((cS S0 (upd t (5 * j + w) 0) p j, 0) : SV × Int32)) a7)
  · rw [d2, if_pos rfl, if_pos rfl]
    refine ⟨⟨e3, trivial⟩, Or.inr ⟨?_, rfl⟩⟩
    -- no digit: the loop ends at once
    have hz1 : ¬ z ≤ 0 := by rw [hz]; exact nI_nle (by omega) (by omega)
    have w2 : itr (lX4_readNumber_11 (cX X0 r p j) x z) ((z.toInt - (0 : Int32).toInt).toNat + 1) (cX X0 r p j, 0, nI 0, ch X0 len p) = .inr (cX X0 r p j, 0, nI 0, ch X0 len p) := by
      simp only [itr]
      have e : lX4_readNumber_11 (cX X0 r p j) x z (cX X0 r p j, 0, nI 0, ch X0 len p) = .inr (cX X0 r p j, 0, nI 0, ch X0 len p) := by
        rw [lX4_readNumber_11]
        dsimp only
        rw [if_neg (show ¬ z ≤ nI 0 from hz1)]
        by_cases w : ch X0 len p < 48
        · rw [if_pos w]
        · rw [if_neg w, if_pos (Classical.byContradiction (fun z => d1 ⟨w, z⟩))]
      rw [e]
    rw [w2] at a6
    have a8 := Sum.inr.inj a6
    have b1 : nI 0 = nI k' := congrArg (fun q : XV × Int32 × Int32 × Int32 => q.2.2.1) a8
    have b2 : (0 : Int32) = v' := congrArg (fun q : XV × Int32 × Int32 × Int32 => q.2.1) a8
    have b3 : cX X0 r p j = cX X0 r p' j := congrArg (fun q : XV × Int32 × Int32 × Int32 => q.1) a8
    have b4 : nI p = nI p' := congrArg (fun q : XV => q.2.2.2.1) b3
    have b5 : p = p' := nI_inj (by have := h.2.2.1; omega) (by have := h.2.2.1; omega) b4
    rw [← b1, ← b2, ← b5, if_pos (show nI 0 ≤ 0 by decide)]
