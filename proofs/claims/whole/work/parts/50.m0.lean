/-! Loops told by the row of their states -/
theorem lrun_seq {σ ρ : Type} {f : σ → σ ⊕ ρ} {P : σ → Prop} (F : Nat → σ) (r : ρ) : ∀ (n k fuel : Nat), n < fuel → (∀ i, k ≤ i → i < k + n → P (F i) ∧ f (F i) = .inl (F (i + 1))) → P (F (k + n)) → f (F (k + n)) = .inr r → lrun f P fuel (F k) r
  | 0, k, fuel, hf, _, hP, he => by
    cases fuel with
    | zero => exact absurd hf (by omega)
    | succ fuel => exact ⟨by simpa using hP, Or.inr (by simpa using he)⟩
  | n + 1, k, fuel, hf, h, hP, he => by
    cases fuel with
    | zero => exact absurd hf (by omega)
    | succ fuel =>
      obtain ⟨h1, h2⟩ := h k (Nat.le_refl k) (by omega)
      refine ⟨h1, Or.inl ⟨F (k + 1), h2, ?_⟩⟩
      refine lrun_seq F r n (k + 1) fuel (by omega) (fun i a b => h i (by omega) (by omega)) ?_ ?_
      · rw [show k + 1 + n = k + (n + 1) by omega]; exact hP
      · rw [show k + 1 + n = k + (n + 1) by omega]; exact he
theorem itr_seq {σ ρ : Type} {f : σ → σ ⊕ ρ} (F : Nat → σ) (r : ρ) (n k fuel : Nat) (hf : n < fuel) (h : ∀ i, k ≤ i → i < k + n → f (F i) = .inl (F (i + 1))) (he : f (F (k + n)) = .inr r) : itr f fuel (F k) = .inr r :=
  lrun_itr _ _ _ (lrun_seq (P := fun _ => True) F r n k fuel hf (fun i a b => ⟨trivial, h i a b⟩) trivial he)
/-- two loops of one shape -/
theorem lrun_sim {σ τ ρ π : Type} {f : σ → σ ⊕ ρ} {g : τ → τ ⊕ π} {P : τ → Prop} (R : σ → τ → Prop) (RE : ρ → π → Prop) (μ : τ → Nat)
    (h : ∀ a b, R a b → P b ∧ ((∃ a' b', f a = .inl a' ∧ g b = .inl b' ∧ R a' b' ∧ μ b' < μ b) ∨ (∃ r q, f a = .inr r ∧ g b = .inr q ∧ RE r q))) :
    ∀ (n m : Nat) (a : σ) (b : τ), R a b → μ b < n → μ b < m → ∃ r q, itr f n a = .inr r ∧ lrun g P m b q ∧ RE r q
  | 0, _, _, _, _, hn, _ => absurd hn (by omega)
  | _ + 1, 0, _, _, _, _, hm => absurd hm (by omega)
  | n + 1, m + 1, a, b, hR, hn, hm => by
    obtain ⟨hP, h1⟩ := h a b hR
    rcases h1 with ⟨a', b', e1, e2, hR', hμ⟩ | ⟨r, q, e1, e2, hE⟩
    · obtain ⟨r, q, i1, i2, i3⟩ := lrun_sim R RE μ h n m a' b' hR' (by omega) (by omega)
      exact ⟨r, q, by simp only [itr, e1]; exact i1, ⟨hP, Or.inl ⟨b', e2, i2⟩⟩, i3⟩
    · exact ⟨r, q, by simp only [itr, e1], ⟨hP, Or.inr e2⟩, hE⟩
/-- numbers as they come in loops -/
theorem nI_up (a : Nat) : nI a + 1 = nI (a + 1) := nI_1 a
theorem nI_fuel {n k : Nat} (hn : n < 2 ^ 31) (hk : k < 2 ^ 31) : ((nI n).toInt - (nI k).toInt).toNat = n - k := by
  rw [nI_toInt hn, nI_toInt hk]; omega
/-- the reference's row read as the class's tavern -/
def tvOf (g : Nat → Int32) : TV := (fun j => if j < 72 then g (6 + j) else 0, fun j => if j < 36 then g (78 + j) else 0, g 0, g 1, g 2, g 3, g 4, g 5)
theorem c0 : (0 : Int32).toNatClampNeg = 0 := by decide
theorem c1 : (1 : Int32).toNatClampNeg = 1 := by decide
theorem c2 : (2 : Int32).toNatClampNeg = 2 := by decide
theorem c3 : (3 : Int32).toNatClampNeg = 3 := by decide
theorem c5 : (5 : Int32).toNatClampNeg = 5 := by decide
theorem nI_mul {a b : Nat} (h : a * b < 2 ^ 31) (ha : a < 2 ^ 31) (hb : b < 2 ^ 31) : nI a * nI b = nI (a * b) := by
  refine Int32.toInt_inj.mp ?_
  have e : ((a * b : Nat) : Int) = (a : Int) * (b : Int) := Int.natCast_mul a b
  rw [fb_mulI (by rw [nI_toInt ha, nI_toInt hb, ← e]; omega) (by rw [nI_toInt ha, nI_toInt hb, ← e]; omega), nI_toInt ha, nI_toInt hb, nI_toInt h, e]
theorem ofStool_eq (T : TV) {x y : Int32} (i w : Nat) (hx : x = nI i) (hy : y = nI w) (hi : i < 12) (hw : w < 6) : fX3_ofStool T x y = T.1 (6 * i + w) := by
  subst hx; subst hy
  have h1 : ¬ nI i < 0 := nI_pos (by omega)
  have h2 : ¬ (12 : Int32) ≤ nI i := nI_ge (a := i) (b := 12) (by omega) (by omega)
  have h3 : ¬ nI w < 0 := nI_pos (by omega)
  have h4 : nI w < 6 := nI_lt (a := w) (b := 6) (by omega) (by omega)
  have e : nI i * 6 + nI w = nI (6 * i + w) := by
    rw [show (6 : Int32) = nI 6 from rfl, nI_mul (by omega) (by omega) (by omega), nI_add]
    congr 1
    omega
  rw [fX3_ofStool, if_neg h1, if_neg h2, if_neg h3, if_pos h4, e, nI_clamp (by omega)]
theorem ofSitter_eq (T : TV) {x y : Int32} (i w : Nat) (hx : x = nI i) (hy : y = nI w) (hi : i < 12) (hw : w < 3) : fX3_ofSitter T x y = T.2.1 (3 * i + w) := by
  subst hx; subst hy
  have h1 : ¬ nI i < 0 := nI_pos (by omega)
  have h2 : ¬ (12 : Int32) ≤ nI i := nI_ge (a := i) (b := 12) (by omega) (by omega)
  have h3 : ¬ nI w < 0 := nI_pos (by omega)
  have h4 : nI w < 3 := nI_lt (a := w) (b := 3) (by omega) (by omega)
  have e : nI i * 3 + nI w = nI (3 * i + w) := by
    rw [show (3 : Int32) = nI 3 from rfl, nI_mul (by omega) (by omega) (by omega), nI_add]
    congr 1
    omega
  rw [fX3_ofSitter, if_neg h1, if_neg h2, if_neg h3, if_pos h4, e, nI_clamp (by omega)]
theorem ofStool_none (T : TV) (y : Int32) : fX3_ofStool T (-1) y = -1 := by
  rw [fX3_ofStool, if_pos (by decide)]
theorem ofSitter_none (T : TV) (y : Int32) : fX3_ofSitter T (-1) y = -1 := by
  rw [fX3_ofSitter, if_pos (by decide)]
theorem of_eq (S : SV) {x y : Int32} (i w : Nat) (hx : x = nI i) (hy : y = nI w) (hi : i < 12) (hw : w < 6) : fX6_of S x y = S.1 (6 + (6 * i + w)) ∧ gX6_of S x y := by
  subst hx; subst hy
  have e : (6 + 6 * nI i) + nI w = nI (6 + (6 * i + w)) := by
    rw [show (6 : Int32) = nI 6 from rfl, nI_mul (by omega) (by omega) (by omega), nI_add, nI_add]
    congr 1
    omega
  refine ⟨?_, ?_⟩
  · rw [fX6_of, e, nI_clamp (by omega)]
  · rw [gX6_of, e]
    exact ⟨vp_in_nI (by omega) (by omega), trivial⟩
theorem by_eq (S : SV) {x y : Int32} (i w : Nat) (hx : x = nI i) (hy : y = nI w) (hi : i < 12) (hw : w < 3) : fX6_by S x y = S.1 (78 + (3 * i + w)) ∧ gX6_by S x y := by
  subst hx; subst hy
  have e : (78 + 3 * nI i) + nI w = nI (78 + (3 * i + w)) := by
    rw [show (3 : Int32) = nI 3 from rfl, show (78 : Int32) = nI 78 from rfl, nI_mul (by omega) (by omega) (by omega), nI_add, nI_add]
    congr 1
    omega
  refine ⟨?_, ?_⟩
  · rw [fX6_by, e, nI_clamp (by omega)]
  · rw [gX6_by, e]
    exact ⟨vp_in_nI (by omega) (by omega), trivial⟩
theorem tv1 (g : Nat → Int32) {j : Nat} (h : j < 72) : (tvOf g).1 j = g (6 + j) := by simp only [tvOf, if_pos h]
theorem tv2 (g : Nat → Int32) {j : Nat} (h : j < 36) : (tvOf g).2.1 j = g (78 + j) := by simp only [tvOf, if_pos h]
/-- the reference's reads as the class's -/
theorem of_tv (S : SV) {x y : Int32} (i w : Nat) (hx : x = nI i) (hy : y = nI w) (hi : i < 12) (hw : w < 6) : fX6_of S x y = fX3_ofStool (tvOf S.1) x y := by
  rw [(of_eq S i w hx hy hi hw).1, ofStool_eq (tvOf S.1) i w hx hy hi hw, tv1 _ (by omega)]
theorem by_tv (S : SV) {x y : Int32} (i w : Nat) (hx : x = nI i) (hy : y = nI w) (hi : i < 12) (hw : w < 3) : fX6_by S x y = fX3_ofSitter (tvOf S.1) x y := by
  rw [(by_eq S i w hx hy hi hw).1, ofSitter_eq (tvOf S.1) i w hx hy hi hw, tv2 _ (by omega)]
theorem nI_nle_iff {n k : Nat} (hn : n < 2 ^ 31) (hk : k < 2 ^ 31) : nI n ≤ nI k ↔ n ≤ k := nI_leI hn hk
/-- cats: a first example of two loops of one shape -/
theorem cats_eq (S : SV) (m : Nat) (hm : S.1 1 = nI m) (h12 : m ≤ 12) : fX6_cats S = fX3_cats (tvOf S.1) ∧ gX6_cats S := by
  have hm2 : (tvOf S.1).2.2.2.1 = nI m := hm
  have key := lrun_sim (f := lX3_cats_4 (tvOf S.1)) (g := lX6_cats_4 S) (P := glX6_cats_4 S) (fun a b => a = b ∧ ∃ k, k ≤ m ∧ b.2 = nI k) (fun r q => r = q) (fun b => m - b.2.toNatClampNeg) (by
    intro a b hR
    obtain ⟨rfl, k, hk, hb⟩ := hR
    by_cases h : m ≤ k
    · have hc : nI m ≤ a.2 := by rw [hb]; exact nI_le h (by omega)
      refine ⟨?_, Or.inr ⟨(a.1, a.2), (a.1, a.2), ?_, ?_, rfl⟩⟩
      · rw [glX6_cats_4, c1, hm, if_pos hc]; exact ⟨vp_in_nI (n := 1) (by omega) (by omega), trivial⟩
      · rw [lX3_cats_4, hm2, if_pos hc]
      · rw [lX6_cats_4, c1, hm, if_pos hc]
    · have hc : ¬ nI m ≤ a.2 := by rw [hb]; exact nI_ge (by omega) (by omega)
      have e1 := by_tv S (x := a.2) (y := 0) k 0 hb rfl (by omega) (by omega)
      have e2 := (by_eq S (x := a.2) (y := 0) k 0 hb rfl (by omega) (by omega)).2
      have hμ : m - (a.2 + 1).toNatClampNeg < m - a.2.toNatClampNeg := by rw [hb, nI_1, nI_clamp (by omega), nI_clamp (by omega)]; omega
      have hnx : ∃ k', k' ≤ m ∧ a.2 + 1 = nI k' := ⟨k + 1, by omega, by rw [hb, nI_1]⟩
      refine ⟨?_, Or.inl ?_⟩
      · rw [glX6_cats_4, c1, hm, if_neg hc]; exact ⟨vp_in_nI (n := 1) (by omega) (by omega), ⟨e2, trivial⟩, trivial⟩
      · by_cases hz : fX3_ofSitter (tvOf S.1) a.2 0 = 0
        · refine ⟨(a.1 + 1, a.2 + 1), (a.1 + 1, a.2 + 1), ?_, ?_, ⟨rfl, hnx⟩, hμ⟩
          · rw [lX3_cats_4, hm2, if_neg hc, if_pos hz]
          · rw [lX6_cats_4, c1, hm, if_neg hc, fX6_isCat, e1, if_pos hz, if_neg (by decide)]
        · refine ⟨(a.1 + 0, a.2 + 1), (a.1 + 0, a.2 + 1), ?_, ?_, ⟨rfl, hnx⟩, hμ⟩
          · rw [lX3_cats_4, hm2, if_neg hc, if_neg hz]
          · rw [lX6_cats_4, c1, hm, if_neg hc, fX6_isCat, e1, if_neg hz, if_pos rfl])
  have hf : ((nI m).toInt - (0 : Int32).toInt).toNat + 1 = m + 1 := by rw [nI_toInt (by omega), show (0 : Int32).toInt = 0 from by decide]; omega
  obtain ⟨r, q, h1, h2, h3⟩ := key (m + 1) (m + 1) (0, 0) (0, 0) ⟨rfl, 0, Nat.zero_le m, rfl⟩ (by show m - (0 : Int32).toNatClampNeg < m + 1; omega) (by show m - (0 : Int32).toNatClampNeg < m + 1; omega)
  refine ⟨?_, ?_⟩
  · rw [fX6_cats, fX3_cats, c1, hm, hm2]
    rw [hf, lrun_itv h2, itv_eq h1, h3]
  · rw [gX6_cats, c1, hm]
    show (∃ r9 : (Int32 × Int32), lrun _ _ (((nI m).toInt - (0 : Int32).toInt).toNat + 1) _ r9) ∧ True
    rw [hf]
    exact ⟨⟨q, h2⟩, trivial⟩
