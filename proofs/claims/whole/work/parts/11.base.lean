/-! What the objects are: the class's Tavern, Line, Text, History, TavernStools, and the reference -/
abbrev TV : Type := (Nat → Int32) × (Nat → Int32) × Int32 × Int32 × Int32 × Int32 × Int32 × Int32
abbrev LV : Type := (Nat → Int32) × Int32
abbrev XV : Type := (Nat → Int32) × (Nat → Int32) × Int32 × Int32 × Int32
abbrev HV : Type := Int32 × Int32
abbrev CV : Type := Int32 × Int32 × Int32 × Int32
abbrev SV : Type := (Nat → Int32) × (Nat → Int32) × (Nat → Int32) × (Nat → Int32) × (Nat → Int32) × (Nat → Int32) × (Nat → Int32) × (Nat → Int32) × Int32 × Int32 × Int32 × Int32 × Int32 × Int32 × Int32 × Int32 × Int32 × Int32 × Int32 × Int32
def w1 (h a : Nat) (S : HV) : va_W := [(h, .inr (2, [.ref a, .int S.1, .int S.2]))]
def w2 (cC : ClassId) (h a : Nat) (S : LV) : va_W := [(h, .inr (3, [.ref a, .int S.2])), (a, .inl (cC, 600, .inl S.1))]
def w3 (cI : ClassId) (h a b : Nat) (S : TV) : va_W := [(h, .inr (4, [.ref a, .ref b, .int S.2.2.1, .int S.2.2.2.1, .int S.2.2.2.2.1, .int S.2.2.2.2.2.1, .int S.2.2.2.2.2.2.1, .int S.2.2.2.2.2.2.2])), (a, .inl (cI, 72, .inl S.1)), (b, .inl (cI, 36, .inl S.2.1))]
def w4 (cI cC : ClassId) (h a b : Nat) (S : XV) : va_W := [(h, .inr (5, [.ref a, .ref b, .int S.2.2.1, .int S.2.2.2.1, .int S.2.2.2.2])), (a, .inl (cC, 60, .inl S.1)), (b, .inl (cI, 150, .inl S.2.1))]
def w5 (x ht hu hv hh hx hy : Nat) (S : CV) : va_W := [(x, .inr (6, [.ref ht, .ref hu, .ref hv, .ref hh, .ref hx, .ref hy, .int S.1, .int S.2.1, .int S.2.2.1, .int S.2.2.2]))]
def w6 (cI cC : ClassId) (h a1 a2 a3 a4 a5 a6 a7 a8 : Nat) (S : SV) : va_W := [(h, .inr (7, [.ref a1, .ref a2, .ref a3, .ref a4, .int S.2.2.2.2.2.2.2.2.1, .int S.2.2.2.2.2.2.2.2.2.1, .int S.2.2.2.2.2.2.2.2.2.2.1, .int S.2.2.2.2.2.2.2.2.2.2.2.1, .int S.2.2.2.2.2.2.2.2.2.2.2.2.1, .int S.2.2.2.2.2.2.2.2.2.2.2.2.2.1, .int S.2.2.2.2.2.2.2.2.2.2.2.2.2.2.1, .ref a5, .int S.2.2.2.2.2.2.2.2.2.2.2.2.2.2.2.1, .int S.2.2.2.2.2.2.2.2.2.2.2.2.2.2.2.2.1, .ref a6, .int S.2.2.2.2.2.2.2.2.2.2.2.2.2.2.2.2.2.1, .ref a7, .int S.2.2.2.2.2.2.2.2.2.2.2.2.2.2.2.2.2.2.1, .ref a8, .int S.2.2.2.2.2.2.2.2.2.2.2.2.2.2.2.2.2.2.2])), (a1, .inl (cI, 114, .inl S.1)), (a2, .inl (cI, 912, .inl S.2.1)), (a3, .inl (cI, 114, .inl S.2.2.1)), (a4, .inl (cI, 114, .inl S.2.2.2.1)), (a5, .inl (cI, 60, .inl S.2.2.2.2.1)), (a6, .inl (cC, 900, .inl S.2.2.2.2.2.1)), (a7, .inl (cI, 12, .inl S.2.2.2.2.2.2.1)), (a8, .inl (cI, 155, .inl S.2.2.2.2.2.2.2.1))]
/-! Numbers -/
theorem fb_rng (x : Int32) : -2147483648 ≤ x.toInt ∧ x.toInt < 2147483648 := by
  have h1 := Int32.le_toInt x
  have h2 := Int32.toInt_lt x
  omega
theorem fb_bmod {z : Int} (h1 : -2147483648 ≤ z) (h2 : z < 2147483648) : z.bmod (2 ^ 32) = z := by
  rw [Int.bmod_eq_of_le (by omega) (by omega)]
theorem fb_addI {x y : Int32} (h1 : -2147483648 ≤ x.toInt + y.toInt) (h2 : x.toInt + y.toInt < 2147483648) : (x + y).toInt = x.toInt + y.toInt := by
  rw [Int32.toInt_add, fb_bmod h1 h2]
theorem fb_subI {x y : Int32} (h1 : -2147483648 ≤ x.toInt - y.toInt) (h2 : x.toInt - y.toInt < 2147483648) : (x - y).toInt = x.toInt - y.toInt := by
  rw [Int32.toInt_sub, fb_bmod h1 h2]
theorem fb_mulI {x y : Int32} (h1 : -2147483648 ≤ x.toInt * y.toInt) (h2 : x.toInt * y.toInt < 2147483648) : (x * y).toInt = x.toInt * y.toInt := by
  rw [Int32.toInt_mul, fb_bmod h1 h2]
theorem nzb {x : Int32} (h : x = 0 ∨ x = 1) : narrow .boolean (.int x) = .int x := by rcases h with rfl | rfl <;> rfl
theorem nl_toInt {x : Int32} {n : Int} {m : Int32} (hm : m.toInt = n) (h : ¬ x < m) : n ≤ x.toInt := by
  rw [Int32.lt_iff_toInt_lt, hm] at h; omega
theorem nle_toInt {x : Int32} {n : Int} {m : Int32} (hm : m.toInt = n) (h : ¬ m ≤ x) : x.toInt < n := by
  rw [Int32.le_iff_toInt_le, hm] at h; omega
theorem lt_toInt {x : Int32} {n : Int} {m : Int32} (hm : m.toInt = n) (h : x < m) : x.toInt < n := by
  rw [Int32.lt_iff_toInt_lt, hm] at h; omega
theorem ix_lin {x y : Int32} {k : Int32} {K M N : Int} {n : Nat} (hk : k.toInt = K) (h1 : 0 ≤ x.toInt) (h2 : x.toInt < M) (h3 : 0 ≤ y.toInt) (h4 : y.toInt < K) (hK : 0 < K) (hb : M * K = N) (hN : N < 1000000) (hn : (n : Int) = N) : vp_in (x * k + y) n := by
  have e1 : x.toInt * K ≤ (M - 1) * K := Int.mul_le_mul_of_nonneg_right (by omega) (by omega)
  have e2 : (M - 1) * K = N - K := by rw [Int.sub_mul, hb]; omega
  have e3 : 0 ≤ x.toInt * K := Int.mul_nonneg h1 (by omega)
  have m1 : (x * k).toInt = x.toInt * K := by rw [fb_mulI (by rw [hk]; omega) (by rw [hk]; omega), hk]
  have m2 : (x * k + y).toInt = x.toInt * K + y.toInt := by rw [fb_addI (by rw [m1]; omega) (by rw [m1]; omega), m1]
  rw [vp_in_iff, m2]
  omega
theorem ix_st {x y : Int32} (h1 : ¬ x < 0) (h2 : ¬ 12 ≤ x) (h3 : ¬ y < 0) (h4 : y < 6) : vp_in (x * 6 + y) 72 :=
  ix_lin (K := 6) (M := 12) (by decide) (nl_toInt (by decide) h1) (nle_toInt (by decide) h2) (nl_toInt (by decide) h3) (lt_toInt (by decide) h4) (by omega) rfl (by omega) rfl
theorem ix_si {x y : Int32} (h1 : ¬ x < 0) (h2 : ¬ 12 ≤ x) (h3 : ¬ y < 0) (h4 : y < 3) : vp_in (x * 3 + y) 36 :=
  ix_lin (K := 3) (M := 12) (by decide) (nl_toInt (by decide) h1) (nle_toInt (by decide) h2) (nl_toInt (by decide) h3) (lt_toInt (by decide) h4) (by omega) rfl (by omega) rfl
theorem ix_or {x y : Int32} (h1 : ¬ x < 0) (h2 : ¬ 30 ≤ x) (h3 : ¬ y < 0) (h4 : y < 5) : vp_in (x * 5 + y) 150 :=
  ix_lin (K := 5) (M := 30) (by decide) (nl_toInt (by decide) h1) (nle_toInt (by decide) h2) (nl_toInt (by decide) h3) (lt_toInt (by decide) h4) (by omega) rfl (by omega) rfl
theorem lt_of_nle {x y : Int32} (h : ¬ y ≤ x) : x < y := by
  rw [Int32.le_iff_toInt_le] at h; rw [Int32.lt_iff_toInt_lt]; omega
theorem ix_lt {x m : Int32} {n : Nat} (hm : m.toInt = n) (h1 : ¬ x < 0) (h2 : x < m) : vp_in x n :=
  vp_in_iff.mpr ⟨nl_toInt (by decide) h1, lt_toInt hm h2⟩
theorem rk_ge {a b : Int32} (h : ¬ b ≤ a) : (b.toInt - (a + 1).toInt).toNat < (b.toInt - a.toInt).toNat := by
  rw [Int32.le_iff_toInt_le] at h
  have h1 := fb_rng a
  have h2 := fb_rng b
  have e1 : (1 : Int32).toInt = 1 := by decide
  rw [fb_addI (by omega) (by omega), e1]
  omega
theorem rk_gt {a b : Int32} (h : ¬ b < a) : (b.toInt + 1 - (a + 1).toInt).toNat < (b.toInt + 1 - a.toInt).toNat ∨ a.toInt = 2147483647 := by
  rw [Int32.lt_iff_toInt_lt] at h
  have h1 := fb_rng a
  have h2 := fb_rng b
  have e1 : (1 : Int32).toInt = 1 := by decide
  by_cases h3 : a.toInt = 2147483647
  · exact Or.inr h3
  · rw [fb_addI (by omega) (by omega), e1]
    exact Or.inl (by omega)
theorem itv_ends {σ ρ : Type} {d : ρ} {f : σ → σ ⊕ ρ} {n : Nat} {a : σ} (h : ∃ r, itr f n a = .inr r) : itr f n a = .inr (itv d f n a) := by
  obtain ⟨r, hr⟩ := h
  rw [itv_eq hr, hr]
