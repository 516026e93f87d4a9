/-! Tilts and noise -/
def tl (g : Nat → Int32) (i : Nat) : UInt32 := FP.fdiv (FP.i2f (qs g i 2)) (FP.i2f (qs g i 0))
theorem tl_dec : ∀ w, w < 10 → ∀ h, h < 41 → 1 ≤ h → (FP.fdiv (FP.i2f (nI w)) (FP.i2f (nI h))).toNat < 131 * 8388608 := by decide +kernel
theorem i2f_dec : ∀ w, w < 10 → (FP.i2f (nI w)).toNat < 131 * 8388608 := by decide +kernel
theorem i2f_dec2 : ∀ w, w < 201 → (FP.i2f (nI w)).toNat < 135 * 8388608 := by decide +kernel
theorem vf_of {x : UInt32} (h : x.toNat < 2139095040) : vf_n32 x := by
  show x &&& 0x7fffffff ≤ 0x7f800000
  rw [UInt32.le_iff_toNat_le, UInt32.toNat_and]
  exact Nat.le_trans Nat.and_le_left (Nat.le_of_lt h)
theorem tlt_fin {K n m : Nat} {g : Nat → Int32} (h : WT K n m g) {i : Nat} (hi : i < n) : (tl g i).toNat < 131 * 8388608 := by
  obtain ⟨b0, b1, b2, -⟩ := h.2.1 i hi
  obtain ⟨x, hx, x1, x2⟩ := of_rng b0.1 (by omega) b0.2
  obtain ⟨y, hy, y1, y2⟩ := of_rng b2.1 (by omega) b2.2
  rw [tl, hx, hy]
  exact tl_dec y (by omega) x (by omega) (by omega)
theorem tl_c {K n m : Nat} {g : Nat → Int32} (h : WT K n m g) {i : Nat} (hi : i < n) : fX3_tiltAt (tvOf g) (nI i) = tl g i := by
  have hn := h.1.2.2.1
  obtain ⟨b0, -⟩ := h.2.1 i hi
  rw [fX3_tiltAt, rS g (w := 0) (y := 0) (show i < 12 by omega) (by decide) rfl, rS g (w := 2) (y := 2) (show i < 12 by omega) (by decide) rfl, if_pos (by rw [Int32.le_iff_toInt_le, o1I]; exact b0.1)]
  rfl
theorem tl_r {K n m : Nat} (S : SV) (h : WT K n m S.1) {i : Nat} (hi : i < n) : fX6_tiltOf S (nI i) = tl S.1 i ∧ gX6_tiltOf S (nI i) := by
  have hn := h.1.2.2.1
  have e : fX6_tiltOf S (nI i) = tl S.1 i := by
    rw [fX6_tiltOf, rO S (w := 2) (y := 2) (show i < 12 by omega) (by decide) rfl, rO S (w := 0) (y := 0) (show i < 12 by omega) (by decide) rfl]; rfl
  have f := tlt_fin h hi
  refine ⟨e, gO S (by omega) (by decide) rfl, gO S (by omega) (by decide) rfl, ?_, trivial⟩
  have e2 := e
  rw [fX6_tiltOf] at e2
  rw [e2]
  exact vf_of (by omega)
/-- sums and products of floats from 0 on -/
theorem pos32 {a : UInt32} (h : a.toNat < 2139095040) : ∃ c q, FP.Core.val32 a = .fin false c q := by
  have := fx_dec h
  split at this
  · exact ⟨_, _, this⟩
  · exact ⟨_, _, this⟩
theorem sgn_of {r : UInt32} {K : Nat} (h1 : r.toNat % 2 ^ 31 < K * 8388608) (hK : K ≤ 255) (h2 : FP.Core.sgn (FP.Core.val32 r) = false) : r.toNat < K * 8388608 := by
  have hn : FP.Core.val32 r ≠ .nan := by rw [FP.Core.ne_nan32]; omega
  have h3 := FP.Core.sgn_bits32 hn
  rw [h2] at h3
  have := of_decide_eq_false h3.symm
  omega
theorem add_fin {a b : UInt32} {K : Nat} (ha : a.toNat < K * 8388608) (hb : b.toNat < K * 8388608) (hK : K ≤ 253) : (FP.fadd a b).toNat < (K + 2) * 8388608 := by
  have h1 : (FP.Core.fadd a b).toNat % 2 ^ 31 < (K + 2) * 8388608 := FP.Core.fadd_mag (by omega) (by omega) (by omega)
  refine sgn_of h1 (by omega) ?_
  obtain ⟨c, q, e1⟩ := pos32 (a := a) (by omega)
  obtain ⟨d, r, e2⟩ := pos32 (a := b) (by omega)
  rw [FP.Core.val32_fadd, e1, e2]
  show FP.Core.sgn (FP.Core.roundRatio FP.Core.b32 (FP.Core.sumSign false false (FP.Core.sumUnits false c q false d r (min q r))) _ 1 _) = false
  rw [FP.Core.sgn_roundRatio]
  have hv : FP.Core.sumUnits false c q false d r (min q r) = ((FP.Core.inUnits c q (min q r) + FP.Core.inUnits d r (min q r) : Nat) : Int) := rfl
  rw [hv]
  unfold FP.Core.sumSign
  split
  · rfl
  · exact decide_eq_false (by omega)
theorem mul_fin {a b : UInt32} {Ka Kb : Nat} (ha : a.toNat < Ka * 8388608) (hb : b.toNat < Kb * 8388608) (hKa : Ka ≤ 255) (hKb : Kb ≤ 255) (hK : Ka + Kb - 129 + 3 ≤ 255) : (FP.fmul a b).toNat < (Ka + Kb - 129 + 3) * 8388608 := by
  have h1 : (FP.Core.fmul a b).toNat % 2 ^ 31 < (Ka + Kb - 129 + 3) * 8388608 := FP.Core.fmul_mag (by omega) (by omega) hKa hKb
  refine sgn_of h1 hK ?_
  obtain ⟨c, q, e1⟩ := pos32 (a := a) (by omega)
  obtain ⟨d, r, e2⟩ := pos32 (a := b) (by omega)
  rw [FP.Core.val32_fmul, e1, e2]
  exact FP.Core.sgn_roundRatio _ _ _ _ _
/-- the noise on a stool where k sits -/
def ns (g : Nat → Int32) (i k : Nat) : UInt32 := FP.fmul (FP.fmul (FP.i2f (qs g i 1)) (FP.fadd FP.fconst1 (tl g i))) (FP.i2f (qp g k 1))
theorem ns_fin {K n m : Nat} {g : Nat → Int32} (h : WT K n m g) {i k : Nat} (hi : i < n) (hk : k < m) : (FP.fadd FP.fconst1 (tl g i)).toNat < 133 * 8388608 ∧ (FP.fmul (FP.i2f (qs g i 1)) (FP.fadd FP.fconst1 (tl g i))).toNat < 138 * 8388608 ∧ (ns g i k).toNat < 147 * 8388608 := by
  obtain ⟨b0, b1, b2, -⟩ := h.2.1 i hi
  obtain ⟨x, hx, x1, x2⟩ := of_rng b1.1 (by omega) b1.2
  obtain ⟨y, hy, y1, y2⟩ := of_rng (h.2.2 k hk).2.1.1 (by omega) (h.2.2 k hk).2.1.2
  have s1 : (FP.fadd FP.fconst1 (tl g i)).toNat < 133 * 8388608 := add_fin (K := 131) (by decide) (tlt_fin h hi) (by omega)
  have s2 : (FP.i2f (qs g i 1)).toNat < 131 * 8388608 := by rw [hx]; exact i2f_dec x (by omega)
  have s3 : (FP.i2f (qp g k 1)).toNat < 135 * 8388608 := by rw [hy]; exact i2f_dec2 y (by omega)
  have s4 : (FP.fmul (FP.i2f (qs g i 1)) (FP.fadd FP.fconst1 (tl g i))).toNat < 138 * 8388608 := mul_fin (Ka := 131) (Kb := 133) s2 s1 (by omega) (by omega) (by omega)
  exact ⟨s1, s4, mul_fin (Ka := 138) (Kb := 135) s4 s3 (by omega) (by omega) (by omega)⟩
theorem ns_c {K n m : Nat} {g : Nat → Int32} (h : WT K n m g) {i k : Nat} (hi : i < n) (hk : k < m) (hw : qs g i 5 = nI k) : fX3_noiseAt (tvOf g) (nI i) = ns g i k := by
  have hn := h.1.2.2.1
  have hm := h.1.2.2.2.1
  rw [fX3_noiseAt, rS g (w := 5) (y := 5) (show i < 12 by omega) (by decide) rfl, hw, if_neg (nI_m1 (by omega)), rS g (w := 1) (y := 1) (show i < 12 by omega) (by decide) rfl, rP g (w := 1) (y := 1) (show k < 12 by omega) (by decide) rfl, tl_c h hi]
  rfl
theorem ns_c0 {K n m : Nat} {g : Nat → Int32} (h : WT K n m g) {i : Nat} (hi : i < n) (hw : qs g i 5 = -1) : fX3_noiseAt (tvOf g) (nI i) = FP.fconst0 := by
  have hn := h.1.2.2.1
  rw [fX3_noiseAt, rS g (w := 5) (y := 5) (show i < 12 by omega) (by decide) rfl, if_pos hw]
theorem ns_r {K n m : Nat} (S : SV) (h : WT K n m S.1) {i k : Nat} (hi : i < n) (hk : k < m) (hw : qs S.1 i 5 = nI k) : fX6_noiseOn S (nI i) = ns S.1 i k ∧ gX6_noiseOn S (nI i) := by
  have hn := h.1.2.2.1
  have hm := h.1.2.2.2.1
  obtain ⟨t1, t2⟩ := tl_r S h hi
  obtain ⟨f1, f2, f3⟩ := ns_fin h hi hk
  have o5 : fX6_of S (nI i) 5 = nI k := (rO S (w := 5) (y := 5) (show i < 12 by omega) (by decide) rfl).trans hw
  have o1 := rO S (i := i) (w := 1) (y := 1) (show i < 12 by omega) (by decide) rfl
  have b1 := rB S (k := k) (w := 1) (y := 1) (show k < 12 by omega) (by decide) rfl
  rw [fX6_noiseOn, gX6_noiseOn, t1, o5, o1, b1]
  refine ⟨rfl, gO S (by omega) (by decide) rfl, t2, vf_of (by omega), vf_of (by omega), gO S (by omega) (by decide) rfl, gB S (by omega) (by decide) rfl, vf_of ?_, trivial⟩
  show (ns S.1 i k).toNat < 2139095040
  omega
/-- the noise of all -/
def nz (g : Nat → Int32) (a : UInt32) (j : Nat) : UInt32 := if qs g j 5 = -1 then a else FP.fadd a (ns g j (qs g j 5).toNatClampNeg)
theorem nz_inv {K n m : Nat} {g : Nat → Int32} (h : WT K n m g) {a : UInt32} {j : Nat} (hj : j < n) (ha : a.toNat < (147 + 2 * j) * 8388608) : (nz g a j).toNat < (147 + 2 * (j + 1)) * 8388608 := by
  have hn := h.1.2.2.1
  have hm := h.1.2.2.2.1
  unfold nz
  rcases h.who hj with w | ⟨k, hk, w, -⟩
  · rw [if_pos w]
    exact Nat.lt_of_lt_of_le ha (Nat.mul_le_mul_right _ (by omega))
  · rw [if_neg (by rw [w]; exact nI_m1 (by omega)), w, nI_clamp (by omega)]
    have f := (ns_fin h hj hk).2.2
    have r := add_fin (K := 147 + 2 * j) ha (b := ns g j k) (Nat.lt_of_lt_of_le f (Nat.mul_le_mul_right _ (by omega))) (by omega)
    exact Nat.lt_of_lt_of_le r (Nat.mul_le_mul_right _ (by omega))
theorem add0 {a : UInt32} (h : a.toNat < 2139095040) : FP.fadd a FP.fconst0 = a := by
  have hn : FP.Core.val32 a ≠ .nan := by rw [FP.Core.ne_nan32]; omega
  refine FP.Core.fadd_zero hn (fun z => ?_)
  have : a.toNat = 2147483648 := by rw [z]; rfl
  omega
theorem na_c {K n m : Nat} {g : Nat → Int32} (h : WT K n m g) : fX3_noiseOfAll (tvOf g) = fo (nz g) 0 n FP.fconst0 ∧ (fo (nz g) 0 n FP.fconst0).toNat < (147 + 2 * n) * 8388608 := by
  have hn := h.1.2.2.1
  have hm := h.1.2.2.2.1
  have hg : (tvOf g).2.2.1 = nI n := h.1.1
  have hf := fuel0 hg (by omega)
  have key := fo_itv (f := lX3_noiseOfAll_4 (tvOf g)) ((FP.fconst0, 0) : UInt32 × Int32) (fun (a : UInt32) j => (a, nI j)) (fun a => (a, nI n)) (nz g) (fun a j => a.toNat < (147 + 2 * j) * 8388608) n (fun a j hj hI => ⟨by
    rw [lX3_noiseOfAll_4, if_neg (up_le hg (by omega) hj), nI_1]
    unfold nz
    rcases h.who hj with w | ⟨k, hk, w, -⟩
    · rw [if_pos w, ns_c0 h hj w, add0 (a := a) (by omega)]
    · rw [if_neg (by rw [w]; exact nI_m1 (by omega)), ns_c h hj hk w, w, nI_clamp (by omega)], nz_inv h hj hI⟩) (fun a _ => by
    rw [lX3_noiseOfAll_4, if_pos (at_le hg)]) n 0 FP.fconst0 _ (by omega) hf (by decide)
  exact ⟨congrArg Prod.fst key.1, key.2⟩
theorem na_r {K n m : Nat} (S : SV) (h : WT K n m S.1) : fX6_noiseBits S = (fJxf58ca_floatToIntBits_5c35a (fo (nz S.1) 0 n FP.fconst0), sS12 0 S) ∧ gX6_noiseBits S := by
  have hn := h.1.2.2.1
  have hm := h.1.2.2.2.1
  have v0 : vp_in 0 114 := gHd (j := 0) rfl (by omega)
  have hg : S.1 (0 : Int32).toNatClampNeg = nI n := by rw [c0]; exact h.1.1
  have hf := fuel0 hg (by omega)
  have key := fo_loop (f := lX6_noiseBits_9 S) (P := glX6_noiseBits_9 S) (fun (a : UInt32) j => (a, nI j)) (fun a => (a, nI n)) (nz S.1) (fun a j => a.toNat < (147 + 2 * j) * 8388608) n (fun a j hj hI => by
    have hc := up_le hg (by omega) hj
    have inv := nz_inv h hj hI
    have o5 : fX6_of (sS12 0 S) (nI j) 5 = qs S.1 j 5 := rO (sS12 0 S) (w := 5) (y := 5) (show j < 12 by omega) (by decide) rfl
    have g5 : gX6_of (sS12 0 S) (nI j) 5 := gO (sS12 0 S) (by omega) (by decide) rfl
    rw [glX6_noiseBits_9, lX6_noiseBits_9, if_neg hc, if_neg hc, o5]
    rcases h.who hj with w | ⟨k, hk, w, -⟩
    · have c1 : qs S.1 j 5 < 0 := by rw [w]; decide
      rw [if_pos c1, if_pos c1]
      refine ⟨⟨v0, g5, trivial⟩, ?_, inv⟩
      rw [nz, if_pos w, nI_1]
    · have c1 : ¬ qs S.1 j 5 < 0 := by rw [w]; exact nI_pos (by omega)
      obtain ⟨n1, n2⟩ := ns_r (sS12 0 S) (K := K) (n := n) (m := m) h hj hk w
      replace n1 : fX6_noiseOn (sS12 0 S) (nI j) = ns S.1 j k := n1
      rw [if_neg c1, if_neg c1, n1]
      have e : nz S.1 a j = FP.fadd a (ns S.1 j k) := by rw [nz, if_neg (by rw [w]; exact nI_m1 (by omega)), w, nI_clamp (by omega)]
      refine ⟨⟨v0, g5, n2, ?_, trivial⟩, ?_, inv⟩
      · show vf_n32 (FP.fadd a (ns S.1 j k))
        rw [← e]; exact vf_of (by omega)
      · rw [e, nI_1]) (fun a _ => ⟨by rw [glX6_noiseBits_9, if_pos (at_le hg)]; exact ⟨v0, trivial⟩, by rw [lX6_noiseBits_9, if_pos (at_le hg)]⟩) n 0 FP.fconst0 _ (by omega) hf (by decide)
  refine ⟨?_, ⟨_, key.1⟩, trivial⟩
  have w1 : itv (FP.fconst0, (0 : Int32)) (lX6_noiseBits_9 S) ((fun v : (UInt32 × Int32) => ((S.1 (0 : Int32).toNatClampNeg).toInt - v.2.toInt).toNat) (FP.fconst0, 0) + 1) (FP.fconst0, 0) = (fo (nz S.1) 0 n FP.fconst0, nI n) := lrun_itv key.1
  rw [fX6_noiseBits, w1]
/-- the library's bits are the class's -/
theorem fib {x : UInt32} (h : x.toNat < 2139095040) : fJxf58ca_floatToIntBits_5c35a x = fX0_toBits x := by
  have e : FP.fcmp x x = some .eq := FP.Core.fcmp_self (by rw [FP.Core.ne_nan32]; omega)
  have e2 : fJxf58ca_isNaN_12338 x = 0 := by
    rw [fJxf58ca_isNaN_12338, e, if_pos (by decide)]
  rw [fJxf58ca_floatToIntBits_5c35a, e2, if_pos rfl, toBits_eq x h]
/-- the order by tilts -/
def mt (g : Nat → Int32) (a b : Nat) : Nat := if 0 < Op.cmpValue (FP.fcmp (tl g a) (tl g b)) .l then 1 else if Op.cmpValue (FP.fcmp (tl g a) (tl g b)) .l = 0 then (if nI b ≤ nI a then 0 else 1) else 0
def mn (g : Nat → Int32) (n k : Nat) : Nat := sf (fun o => mt g o k) 0 n
def tp (g : Nat → Int32) (n : Nat) (x : Int32) (k : Nat) : Bool := decide (nI (mn g n k) = x)
theorem mt_le (g : Nat → Int32) (a b : Nat) : mt g a b ≤ 1 := by
  unfold mt
  repeat' split
  all_goals omega
theorem ta_c {K n m : Nat} {g : Nat → Int32} (h : WT K n m g) (x : Int32) : fX3_tiltedAt (tvOf g) x = (fd (tp g n x) 0 n).elim (-1) nI := by
  have hn := h.1.2.2.1
  have hg : (tvOf g).2.2.1 = nI n := h.1.1
  have hf := fuel0 hg (by omega)
  have inner : ∀ k, k < n → (itv ((0 : Int32), (0 : Int32)) (lX3_tiltedAt_15 (tvOf g) x (nI k)) ((fun w : (Int32 × Int32) => ((tvOf g).2.2.1.toInt - w.2.toInt).toNat) (0, 0) + 1) (0, 0)).1 = nI (mn g n k) := fun k hk => by
    have key := (fo_itv (f := lX3_tiltedAt_15 (tvOf g) x (nI k)) ((0, 0) : Int32 × Int32) (fun (a : Nat) j => (nI a, nI j)) (fun a => (nI a, nI n)) (fun a o => a + mt g o k) (fun _ _ => True) n (fun a j hj _ => ⟨by
      have e : fX3_isMoreTilted (tvOf g) (nI j) (nI k) = nI (mt g j k) := by
        rw [fX3_isMoreTilted, tl_c h hj, tl_c h hk, mt]
        repeat' split
        all_goals rfl
      rw [lX3_tiltedAt_15, if_neg (up_le hg (by omega) hj), e]
      have h1 := mt_le g j k
      rcases (show mt g j k = 0 ∨ mt g j k = 1 by omega) with h2 | h2
      · rw [h2, if_pos nI_0, nI_1, Int32.add_zero]; rfl
      · rw [h2, if_neg (by decide), nI_1, nI_1], trivial⟩) (fun a _ => by
      rw [lX3_tiltedAt_15, if_pos (at_le hg)]) n 0 0 _ (by omega) hf trivial).1
    rw [fo_sf, Nat.zero_add] at key
    exact congrArg Prod.fst key
  have key := fd_itv (f := lX3_tiltedAt_2 (tvOf g) x) (.inl 0) nI (.inl (nI n)) (fun j => .inr (nI j)) (tp g n x) n (fun k hk => by
    have hc := up_le hg (by omega) hk
    refine ⟨fun hp => ?_, fun hp => ?_⟩
    · have hne : ¬ nI (mn g n k) = x := of_decide_eq_false hp
      rw [lX3_tiltedAt_2, if_neg hc, inner k hk, if_neg hne, nI_1]
    · have he : nI (mn g n k) = x := of_decide_eq_true hp
      rw [lX3_tiltedAt_2, if_neg hc, inner k hk, if_pos he]) (by
    rw [lX3_tiltedAt_2, if_pos (at_le hg)]) n 0 _ (by omega) hf
  have key' : itv (.inl 0) (lX3_tiltedAt_2 (tvOf g) x) ((fun v : Int32 => ((tvOf g).2.2.1.toInt - v.toInt).toNat) 0 + 1) 0 = _ := key
  rw [fX3_tiltedAt, key']
  cases fd (tp g n x) 0 n <;> rfl
theorem ta_r {K n m : Nat} (S : SV) (h : WT K n m S.1) (x : Int32) : fX6_tilted S x = (fd (tp S.1 n x) 0 n).elim (0, sS12 1 S) (fun j => (nI j, sS12 0 S)) ∧ gX6_tilted S x := by
  have hn := h.1.2.2.1
  have v0 : vp_in 0 114 := gHd (j := 0) rfl (by omega)
  have hg : S.1 (0 : Int32).toNatClampNeg = nI n := by rw [c0]; exact h.1.1
  have hf := fuel0 hg (by omega)
  have inner : ∀ k, k < n → lrun (lX6_tilted_17 (S, nI k)) (glX6_tilted_17 (S, nI k)) (((S.1 (0 : Int32).toNatClampNeg).toInt - (0 : Int32).toInt).toNat + 1) ((0 : Int32), (0 : Int32)) (nI (mn S.1 n k), nI n) := fun k hk => by
    have key := (fo_loop (f := lX6_tilted_17 (S, nI k)) (P := glX6_tilted_17 (S, nI k)) (fun (a : Nat) j => (nI a, nI j)) (fun a => (nI a, nI n)) (fun a o => a + mt S.1 o k) (fun _ _ => True) n (fun a j hj _ => by
      obtain ⟨e1, e2⟩ := tl_r S h hj
      obtain ⟨e3, e4⟩ := tl_r S h hk
      have hc := up_le hg (by omega) hj
      rw [glX6_tilted_17, lX6_tilted_17]
      dsimp only
      rw [if_neg hc, if_neg hc, e1, e3]
      unfold mt
      by_cases a1 : 0 < Op.cmpValue (FP.fcmp (tl S.1 j) (tl S.1 k)) .l
      · rw [if_pos a1, if_pos a1, if_pos a1, nI_1, nI_1]
        exact ⟨⟨v0, e2, e4, trivial⟩, rfl, trivial⟩
      · rw [if_neg a1, if_neg a1, if_neg a1]
        by_cases a2 : Op.cmpValue (FP.fcmp (tl S.1 j) (tl S.1 k)) .l = 0
        · rw [if_pos a2, if_pos a2]
          by_cases a3 : nI k ≤ nI j
          · rw [if_pos a3, if_pos a3, nI_1, Int32.add_zero]
            exact ⟨⟨v0, e2, e4, e2, e4, trivial⟩, rfl, trivial⟩
          · rw [if_neg a3, if_neg a3, nI_1, nI_1]
            exact ⟨⟨v0, e2, e4, e2, e4, trivial⟩, rfl, trivial⟩
        · rw [if_neg a2, if_neg a2, nI_1, Int32.add_zero]
          exact ⟨⟨v0, e2, e4, e2, e4, trivial⟩, rfl, trivial⟩) (fun a _ => ⟨by rw [glX6_tilted_17]; dsimp only; rw [if_pos (at_le hg)]; exact ⟨v0, trivial⟩, by rw [lX6_tilted_17]; dsimp only; rw [if_pos (at_le hg)]⟩) n 0 0 _ (by omega) hf trivial).1
    rw [fo_sf, Nat.zero_add] at key
    exact key
  have inner2 : ∀ k, k < n → (itv ((0 : Int32), (0 : Int32)) (lX6_tilted_17 (S, nI k)) ((fun w : (Int32 × Int32) => ((S.1 (0 : Int32).toNatClampNeg).toInt - w.2.toInt).toNat) (0, 0) + 1) (0, 0)).1 = nI (mn S.1 n k) := fun k hk => congrArg Prod.fst (lrun_itv (inner k hk))
  have key := fd_loop (f := lX6_tilted_2 x) (P := glX6_tilted_2 x) (fun j => (S, nI j)) (.inl (S, nI n)) (fun j => .inr (nI j, sS12 0 S)) (tp S.1 n x) n (fun k hk => by
    have hc := up_le hg (by omega) hk
    refine ⟨?_, fun hp => ?_, fun hp => ?_⟩
    · rw [glX6_tilted_2]; dsimp only; rw [if_neg hc]; exact ⟨v0, ⟨_, inner k hk⟩, trivial⟩
    · have hne : ¬ nI (mn S.1 n k) = x := of_decide_eq_false hp
      have i2 := inner2 k hk
      dsimp only at i2
      rw [lX6_tilted_2]; dsimp only; rw [if_neg hc, i2, if_neg hne, nI_1]
    · have he : nI (mn S.1 n k) = x := of_decide_eq_true hp
      have i2 := inner2 k hk
      dsimp only at i2
      rw [lX6_tilted_2]; dsimp only; rw [if_neg hc, i2, if_pos he]) ⟨by rw [glX6_tilted_2]; dsimp only; rw [if_pos (at_le hg)]; exact ⟨v0, trivial⟩, by
    rw [lX6_tilted_2]; dsimp only; rw [if_pos (at_le hg)]⟩ n 0 _ (by omega) hf
  refine ⟨?_, ⟨_, key⟩, trivial⟩
  have key' : itv (.inl (S, 0)) (lX6_tilted_2 x) ((fun v : (SV × Int32) => ((v.1.1 (0 : Int32).toNatClampNeg).toInt - v.2.toInt).toNat) (S, 0) + 1) (S, 0) = _ := lrun_itv key
  rw [fX6_tilted, key']
  cases fd (tp S.1 n x) 0 n <;> rfl
