/-! The bits of floats from 0 on, told and taken -/
theorem fx_qmin32 : FP.Core.b32.qmin = -149 := by decide
theorem fx_qmax32 : FP.Core.b32.qmax = 104 := by decide
theorem fx_dec {x : UInt32} (h : x.toNat < 2139095040) : FP.Core.val32 x = if x.toNat / 8388608 = 0 then .fin false (x.toNat % 8388608) (-149) else .fin false (8388608 + x.toNat % 8388608) (-149 + ((x.toNat / 8388608 : Nat) : Int) - 1) := by
  have hE : FP.Core.fieldE FP.Core.b32 x.toNat = x.toNat / 8388608 % 256 := rfl
  have hT : FP.Core.fieldT FP.Core.b32 x.toNat = x.toNat % 8388608 := rfl
  have hS : FP.Core.fieldS FP.Core.b32 x.toNat = (x.toNat / 8388608 / 256 % 2 == 1) := rfl
  have hX : FP.Core.b32.exps - 1 = 255 := rfl
  have hL : FP.Core.b32.tails = 8388608 := rfl
  have s0 : (x.toNat / 8388608 / 256 % 2 == 1) = false := by
    rw [show x.toNat / 8388608 / 256 % 2 = 0 by omega]; rfl
  have e1 : x.toNat / 8388608 % 256 = x.toNat / 8388608 := by omega
  unfold FP.Core.val32 FP.Core.decode
  rw [hE, hT, hS, hX, hL, s0, e1, fx_qmin32, if_neg (by omega)]
  split
  · rfl
  · rw [Int.add_sub_assoc]
theorem fx_nI (x : UInt32) : x.toInt32 = nI x.toNat := by
  apply Int32.toBitVec_inj.mp
  apply BitVec.eq_of_toNat_eq
  show x.toNat = (BitVec.ofNat 32 x.toNat).toNat
  rw [BitVec.toNat_ofNat, Nat.mod_eq_of_lt x.toNat_lt]
theorem fx_log {c : Nat} (h0 : c ≠ 0) (h : c < 2 ^ 24) : ∃ k, 29 ≤ k ∧ k ≤ 52 ∧ 2 ^ 52 ≤ c * 2 ^ k ∧ c * 2 ^ k < 2 ^ 53 ∧ (8388608 ≤ c → k = 29) ∧ (c < 8388608 → 30 ≤ k) := by
  have l1 : 2 ^ c.log2 ≤ c := Nat.log2_self_le h0
  have l2 : c < 2 ^ (c.log2 + 1) := Nat.lt_log2_self
  have l3 : c.log2 < 24 := (Nat.pow_lt_pow_iff_right (by decide : 1 < 2)).mp (Nat.lt_of_le_of_lt l1 h)
  generalize c.log2 = L at l1 l2 l3
  refine ⟨52 - L, by omega, by omega, ?_, ?_, fun h8 => ?_, fun h8 => ?_⟩
  · calc 2 ^ 52 = 2 ^ L * 2 ^ (52 - L) := by rw [← Nat.pow_add]; congr 1; omega
      _ ≤ c * 2 ^ (52 - L) := Nat.mul_le_mul_right _ l1
  · calc c * 2 ^ (52 - L) < 2 ^ (L + 1) * 2 ^ (52 - L) := Nat.mul_lt_mul_of_pos_right l2 (Nat.two_pow_pos _)
      _ = 2 ^ 53 := by rw [← Nat.pow_add]; congr 1; omega
  · have : 23 < L + 1 := (Nat.pow_lt_pow_iff_right (by decide : 1 < 2)).mp (Nat.lt_of_le_of_lt (show 2 ^ 23 ≤ c from h8) l2)
    omega
  · have : L < 23 := (Nat.pow_lt_pow_iff_right (by decide : 1 < 2)).mp (Nat.lt_of_le_of_lt l1 (show c < 2 ^ 23 from h8))
    omega
theorem fx_notnan {x : UInt32} (h : x.toNat < 2139095040) : FP.Core.fIsNaN x = false := by
  rw [FP.Core.notNaN_iff32, FP.Core.ne_nan32]; omega
theorem toBits_eq (x : UInt32) (h : x.toNat < 2139095040) : fX0_toBits x = x.toInt32 := by
  by_cases h0 : x.toNat = 0
  · have : x = 0 := UInt32.toNat_inj.mp h0
    subst this
    rw [fX0_toBits, if_neg (by decide +kernel)]; rfl
  · -- what x stands for
    obtain ⟨c, q, hv, hc0, hc, hq1, hq2, hbits, hsub⟩ : ∃ (c : Nat) (q : Int), FP.Core.val32 x = .fin false c q ∧ c ≠ 0 ∧ c < 2 ^ 24 ∧ -149 ≤ q ∧ q ≤ 104 ∧ (x.toNat : Int) = (q + 150) * 8388608 + ((c : Int) - 8388608) ∧ (c < 8388608 → q = -149) := by
      have hd := fx_dec h
      by_cases hE : x.toNat / 8388608 = 0
      · rw [if_pos hE] at hd
        exact ⟨_, _, hd, by omega, by omega, by omega, by omega, by omega, fun _ => rfl⟩
      · rw [if_neg hE] at hd
        exact ⟨_, _, hd, by omega, by omega, by omega, by omega, by omega, fun z => by omega⟩
    obtain ⟨k, k1, k2, k3, k4, k5, k6⟩ := fx_log hc0 hc
    have hgt : (0 : Int32) < Op.cmpValue (FP.fcmp x FP.fconst0) .l := by
      have e : FP.fcmp x FP.fconst0 = FP.Core.order (FP.Core.val32 x) (FP.Core.val32 FP.fconst0) := rfl
      have e0 : FP.Core.val32 FP.fconst0 = .fin false 0 (-149) := by decide +kernel
      have e2 : FP.Core.order (.fin false c q) (.fin false 0 (-149)) = some (if ((c * 2 ^ (q - min q (-149)).toNat : Nat) : Int) < ((0 * 2 ^ (-149 - min q (-149)).toNat : Nat) : Int) then .lt else if ((c * 2 ^ (q - min q (-149)).toNat : Nat) : Int) = ((0 * 2 ^ (-149 - min q (-149)).toNat : Nat) : Int) then .eq else .gt) := rfl
      have p1 : 1 ≤ 2 ^ (q - min q (-149)).toNat := Nat.one_le_two_pow
      have p2 : c ≤ c * 2 ^ (q - min q (-149)).toNat := Nat.le_mul_of_pos_right _ p1
      rw [e, hv, e0, e2, Nat.zero_mul, if_neg (by omega), if_neg (by omega)]
      decide
    have hD : FP.Core.val64 (FP.f2d x) = .fin false (c * 2 ^ k) (q - (k : Int)) := by
      rw [FP.f2d, if_neg (by rw [fx_notnan h]; exact Bool.false_ne_true), FP.Core.val64_f2d, hv]
      show FP.Core.roundRatio FP.Core.b64 false c 1 q = _
      refine FP.Core.roundRatio_exact FP.Core.good_b64 (by decide) (fx_fit ⟨k3, k4⟩ (by omega) (by omega)) ?_
      rw [show (q - (q - (k : Int))).toNat = k by omega, show (q - (k : Int) - q).toNat = 0 by omega, Nat.pow_zero, Nat.mul_one, Nat.mul_one]
    rw [fX0_toBits, if_pos hgt]
    obtain ⟨D1, l1, l2⟩ := fx_loop1 x hD ⟨k3, k4⟩ (by omega) (by omega)
    obtain ⟨D2, l3, l4⟩ := fx_loop2 x l2 ⟨k3, k4⟩ (e := 127 + (q - (k : Int) + 52).toNat) (by omega) (by omega) (by omega) (by omega)
    dsimp only at l1 l3 ⊢
    rw [l1]
    dsimp only
    rw [l3]
    dsimp only
    have hQ : q - (k : Int) - ((q - (k : Int) + 52).toNat : Int) + (min (-52 - (q - (k : Int) - ((q - (k : Int) + 52).toNat : Int))).toNat (127 + (q - (k : Int) + 52).toNat - 1) : Nat) = -23 - (k : Int) := by
      rcases Nat.lt_or_ge c 8388608 with w | w
      · have := k6 w
        have := hsub w
        omega
      · have := k5 w
        omega
    have hE : (((127 + (q - (k : Int) + 52).toNat - min (-52 - (q - (k : Int) - ((q - (k : Int) + 52).toNat : Int))).toNat (127 + (q - (k : Int) + 52).toNat - 1) : Nat)) : Int) = q + 150 := by
      rcases Nat.lt_or_ge c 8388608 with w | w
      · have := k6 w
        have := hsub w
        omega
      · have := k5 w
        omega
    generalize 127 + (q - (k : Int) + 52).toNat - min (-52 - (q - (k : Int) - ((q - (k : Int) + 52).toNat : Int))).toNat (127 + (q - (k : Int) + 52).toNat - 1) = e at hE ⊢
    rw [hQ] at l4
    rw [fx_tail l4 k1 hc, fx_nI]
    apply toI_eq
    have o1 : (8388608 : Int32).toInt = 8388608 := by decide
    have m1 : (nI e * 8388608).toInt = (e : Int) * 8388608 := by rw [fb_mulI (by rw [nI_toInt (by omega), o1]; omega) (by rw [nI_toInt (by omega), o1]; omega), nI_toInt (by omega), o1]
    have m2 : (Int32.ofInt ((c : Int) - 8388608)).toInt = (c : Int) - 8388608 := by rw [Int32.toInt_ofInt, fb_bmod (by omega) (by omega)]
    rw [addI m1 m2 (by omega) (by omega), nI_toInt (by omega)]
    omega
/-- halvings -/
theorem fx_halves (x : Int32) {D : UInt64} {C e : Nat} {Q : Int} (h : FP.Core.val64 D = .fin false C Q) (hC : 2 ^ 52 ≤ C ∧ C < 2 ^ 53) (h1 : -900 ≤ Q) (h2 : Q ≤ 900) (he : e ≤ 255) (f : (Int32 × UInt64) → (Int32 × UInt64) ⊕ (Int32 × UInt64)) (hf : ∀ v, f v = if 127 ≤ v.1 then (.inr (v.1, v.2)) else (.inl ((v.1 + 1), (FP.ddiv v.2 4611686018427387904)))) :
    ∃ D', itv (nI e, D) f ((fun v : (Int32 × UInt64) => ((127 : Int32).toInt - v.1.toInt).toNat) (nI e, D) + 1) (nI e, D) = (nI (max e 127), D') ∧ FP.Core.val64 D' = .fin false C (Q - (127 - e : Nat)) := by
  have key := fo_itv (f := f) (nI e, D) (fun (D : UInt64) j => (nI (e + j), D)) (fun D => (nI (e + (127 - e)), D)) (fun D _ => FP.ddiv D 4611686018427387904) (fun D j => FP.Core.val64 D = .fin false C (Q - (j : Nat))) (127 - e) (fun E j hj hI => ⟨by
    have c2 : ¬ (127 : Int32) ≤ nI (e + j) := up_le (x := 127) (n := 127) rfl (by omega) (by omega)
    rw [hf, if_neg c2, nI_1]; rfl, by
    rw [fx_halve hI hC (by omega) (by omega)]
    congr 1
    omega⟩) (fun E hI => by
    have c1 : (127 : Int32) ≤ nI (e + (127 - e)) := nI_le (a := 127) (by omega) (by omega)
    rw [hf, if_pos c1]) (127 - e) 0 D _ (by omega) (show 127 - e < ((127 : Int32).toInt - (nI e).toInt).toNat + 1 by
      rw [nI_toInt (by omega), show (127 : Int32).toInt = 127 by decide]; omega) (by rw [h]; congr 1; omega)
  rw [show e + (127 - e) = max e 127 by omega] at key
  exact ⟨_, key.1, key.2⟩
theorem fx_doubles (x : Int32) {D : UInt64} {C e : Nat} {Q : Int} (h : FP.Core.val64 D = .fin false C Q) (hC : 2 ^ 52 ≤ C ∧ C < 2 ^ 53) (h1 : -900 ≤ Q) (h2 : Q ≤ 600) (he : e ≤ 255) (f : (Int32 × UInt64) → (Int32 × UInt64) ⊕ (Int32 × UInt64)) (hf : ∀ v, f v = if v.1 ≤ 127 then (.inr (v.1, v.2)) else (.inl ((v.1 + (-1)), (FP.dmul v.2 4611686018427387904)))) :
    ∃ D', itv (nI e, D) f ((fun v : (Int32 × UInt64) => (v.1.toInt - 127).toNat) (nI e, D) + 1) (nI e, D) = (nI (min e 127), D') ∧ FP.Core.val64 D' = .fin false C (Q + (e - 127 : Nat)) := by
  have key := fo_itv (f := f) (nI e, D) (fun (D : UInt64) j => (nI (e - j), D)) (fun D => (nI (e - (e - 127)), D)) (fun D _ => FP.dmul D 4611686018427387904) (fun D j => FP.Core.val64 D = .fin false C (Q + (j : Nat))) (e - 127) (fun E j hj hI => ⟨by
    have c2 : ¬ nI (e - j) ≤ 127 := nI_ge (a := 127) (by omega) (by omega)
    rw [hf, if_neg c2]
    simp only []
    rw [show e - j = (e - (j + 1)) + 1 by omega, nI_m], by
    rw [fx_double hI hC (by omega) (by omega)]
    congr 1
    omega⟩) (fun E hI => by
    have c1 : nI (e - (e - 127)) ≤ (127 : Int32) := nI_le (b := 127) (by omega) (by omega)
    rw [hf, if_pos c1]) (e - 127) 0 D _ (by omega) (show e - 127 < ((nI e).toInt - 127).toNat + 1 by
      rw [nI_toInt (by omega)]; omega) (by rw [h]; congr 1; omega)
  rw [show e - (e - 127) = min e 127 by omega] at key
  exact ⟨_, key.1, key.2⟩
theorem fx_shift : ∀ n, n < 2 ^ 31 → ((nI n).toUInt32 >>> ((23 : Int32).toUInt32 &&& Int32.toUInt32 31)).toInt32 = nI (n / 8388608) := by
  intro n hn
  have e : ((23 : Int32).toUInt32 &&& Int32.toUInt32 31) = 23 := by decide
  rw [e, fx_nI, UInt32.toNat_shiftRight]
  have e2 : (nI n).toUInt32.toNat = n := by
    show (BitVec.ofNat 32 n).toNat = n
    rw [BitVec.toNat_ofNat]; exact Nat.mod_eq_of_lt (by omega)
  rw [e2, show ((23 : UInt32).toNat % 32) = 23 by decide, Nat.shiftRight_eq_div_pow]
theorem fx_mask : ∀ n, n < 2 ^ 31 → nI n &&& 8388607 = nI (n % 8388608) := by
  intro n hn
  apply Int32.toBitVec_inj.mp
  rw [Int32.toBitVec_and]
  apply BitVec.eq_of_toNat_eq
  rw [BitVec.toNat_and]
  show (BitVec.ofNat 32 n).toNat &&& (BitVec.ofNat 32 8388607).toNat = (BitVec.ofNat 32 (n % 8388608)).toNat
  rw [BitVec.toNat_ofNat, BitVec.toNat_ofNat, BitVec.toNat_ofNat, Nat.mod_eq_of_lt (show n < 2 ^ 32 by omega), Nat.mod_eq_of_lt (show 8388607 < 2 ^ 32 by omega), Nat.mod_eq_of_lt (show n % 8388608 < 2 ^ 32 by omega), show (8388607 : Nat) = 2 ^ 23 - 1 by decide, Nat.and_two_pow_sub_one_eq_mod]
/-- a whole number of less than 24 bits over 2^23 -/
theorem fx_frac {T k : Nat} (hT0 : T ≠ 0) (hT : T < 8388608) (k3 : 2 ^ 52 ≤ T * 2 ^ k) (k4 : T * 2 ^ k < 2 ^ 53) (k2 : k ≤ 52) : FP.Core.val64 (FP.ddiv (FP.i2d (nI T)) 4710765210229538816) = .fin false (T * 2 ^ k) (-23 - (k : Int)) := by
  have e1 : FP.Core.val64 (FP.Core.i2d (nI T)) = .fin false (T * 2 ^ k) (-(k : Int)) := by
    rw [FP.Core.val64_i2d, nI_toInt (by omega)]
    show FP.Core.roundRatio FP.Core.b64 (decide ((T : Int) < 0)) ((T : Int).natAbs) 1 0 = _
    rw [decide_eq_false (by omega), Int.natAbs_natCast]
    refine FP.Core.roundRatio_exact FP.Core.good_b64 (by decide) (fx_fit ⟨k3, k4⟩ (by omega) (by omega)) ?_
    rw [show (0 - (-(k : Int))).toNat = k by omega, show (-(k : Int) - 0).toNat = 0 by omega, Nat.pow_zero, Nat.mul_one, Nat.mul_one]
  show FP.Core.val64 (FP.Core.ddiv (FP.Core.i2d (nI T)) 4710765210229538816) = _
  rw [FP.Core.val64_ddiv, e1, fx_23]
  show (if 2 ^ 52 = 0 then (if T * 2 ^ k = 0 then FP.Core.Datum.nan else FP.Core.Datum.inf (false != false)) else FP.Core.roundRatio FP.Core.b64 (false != false) (T * 2 ^ k) (2 ^ 52) (-(k : Int) - (-29))) = _
  rw [if_neg (by decide)]
  refine FP.Core.roundRatio_exact (s := false) FP.Core.good_b64 (by decide) (fx_fit ⟨k3, k4⟩ (by omega) (by omega)) ?_
  rw [show (-(k : Int) - -29 - (-23 - (k : Int))).toNat = 52 by omega, show (-23 - (k : Int) - (-(k : Int) - -29)).toNat = 0 by omega, Nat.pow_zero, Nat.mul_one]
/-- and 1 more -/
theorem fx_more {T : Nat} (hT : T < 8388608) : FP.Core.val64 (FP.dadd (FP.ddiv (FP.i2d (nI T)) 4710765210229538816) FP.dconst1) = .fin false ((8388608 + T) * 2 ^ 29) (-52) := by
  by_cases hT0 : T = 0
  · subst hT0
    decide +kernel
  · obtain ⟨k, k1, k2, k3, k4, -, k6⟩ := fx_log hT0 (by omega)
    have k7 := k6 hT
    have e1 := fx_frac hT0 hT k3 k4 k2
    show FP.Core.val64 (FP.Core.dadd (FP.ddiv (FP.i2d (nI T)) 4710765210229538816) FP.dconst1) = _
    rw [FP.Core.val64_dadd, e1, fx_one]
    have pk : 2 ^ 52 * 2 ^ (k - 29) = 8388608 * 2 ^ k := by
      rw [← Nat.pow_add, show (8388608 : Nat) = 2 ^ 23 by decide, ← Nat.pow_add]
      congr 1; omega
    have v : FP.Core.sumUnits false (T * 2 ^ k) (-23 - (k : Int)) false (2 ^ 52) (-52) (-23 - (k : Int)) = (((8388608 + T) * 2 ^ k : Nat) : Int) := by
      unfold FP.Core.sumUnits FP.Core.inUnits
      rw [show (-23 - (k : Int) - (-23 - (k : Int))).toNat = 0 by omega, show (-52 - (-23 - (k : Int))).toNat = k - 29 by omega, pk, Nat.pow_zero, Nat.mul_one, fx_signed_f, fx_signed_f, ← Int.natCast_add, ← Nat.add_mul, Nat.add_comm T]
    show FP.Core.roundRatio FP.Core.b64 (FP.Core.sumSign false false (FP.Core.sumUnits false (T * 2 ^ k) (-23 - (k : Int)) false (2 ^ 52) (-52) (min (-23 - (k : Int)) (-52)))) (FP.Core.sumUnits false (T * 2 ^ k) (-23 - (k : Int)) false (2 ^ 52) (-52) (min (-23 - (k : Int)) (-52))).natAbs 1 (min (-23 - (k : Int)) (-52)) = _
    rw [show min (-23 - (k : Int)) (-52) = -23 - (k : Int) by omega, v, Int.natAbs_natCast]
    have hs : FP.Core.sumSign false false (((8388608 + T) * 2 ^ k : Nat) : Int) = false := by
      unfold FP.Core.sumSign
      split
      · rfl
      · exact decide_eq_false (by omega)
    rw [hs]
    refine FP.Core.roundRatio_exact FP.Core.good_b64 (by decide) (fx_fit ⟨by omega, by omega⟩ (by omega) (by omega)) ?_
    rw [show (-23 - (k : Int) - -52).toNat = 0 by omega, show (-52 - (-23 - (k : Int))).toNat = k - 29 by omega, Nat.pow_zero, Nat.mul_one, Nat.mul_one, Nat.mul_assoc, ← Nat.pow_add]
    congr 2
    omega
theorem fx_d2f {D : UInt64} {x : UInt32} {C : Nat} {Q : Int} {c : Nat} {q : Int} (h : FP.Core.val64 D = .fin false C Q) (hx : FP.Core.val32 x = .fin false c q) (hv : C * 2 ^ (Q - q).toNat = c * 1 * 2 ^ (q - Q).toNat) : FP.d2f D = x := by
  have hn : FP.Core.dIsNaN D = false := by
    rw [FP.Core.notNaN_iff, h]; exact FP.Core.Datum.noConfusion
  rw [FP.d2f, if_neg (by rw [hn]; exact Bool.false_ne_true)]
  refine (FP.Core.val32_inj (by rw [hx]; exact FP.Core.Datum.noConfusion) ?_).symm
  have hfit := FP.Core.val32_fits x
  rw [hx] at hfit
  rw [FP.Core.val32_d2f, h, hx]
  exact (FP.Core.roundRatio_exact FP.Core.good_b32 (by decide) hfit hv).symm
theorem fromBits_eq {n : Nat} (hn : n < 2139095040) : fX0_fromBits (nI n) = (nI n).toUInt32 := by
  have e2 : (nI n).toUInt32.toNat = n := by
    show (BitVec.ofNat 32 n).toNat = n
    rw [BitVec.toNat_ofNat]; exact Nat.mod_eq_of_lt (by omega)
  have hd := fx_dec (x := (nI n).toUInt32) (by rw [e2]; exact hn)
  rw [e2] at hd
  have hTb : n % 8388608 < 8388608 := by omega
  rw [fX0_fromBits, fx_shift n (by omega), fx_mask n (by omega)]
  by_cases hE : n / 8388608 = 0
  · rw [if_pos hE] at hd
    by_cases hT : n % 8388608 = 0
    · have : n = 0 := by omega
      subst this
      decide +kernel
    · rw [hE, if_pos (show nI 0 < 1 by decide)]
      obtain ⟨k, k1, k2, k3, k4, -, k6⟩ := fx_log hT (by omega)
      have e1 := fx_frac hT hTb k3 k4 k2
      obtain ⟨D1, l1, l2⟩ := fx_doubles (nI n) (e := 1) e1 ⟨k3, k4⟩ (by omega) (by omega) (by omega) (lX0_fromBits_29 (nI n)) (fun _ => rfl)
      obtain ⟨D2, l3, l4⟩ := fx_halves (nI n) (e := 1) l2 ⟨k3, k4⟩ (by omega) (by omega) (by omega) (lX0_fromBits_47 (nI n)) (fun _ => rfl)
      have w1 : itv ((1 : Int32), (FP.ddiv (FP.i2d (nI (n % 8388608))) 4710765210229538816)) (lX0_fromBits_29 (nI n)) ((fun v : (Int32 × UInt64) => (v.1.toInt - 127).toNat) (1, (FP.ddiv (FP.i2d (nI (n % 8388608))) 4710765210229538816)) + 1) (1, (FP.ddiv (FP.i2d (nI (n % 8388608))) 4710765210229538816)) = (1, D1) := l1
      have w2 : itv ((1 : Int32), D1) (lX0_fromBits_47 (nI n)) ((fun v : (Int32 × UInt64) => ((127 : Int32).toInt - v.1.toInt).toNat) (1, D1) + 1) (1, D1) = (127, D2) := l3
      rw [w1]
      dsimp only at w2 ⊢
      rw [w2]
      refine fx_d2f l4 hd ?_
      rw [show (-23 - (k : Int) + ((1 - 127 : Nat) : Int) - ((127 - 1 : Nat) : Int) - -149).toNat = 0 by omega, show (-149 - (-23 - (k : Int) + ((1 - 127 : Nat) : Int) - ((127 - 1 : Nat) : Int))).toNat = k by omega, Nat.pow_zero, Nat.mul_one, Nat.mul_one]
  · rw [if_neg hE] at hd
    have hE2 : n / 8388608 ≤ 254 := by omega
    rw [if_neg (show ¬ nI (n / 8388608) < 1 from nI_nlt (b := 1) (by omega) (by omega))]
    have e1 := fx_more hTb
    have hC : 2 ^ 52 ≤ (8388608 + n % 8388608) * 2 ^ 29 ∧ (8388608 + n % 8388608) * 2 ^ 29 < 2 ^ 53 := by omega
    obtain ⟨D1, l1, l2⟩ := fx_doubles (nI n) (e := n / 8388608) e1 hC (by omega) (by omega) (by omega) (lX0_fromBits_29_3 (nI n)) (fun _ => rfl)
    obtain ⟨D2, l3, l4⟩ := fx_halves (nI n) (e := min (n / 8388608) 127) l2 hC (by omega) (by omega) (by omega) (lX0_fromBits_47_4 (nI n)) (fun _ => rfl)
    dsimp only at l1 l3 ⊢
    rw [l1]
    dsimp only
    rw [l3]
    refine fx_d2f l4 hd ?_
    rw [show (-52 + ((n / 8388608 - 127 : Nat) : Int) - ((127 - min (n / 8388608) 127 : Nat) : Int) - (-149 + ((n / 8388608 : Nat) : Int) - 1)).toNat = 0 by omega, show (-149 + ((n / 8388608 : Nat) : Int) - 1 - (-52 + ((n / 8388608 - 127 : Nat) : Int) - ((127 - min (n / 8388608) 127 : Nat) : Int))).toNat = 29 by omega, Nat.pow_zero, Nat.mul_one, Nat.mul_one]
