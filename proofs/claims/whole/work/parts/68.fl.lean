/-! Floats: their bits told by halving and doubling -/
theorem fx_two : FP.Core.val64 4611686018427387904 = FP.Core.Datum.fin false (2 ^ 52) (-51) := by decide +kernel
theorem fx_23 : FP.Core.val64 4710765210229538816 = FP.Core.Datum.fin false (2 ^ 52) (-29) := by decide +kernel
theorem fx_one : FP.Core.val64 FP.dconst1 = FP.Core.Datum.fin false (2 ^ 52) (-52) := by decide +kernel
theorem fx_qmin : FP.Core.b64.qmin = -1074 := by decide
theorem fx_qmax : FP.Core.b64.qmax = 971 := by decide
theorem fx_fit {s : Bool} {C : Nat} {Q : Int} (hC : 2 ^ 52 ≤ C ∧ C < 2 ^ 53) (h1 : -1074 ≤ Q) (h2 : Q ≤ 971) : FP.Core.fits FP.Core.b64 (.fin s C Q) :=
  ⟨hC.2, by rw [fx_qmin]; exact h1, by rw [fx_qmax]; exact h2, Or.inr hC.1⟩
theorem fx_halve {D : UInt64} {C : Nat} {Q : Int} (h : FP.Core.val64 D = .fin false C Q) (hC : 2 ^ 52 ≤ C ∧ C < 2 ^ 53) (h1 : -1074 < Q) (h2 : Q ≤ 971) : FP.Core.val64 (FP.ddiv D 4611686018427387904) = .fin false C (Q - 1) := by
  show FP.Core.val64 (FP.Core.ddiv D 4611686018427387904) = _
  rw [FP.Core.val64_ddiv, h, fx_two]
  show (if 2 ^ 52 = 0 then (if C = 0 then FP.Core.Datum.nan else FP.Core.Datum.inf (false != false)) else FP.Core.roundRatio FP.Core.b64 (false != false) C (2 ^ 52) (Q - (-51))) = _
  rw [if_neg (by decide)]
  refine FP.Core.roundRatio_exact (s := false) FP.Core.good_b64 (by decide) (fx_fit hC (by omega) (by omega)) ?_
  rw [show (Q - -51 - (Q - 1)).toNat = 52 by omega, show (Q - 1 - (Q - -51)).toNat = 0 by omega, Nat.pow_zero, Nat.mul_one]
theorem fx_double {D : UInt64} {C : Nat} {Q : Int} (h : FP.Core.val64 D = .fin false C Q) (hC : 2 ^ 52 ≤ C ∧ C < 2 ^ 53) (h1 : -1074 ≤ Q) (h2 : Q < 971) : FP.Core.val64 (FP.dmul D 4611686018427387904) = .fin false C (Q + 1) := by
  show FP.Core.val64 (FP.Core.dmul D 4611686018427387904) = _
  rw [FP.Core.val64_dmul, h, fx_two]
  show FP.Core.roundRatio FP.Core.b64 (false != false) (C * 2 ^ 52) 1 (Q + (-51)) = _
  refine FP.Core.roundRatio_exact (s := false) FP.Core.good_b64 (by decide) (fx_fit hC (by omega) (by omega)) ?_
  rw [show (Q + -51 - (Q + 1)).toNat = 0 by omega, show (Q + 1 - (Q + -51)).toNat = 52 by omega, Nat.pow_zero, Nat.mul_one, Nat.mul_one]
theorem fx_cmp {D x : UInt64} {C : Nat} {Q r : Int} (h : FP.Core.val64 D = .fin false C Q) (hx : FP.Core.val64 x = .fin false (2 ^ 52) r) (hC : 2 ^ 52 ≤ C ∧ C < 2 ^ 53) : (Q < r → FP.dcmp D x = some .lt) ∧ (r ≤ Q → FP.dcmp D x = some .eq ∨ FP.dcmp D x = some .gt) := by
  have e : FP.dcmp D x = FP.Core.order (FP.Core.val64 D) (FP.Core.val64 x) := rfl
  rw [e, h, hx]
  have e2 : FP.Core.order (.fin false C Q) (.fin false (2 ^ 52) r) = some (if ((C * 2 ^ (Q - min Q r).toNat : Nat) : Int) < ((2 ^ 52 * 2 ^ (r - min Q r).toNat : Nat) : Int) then .lt else if ((C * 2 ^ (Q - min Q r).toNat : Nat) : Int) = ((2 ^ 52 * 2 ^ (r - min Q r).toNat : Nat) : Int) then .eq else .gt) := rfl
  rw [e2]
  constructor
  · intro hlt
    have m : min Q r = Q := by omega
    rw [m, show (Q - Q).toNat = 0 by omega, Nat.pow_zero, Nat.mul_one]
    have p : 2 ^ 53 ≤ 2 ^ 52 * 2 ^ (r - Q).toNat := by
      rw [← Nat.pow_add]
      exact Nat.pow_le_pow_right (by decide) (by omega)
    rw [if_pos (by omega)]
  · intro hle
    have m : min Q r = r := by omega
    rw [m, show (r - r).toNat = 0 by omega, Nat.pow_zero, Nat.mul_one]
    have p : 1 ≤ 2 ^ (Q - r).toNat := Nat.one_le_two_pow
    have p2 : C ≤ C * 2 ^ (Q - r).toNat := Nat.le_mul_of_pos_right _ p
    rw [if_neg (by omega)]
    split
    · exact Or.inl rfl
    · exact Or.inr rfl
theorem nI_m (n : Nat) : nI (n + 1) + (-1) = nI n := by
  have e : nI (n + 1) + (-1) = nI (n + 1) - 1 := (Int32.sub_eq_add_neg _ _).symm
  rw [e, nI_pred]
/-- the first loop halves down to below 2 -/
theorem fx_loop1 (x : UInt32) {D : UInt64} {C : Nat} {Q : Int} (h : FP.Core.val64 D = .fin false C Q) (hC : 2 ^ 52 ≤ C ∧ C < 2 ^ 53) (h1 : -1000 ≤ Q) (h2 : Q ≤ 75) :
    ∃ D', itv (D, (127 : Int32)) (lX0_toBits_14 x) ((fun v : (UInt64 × Int32) => ((254 : Int32).toInt - v.2.toInt).toNat) (D, 127) + 1) (D, 127) = (D', nI (127 + (Q + 52).toNat)) ∧ FP.Core.val64 D' = .fin false C (Q - (Q + 52).toNat) := by
  have key := fo_itv (f := lX0_toBits_14 x) (D, (127 : Int32)) (fun (D : UInt64) j => (D, nI (127 + j))) (fun D => (D, nI (127 + (Q + 52).toNat))) (fun D _ => FP.ddiv D 4611686018427387904) (fun D j => FP.Core.val64 D = .fin false C (Q - (j : Nat))) (Q + 52).toNat (fun E j hj hI => ⟨by
    have c := (fx_cmp hI fx_two hC).2 (by omega)
    have c1 : ¬ (Op.cmpValue (FP.dcmp E 4611686018427387904) .l) < 0 := by rcases c with c | c <;> rw [c] <;> decide
    have c2 : ¬ (254 : Int32) ≤ nI (127 + j) := up_le (x := 254) (n := 254) rfl (by omega) (by omega)
    rw [lX0_toBits_14, if_neg c1, if_neg c2, nI_1]; rfl, by
    rw [fx_halve hI hC (by omega) (by omega)]
    congr 1
    omega⟩) (fun E hI => by
    have c := (fx_cmp hI fx_two hC).1 (by omega)
    have c1 : (Op.cmpValue (FP.dcmp E 4611686018427387904) .l) < 0 := by rw [c]; decide
    rw [lX0_toBits_14, if_pos c1]) (Q + 52).toNat 0 D _ (by omega) (show (Q + 52).toNat < ((254 : Int32).toInt - (127 : Int32).toInt).toNat + 1 by
      have : ((254 : Int32).toInt - (127 : Int32).toInt).toNat = 127 := by decide
      omega) (by rw [h]; congr 1; omega)
  exact ⟨_, key.1, key.2⟩
/-- the second doubles up to 1, or to the least exponent -/
theorem fx_loop2 (x : UInt32) {D : UInt64} {C e : Nat} {Q : Int} (h : FP.Core.val64 D = .fin false C Q) (hC : 2 ^ 52 ≤ C ∧ C < 2 ^ 53) (h1 : -1000 ≤ Q) (h2 : Q ≤ 900) (he : 1 ≤ e) (he2 : e ≤ 254) :
    ∃ D', itv (D, nI e) (lX0_toBits_41 x) ((fun v : (UInt64 × Int32) => (v.2.toInt - 1).toNat) (D, nI e) + 1) (D, nI e) = (D', nI (e - min (-52 - Q).toNat (e - 1))) ∧ FP.Core.val64 D' = .fin false C (Q + (min (-52 - Q).toNat (e - 1) : Nat)) := by
  have hm : min (-52 - Q).toNat (e - 1) ≤ e - 1 := by omega
  have hm2 : min (-52 - Q).toNat (e - 1) = (-52 - Q).toNat ∨ min (-52 - Q).toNat (e - 1) = e - 1 := by omega
  have hm3 : min (-52 - Q).toNat (e - 1) ≤ (-52 - Q).toNat := by omega
  generalize min (-52 - Q).toNat (e - 1) = n at hm hm2 hm3 ⊢
  have key := fo_itv (f := lX0_toBits_41 x) (D, nI e) (fun (D : UInt64) j => (D, nI (e - j))) (fun D => (D, nI (e - n))) (fun D _ => FP.dmul D 4611686018427387904) (fun D j => FP.Core.val64 D = .fin false C (Q + (j : Nat))) n (fun E j hj hI => ⟨by
    have c := (fx_cmp hI fx_one hC).1 (by omega)
    have c1 : ¬ 0 ≤ (Op.cmpValue (FP.dcmp E FP.dconst1) .g) := by rw [c]; decide
    have c2 : ¬ nI (e - j) ≤ 1 := nI_ge (a := 1) (b := e - j) (by omega) (by omega)
    rw [lX0_toBits_41, if_neg c1, if_neg c2]
    simp only []
    rw [show e - j = (e - (j + 1)) + 1 by omega, nI_m], by
    rw [fx_double hI hC (by omega) (by omega)]
    congr 1
    omega⟩) (fun E hI => by
    rw [lX0_toBits_41]
    by_cases c0 : Q + (n : Int) < -52
    · have c := (fx_cmp hI fx_one hC).1 c0
      have c1 : ¬ 0 ≤ (Op.cmpValue (FP.dcmp E FP.dconst1) .g) := by rw [c]; decide
      have c2 : nI (e - n) ≤ 1 := nI_le (a := e - n) (b := 1) (by omega) (by omega)
      rw [if_neg c1, if_pos c2]
    · have c := (fx_cmp hI fx_one hC).2 (by omega)
      have c1 : 0 ≤ (Op.cmpValue (FP.dcmp E FP.dconst1) .g) := by rcases c with c | c <;> rw [c] <;> decide
      rw [if_pos c1]) n 0 D _ (by omega) (show n < ((nI e).toInt - 1).toNat + 1 by rw [nI_toInt (by omega)]; omega) (by rw [h]; congr 1; omega)
  exact ⟨_, key.1, key.2⟩
theorem fx_signed_f (c : Nat) : FP.Core.signed false c = (c : Int) := rfl
theorem fx_signed_t (c : Nat) : FP.Core.signed true c = -(c : Int) := rfl
/-- the whole part behind the leading one -/
theorem fx_tail {D : UInt64} {c k : Nat} (h : FP.Core.val64 D = .fin false (c * 2 ^ k) (-23 - (k : Int))) (hk : 29 ≤ k) (hc : c < 2 ^ 24) : FP.d2i (FP.dmul (FP.dsub D FP.dconst1) 4710765210229538816) = Int32.ofInt ((c : Int) - 8388608) := by
  have pk : 2 ^ 52 * 2 ^ (k - 29) = 8388608 * 2 ^ k := by
    rw [← Nat.pow_add, show (8388608 : Nat) = 2 ^ 23 by decide, ← Nat.pow_add]
    congr 1; omega
  have v : FP.Core.sumUnits false (c * 2 ^ k) (-23 - (k : Int)) true (2 ^ 52) (-52) (-23 - (k : Int)) = ((c : Int) - 8388608) * (2 ^ k : Nat) := by
    unfold FP.Core.sumUnits FP.Core.inUnits
    rw [show (-23 - (k : Int) - (-23 - (k : Int))).toNat = 0 by omega, show (-52 - (-23 - (k : Int))).toNat = k - 29 by omega, pk, Nat.pow_zero, Nat.mul_one, fx_signed_f, fx_signed_t, Int.sub_mul, Int.natCast_mul, Int.natCast_mul]
    rfl
  have hp : 0 < 2 ^ k := Nat.two_pow_pos k
  have s1 : FP.Core.sumSign false true (((c : Int) - 8388608) * (2 ^ k : Nat)) = decide ((c : Int) - 8388608 < 0) := by
    unfold FP.Core.sumSign
    by_cases h0 : (c : Int) - 8388608 = 0
    · rw [h0, Int.zero_mul, if_pos rfl]; rfl
    · rw [if_neg (Int.mul_ne_zero h0 (by omega))]
      by_cases h1 : (c : Int) - 8388608 < 0
      · rw [decide_eq_true h1, decide_eq_true (Int.mul_neg_of_neg_of_pos h1 (by omega))]
      · rw [decide_eq_false h1, decide_eq_false (by
          have := Int.mul_nonneg (show 0 ≤ (c : Int) - 8388608 by omega) (show (0 : Int) ≤ ((2 ^ k : Nat) : Int) by omega)
          omega)]
  have n1 : (((c : Int) - 8388608) * (2 ^ k : Nat)).natAbs = ((c : Int) - 8388608).natAbs * 2 ^ k := by
    rw [Int.natAbs_mul]; rfl
  have e1 : FP.Core.val64 (FP.Core.dsub D FP.dconst1) = FP.Core.roundRatio FP.Core.b64 (decide ((c : Int) - 8388608 < 0)) ((c : Int) - 8388608).natAbs 1 (-23) := by
    rw [FP.Core.val64_dsub, h, fx_one]
    show FP.Core.roundRatio FP.Core.b64 (FP.Core.sumSign false true (FP.Core.sumUnits false (c * 2 ^ k) (-23 - (k : Int)) true (2 ^ 52) (-52) (min (-23 - (k : Int)) (-52)))) (FP.Core.sumUnits false (c * 2 ^ k) (-23 - (k : Int)) true (2 ^ 52) (-52) (min (-23 - (k : Int)) (-52))).natAbs 1 (min (-23 - (k : Int)) (-52)) = _
    rw [show min (-23 - (k : Int)) (-52) = -23 - (k : Int) by omega, v, s1, n1]
    refine FP.Core.roundRatio_congr (by decide) (by decide) ?_
    rw [show (-23 - (k : Int) - -23).toNat = 0 by omega, show (-23 - (-23 - (k : Int))).toNat = k by omega]
    simp only [Nat.pow_zero, Nat.mul_one]
  have ht : ((c : Int) - 8388608).natAbs < 2 ^ 24 := by omega
  obtain ⟨c1, q1, f1, f2⟩ := FP.Core.round_exact FP.Core.good_b64 (decide ((c : Int) - 8388608 < 0)) (c := ((c : Int) - 8388608).natAbs) (q := -23) (Nat.lt_trans ht (by decide)) (by decide) (by decide)
  have f1' : FP.Core.roundRatio FP.Core.b64 (decide ((c : Int) - 8388608 < 0)) ((c : Int) - 8388608).natAbs 1 (-23) = .fin (decide ((c : Int) - 8388608 < 0)) c1 q1 := f1
  rw [f1'] at e1
  have hfit := FP.Core.val64_fits (FP.Core.dsub D FP.dconst1)
  rw [e1] at hfit
  have hq := hfit.2.1
  rw [fx_qmin] at hq
  unfold FP.Core.inUnits at f2
  rw [fx_qmin, show (-23 - (-1074 : Int)).toNat = 1051 by decide] at f2
  generalize hT : ((c : Int) - 8388608).natAbs = T at *
  have e2 : FP.Core.val64 (FP.Core.dmul (FP.Core.dsub D FP.dconst1) 4710765210229538816) = FP.Core.round FP.Core.b64 (FP.Core.ofInt ((c : Int) - 8388608)) := by
    rw [FP.Core.val64_dmul, e1, fx_23]
    show FP.Core.roundRatio FP.Core.b64 (decide ((c : Int) - 8388608 < 0) != false) (c1 * 2 ^ 52) 1 (q1 + (-29)) = FP.Core.roundRatio FP.Core.b64 (decide ((c : Int) - 8388608 < 0)) ((c : Int) - 8388608).natAbs 1 0
    rw [hT, Bool.bne_false]
    refine FP.Core.roundRatio_congr (by decide) (by decide) ?_
    have a1 : (q1 + -29 - 0).toNat + 1103 = (q1 - -1074).toNat + (0 - (q1 + -29)).toNat := by omega
    have a2 : c1 * 2 ^ ((q1 - -1074).toNat + (0 - (q1 + -29)).toNat) = T * 2 ^ (1051 + (0 - (q1 + -29)).toNat) := by
      rw [Nat.pow_add, ← Nat.mul_assoc, f2, Nat.pow_add, Nat.mul_assoc]
    rw [← a1] at a2
    have a3 : 2 ^ 1051 * (c1 * 2 ^ 52 * 2 ^ (q1 + -29 - 0).toNat) = 2 ^ 1051 * (T * 2 ^ (0 - (q1 + -29)).toNat) := by
      have b1 : 2 ^ ((q1 + -29 - 0).toNat + 1103) = 2 ^ 1051 * (2 ^ 52 * 2 ^ (q1 + -29 - 0).toNat) := by
        rw [show (q1 + -29 - 0).toNat + 1103 = 1051 + (52 + (q1 + -29 - 0).toNat) by omega, Nat.pow_add, Nat.pow_add]
      rw [b1, Nat.pow_add] at a2
      rw [Nat.mul_assoc c1, Nat.mul_left_comm _ c1, Nat.mul_left_comm _ T]
      exact a2
    rw [Nat.mul_one, Nat.mul_one]
    exact Nat.eq_of_mul_eq_mul_left (Nat.two_pow_pos 1051) a3
  refine FP.Core.d2i_int (a := Int32.ofInt ((c : Int) - 8388608)) ?_
  show FP.Core.Whole _ (FP.Core.val64 (FP.Core.dmul (FP.Core.dsub D FP.dconst1) 4710765210229538816))
  rw [e2, Int32.toInt_ofInt, fb_bmod (by omega) (by omega)]
  exact FP.Core.whole_round FP.Core.good_b64 FP.Core.wide_b64 (by rw [hT]; exact Nat.le_trans (Nat.le_of_lt ht) (by decide)) (FP.Core.whole_ofInt _)
