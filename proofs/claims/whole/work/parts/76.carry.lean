/-! Run: one order, then all -/
/-- the reference's state but for tavern, seats and outcome -/
def RN (S S' : SV) : Prop := S'.2.1 = S.2.1 ∧ S'.2.2.1 = S.2.2.1 ∧ S'.2.2.2.1 = S.2.2.2.1 ∧ S'.2.2.2.2.1 = S.2.2.2.2.1 ∧ S'.2.2.2.2.2.1 = S.2.2.2.2.2.1 ∧ S'.2.2.2.2.2.2.2.1 = S.2.2.2.2.2.2.2.1 ∧ S'.2.2.2.2.2.2.2.2.1 = S.2.2.2.2.2.2.2.2.1 ∧ S'.2.2.2.2.2.2.2.2.2.1 = S.2.2.2.2.2.2.2.2.2.1 ∧ S'.2.2.2.2.2.2.2.2.2.2.1 = S.2.2.2.2.2.2.2.2.2.2.1 ∧ S'.2.2.2.2.2.2.2.2.2.2.2.2.2.2.2.1 = S.2.2.2.2.2.2.2.2.2.2.2.2.2.2.2.1 ∧ S'.2.2.2.2.2.2.2.2.2.2.2.2.2.2.2.2.1 = S.2.2.2.2.2.2.2.2.2.2.2.2.2.2.2.2.1 ∧ S'.2.2.2.2.2.2.2.2.2.2.2.2.2.2.2.2.2.1 = S.2.2.2.2.2.2.2.2.2.2.2.2.2.2.2.2.2.1 ∧ S'.2.2.2.2.2.2.2.2.2.2.2.2.2.2.2.2.2.2.1 = S.2.2.2.2.2.2.2.2.2.2.2.2.2.2.2.2.2.2.1 ∧ S'.2.2.2.2.2.2.2.2.2.2.2.2.2.2.2.2.2.2.2 = S.2.2.2.2.2.2.2.2.2.2.2.2.2.2.2.2.2.2.2
theorem RN.rfl' (S : SV) : RN S S := ⟨rfl, rfl, rfl, rfl, rfl, rfl, rfl, rfl, rfl, rfl, rfl, rfl, rfl, rfl⟩
theorem RN.s0 {S S' : SV} (h : RN S S') (a : Nat → Int32) : RN S (sS0 a S') := ⟨(pj_0_1 a S').trans h.1, (pj_0_2 a S').trans h.2.1, (pj_0_3 a S').trans h.2.2.1, (pj_0_4 a S').trans h.2.2.2.1, (pj_0_5 a S').trans h.2.2.2.2.1, (pj_0_7 a S').trans h.2.2.2.2.2.1, (pj_0_8 a S').trans h.2.2.2.2.2.2.1, (pj_0_9 a S').trans h.2.2.2.2.2.2.2.1, (pj_0_10 a S').trans h.2.2.2.2.2.2.2.2.1, (pj_0_15 a S').trans h.2.2.2.2.2.2.2.2.2.1, (pj_0_16 a S').trans h.2.2.2.2.2.2.2.2.2.2.1, (pj_0_17 a S').trans h.2.2.2.2.2.2.2.2.2.2.2.1, (pj_0_18 a S').trans h.2.2.2.2.2.2.2.2.2.2.2.2.1, (pj_0_19 a S').trans h.2.2.2.2.2.2.2.2.2.2.2.2.2⟩
theorem RN.s6 {S S' : SV} (h : RN S S') (a : Nat → Int32) : RN S (sS6 a S') := ⟨(pj_6_1 a S').trans h.1, (pj_6_2 a S').trans h.2.1, (pj_6_3 a S').trans h.2.2.1, (pj_6_4 a S').trans h.2.2.2.1, (pj_6_5 a S').trans h.2.2.2.2.1, (pj_6_7 a S').trans h.2.2.2.2.2.1, (pj_6_8 a S').trans h.2.2.2.2.2.2.1, (pj_6_9 a S').trans h.2.2.2.2.2.2.2.1, (pj_6_10 a S').trans h.2.2.2.2.2.2.2.2.1, (pj_6_15 a S').trans h.2.2.2.2.2.2.2.2.2.1, (pj_6_16 a S').trans h.2.2.2.2.2.2.2.2.2.2.1, (pj_6_17 a S').trans h.2.2.2.2.2.2.2.2.2.2.2.1, (pj_6_18 a S').trans h.2.2.2.2.2.2.2.2.2.2.2.2.1, (pj_6_19 a S').trans h.2.2.2.2.2.2.2.2.2.2.2.2.2⟩
theorem RN.s11 {S S' : SV} (h : RN S S') (a : Int32) : RN S (sS11 a S') := ⟨(pj_11_1 a S').trans h.1, (pj_11_2 a S').trans h.2.1, (pj_11_3 a S').trans h.2.2.1, (pj_11_4 a S').trans h.2.2.2.1, (pj_11_5 a S').trans h.2.2.2.2.1, (pj_11_7 a S').trans h.2.2.2.2.2.1, (pj_11_8 a S').trans h.2.2.2.2.2.2.1, (pj_11_9 a S').trans h.2.2.2.2.2.2.2.1, (pj_11_10 a S').trans h.2.2.2.2.2.2.2.2.1, (pj_11_15 a S').trans h.2.2.2.2.2.2.2.2.2.1, (pj_11_16 a S').trans h.2.2.2.2.2.2.2.2.2.2.1, (pj_11_17 a S').trans h.2.2.2.2.2.2.2.2.2.2.2.1, (pj_11_18 a S').trans h.2.2.2.2.2.2.2.2.2.2.2.2.1, (pj_11_19 a S').trans h.2.2.2.2.2.2.2.2.2.2.2.2.2⟩
theorem RN.s12 {S S' : SV} (h : RN S S') (a : Int32) : RN S (sS12 a S') := ⟨(pj_12_1 a S').trans h.1, (pj_12_2 a S').trans h.2.1, (pj_12_3 a S').trans h.2.2.1, (pj_12_4 a S').trans h.2.2.2.1, (pj_12_5 a S').trans h.2.2.2.2.1, (pj_12_7 a S').trans h.2.2.2.2.2.1, (pj_12_8 a S').trans h.2.2.2.2.2.2.1, (pj_12_9 a S').trans h.2.2.2.2.2.2.2.1, (pj_12_10 a S').trans h.2.2.2.2.2.2.2.2.1, (pj_12_15 a S').trans h.2.2.2.2.2.2.2.2.2.1, (pj_12_16 a S').trans h.2.2.2.2.2.2.2.2.2.2.1, (pj_12_17 a S').trans h.2.2.2.2.2.2.2.2.2.2.2.1, (pj_12_18 a S').trans h.2.2.2.2.2.2.2.2.2.2.2.2.1, (pj_12_19 a S').trans h.2.2.2.2.2.2.2.2.2.2.2.2.2⟩
theorem RN.s13 {S S' : SV} (h : RN S S') (a : Int32) : RN S (sS13 a S') := ⟨(pj_13_1 a S').trans h.1, (pj_13_2 a S').trans h.2.1, (pj_13_3 a S').trans h.2.2.1, (pj_13_4 a S').trans h.2.2.2.1, (pj_13_5 a S').trans h.2.2.2.2.1, (pj_13_7 a S').trans h.2.2.2.2.2.1, (pj_13_8 a S').trans h.2.2.2.2.2.2.1, (pj_13_9 a S').trans h.2.2.2.2.2.2.2.1, (pj_13_10 a S').trans h.2.2.2.2.2.2.2.2.1, (pj_13_15 a S').trans h.2.2.2.2.2.2.2.2.2.1, (pj_13_16 a S').trans h.2.2.2.2.2.2.2.2.2.2.1, (pj_13_17 a S').trans h.2.2.2.2.2.2.2.2.2.2.2.1, (pj_13_18 a S').trans h.2.2.2.2.2.2.2.2.2.2.2.2.1, (pj_13_19 a S').trans h.2.2.2.2.2.2.2.2.2.2.2.2.2⟩
theorem RN.s14 {S S' : SV} (h : RN S S') (a : Int32) : RN S (sS14 a S') := ⟨(pj_14_1 a S').trans h.1, (pj_14_2 a S').trans h.2.1, (pj_14_3 a S').trans h.2.2.1, (pj_14_4 a S').trans h.2.2.2.1, (pj_14_5 a S').trans h.2.2.2.2.1, (pj_14_7 a S').trans h.2.2.2.2.2.1, (pj_14_8 a S').trans h.2.2.2.2.2.2.1, (pj_14_9 a S').trans h.2.2.2.2.2.2.2.1, (pj_14_10 a S').trans h.2.2.2.2.2.2.2.2.1, (pj_14_15 a S').trans h.2.2.2.2.2.2.2.2.2.1, (pj_14_16 a S').trans h.2.2.2.2.2.2.2.2.2.2.1, (pj_14_17 a S').trans h.2.2.2.2.2.2.2.2.2.2.2.1, (pj_14_18 a S').trans h.2.2.2.2.2.2.2.2.2.2.2.2.1, (pj_14_19 a S').trans h.2.2.2.2.2.2.2.2.2.2.2.2.2⟩
theorem RN.s1 {S S' : SV} (h : RN S S') {a : Nat → Int32} (e : a = S.2.1) : RN S (sS1 a S') := ⟨(pj_1_1 a S').trans e, (pj_1_2 a S').trans h.2.1, (pj_1_3 a S').trans h.2.2.1, (pj_1_4 a S').trans h.2.2.2.1, (pj_1_5 a S').trans h.2.2.2.2.1, (pj_1_7 a S').trans h.2.2.2.2.2.1, (pj_1_8 a S').trans h.2.2.2.2.2.2.1, (pj_1_9 a S').trans h.2.2.2.2.2.2.2.1, (pj_1_10 a S').trans h.2.2.2.2.2.2.2.2.1, (pj_1_15 a S').trans h.2.2.2.2.2.2.2.2.2.1, (pj_1_16 a S').trans h.2.2.2.2.2.2.2.2.2.2.1, (pj_1_17 a S').trans h.2.2.2.2.2.2.2.2.2.2.2.1, (pj_1_18 a S').trans h.2.2.2.2.2.2.2.2.2.2.2.2.1, (pj_1_19 a S').trans h.2.2.2.2.2.2.2.2.2.2.2.2.2⟩
theorem RN.s9 {S S' : SV} (h : RN S S') {a : Int32} (e : a = S.2.2.2.2.2.2.2.2.2.1) : RN S (sS9 a S') := ⟨(pj_9_1 a S').trans h.1, (pj_9_2 a S').trans h.2.1, (pj_9_3 a S').trans h.2.2.1, (pj_9_4 a S').trans h.2.2.2.1, (pj_9_5 a S').trans h.2.2.2.2.1, (pj_9_7 a S').trans h.2.2.2.2.2.1, (pj_9_8 a S').trans h.2.2.2.2.2.2.1, (pj_9_9 a S').trans e, (pj_9_10 a S').trans h.2.2.2.2.2.2.2.2.1, (pj_9_15 a S').trans h.2.2.2.2.2.2.2.2.2.1, (pj_9_16 a S').trans h.2.2.2.2.2.2.2.2.2.2.1, (pj_9_17 a S').trans h.2.2.2.2.2.2.2.2.2.2.2.1, (pj_9_18 a S').trans h.2.2.2.2.2.2.2.2.2.2.2.2.1, (pj_9_19 a S').trans h.2.2.2.2.2.2.2.2.2.2.2.2.2⟩
theorem RN.tr {A B D : SV} (h : RN A B) (h' : RN B D) : RN A D := ⟨(h'.1).trans (h.1), (h'.2.1).trans (h.2.1), (h'.2.2.1).trans (h.2.2.1), (h'.2.2.2.1).trans (h.2.2.2.1), (h'.2.2.2.2.1).trans (h.2.2.2.2.1), (h'.2.2.2.2.2.1).trans (h.2.2.2.2.2.1), (h'.2.2.2.2.2.2.1).trans (h.2.2.2.2.2.2.1), (h'.2.2.2.2.2.2.2.1).trans (h.2.2.2.2.2.2.2.1), (h'.2.2.2.2.2.2.2.2.1).trans (h.2.2.2.2.2.2.2.2.1), (h'.2.2.2.2.2.2.2.2.2.1).trans (h.2.2.2.2.2.2.2.2.2.1), (h'.2.2.2.2.2.2.2.2.2.2.1).trans (h.2.2.2.2.2.2.2.2.2.2.1), (h'.2.2.2.2.2.2.2.2.2.2.2.1).trans (h.2.2.2.2.2.2.2.2.2.2.2.1), (h'.2.2.2.2.2.2.2.2.2.2.2.2.1).trans (h.2.2.2.2.2.2.2.2.2.2.2.2.1), (h'.2.2.2.2.2.2.2.2.2.2.2.2.2).trans (h.2.2.2.2.2.2.2.2.2.2.2.2.2)⟩
/-- what an order comes to, within a text -/
def CO (K : Nat) (C : CV) (S : SV) (A : Int32 × CV × TV) (B : Int32 × SV) : Prop :=
  (∃ (v n' m' : Nat) (S' : SV), v ≤ 1000 ∧ A = (nI v, C, tvOf S'.1) ∧ B = (nI v, S') ∧ WT (K + 1) n' m' S'.1 ∧ RN S S' ∧ S'.2.2.2.2.2.2.2.2.2.2.2.2.1 = 0 ∧ S'.2.2.2.2.2.2.2.2.2.2.2.2.2.1 = S.2.2.2.2.2.2.2.2.2.2.2.2.2.1 ∧ S'.2.2.2.2.2.2.2.2.2.2.2.2.2.2.1 = S.2.2.2.2.2.2.2.2.2.2.2.2.2.2.1) ∨
  (∃ (v : Int32) (S' : SV), v < 0 ∧ v ≠ -3 ∧ A = (v, C, tvOf S.1) ∧ B = (0, S') ∧ RN S S' ∧ 0 < S'.2.2.2.2.2.2.2.2.2.2.2.2.1 ∧ S'.2.2.2.2.2.2.2.2.2.2.2.1 = 0 ∧ S'.2.2.2.2.2.2.2.2.2.2.2.2.2.1 = S.2.2.2.2.2.2.2.2.2.2.2.2.2.1 ∧ S'.2.2.2.2.2.2.2.2.2.2.2.2.2.2.1 = S.2.2.2.2.2.2.2.2.2.2.2.2.2.2.1) ∨
  (∃ (S' : SV), A = (-3, (C.1, C.2.1, S'.2.2.2.2.2.2.2.2.2.2.2.2.2.1, S'.2.2.2.2.2.2.2.2.2.2.2.2.2.2.1), tvOf S.1) ∧ B = (0, S') ∧ RN S S' ∧ 0 < S'.2.2.2.2.2.2.2.2.2.2.2.2.1 ∧ S'.2.2.2.2.2.2.2.2.2.2.2.1 = 1)
theorem Out.co {K : Nat} {C : CV} {S : SV} {A : Int32 × CV × TV} {B : Int32 × SV} {c1 c2 cr : Int32} (h : Out K C S A B c1 c2 cr) (hw : ¬ S.2.2.2.2.2.2.2.2.2.2.1 = 0) (h1 : 0 < c1) (h2 : 0 < c2) (hr : 0 < cr) : CO K C S A B := by
  rcases h with ⟨v, q, s', k', r, ch', n', m', b0, b1, b2, b3, b4⟩ | ⟨b1, b2⟩ | ⟨b1, b2⟩ | ⟨why, det, b1, b2⟩
  · have b5 : k' = S.2.1 ∧ ch' = S.2.2.2.2.2.2.2.2.2.1 := by
      rcases b4 with ⟨_, d1, d2⟩ | ⟨d, _⟩
      · exact ⟨d1, d2⟩
      · exact absurd d hw
    refine .inl ⟨v, n', m', _, b0, ?_, b2, ?_, (((((((RN.rfl' S).s12 0).s9 b5.2).s1 b5.1).s11 r).s6 s').s0 q), ?_, ?_, ?_⟩
    · rw [pj_0_0]; exact b1
    · rw [pj_0_0]; exact b3
    · rw [pj_0_12, pj_6_12, pj_11_12, pj_1_12, pj_9_12, pj_12_12]
    · rw [pj_0_13, pj_6_13, pj_11_13, pj_1_13, pj_9_13, pj_12_13]
    · rw [pj_0_14, pj_6_14, pj_11_14, pj_1_14, pj_9_14, pj_12_14]
  · refine .inr (.inl ⟨-1, _, by decide, by decide, b1, b2, (((RN.rfl' S).s12 c1).s11 0), ?_, ?_, ?_, ?_⟩)
    · rw [pj_11_12, pj_12_12]; exact h1
    · rw [pj_11_11]
    · rw [pj_11_13, pj_12_13]
    · rw [pj_11_14, pj_12_14]
  · refine .inr (.inl ⟨-2, _, by decide, by decide, b1, b2, (((RN.rfl' S).s12 c2).s11 0), ?_, ?_, ?_, ?_⟩)
    · rw [pj_11_12, pj_12_12]; exact h2
    · rw [pj_11_11]
    · rw [pj_11_13, pj_12_13]
    · rw [pj_11_14, pj_12_14]
  · refine .inr (.inr ⟨_, ?_, b2, (((((RN.rfl' S).s12 cr).s11 1).s13 why).s14 det), ?_, ?_⟩)
    · rw [pj_14_13, pj_13_13, pj_14_14]; exact b1
    · rw [pj_14_12, pj_13_12, pj_11_12, pj_12_12]; exact hr
    · rw [pj_14_11, pj_13_11, pj_11_11]
theorem numAt (X : XV) {j w : Nat} {y : Int32} (hj : j < 30) (hw : w < 5) (hy : y = nI w) : fX4_number X (nI j) y = X.2.1 (5 * j + w) := by
  subst hy
  rw [fX4_number, if_neg (nI_pos (by omega)), if_neg (up_le (x := 30) (n := 30) rfl (by omega) hj), if_neg (nI_pos (by omega)), if_pos (show nI w < (5 : Int32) from ?_)]
  · rw [show nI j * 5 = nI (j * 5) from by rw [show (5 : Int32) = nI 5 from rfl, nI_mul (by omega) (by omega) (by omega)], nI_add, nI_clamp (by omega), Nat.mul_comm]
  · rw [Int32.lt_iff_toInt_lt, nI_toInt (by omega), show (5 : Int32).toInt = 5 from by decide]; omega
theorem carry_eq {K n m : Nat} (C : CV) (S : SV) (X : XV) (h : WT K n m S.1) {c : Nat} (hc : c ≤ 8) (hch : S.2.2.2.2.2.2.2.2.2.1 = nI c) (hK : K ≤ 10000) (hw : ¬ S.2.2.2.2.2.2.2.2.2.2.1 = 0) {j : Nat} (hj : j < 30) (ho : OE X.2.1 S.2.2.2.2.2.2.2.1 j) :
    CO K C S (fX5_carryOut C (tvOf S.1) X (nI j)) (fX6_carries S (nI (5 * j))) ∧ gX6_carries S (nI (5 * j)) := by
  obtain ⟨L, nn, hL, a1, a2, a3⟩ := ho
  have q0 := numAt X hj (w := 0) (y := 0) (by decide) rfl
  have q1 := numAt X hj (w := 1) (y := 1) (by decide) rfl
  have q2 := numAt X hj (w := 2) (y := 2) (by decide) rfl
  have q3 := numAt X hj (w := 3) (y := 3) (by decide) rfl
  have q4 := numAt X hj (w := 4) (y := 4) (by decide) rfl
  have k0 : (nI (5 * j)).toNatClampNeg = 5 * j := nI_clamp (by omega)
  have k1 : (nI (5 * j + 1)).toNatClampNeg = 5 * j + 1 := nI_clamp (by omega)
  have k2 : (nI (5 * j + 2)).toNatClampNeg = 5 * j + 2 := nI_clamp (by omega)
  have k3 : (nI (5 * j + 3)).toNatClampNeg = 5 * j + 3 := nI_clamp (by omega)
  have k4 : (nI (5 * j + 4)).toNatClampNeg = 5 * j + 4 := nI_clamp (by omega)
  have v0 : vp_in (nI (5 * j)) 155 := vp_in_nI (by omega) (by omega)
  have v1 : vp_in (nI (5 * j + 1)) 155 := vp_in_nI (by omega) (by omega)
  have v2 : vp_in (nI (5 * j + 2)) 155 := vp_in_nI (by omega) (by omega)
  have v3 : vp_in (nI (5 * j + 3)) 155 := vp_in_nI (by omega) (by omega)
  have v4 : vp_in (nI (5 * j + 4)) 155 := vp_in_nI (by omega) (by omega)
  rw [Nat.add_zero, a1] at q0
  rw [fX5_carryOut, fX6_carries, gX6_carries, nI_1, nI_2, nI_3, nI_4, k0, k1, k2, k3, k4, q0, q1, q2, q3, q4, a2]
  rcases hL with ⟨rfl, rfl⟩ | ⟨rfl, rfl⟩ | ⟨rfl, rfl⟩ | ⟨rfl, rfl⟩ | ⟨rfl, rfl⟩ | ⟨rfl, rfl⟩ | ⟨rfl, rfl⟩ | ⟨rfl, rfl⟩
  · simp only [show ¬ (98 : Int32) = 99 by decide, show ¬ (98 : Int32) = 103 by decide, show ¬ (98 : Int32) = 107 by decide, show ¬ (98 : Int32) = 110 by decide, show ¬ (98 : Int32) = 112 by decide, show ¬ (98 : Int32) = 115 by decide, show ¬ (98 : Int32) = 117 by decide, a3 1 (by omega) (by omega), a3 2 (by omega) (by omega), eq_self, ↓reduceIte]
    have o := brawl_out C S h hc hch (S.2.2.2.2.2.2.2.1 (5 * j + 1)) (S.2.2.2.2.2.2.2.1 (5 * j + 2))
    exact ⟨o.1.co hw (by decide) (by decide) (by decide), v1, v2, v0, o.2, trivial⟩
  · simp only [show ¬ (99 : Int32) = 98 by decide, show ¬ (99 : Int32) = 103 by decide, show ¬ (99 : Int32) = 107 by decide, show ¬ (99 : Int32) = 110 by decide, show ¬ (99 : Int32) = 112 by decide, show ¬ (99 : Int32) = 115 by decide, show ¬ (99 : Int32) = 117 by decide, a3 1 (by omega) (by omega), eq_self, ↓reduceIte]
    have o := coin_out C S h hc hch hK (S.2.2.2.2.2.2.2.1 (5 * j + 1))
    exact ⟨o.1.co hw (by decide) (by decide) (by decide), v1, v2, v0, o.2, trivial⟩
  · simp only [show ¬ (103 : Int32) = 98 by decide, show ¬ (103 : Int32) = 99 by decide, show ¬ (103 : Int32) = 107 by decide, show ¬ (103 : Int32) = 110 by decide, show ¬ (103 : Int32) = 112 by decide, show ¬ (103 : Int32) = 115 by decide, show ¬ (103 : Int32) = 117 by decide, a3 1 (by omega) (by omega), a3 2 (by omega) (by omega), eq_self, ↓reduceIte]
    have o := guest_out C S h hc hch (S.2.2.2.2.2.2.2.1 (5 * j + 1)) (S.2.2.2.2.2.2.2.1 (5 * j + 2))
    exact ⟨o.1.co hw (by decide) (by decide) (by decide), v1, v2, v0, o.2, trivial⟩
  · simp only [show ¬ (107 : Int32) = 98 by decide, show ¬ (107 : Int32) = 99 by decide, show ¬ (107 : Int32) = 103 by decide, show ¬ (107 : Int32) = 110 by decide, show ¬ (107 : Int32) = 112 by decide, show ¬ (107 : Int32) = 115 by decide, show ¬ (107 : Int32) = 117 by decide, a3 1 (by omega) (by omega), eq_self, ↓reduceIte]
    have o := cat_out C S h hc hch (S.2.2.2.2.2.2.2.1 (5 * j + 1))
    exact ⟨o.1.co hw (by decide) (by decide) (by decide), v1, v2, v0, o.2, trivial⟩
  · simp only [show ¬ (110 : Int32) = 98 by decide, show ¬ (110 : Int32) = 99 by decide, show ¬ (110 : Int32) = 103 by decide, show ¬ (110 : Int32) = 107 by decide, show ¬ (110 : Int32) = 112 by decide, show ¬ (110 : Int32) = 115 by decide, show ¬ (110 : Int32) = 117 by decide, eq_self, ↓reduceIte]
    have o := night_out C S h hc hch hK 1 1 1
    exact ⟨o.1.co hw (by decide) (by decide) (by decide), v1, v2, v0, o.2, trivial⟩
  · simp only [show ¬ (112 : Int32) = 98 by decide, show ¬ (112 : Int32) = 99 by decide, show ¬ (112 : Int32) = 103 by decide, show ¬ (112 : Int32) = 107 by decide, show ¬ (112 : Int32) = 110 by decide, show ¬ (112 : Int32) = 115 by decide, show ¬ (112 : Int32) = 117 by decide, a3 1 (by omega) (by omega), a3 2 (by omega) (by omega), eq_self, ↓reduceIte]
    have o := sit_out C S h hc hch (S.2.2.2.2.2.2.2.1 (5 * j + 1)) (S.2.2.2.2.2.2.2.1 (5 * j + 2))
    exact ⟨o.1.co hw (by decide) (by decide) (by decide), v1, v2, v0, o.2, trivial⟩
  · simp only [show ¬ (115 : Int32) = 98 by decide, show ¬ (115 : Int32) = 99 by decide, show ¬ (115 : Int32) = 103 by decide, show ¬ (115 : Int32) = 107 by decide, show ¬ (115 : Int32) = 110 by decide, show ¬ (115 : Int32) = 112 by decide, show ¬ (115 : Int32) = 117 by decide, a3 1 (by omega) (by omega), a3 2 (by omega) (by omega), a3 3 (by omega) (by omega), a3 4 (by omega) (by omega), eq_self, ↓reduceIte]
    by_cases e4 : S.2.2.2.2.2.2.2.1 (5 * j + 4) = 1
    · simp only [e4, eq_self, ↓reduceIte]
      have o := stool_out C S h hc hch (S.2.2.2.2.2.2.2.1 (5 * j + 1)) (S.2.2.2.2.2.2.2.1 (5 * j + 2)) (S.2.2.2.2.2.2.2.1 (5 * j + 3)) 1
      exact ⟨o.1.co hw (by decide) (by decide) (by decide), v1, v2, v0, v3, v4, o.2, trivial⟩
    · simp only [e4, eq_self, ↓reduceIte]
      have o := stool_out C S h hc hch (S.2.2.2.2.2.2.2.1 (5 * j + 1)) (S.2.2.2.2.2.2.2.1 (5 * j + 2)) (S.2.2.2.2.2.2.2.1 (5 * j + 3)) 0
      exact ⟨o.1.co hw (by decide) (by decide) (by decide), v1, v2, v0, v3, v4, o.2, trivial⟩
  · simp only [show ¬ (117 : Int32) = 98 by decide, show ¬ (117 : Int32) = 99 by decide, show ¬ (117 : Int32) = 103 by decide, show ¬ (117 : Int32) = 107 by decide, show ¬ (117 : Int32) = 110 by decide, show ¬ (117 : Int32) = 112 by decide, show ¬ (117 : Int32) = 115 by decide, a3 1 (by omega) (by omega), eq_self, ↓reduceIte]
    have o := getUp_out C S h hc hch (S.2.2.2.2.2.2.2.1 (5 * j + 1))
    exact ⟨o.1.co hw (by decide) (by decide) (by decide), v1, v2, v0, o.2, trivial⟩
