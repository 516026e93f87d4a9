/-! The law's cases: reads of floats, ranks, words -/
theorem n64 {x : UInt64} (h : FP.Core.dIsNaN x = false) : vf_n64 x := by
  have h1 := (FP.Core.ne_nan x).mp ((FP.Core.notNaN_iff x).mp h)
  show x &&& 0x7fffffffffffffff ≤ 0x7ff0000000000000
  rw [UInt64.le_iff_toNat_le, UInt64.toNat_and, show (0x7fffffffffffffff : UInt64).toNat = 2 ^ 63 - 1 by decide, Nat.and_two_pow_sub_one_eq_mod]
  exact h1
theorem f2dn {x : UInt32} (h : x.toNat < 2139095040) : FP.Core.dIsNaN (FP.f2d x) = false := (FP.f2d_nan x).trans (fx_notnan h)
theorem dself {x : UInt64} (h : FP.Core.dIsNaN x = false) : Op.cmpValue (FP.dcmp x x) .l = 0 := by
  rw [show FP.dcmp x x = some .eq from FP.Core.dcmp_self ((FP.Core.notNaN_iff x).mp h)]; rfl
theorem vfu {α : Type} (O : Nat → α) (k : Nat) (x : α) : vf_upd O k x k = x := if_pos rfl
def TD (FL : Int32 × (Nat → UInt64)) (B : UInt32 × SV) : Prop := (if FL.1 = 0 then ((vp_in 0 1) ∧ (vf_n64 (FP.f2d B.1)) ∧ (if (Op.cmpValue (FP.dcmp (FL.2 (0 : Int32).toNatClampNeg) (FP.f2d B.1)) .l) = 0 then True else ((vp_in 0 1) ∧ (vp_in 0 1) ∧ (¬ ((Op.cmpValue (FP.dcmp (FL.2 (0 : Int32).toNatClampNeg) (FL.2 (0 : Int32).toNatClampNeg)) .l) = 0)) ∧ (¬ ((Op.cmpValue (FP.fcmp B.1 B.1) .l) = 0)) ∧ True))) else True)
theorem TD.ok (O : Nat → UInt64) (S' : SV) {x : UInt32} (h : x.toNat < 2139095040) : TD (0, vf_upd O (0 : Int32).toNatClampNeg (FP.f2d x)) (x, S') := by
  rw [TD, if_pos rfl]
  refine ⟨v01, n64 (f2dn h), ?_⟩
  show (if (Op.cmpValue (FP.dcmp (vf_upd O (0 : Int32).toNatClampNeg (FP.f2d x) (0 : Int32).toNatClampNeg) (FP.f2d x)) .l) = 0 then True else _)
  rw [vfu, if_pos (dself (f2dn h))]; trivial
theorem TD.no (O : Nat → UInt64) (B : UInt32 × SV) : TD (1, O) B := by rw [TD, if_neg one_ne]; trivial
theorem tilt_rd {K len : Nat} {C : CV} {T Sn : TV} {Hs : HV} {G : Nat → TV} {X : XV} {Ln : LV} {S : SV} (R : RCk K len C T Sn Hs G X Ln S) (O : Nat → UInt64) (x : Int32) : gX6_tilt S x ∧ gL_tilt C T O x ∧ fX6_thrown (fX6_tilt S x).2 = (fL_tilt C T O x).1 ∧ TD (fL_tilt C T O x) (fX6_tilt S x) ∧ SB S (fX6_tilt S x).2 := by
  obtain ⟨⟨n, m, h⟩, r2, -⟩ := id R
  subst r2
  have hn : S.1 0 = nI n := h.1.1
  have hm : S.1 1 = nI m := h.1.2.1
  have n12 : n ≤ 12 := h.1.2.2.1
  have m12 : m ≤ 12 := h.1.2.2.2.1
  rcases isStool_cases S hn n12 x with ⟨i, hi, rfl, a, b⟩ | ⟨a, b⟩
  · have hf : (tl S.1 i).toNat < 2139095040 := by have := tlt_fin h hi; omega
    obtain ⟨r1, r2⟩ := tl_r (sS11 0 (sS12 0 S)) (K := K) (n := n) (m := m) (by rw [f0_0]; exact h) hi
    rw [f0_0] at r1
    have e1 : fX6_tilt S (nI i) = (tl S.1 i, sS11 0 (sS12 0 S)) := by rw [fX6_tilt, b, if_neg one_ne, fl0, r1]
    have e2 : fX5_tilt C (tvOf S.1) (nI i) = (none, tl S.1 i) := by rw [fX5_tilt, reqS a, if_pos rfl, tl_c h hi]
    have e3 : fL_tilt C (tvOf S.1) O (nI i) = (0, vf_upd O (0 : Int32).toNatClampNeg (FP.f2d (tl S.1 i))) := by rw [fL_tilt, e2]; exact if_pos rfl
    rw [gL_tilt, e2, if_pos rfl, e3, e1]
    exact ⟨by rw [gX6_tilt, b, if_neg one_ne, fl0]; exact ⟨gIsStool S _, r2, trivial⟩, ⟨.inl rfl, n64 (f2dn hf), v01, trivial⟩, thr S 0, TD.ok O _ hf, sbf S 0⟩
  · have e1 : fX6_tilt S x = (FP.fconst0, sS11 0 (sS12 1 S)) := by rw [fX6_tilt, b, if_pos rfl, fl1]
    have e2 : fX5_tilt C (tvOf S.1) x = (some "java/lang/IndexOutOfBoundsException", 0) := by rw [fX5_tilt, reqS0 a, if_neg (nn _)]
    have e3 : fL_tilt C (tvOf S.1) O x = (1, O) := by rw [fL_tilt, e2]; exact if_neg (nn _)
    rw [gL_tilt, e2, if_neg (nn _), e3, e1]
    exact ⟨by rw [gX6_tilt, b, if_pos rfl]; exact ⟨gIsStool S _, trivial⟩, ⟨.inr rfl, trivial⟩, thr S 1, TD.no O _, sbf S 1⟩
theorem noiseOf_rd {K len : Nat} {C : CV} {T Sn : TV} {Hs : HV} {G : Nat → TV} {X : XV} {Ln : LV} {S : SV} (R : RCk K len C T Sn Hs G X Ln S) (O : Nat → UInt64) (x : Int32) : gX6_noiseOf S x ∧ gL_noiseOf C T O x ∧ fX6_thrown (fX6_noiseOf S x).2 = (fL_noiseOf C T O x).1 ∧ TD (fL_noiseOf C T O x) (fX6_noiseOf S x) ∧ SB S (fX6_noiseOf S x).2 := by
  obtain ⟨⟨n, m, h⟩, r2, -⟩ := id R
  subst r2
  have hn : S.1 0 = nI n := h.1.1
  have hm : S.1 1 = nI m := h.1.2.1
  have n12 : n ≤ 12 := h.1.2.2.1
  have m12 : m ≤ 12 := h.1.2.2.2.1
  rcases isSitter_cases S hm m12 x with ⟨k, hk, rfl, a, b⟩ | ⟨a, b⟩
  · have B2 : fX6_by (sS11 0 (sS12 0 S)) (nI k) 2 = qp S.1 k 2 := (rB (sS11 0 (sS12 0 S)) (k := k) (w := 2) (y := 2) (by omega) (by decide) rfl).trans (by rw [f0_0])
    have G2 : gX6_by (sS11 0 (sS12 0 S)) (nI k) 2 := gB (sS11 0 (sS12 0 S)) (k := k) (w := 2) (y := 2) (by omega) (by decide) rfl
    have P2 : fX3_ofSitter (tvOf S.1) (nI k) 2 = qp S.1 k 2 := rP S.1 (w := 2) (y := 2) (show k < 12 by omega) (by decide) rfl
    rcases h.sit hk with z | ⟨i, hi, z, z5, -⟩
    · have hf : (FP.fconst0).toNat < 2139095040 := by decide
      have e1 : fX6_noiseOf S (nI k) = (FP.fconst0, sS11 0 (sS12 0 S)) := by rw [fX6_noiseOf, b, if_neg one_ne, fl0, B2, z, if_neg m1_nle]
      have e2 : fX5_noiseOf C (tvOf S.1) (nI k) = (none, FP.fconst0) := by
        rw [fX5_noiseOf, reqP a, if_pos rfl, P2, z, fX3_noiseAt, rS_none, if_pos rfl]
      have e3 : fL_noiseOf C (tvOf S.1) O (nI k) = (0, vf_upd O (0 : Int32).toNatClampNeg (FP.f2d FP.fconst0)) := by rw [fL_noiseOf, e2]; exact if_pos rfl
      rw [gL_noiseOf, e2, if_pos rfl, e3, e1]
      exact ⟨by rw [gX6_noiseOf, b, if_neg one_ne, fl0, B2, z, if_neg m1_nle]; exact ⟨gIsSitter S _, G2, trivial⟩, ⟨.inl rfl, n64 (f2dn hf), v01, trivial⟩, thr S 0, TD.ok O _ hf, sbf S 0⟩
    · have hf : (ns S.1 i k).toNat < 2139095040 := by have := (ns_fin h hi hk).2.2; omega
      obtain ⟨r1, r2⟩ := ns_r (sS11 0 (sS12 0 S)) (K := K) (n := n) (m := m) (by rw [f0_0]; exact h) hi hk (by rw [f0_0]; exact z5)
      rw [f0_0] at r1
      have le : (0 : Int32) ≤ nI i := nI_le (a := 0) (by omega) (by omega)
      have e1 : fX6_noiseOf S (nI k) = (ns S.1 i k, sS11 0 (sS12 0 S)) := by rw [fX6_noiseOf, b, if_neg one_ne, fl0, B2, z, if_pos le, r1]
      have e2 : fX5_noiseOf C (tvOf S.1) (nI k) = (none, ns S.1 i k) := by
        rw [fX5_noiseOf, reqP a, if_pos rfl, P2, z, ns_c h hi hk z5]
      have e3 : fL_noiseOf C (tvOf S.1) O (nI k) = (0, vf_upd O (0 : Int32).toNatClampNeg (FP.f2d (ns S.1 i k))) := by rw [fL_noiseOf, e2]; exact if_pos rfl
      rw [gL_noiseOf, e2, if_pos rfl, e3, e1]
      exact ⟨by rw [gX6_noiseOf, b, if_neg one_ne, fl0, B2, z, if_pos le]; exact ⟨gIsSitter S _, G2, G2, r2, trivial⟩, ⟨.inl rfl, n64 (f2dn hf), v01, trivial⟩, thr S 0, TD.ok O _ hf, sbf S 0⟩
  · have e1 : fX6_noiseOf S x = (FP.fconst0, sS11 0 (sS12 1 S)) := by rw [fX6_noiseOf, b, if_pos rfl, fl1]
    have e2 : fX5_noiseOf C (tvOf S.1) x = (some "java/lang/IndexOutOfBoundsException", 0) := by rw [fX5_noiseOf, reqP0 a, if_neg (nn _)]
    have e3 : fL_noiseOf C (tvOf S.1) O x = (1, O) := by rw [fL_noiseOf, e2]; exact if_neg (nn _)
    rw [gL_noiseOf, e2, if_neg (nn _), e3, e1]
    exact ⟨by rw [gX6_noiseOf, b, if_pos rfl]; exact ⟨gIsSitter S _, trivial⟩, ⟨.inr rfl, trivial⟩, thr S 1, TD.no O _, sbf S 1⟩
theorem tiltBits_rd {K len : Nat} {C : CV} {T Sn : TV} {Hs : HV} {G : Nat → TV} {X : XV} {Ln : LV} {S : SV} (R : RCk K len C T Sn Hs G X Ln S) (O : Nat → Int64) (x : Int32) : gX6_tiltBits S x ∧ gL_tiltBits C T O x ∧ RDO S (fL_tiltBits C T O x) (fX6_tiltBits S x) := by
  obtain ⟨⟨n, m, h⟩, r2, -⟩ := id R
  subst r2
  have hn : S.1 0 = nI n := h.1.1
  have hm : S.1 1 = nI m := h.1.2.1
  have n12 : n ≤ 12 := h.1.2.2.1
  have m12 : m ≤ 12 := h.1.2.2.2.1
  rcases isStool_cases S hn n12 x with ⟨i, hi, rfl, a, b⟩ | ⟨a, b⟩
  · have hf : (tl S.1 i).toNat < 2139095040 := by have := tlt_fin h hi; omega
    obtain ⟨r1, r2⟩ := tl_r (sS11 0 (sS12 0 S)) (K := K) (n := n) (m := m) (by rw [f0_0]; exact h) hi
    rw [f0_0] at r1
    have e1 : fX6_tiltBits S (nI i) = (fX0_toBits (tl S.1 i), sS11 0 (sS12 0 S)) := by rw [fX6_tiltBits, b, if_neg one_ne, fl0, r1, fib hf]
    have e2 : fX5_tiltBits C (tvOf S.1) (nI i) = (none, fX0_toBits (tl S.1 i)) := by rw [fX5_tiltBits, reqS a, if_pos rfl, tl_c h hi]
    rw [e1]
    exact ⟨by rw [gX6_tiltBits, b, if_neg one_ne, fl0]; exact ⟨gIsStool S _, r2, trivial⟩, R1_ok O _ e2 rfl (thr S 0) (sbf S 0)⟩
  · have e1 : fX6_tiltBits S x = (0, sS11 0 (sS12 1 S)) := by rw [fX6_tiltBits, b, if_pos rfl, fl1]
    have e2 : fX5_tiltBits C (tvOf S.1) x = (some "java/lang/IndexOutOfBoundsException", 0) := by rw [fX5_tiltBits, reqS0 a, if_neg (nn _)]
    rw [e1]
    exact ⟨by rw [gX6_tiltBits, b, if_pos rfl]; exact ⟨gIsStool S _, trivial⟩, R1_no O _ e2 (thr S 1) (sbf S 1)⟩
theorem uN {n : Nat} (hn : n < 2139095040) : (nI n).toUInt32.toNat = n := by
  have e : nI n = (UInt32.ofNat n).toInt32 := by
    rw [fx_nI, UInt32.toNat_ofNat_of_lt' (by show n < 4294967296; omega)]
  rw [e, UInt32.toUInt32_toInt32, UInt32.toNat_ofNat_of_lt' (by show n < 4294967296; omega)]
theorem plusTilt_rd {K len : Nat} {C : CV} {T Sn : TV} {Hs : HV} {G : Nat → TV} {X : XV} {Ln : LV} {S : SV} (R : RCk K len C T Sn Hs G X Ln S) (O : Nat → Int64) (x1 x2 : Int32) : gX6_plusTilt S x1 x2 ∧ gL_plusTilt C T O x1 x2 ∧ RDO S (fL_plusTilt C T O x1 x2) (fX6_plusTilt S x1 x2) := by
  obtain ⟨⟨n, m, h⟩, r2, -⟩ := id R
  subst r2
  have hn : S.1 0 = nI n := h.1.1
  have hm : S.1 1 = nI m := h.1.2.1
  have n12 : n ≤ 12 := h.1.2.2.1
  have m12 : m ≤ 12 := h.1.2.2.2.1
  rcases isStool_cases S hn n12 x2 with ⟨i, hi, rfl, a, b⟩ | ⟨a, b⟩
  · rcases in_split x1 0 1232348159 with ⟨c, d⟩ | ⟨c, d, e⟩
    · have e1 : fX6_plusTilt S x1 (nI i) = (0, sS11 0 (sS12 2 S)) := by rw [fX6_plusTilt, b, if_neg one_ne, c, if_pos rfl, fl2]
      have nle : ¬ x1 < 0 → ¬ x1 ≤ 1232348159 := fun q q' => by
        rcases d with d | d
        · exact q d
        · rw [Int32.lt_iff_toInt_lt] at d; rw [Int32.le_iff_toInt_le] at q'; omega
      have e2 : fX5_plusTilt C (tvOf S.1) x1 (nI i) = (some "java/lang/IllegalArgumentException", 0) := by
        rw [fX5_plusTilt, reqS a, if_pos rfl]
        by_cases q : x1 < 0
        · rw [if_pos q]
        · rw [if_neg q, if_neg (nle q)]
      have g2 : gX5_plusTilt C (tvOf S.1) x1 (nI i) := by
        rw [gX5_plusTilt, reqS a, if_pos rfl]
        by_cases q : x1 < 0
        · rw [if_pos q]; trivial
        · rw [if_neg q, if_neg (nle q)]; trivial
      have k := R2_ia O _ e2 (B := (0, sS11 0 (sS12 2 S))) (thr S 2) (sbf S 2)
      rw [e1]
      exact ⟨by rw [gX6_plusTilt, b, if_neg one_ne, c, if_pos rfl]; exact ⟨gIsStool S _, trivial⟩, ⟨g2, k.1⟩, k.2⟩
    · obtain ⟨w1, w2⟩ := nlt_rng (A := 0) (B := 1232348159) (by decide) (by decide) d e
      obtain ⟨w, hw, -, hw5⟩ := of_rng w1 (by omega) w2
      have hw6 : w < 2139095040 := by omega
      have le := le_of_nlt e
      have f1 : ((nI w).toUInt32).toNat = w := uN hw6
      have f2 : (FP.fadd (nI w).toUInt32 (tl S.1 i)).toNat < 149 * 8388608 := add_fin (K := 147) (by rw [f1]; omega) (by have := tlt_fin h hi; omega) (by omega)
      have hf : (FP.fadd (nI w).toUInt32 (tl S.1 i)).toNat < 2139095040 := by omega
      obtain ⟨r1, r2⟩ := tl_r (sS11 0 (sS12 0 S)) (K := K) (n := n) (m := m) (by rw [f0_0]; exact h) hi
      rw [f0_0] at r1
      have e1 : fX6_plusTilt S x1 (nI i) = (fX0_toBits (FP.fadd (nI w).toUInt32 (tl S.1 i)), sS11 0 (sS12 0 S)) := by
        rw [fX6_plusTilt, b, if_neg one_ne, c, if_neg one_ne, fl0, r1, hw, fib hf]
      have e2 : fX5_plusTilt C (tvOf S.1) x1 (nI i) = (none, fX0_toBits (FP.fadd (nI w).toUInt32 (tl S.1 i))) := by
        rw [fX5_plusTilt, reqS a, if_pos rfl, if_neg d, if_pos le, tl_c h hi, hw, fromBits_eq hw6]
      have g2 : gX5_plusTilt C (tvOf S.1) x1 (nI i) := by
        rw [gX5_plusTilt, reqS a, if_pos rfl, if_neg d, if_pos le, tl_c h hi, hw, fromBits_eq hw6]; exact ⟨vf_of hf, trivial⟩
      have sn : vn_sni2f x1 = false := by
        have hle : ¬ (x1.toUInt32 &&& 0x7fffffff > 0x7f800000) := by
          rw [gt_iff_lt, UInt32.lt_iff_toNat_lt, UInt32.toNat_and, hw, f1]
          have := @Nat.and_le_left w (0x7fffffff : UInt32).toNat
          rw [show (0x7f800000 : UInt32).toNat = 2139095040 by decide]; omega
        rw [vn_sni2f, decide_eq_false hle]; rfl
      have k := R2_ok O _ e2 (B := (fX0_toBits (FP.fadd (nI w).toUInt32 (tl S.1 i)), sS11 0 (sS12 0 S))) rfl (thr S 0) (sbf S 0)
      rw [e1]
      exact ⟨by rw [gX6_plusTilt, b, if_neg one_ne, c, if_neg one_ne, fl0, r1]; exact ⟨gIsStool S _, sn, r2, by rw [hw]; exact vf_of hf, trivial⟩, ⟨g2, k.1⟩, k.2⟩
  · have e1 : fX6_plusTilt S x1 x2 = (0, sS11 0 (sS12 1 S)) := by rw [fX6_plusTilt, b, if_pos rfl, fl1]
    have e2 : fX5_plusTilt C (tvOf S.1) x1 x2 = (some "java/lang/IndexOutOfBoundsException", 0) := by rw [fX5_plusTilt, reqS0 a, if_neg (nn _)]
    have g2 : gX5_plusTilt C (tvOf S.1) x1 x2 := by rw [gX5_plusTilt, reqS0 a, if_neg (nn _)]; trivial
    have k := R2_io O _ e2 (B := (0, sS11 0 (sS12 1 S))) (thr S 1) (sbf S 1)
    rw [e1]
    exact ⟨by rw [gX6_plusTilt, b, if_pos rfl]; exact ⟨gIsStool S _, trivial⟩, ⟨g2, k.1⟩, k.2⟩
theorem tilted_rd {K len : Nat} {C : CV} {T Sn : TV} {Hs : HV} {G : Nat → TV} {X : XV} {Ln : LV} {S : SV} (R : RCk K len C T Sn Hs G X Ln S) (O : Nat → Int64) (x : Int32) : gX6_tilted S x ∧ gL_tilted C T O x ∧ RDO S (fL_tilted C T O x) (fX6_tilted S x) := by
  obtain ⟨⟨n, m, h⟩, r2, -⟩ := id R
  subst r2
  have hn : S.1 0 = nI n := h.1.1
  have hm : S.1 1 = nI m := h.1.2.1
  have n12 : n ≤ 12 := h.1.2.2.1
  have m12 : m ≤ 12 := h.1.2.2.2.1
  obtain ⟨e1, g1⟩ := ta_r S h x
  have e2 := ta_c h x
  refine ⟨g1, ?_⟩
  rcases hd : fd (tp S.1 n x) 0 n with _ | j
  · rw [hd] at e1 e2
    have e3 : fX5_tilted C (tvOf S.1) x = (some "java/util/NoSuchElementException", 0) := by rw [fX5_tilted, e2]; exact if_pos rfl
    rw [e1]
    exact R1_no O _ e3 (by rw [fX6_thrown]; exact pj_12_12 _ _) ((SB.rfl' S).s12 1)
  · rw [hd] at e1 e2
    have hj := (fd_some hd).2.1
    have e3 : fX5_tilted C (tvOf S.1) x = (none, nI j) := by rw [fX5_tilted, e2]; exact if_neg (nI_m1 (by omega))
    rw [e1]
    exact R1_ok O _ e3 rfl (by rw [fX6_thrown]; exact pj_12_12 _ _) ((SB.rfl' S).s12 0)
theorem ranked_rd {K len : Nat} {C : CV} {T Sn : TV} {Hs : HV} {G : Nat → TV} {X : XV} {Ln : LV} {S : SV} (R : RCk K len C T Sn Hs G X Ln S) (O : Nat → Int64) (x : Int32) : gX6_ranked S x ∧ gL_ranked C T O x ∧ RDO S (fL_ranked C T O x) (fX6_ranked S x) := by
  obtain ⟨⟨n, m, h⟩, r2, -⟩ := id R
  subst r2
  have hn : S.1 0 = nI n := h.1.1
  have hm : S.1 1 = nI m := h.1.2.1
  have n12 : n ≤ 12 := h.1.2.2.1
  have m12 : m ≤ 12 := h.1.2.2.2.1
  obtain ⟨e1, g1⟩ := at_r S hm m12 h.rw x
  obtain ⟨e1', g1'⟩ := at_r (m := m) (sS11 0 (sS12 0 S)) (by rw [f0_0]; exact hm) m12 (by rw [f0_0]; exact h.rw) x
  rw [f0_0] at e1'
  have e2 := at_c hm m12 h.rw x
  have cs : atR S.1 m x = -1 ∨ ∃ k, k < m ∧ atR S.1 m x = nI k := by
    rw [atR]
    rcases hd : fd (pl S.1 m x) 0 m with _ | j
    · exact .inl rfl
    · exact .inr ⟨j, by have := (fd_some hd).2.1; omega, rfl⟩
  rcases cs with z | ⟨k, hk, z⟩
  · have e3 : fX5_ranked C (tvOf S.1) x = (some "java/util/NoSuchElementException", 0) := by rw [fX5_ranked, e2, z]; exact if_pos rfl
    have e4 : fX6_ranked S x = (0, sS11 0 (sS12 1 S)) := by rw [fX6_ranked, e1, z, if_neg m1_nle, fl1]
    rw [e4]
    exact ⟨by rw [gX6_ranked, e1, z, if_neg m1_nle]; exact ⟨g1, trivial⟩, R1_no O _ e3 (thr S 1) (sbf S 1)⟩
  · have le : (0 : Int32) ≤ nI k := nI_le (a := 0) (by omega) (by omega)
    have e3 : fX5_ranked C (tvOf S.1) x = (none, nI k) := by rw [fX5_ranked, e2, z]; exact if_neg (nI_m1 (by omega))
    have e4 : fX6_ranked S x = (nI k, sS11 0 (sS12 0 S)) := by rw [fX6_ranked, e1, z, if_pos le, fl0, e1', z]
    rw [e4]
    exact ⟨by rw [gX6_ranked, e1, z, if_pos le, fl0]; exact ⟨g1, g1', trivial⟩, R1_ok O _ e3 rfl (thr S 0) (sbf S 0)⟩
theorem refusal_rd {K len : Nat} {C : CV} {T Sn : TV} {Hs : HV} {G : Nat → TV} {X : XV} {Ln : LV} {S : SV} (R : RCk K len C T Sn Hs G X Ln S) (O : Nat → Int64) (x : Int32) : gL_refusal C O x ∧ RDO S (fL_refusal C O x) (fX6_refusal S x) := by
  obtain ⟨-, -, -, -, -, -, -, -, -, r11, r12⟩ := R
  by_cases z : S.2.2.2.2.2.2.2.2.2.2.2.2.2.1 = 0
  · have e1 : fX6_refusal S x = (0, sS11 0 (sS12 1 S)) := by rw [fX6_refusal, if_pos z, fl1]
    have e2 : fX5_refusal C x = (some "java/util/NoSuchElementException", 0) := by rw [fX5_refusal, r11, if_pos z]
    rw [e1]; exact R1_no O _ e2 (thr S 1) (sbf S 1)
  · by_cases y : x = 0
    · have e1 : fX6_refusal S x = (S.2.2.2.2.2.2.2.2.2.2.2.2.2.1, sS11 0 (sS12 0 S)) := by
        rw [fX6_refusal, if_neg z, if_pos y, fl0]
        show ((sS11 0 (sS12 0 S)).2.2.2.2.2.2.2.2.2.2.2.2.2.1, sS11 0 (sS12 0 S)) = _
        rw [pj_11_13, pj_12_13]
      have e2 : fX5_refusal C x = (none, S.2.2.2.2.2.2.2.2.2.2.2.2.2.1) := by rw [fX5_refusal, r11, if_neg z, if_pos y]
      rw [e1]; exact R1_ok O _ e2 rfl (thr S 0) (sbf S 0)
    · have e1 : fX6_refusal S x = (S.2.2.2.2.2.2.2.2.2.2.2.2.2.2.1, sS11 0 (sS12 0 S)) := by
        rw [fX6_refusal, if_neg z, if_neg y, fl0]
        show ((sS11 0 (sS12 0 S)).2.2.2.2.2.2.2.2.2.2.2.2.2.2.1, sS11 0 (sS12 0 S)) = _
        rw [pj_11_14, pj_12_14]
      have e2 : fX5_refusal C x = (none, S.2.2.2.2.2.2.2.2.2.2.2.2.2.2.1) := by rw [fX5_refusal, r11, if_neg z, if_neg y, r12]
      rw [e1]; exact R1_ok O _ e2 rfl (thr S 0) (sbf S 0)
theorem c_16 {xs : Nat → Int32} {L : Nat} (hL : L ≤ 2560) (i : Nat) (S : CV) (T : TV) (Tr : TV) (Sn : TV) (Hs : HV) (G : (Nat → TV)) (Xt : XV) (Ln : LV) (Mo : SV) (O : (Nat → Int64)) (Oq : (Nat → UInt64)) (hi : i + 5 ≤ L) (hR : Rel i S T Tr Sn Hs G Xt Ln Mo O Oq) : gM_16 S T Tr Sn Hs G Xt Ln Mo O Oq xs L (nI i) ∧ Rel (i + 5) S T Tr Sn Hs G Xt Ln (fM_16 S T Tr Sn Hs G Xt Ln Mo O Oq xs L (nI i)).1 (fM_16 S T Tr Sn Hs G Xt Ln Mo O Oq xs L (nI i)).2 Oq := by
  obtain ⟨K, len, hk, R⟩ := hR
  have v1 : vp_in (nI i + 1) L := by rw [show nI i + 1 = nI (i + 1) from nI_add i 1]; exact vp_in_nI (by omega) (by omega)
  have v2 : vp_in (nI i + 2) L := by rw [show nI i + 2 = nI (i + 2) from nI_add i 2]; exact vp_in_nI (by omega) (by omega)
  have v3 : vp_in (nI i + 3) L := by rw [show nI i + 3 = nI (i + 3) from nI_add i 3]; exact vp_in_nI (by omega) (by omega)
  have v4 : vp_in (nI i + 4) L := by rw [show nI i + 4 = nI (i + 4) from nI_add i 4]; exact vp_in_nI (by omega) (by omega)
  have k := tiltBits_rd R O (xs (nI i + 1).toNatClampNeg)
  simp only [gM_16, fM_16, ite_self]
  exact ⟨⟨v1, k.2.1, v1, k.1, k.2.2.1, k.2.2.tail⟩, ⟨K, len, by omega, R.sb k.2.2.2.2⟩⟩
theorem c_17 {xs : Nat → Int32} {L : Nat} (hL : L ≤ 2560) (i : Nat) (S : CV) (T : TV) (Tr : TV) (Sn : TV) (Hs : HV) (G : (Nat → TV)) (Xt : XV) (Ln : LV) (Mo : SV) (O : (Nat → Int64)) (Oq : (Nat → UInt64)) (hi : i + 5 ≤ L) (hR : Rel i S T Tr Sn Hs G Xt Ln Mo O Oq) : gM_17 S T Tr Sn Hs G Xt Ln Mo O Oq xs L (nI i) ∧ Rel (i + 5) S T Tr Sn Hs G Xt Ln (fM_17 S T Tr Sn Hs G Xt Ln Mo O Oq xs L (nI i)).1 (fM_17 S T Tr Sn Hs G Xt Ln Mo O Oq xs L (nI i)).2 Oq := by
  obtain ⟨K, len, hk, R⟩ := hR
  have v1 : vp_in (nI i + 1) L := by rw [show nI i + 1 = nI (i + 1) from nI_add i 1]; exact vp_in_nI (by omega) (by omega)
  have v2 : vp_in (nI i + 2) L := by rw [show nI i + 2 = nI (i + 2) from nI_add i 2]; exact vp_in_nI (by omega) (by omega)
  have v3 : vp_in (nI i + 3) L := by rw [show nI i + 3 = nI (i + 3) from nI_add i 3]; exact vp_in_nI (by omega) (by omega)
  have v4 : vp_in (nI i + 4) L := by rw [show nI i + 4 = nI (i + 4) from nI_add i 4]; exact vp_in_nI (by omega) (by omega)
  have k := plusTilt_rd R O (xs (nI i + 1).toNatClampNeg) (xs (nI i + 2).toNatClampNeg)
  simp only [gM_17, fM_17, ite_self]
  exact ⟨⟨v1, v2, k.2.1, v1, v2, k.1, k.2.2.1, k.2.2.tail⟩, ⟨K, len, by omega, R.sb k.2.2.2.2⟩⟩
theorem c_21 {xs : Nat → Int32} {L : Nat} (hL : L ≤ 2560) (i : Nat) (S : CV) (T : TV) (Tr : TV) (Sn : TV) (Hs : HV) (G : (Nat → TV)) (Xt : XV) (Ln : LV) (Mo : SV) (O : (Nat → Int64)) (Oq : (Nat → UInt64)) (hi : i + 5 ≤ L) (hR : Rel i S T Tr Sn Hs G Xt Ln Mo O Oq) : gM_21 S T Tr Sn Hs G Xt Ln Mo O Oq xs L (nI i) ∧ Rel (i + 5) S T Tr Sn Hs G Xt Ln (fM_21 S T Tr Sn Hs G Xt Ln Mo O Oq xs L (nI i)).1 (fM_21 S T Tr Sn Hs G Xt Ln Mo O Oq xs L (nI i)).2 Oq := by
  obtain ⟨K, len, hk, R⟩ := hR
  have v1 : vp_in (nI i + 1) L := by rw [show nI i + 1 = nI (i + 1) from nI_add i 1]; exact vp_in_nI (by omega) (by omega)
  have v2 : vp_in (nI i + 2) L := by rw [show nI i + 2 = nI (i + 2) from nI_add i 2]; exact vp_in_nI (by omega) (by omega)
  have v3 : vp_in (nI i + 3) L := by rw [show nI i + 3 = nI (i + 3) from nI_add i 3]; exact vp_in_nI (by omega) (by omega)
  have v4 : vp_in (nI i + 4) L := by rw [show nI i + 4 = nI (i + 4) from nI_add i 4]; exact vp_in_nI (by omega) (by omega)
  have k := tilted_rd R O (xs (nI i + 1).toNatClampNeg)
  simp only [gM_21, fM_21, ite_self]
  exact ⟨⟨v1, k.2.1, v1, k.1, k.2.2.1, k.2.2.tail⟩, ⟨K, len, by omega, R.sb k.2.2.2.2⟩⟩
theorem c_22 {xs : Nat → Int32} {L : Nat} (hL : L ≤ 2560) (i : Nat) (S : CV) (T : TV) (Tr : TV) (Sn : TV) (Hs : HV) (G : (Nat → TV)) (Xt : XV) (Ln : LV) (Mo : SV) (O : (Nat → Int64)) (Oq : (Nat → UInt64)) (hi : i + 5 ≤ L) (hR : Rel i S T Tr Sn Hs G Xt Ln Mo O Oq) : gM_22 S T Tr Sn Hs G Xt Ln Mo O Oq xs L (nI i) ∧ Rel (i + 5) S T Tr Sn Hs G Xt Ln (fM_22 S T Tr Sn Hs G Xt Ln Mo O Oq xs L (nI i)).1 (fM_22 S T Tr Sn Hs G Xt Ln Mo O Oq xs L (nI i)).2 Oq := by
  obtain ⟨K, len, hk, R⟩ := hR
  have v1 : vp_in (nI i + 1) L := by rw [show nI i + 1 = nI (i + 1) from nI_add i 1]; exact vp_in_nI (by omega) (by omega)
  have v2 : vp_in (nI i + 2) L := by rw [show nI i + 2 = nI (i + 2) from nI_add i 2]; exact vp_in_nI (by omega) (by omega)
  have v3 : vp_in (nI i + 3) L := by rw [show nI i + 3 = nI (i + 3) from nI_add i 3]; exact vp_in_nI (by omega) (by omega)
  have v4 : vp_in (nI i + 4) L := by rw [show nI i + 4 = nI (i + 4) from nI_add i 4]; exact vp_in_nI (by omega) (by omega)
  have k := ranked_rd R O (xs (nI i + 1).toNatClampNeg)
  simp only [gM_22, fM_22, ite_self]
  exact ⟨⟨v1, k.2.1, v1, k.1, k.2.2.1, k.2.2.tail⟩, ⟨K, len, by omega, R.sb k.2.2.2.2⟩⟩
theorem c_15 {xs : Nat → Int32} {L : Nat} (hL : L ≤ 2560) (i : Nat) (S : CV) (T : TV) (Tr : TV) (Sn : TV) (Hs : HV) (G : (Nat → TV)) (Xt : XV) (Ln : LV) (Mo : SV) (O : (Nat → Int64)) (Oq : (Nat → UInt64)) (hi : i + 5 ≤ L) (hR : Rel i S T Tr Sn Hs G Xt Ln Mo O Oq) : gM_15 S T Tr Sn Hs G Xt Ln Mo O Oq xs L (nI i) ∧ Rel (i + 5) S T Tr Sn Hs G Xt Ln (fM_15 S T Tr Sn Hs G Xt Ln Mo O Oq xs L (nI i)).1 O (fM_15 S T Tr Sn Hs G Xt Ln Mo O Oq xs L (nI i)).2 := by
  obtain ⟨K, len, hk, R⟩ := hR
  have v1 : vp_in (nI i + 1) L := by rw [show nI i + 1 = nI (i + 1) from nI_add i 1]; exact vp_in_nI (by omega) (by omega)
  have v2 : vp_in (nI i + 2) L := by rw [show nI i + 2 = nI (i + 2) from nI_add i 2]; exact vp_in_nI (by omega) (by omega)
  have v3 : vp_in (nI i + 3) L := by rw [show nI i + 3 = nI (i + 3) from nI_add i 3]; exact vp_in_nI (by omega) (by omega)
  have v4 : vp_in (nI i + 4) L := by rw [show nI i + 4 = nI (i + 4) from nI_add i 4]; exact vp_in_nI (by omega) (by omega)
  have k := tilt_rd R Oq (xs (nI i + 1).toNatClampNeg)
  simp only [gM_15, fM_15, ite_self]
  exact ⟨⟨v1, k.2.1, v1, k.1, k.2.2.1, k.2.2.2.1⟩, ⟨K, len, by omega, R.sb k.2.2.2.2⟩⟩
theorem c_18 {xs : Nat → Int32} {L : Nat} (hL : L ≤ 2560) (i : Nat) (S : CV) (T : TV) (Tr : TV) (Sn : TV) (Hs : HV) (G : (Nat → TV)) (Xt : XV) (Ln : LV) (Mo : SV) (O : (Nat → Int64)) (Oq : (Nat → UInt64)) (hi : i + 5 ≤ L) (hR : Rel i S T Tr Sn Hs G Xt Ln Mo O Oq) : gM_18 S T Tr Sn Hs G Xt Ln Mo O Oq xs L (nI i) ∧ Rel (i + 5) S T Tr Sn Hs G Xt Ln (fM_18 S T Tr Sn Hs G Xt Ln Mo O Oq xs L (nI i)).1 O (fM_18 S T Tr Sn Hs G Xt Ln Mo O Oq xs L (nI i)).2 := by
  obtain ⟨K, len, hk, R⟩ := hR
  have v1 : vp_in (nI i + 1) L := by rw [show nI i + 1 = nI (i + 1) from nI_add i 1]; exact vp_in_nI (by omega) (by omega)
  have v2 : vp_in (nI i + 2) L := by rw [show nI i + 2 = nI (i + 2) from nI_add i 2]; exact vp_in_nI (by omega) (by omega)
  have v3 : vp_in (nI i + 3) L := by rw [show nI i + 3 = nI (i + 3) from nI_add i 3]; exact vp_in_nI (by omega) (by omega)
  have v4 : vp_in (nI i + 4) L := by rw [show nI i + 4 = nI (i + 4) from nI_add i 4]; exact vp_in_nI (by omega) (by omega)
  have k := noiseOf_rd R Oq (xs (nI i + 1).toNatClampNeg)
  simp only [gM_18, fM_18, ite_self]
  exact ⟨⟨v1, k.2.1, v1, k.1, k.2.2.1, k.2.2.2.1⟩, ⟨K, len, by omega, R.sb k.2.2.2.2⟩⟩
theorem c_19 {xs : Nat → Int32} {L : Nat} (hL : L ≤ 2560) (i : Nat) (S : CV) (T : TV) (Tr : TV) (Sn : TV) (Hs : HV) (G : (Nat → TV)) (Xt : XV) (Ln : LV) (Mo : SV) (O : (Nat → Int64)) (Oq : (Nat → UInt64)) (hi : i + 5 ≤ L) (hR : Rel i S T Tr Sn Hs G Xt Ln Mo O Oq) : gM_19 S T Tr Sn Hs G Xt Ln Mo O Oq xs L (nI i) ∧ Rel (i + 5) S T Tr Sn Hs G Xt Ln (fM_19 S T Tr Sn Hs G Xt Ln Mo O Oq xs L (nI i)) O Oq := by
  obtain ⟨K, len, hk, R⟩ := hR
  obtain ⟨⟨n, m, h⟩, r2, -⟩ := id R
  subst r2
  obtain ⟨e1, e2⟩ := na_r Mo h
  obtain ⟨e3, e4⟩ := na_c h
  rw [gM_19, fM_19, e1]
  refine ⟨⟨e2, ?_, trivial⟩, ⟨K, len, by omega, R.sb ((SB.rfl' Mo).s12 0)⟩⟩
  rw [fX5_noiseBits, e3]
  have := h.1.2.2.1
  exact (fib (by omega)).symm
theorem c_28 {xs : Nat → Int32} {L : Nat} (hL : L ≤ 2560) (i : Nat) (S : CV) (T : TV) (Tr : TV) (Sn : TV) (Hs : HV) (G : (Nat → TV)) (Xt : XV) (Ln : LV) (Mo : SV) (O : (Nat → Int64)) (Oq : (Nat → UInt64)) (hi : i + 5 ≤ L) (hR : Rel i S T Tr Sn Hs G Xt Ln Mo O Oq) : gM_28 S T Tr Sn Hs G Xt Ln Mo O Oq xs L (nI i) ∧ Rel (i + 5) S T Tr Sn Hs G Xt Ln (fM_28 S T Tr Sn Hs G Xt Ln Mo O Oq xs L (nI i)) O Oq := by
  obtain ⟨K, len, hk, R⟩ := hR
  obtain ⟨-, -, -, -, -, -, -, -, r10, -, -⟩ := id R
  rw [gM_28, fM_28]
  exact ⟨⟨r10, trivial⟩, ⟨K, len, by omega, R.sb ((SB.rfl' Mo).s12 0)⟩⟩
theorem c_29 {xs : Nat → Int32} {L : Nat} (hL : L ≤ 2560) (i : Nat) (S : CV) (T : TV) (Tr : TV) (Sn : TV) (Hs : HV) (G : (Nat → TV)) (Xt : XV) (Ln : LV) (Mo : SV) (O : (Nat → Int64)) (Oq : (Nat → UInt64)) (hi : i + 5 ≤ L) (hR : Rel i S T Tr Sn Hs G Xt Ln Mo O Oq) : gM_29 S T Tr Sn Hs G Xt Ln Mo O Oq xs L (nI i) ∧ Rel (i + 5) S T Tr Sn Hs G Xt Ln (fM_29 S T Tr Sn Hs G Xt Ln Mo O Oq xs L (nI i)).1 (fM_29 S T Tr Sn Hs G Xt Ln Mo O Oq xs L (nI i)).2 Oq := by
  obtain ⟨K, len, hk, R⟩ := hR
  have v1 : vp_in (nI i + 1) L := by rw [show nI i + 1 = nI (i + 1) from nI_add i 1]; exact vp_in_nI (by omega) (by omega)
  have v2 : vp_in (nI i + 2) L := by rw [show nI i + 2 = nI (i + 2) from nI_add i 2]; exact vp_in_nI (by omega) (by omega)
  have v3 : vp_in (nI i + 3) L := by rw [show nI i + 3 = nI (i + 3) from nI_add i 3]; exact vp_in_nI (by omega) (by omega)
  have v4 : vp_in (nI i + 4) L := by rw [show nI i + 4 = nI (i + 4) from nI_add i 4]; exact vp_in_nI (by omega) (by omega)
  by_cases e : (xs (nI i + 1).toNatClampNeg) = 0
  · have k := refusal_rd R O 0
    simp only [gM_29, fM_29, if_pos e, ite_self]
    exact ⟨⟨v1, k.1, v1, k.2.1, k.2.tail⟩, ⟨K, len, by omega, R.sb k.2.2.2⟩⟩
  · have k := refusal_rd R O 1
    simp only [gM_29, fM_29, if_neg e, ite_self]
    exact ⟨⟨v1, k.1, v1, k.2.1, k.2.tail⟩, ⟨K, len, by omega, R.sb k.2.2.2⟩⟩
theorem best_rd {K len : Nat} {C : CV} {T Sn : TV} {Hs : HV} {G : Nat → TV} {X : XV} {Ln : LV} {S : SV} (R : RCk K len C T Sn Hs G X Ln S) (Tr : TV) (O : Nat → Int64) (x : Int32) : gX6_bestSwap S x ∧ gL_bestSwap C T Tr O x ∧ fX6_thrown (fX6_bestSwap S x).2 = (fL_bestSwap C T Tr O x).1 ∧ ((fL_bestSwap C T Tr O x).1 = 0 → lg_cmp ((fL_bestSwap C T Tr O x).2.2 (0 : Int32).toNatClampNeg) ((fX6_bestSwap S x).1.toInt64) = 0) ∧ SB S (fX6_bestSwap S x).2 := by
  obtain ⟨⟨n, m, h⟩, r2, -⟩ := id R
  subst r2
  have hn : S.1 0 = nI n := h.1.1
  have hm : S.1 1 = nI m := h.1.2.1
  have n12 : n ≤ 12 := h.1.2.2.1
  have m12 : m ≤ 12 := h.1.2.2.2.1
  obtain ⟨e1, -⟩ := bp_c C h Tr
  obtain ⟨s', key⟩ := bw_r S h x
  obtain ⟨inv, g1, e2⟩ := key _ rfl
  obtain ⟨Z, hZ⟩ : ∃ Z, Z = fo (fun z k => fo (bss S.1 m k) (k + 1) (m - (k + 1)) z) 0 m (cpr S.1 (fun k => qp S.1 k 2) m, -1, -1) := ⟨_, rfl⟩
  rw [← hZ] at e1 e2 inv
  refine ⟨g1, ?_⟩
  rcases inv.2 with z | ⟨k, q, hk, hq, z1, z2⟩
  · have e3 : fX5_bestSwap C (tvOf S.1) Tr x = (some "java/util/NoSuchElementException", 0, tvOf S.1) := by rw [fX5_bestSwap, e1, bst2, if_pos z]; exact if_pos rfl
    have e4 : fL_bestSwap C (tvOf S.1) Tr O x = (1, tvOf S.1, O) := by rw [fL_bestSwap, e3]; exact if_neg (nn _)
    rw [e2, z, if_neg m1_nle, gL_bestSwap, e3, e4, if_neg (nn _)]
    exact ⟨⟨.inr rfl, trivial⟩, by rw [thr], fun e => absurd e one_ne, ((((SB.rfl' S).s6 s').s12 1).s11 0)⟩
  · have hz : bst2 Z = nI (k * 12 + q) := by
      rw [bst2, z1, z2, if_neg (nI_m1 (by omega)), show (12 : Int32) = nI 12 from rfl, nI_mul (by omega) (by omega) (by omega), nI_add]
    have le : (0 : Int32) ≤ Z.2.1 := by rw [z1]; exact nI_le (a := 0) (by omega) (by omega)
    have d1 : ∀ k, k < 12 → ∀ q, q < 12 → nI (k * 12 + q) / 12 = nI k ∧ nI (k * 12 + q) - nI (k * 12 + q) / 12 * 12 = nI q := by decide +kernel
    obtain ⟨d2, d3⟩ := d1 k (by omega) q (by omega)
    have e3 : fX5_bestSwap C (tvOf S.1) Tr x = (none, (if x = 0 then Z.2.1 else Z.2.2), tvOf S.1) := by
      rw [fX5_bestSwap, e1, hz]
      dsimp only
      rw [if_neg (nI_m1 (by omega)), d3, d2, z1, z2]
      by_cases y : x = 0
      · rw [if_pos y, if_pos y]
      · rw [if_neg y, if_neg y]
    have e4 : fL_bestSwap C (tvOf S.1) Tr O x = (0, tvOf S.1, vp_updL O (0 : Int32).toNatClampNeg ((if x = 0 then Z.2.1 else Z.2.2).toInt64)) := by rw [fL_bestSwap, e3]; exact if_pos rfl
    rw [e2, if_pos le, gL_bestSwap, e3, e4, if_pos rfl]
    exact ⟨⟨.inl rfl, v01, trivial⟩, by rw [thr], fun _ => lg0 O _, ((((SB.rfl' S).s6 s').s12 0).s11 0)⟩
theorem c_12 {xs : Nat → Int32} {L : Nat} (hL : L ≤ 2560) (i : Nat) (S : CV) (T : TV) (Tr : TV) (Sn : TV) (Hs : HV) (G : (Nat → TV)) (Xt : XV) (Ln : LV) (Mo : SV) (O : (Nat → Int64)) (Oq : (Nat → UInt64)) (hi : i + 5 ≤ L) (hR : Rel i S T Tr Sn Hs G Xt Ln Mo O Oq) : gM_12 S T Tr Sn Hs G Xt Ln Mo O Oq xs L (nI i) ∧ Rel (i + 5) S T (fM_12 S T Tr Sn Hs G Xt Ln Mo O Oq xs L (nI i)).1 Sn Hs G Xt Ln (fM_12 S T Tr Sn Hs G Xt Ln Mo O Oq xs L (nI i)).2.1 (fM_12 S T Tr Sn Hs G Xt Ln Mo O Oq xs L (nI i)).2.2 Oq := by
  obtain ⟨K, len, hk, R⟩ := hR
  have v1 : vp_in (nI i + 1) L := by rw [show nI i + 1 = nI (i + 1) from nI_add i 1]; exact vp_in_nI (by omega) (by omega)
  have v2 : vp_in (nI i + 2) L := by rw [show nI i + 2 = nI (i + 2) from nI_add i 2]; exact vp_in_nI (by omega) (by omega)
  have v3 : vp_in (nI i + 3) L := by rw [show nI i + 3 = nI (i + 3) from nI_add i 3]; exact vp_in_nI (by omega) (by omega)
  have v4 : vp_in (nI i + 4) L := by rw [show nI i + 4 = nI (i + 4) from nI_add i 4]; exact vp_in_nI (by omega) (by omega)
  have tl : ∀ x : Int32, (if (fL_bestSwap S T Tr O x).1 = 0 then ((vp_in 0 1) ∧ ((lg_cmp ((fL_bestSwap S T Tr O x).2.2 (0 : Int32).toNatClampNeg) ((fX6_bestSwap Mo x).1.toInt64)) = 0) ∧ True) else True) := fun x => by
    have k := best_rd R Tr O x
    by_cases e : (fL_bestSwap S T Tr O x).1 = 0
    · rw [if_pos e]; exact ⟨v01, k.2.2.2.1 e, trivial⟩
    · rw [if_neg e]; trivial
  by_cases e : (xs (nI i + 1).toNatClampNeg) = 0
  · have k := best_rd R Tr O 0
    simp only [gM_12, fM_12, if_pos e, ite_self]
    exact ⟨⟨v1, k.2.1, v1, k.1, k.2.2.1, tl 0⟩, ⟨K, len, by omega, R.sb k.2.2.2.2⟩⟩
  · have k := best_rd R Tr O 1
    simp only [gM_12, fM_12, if_neg e, ite_self]
    exact ⟨⟨v1, k.2.1, v1, k.1, k.2.2.1, tl 1⟩, ⟨K, len, by omega, R.sb k.2.2.2.2⟩⟩
