/-! The law's cases: lines, texts, accounts -/
def SL (S S' : SV) : Prop := S'.1 = S.1 ∧ S'.2.1 = S.2.1 ∧ S'.2.2.1 = S.2.2.1 ∧ S'.2.2.2.2.1 = S.2.2.2.2.1 ∧ S'.2.2.2.2.2.2.2.2.1 = S.2.2.2.2.2.2.2.2.1 ∧ S'.2.2.2.2.2.2.2.2.2.1 = S.2.2.2.2.2.2.2.2.2.1 ∧ S'.2.2.2.2.2.2.2.2.2.2.1 = S.2.2.2.2.2.2.2.2.2.2.1 ∧ S'.2.2.2.2.2.2.2.2.2.2.2.2.2.1 = S.2.2.2.2.2.2.2.2.2.2.2.2.2.1 ∧ S'.2.2.2.2.2.2.2.2.2.2.2.2.2.2.1 = S.2.2.2.2.2.2.2.2.2.2.2.2.2.2.1 ∧ S'.2.2.2.2.2.2.2.2.2.2.2.2.2.2.2.1 = S.2.2.2.2.2.2.2.2.2.2.2.2.2.2.2.1 ∧ S'.2.2.2.2.2.2.2.2.2.2.2.2.2.2.2.2.1 = S.2.2.2.2.2.2.2.2.2.2.2.2.2.2.2.2.1
theorem RCk.sl {K len : Nat} {C : CV} {T Sn : TV} {Hs : HV} {G : Nat → TV} {X : XV} {Ln Ln' : LV} {S S' : SV} (R : RCk K len C T Sn Hs G X Ln S) (h : SL S S') {z : Nat} (hz : z ≤ 600) (hl : LZ z Ln' S') : RCk K len C T Sn Hs G X Ln' S' := by
  obtain ⟨⟨n, m, r1⟩, r2, r3, r4, r5, -, r8, r9, r10, r11, r12⟩ := R
  exact ⟨⟨n, m, by rw [h.1]; exact r1⟩, by rw [h.1]; exact r2, h.2.2.2.2.2.2.1.trans r3, by rw [h.2.1, h.2.2.2.2.2.1]; exact r4, r5.eq h.2.2.2.2.2.2.2.2.2.1 h.2.2.2.1, ⟨z, hz, hl⟩, r8.trans h.2.2.2.2.1.symm, r9.eq h.2.2.2.2.1 h.2.2.1, r10.trans h.2.2.2.2.2.2.2.2.2.2.symm, r11.trans h.2.2.2.2.2.2.2.1.symm, r12.trans h.2.2.2.2.2.2.2.2.1.symm⟩
theorem SL.a (S : SV) (v : Int32) (s5 : Nat → Int32) : SL S (sS17 v (sS5 s5 (sS12 0 S))) := ⟨by rw [pj_17_0, pj_5_0, pj_12_0], by rw [pj_17_1, pj_5_1, pj_12_1], by rw [pj_17_2, pj_5_2, pj_12_2], by rw [pj_17_4, pj_5_4, pj_12_4], by rw [pj_17_8, pj_5_8, pj_12_8], by rw [pj_17_9, pj_5_9, pj_12_9], by rw [pj_17_10, pj_5_10, pj_12_10], by rw [pj_17_13, pj_5_13, pj_12_13], by rw [pj_17_14, pj_5_14, pj_12_14], by rw [pj_17_15, pj_5_15, pj_12_15], by rw [pj_17_16, pj_5_16, pj_12_16]⟩
theorem SL.b (S : SV) (v : Int32) (s5 : Nat → Int32) : SL S (sS17 v (sS5 s5 (sS11 0 (sS12 0 S)))) := ⟨by rw [pj_17_0, pj_5_0, pj_11_0, pj_12_0], by rw [pj_17_1, pj_5_1, pj_11_1, pj_12_1], by rw [pj_17_2, pj_5_2, pj_11_2, pj_12_2], by rw [pj_17_4, pj_5_4, pj_11_4, pj_12_4], by rw [pj_17_8, pj_5_8, pj_11_8, pj_12_8], by rw [pj_17_9, pj_5_9, pj_11_9, pj_12_9], by rw [pj_17_10, pj_5_10, pj_11_10, pj_12_10], by rw [pj_17_13, pj_5_13, pj_11_13, pj_12_13], by rw [pj_17_14, pj_5_14, pj_11_14, pj_12_14], by rw [pj_17_15, pj_5_15, pj_11_15, pj_12_15], by rw [pj_17_16, pj_5_16, pj_11_16, pj_12_16]⟩
theorem c_23 {xs : Nat → Int32} {L : Nat} (hL : L ≤ 2560) (i : Nat) (S : CV) (T : TV) (Tr : TV) (Sn : TV) (Hs : HV) (G : (Nat → TV)) (Xt : XV) (Ln : LV) (Mo : SV) (O : (Nat → Int64)) (Oq : (Nat → UInt64)) (hi : i + 5 ≤ L) (hR : Rel i S T Tr Sn Hs G Xt Ln Mo O Oq) : gM_23 S T Tr Sn Hs G Xt Ln Mo O Oq xs L (nI i) ∧ Rel (i + 5) S T Tr Sn Hs G Xt (fM_23 S T Tr Sn Hs G Xt Ln Mo O Oq xs L (nI i)).1 (fM_23 S T Tr Sn Hs G Xt Ln Mo O Oq xs L (nI i)).2 O Oq := by
  obtain ⟨K, len, hk, R⟩ := hR
  obtain ⟨⟨n, m, h⟩, r2, -, -, -, ⟨z0, -, hz⟩, -⟩ := id R
  subst r2
  obtain ⟨z, s5, q1, q2, q3, q4, q5⟩ := li_r S Mo Ln h hz.2.2.2
  rw [gM_23, fM_23, q3]
  exact ⟨⟨q5, q2, trivial⟩, ⟨K, len, by omega, R.sl (SL.a Mo _ s5) q1 q4⟩⟩
theorem c_24 {xs : Nat → Int32} {L : Nat} (hL : L ≤ 2560) (i : Nat) (S : CV) (T : TV) (Tr : TV) (Sn : TV) (Hs : HV) (G : (Nat → TV)) (Xt : XV) (Ln : LV) (Mo : SV) (O : (Nat → Int64)) (Oq : (Nat → UInt64)) (hi : i + 5 ≤ L) (hR : Rel i S T Tr Sn Hs G Xt Ln Mo O Oq) : gM_24 S T Tr Sn Hs G Xt Ln Mo O Oq xs L (nI i) ∧ Rel (i + 5) S T Tr Sn Hs G Xt (fM_24 S T Tr Sn Hs G Xt Ln Mo O Oq xs L (nI i)).1 (fM_24 S T Tr Sn Hs G Xt Ln Mo O Oq xs L (nI i)).2.1 (fM_24 S T Tr Sn Hs G Xt Ln Mo O Oq xs L (nI i)).2.2 Oq := by
  obtain ⟨K, len, hk, R⟩ := hR
  have v1 : vp_in (nI i + 1) L := by rw [show nI i + 1 = nI (i + 1) from nI_add i 1]; exact vp_in_nI (by omega) (by omega)
  have v2 : vp_in (nI i + 2) L := by rw [show nI i + 2 = nI (i + 2) from nI_add i 2]; exact vp_in_nI (by omega) (by omega)
  have v3 : vp_in (nI i + 3) L := by rw [show nI i + 3 = nI (i + 3) from nI_add i 3]; exact vp_in_nI (by omega) (by omega)
  have v4 : vp_in (nI i + 4) L := by rw [show nI i + 4 = nI (i + 4) from nI_add i 4]; exact vp_in_nI (by omega) (by omega)
  obtain ⟨⟨n, m, h⟩, r2, -, -, -, ⟨z0, -, hz⟩, -⟩ := id R
  subst r2
  obtain ⟨x, hx⟩ : ∃ x, x = (xs (nI i + 1).toNatClampNeg) := ⟨_, rfl⟩
  simp only [gM_24, fM_24, ite_self]
  rw [← hx]
  rcases isStool_cases Mo h.1.1 h.1.2.2.1 x with ⟨i, hi, rfl, a, b⟩ | ⟨a, b⟩
  · obtain ⟨z, s5, q1, q2, q3, q4, q5⟩ := sl_eq S Mo Ln h (show K ≤ 560 by omega) hz.2.2.2 hi
    obtain ⟨L', hL'⟩ : ∃ L', L' = (fX5_stoolLine S (tvOf Mo.1) Ln (nI i)).2.2 := ⟨_, rfl⟩
    rw [← hL'] at q2 q4
    have e3 : fL_stoolLine S (tvOf Mo.1) Ln O (nI i) = (0, L', vp_updL O (0 : Int32).toNatClampNeg (nI z).toInt64) := by rw [fL_stoolLine, q2]; exact if_pos rfl
    have t : fX6_thrown (sS17 (nI z) (sS5 s5 (sS11 0 (sS12 0 Mo)))) = 0 := by rw [fX6_thrown, pj_17_12, pj_5_12, pj_11_12, pj_12_12]
    rw [gL_stoolLine, q2, if_pos rfl, e3, q3, if_pos rfl]
    exact ⟨⟨v1, ⟨.inl rfl, v01, trivial⟩, v1, q5, t, v01, lg0 O _, trivial⟩, ⟨K, len, by omega, R.sl (SL.b Mo _ s5) q1 q4⟩⟩
  · have e1 : fX6_stoolLine Mo x = (0, sS11 0 (sS12 1 Mo)) := by rw [fX6_stoolLine, b, if_pos rfl, fl1]
    have e2 : fX5_stoolLine S (tvOf Mo.1) Ln x = (some "java/lang/IndexOutOfBoundsException", 0, Ln) := by rw [fX5_stoolLine, reqS0 a, if_neg (nn _)]
    have e3 : fL_stoolLine S (tvOf Mo.1) Ln O x = (1, Ln, O) := by rw [fL_stoolLine, e2]; exact if_neg (nn _)
    have g1 : gX6_stoolLine Mo x := by rw [gX6_stoolLine, b, if_pos rfl]; exact ⟨gIsStool Mo _, trivial⟩
    rw [gL_stoolLine, e2, if_neg (nn _), e3, e1, if_neg one_ne]
    exact ⟨⟨v1, ⟨.inr rfl, trivial⟩, v1, g1, thr Mo 1, trivial⟩, ⟨K, len, by omega, R.sb (sbf Mo 1)⟩⟩
theorem character_rd {K len : Nat} {C : CV} {T Sn : TV} {Hs : HV} {G : Nat → TV} {X : XV} {Ln : LV} {S : SV} (R : RCk K len C T Sn Hs G X Ln S) (O : Nat → Int64) (x : Int32) : gX6_character S x ∧ gL_character C Ln O x ∧ RDO S (fL_character C Ln O x) (fX6_character S x) := by
  obtain ⟨-, -, -, -, -, ⟨z, hz, l1, l2, l3, l4⟩, -⟩ := R
  have l2' : S.2.2.2.2.2.2.2.2.2.2.2.2.2.2.2.2.2.1 = nI z := l2
  have lt : (nI z - 1).toInt = (z : Int) - 1 := by
    rw [subI (a := z) (b := 1) (nI_toInt (by omega)) (by decide) (by omega) (by omega)]
  rcases in_split x 0 (nI z - 1) with ⟨c, d⟩ | ⟨c, d, e⟩
  · have e1 : fX6_character S x = (32, sS11 0 (sS12 1 S)) := by rw [fX6_character, l2', c, if_pos rfl, fl1]
    have nl : ¬ x < 0 → ¬ x < Ln.2 := fun q q' => by
      rcases d with d | d
      · exact q d
      · rw [l1, Int32.lt_iff_toInt_lt, nI_toInt (by omega)] at q'
        rw [Int32.lt_iff_toInt_lt, lt] at d; omega
    have e2 : fX5_character C Ln x = (some "java/lang/IndexOutOfBoundsException", 0) := by
      rw [fX5_character]
      by_cases q : x < 0
      · rw [if_pos q]
      · rw [if_neg q, if_neg (nl q)]
    have g2 : gX5_character C Ln x := by
      rw [gX5_character]
      by_cases q : x < 0
      · rw [if_pos q]; trivial
      · rw [if_neg q, if_neg (nl q)]; trivial
    have k := R1_no O _ e2 (B := (32, sS11 0 (sS12 1 S))) (thr S 1) (sbf S 1)
    rw [e1]
    exact ⟨by rw [gX6_character, l2', c, if_pos rfl]; trivial, ⟨g2, k.1⟩, k.2⟩
  · obtain ⟨w1, w2⟩ := nlt_rng (A := 0) (B := (z : Int) - 1) (by decide) lt d e
    obtain ⟨w, hw, -, hw5⟩ := of_rng w1 (by omega) w2
    subst hw
    have wz : w < z := by omega
    have kc : (nI w).toNatClampNeg = w := nI_clamp (by omega)
    have s5 : (sS11 0 (sS12 0 S)).2.2.2.2.2.1 = S.2.2.2.2.2.1 := by rw [pj_11_5, pj_12_5]
    have s5' : (fX6_fails S 0).2.2.2.2.2.2.1 = S.2.2.2.2.2.1 := by rw [fl0]; exact s5
    have sg : fX2_signAt Ln (nI w) = Ln.1 w := by
      rw [fX2_signAt, if_neg d, if_neg (show ¬ (600 : Int32) ≤ nI w from nI_ge (b := 600) (by omega) (by omega)), kc]
    have lw : nI w < Ln.2 := by rw [l1, Int32.lt_iff_toInt_lt, nI_toInt (by omega), nI_toInt (by omega)]; omega
    have eq : S.2.2.2.2.2.1 w = Ln.1 w := (l3 w wz).symm
    have e1 : fX6_character S (nI w) = (Ln.1 w, sS11 0 (sS12 0 S)) := by rw [fX6_character, l2', c, if_neg one_ne, s5', kc, eq, fl0]
    have e2 : fX5_character C Ln (nI w) = (none, Ln.1 w) := by rw [fX5_character, if_neg d, if_pos lw, sg]
    have g2 : gX5_character C Ln (nI w) := by rw [gX5_character, if_neg d, if_pos lw, sg]; exact ⟨l4 w, trivial⟩
    have k := R1_ok (E := "java/lang/IndexOutOfBoundsException") O _ e2 (B := (Ln.1 w, sS11 0 (sS12 0 S))) rfl (thr S 0) (sbf S 0)
    rw [e1]
    exact ⟨by rw [gX6_character, l2', c, if_neg one_ne, s5', kc, eq]; exact ⟨vp_in_nI (by omega) (by omega), l4 w, trivial⟩, ⟨g2, k.1⟩, k.2⟩
theorem c_25 {xs : Nat → Int32} {L : Nat} (hL : L ≤ 2560) (i : Nat) (S : CV) (T : TV) (Tr : TV) (Sn : TV) (Hs : HV) (G : (Nat → TV)) (Xt : XV) (Ln : LV) (Mo : SV) (O : (Nat → Int64)) (Oq : (Nat → UInt64)) (hi : i + 5 ≤ L) (hR : Rel i S T Tr Sn Hs G Xt Ln Mo O Oq) : gM_25 S T Tr Sn Hs G Xt Ln Mo O Oq xs L (nI i) ∧ Rel (i + 5) S T Tr Sn Hs G Xt Ln (fM_25 S T Tr Sn Hs G Xt Ln Mo O Oq xs L (nI i)).1 (fM_25 S T Tr Sn Hs G Xt Ln Mo O Oq xs L (nI i)).2 Oq := by
  obtain ⟨K, len, hk, R⟩ := hR
  have v1 : vp_in (nI i + 1) L := by rw [show nI i + 1 = nI (i + 1) from nI_add i 1]; exact vp_in_nI (by omega) (by omega)
  have v2 : vp_in (nI i + 2) L := by rw [show nI i + 2 = nI (i + 2) from nI_add i 2]; exact vp_in_nI (by omega) (by omega)
  have v3 : vp_in (nI i + 3) L := by rw [show nI i + 3 = nI (i + 3) from nI_add i 3]; exact vp_in_nI (by omega) (by omega)
  have v4 : vp_in (nI i + 4) L := by rw [show nI i + 4 = nI (i + 4) from nI_add i 4]; exact vp_in_nI (by omega) (by omega)
  have k := character_rd R O (xs (nI i + 1).toNatClampNeg)
  simp only [gM_25, fM_25, ite_self]
  exact ⟨⟨v1, k.2.1, v1, k.1, k.2.2.1, k.2.2.tail⟩, ⟨K, len, by omega, R.sb k.2.2.2.2⟩⟩
theorem c_26 {xs : Nat → Int32} {L : Nat} (hL : L ≤ 2560) (i : Nat) (S : CV) (T : TV) (Tr : TV) (Sn : TV) (Hs : HV) (G : (Nat → TV)) (Xt : XV) (Ln : LV) (Mo : SV) (O : (Nat → Int64)) (Oq : (Nat → UInt64)) (hi : i + 5 ≤ L) (hR : Rel i S T Tr Sn Hs G Xt Ln Mo O Oq) : gM_26 S T Tr Sn Hs G Xt Ln Mo O Oq xs L (nI i) ∧ Rel (i + 5) S T Tr Sn Hs G (fM_26 S T Tr Sn Hs G Xt Ln Mo O Oq xs L (nI i)).1 Ln (fM_26 S T Tr Sn Hs G Xt Ln Mo O Oq xs L (nI i)).2.1 (fM_26 S T Tr Sn Hs G Xt Ln Mo O Oq xs L (nI i)).2.2 Oq := by
  obtain ⟨K, len, hk, R⟩ := hR
  have v1 : vp_in (nI i + 1) L := by rw [show nI i + 1 = nI (i + 1) from nI_add i 1]; exact vp_in_nI (by omega) (by omega)
  have v2 : vp_in (nI i + 2) L := by rw [show nI i + 2 = nI (i + 2) from nI_add i 2]; exact vp_in_nI (by omega) (by omega)
  have v3 : vp_in (nI i + 3) L := by rw [show nI i + 3 = nI (i + 3) from nI_add i 3]; exact vp_in_nI (by omega) (by omega)
  have v4 : vp_in (nI i + 4) L := by rw [show nI i + 4 = nI (i + 4) from nI_add i 4]; exact vp_in_nI (by omega) (by omega)
  obtain ⟨a, ha⟩ : ∃ a, a = (xs (nI i + 1).toNatClampNeg) := ⟨_, rfl⟩
  simp only [gM_26, fM_26, ite_self]
  rw [← ha]
  obtain ⟨ch, hch⟩ : ∃ ch, ch = (a.toUInt32 % 65536).toInt32 := ⟨_, rfl⟩
  have vc : vp_nar .char ch = ch := by rw [hch]; exact pk_vc a
  have pc : 0 ≤ ch.toInt := by
    have e : (a.toUInt32 % 65536).toNat < 65536 := by rw [UInt32.toNat_mod]; exact Nat.mod_lt _ (by decide)
    rw [hch, fx_nI, nI_toInt (by omega)]; omega
  rw [← hch]
  obtain ⟨⟨n, m, h⟩, r2, r3, r4, r5, ⟨z, r6, r7⟩, r8, r9, r10, r11, r12⟩ := id R
  obtain ⟨t1, t2, t3, t4⟩ := r5
  have t2' : Mo.2.2.2.2.2.2.2.2.2.2.2.2.2.2.2.1 = nI len := t2
  by_cases y : len = 60
  · have y60 : Mo.2.2.2.2.2.2.2.2.2.2.2.2.2.2.2.1 = 60 := by rw [t2', y]; rfl
    have e1 : fX6_append Mo ch = (0, sS11 0 (sS12 1 Mo)) := by rw [fX6_append, if_pos y60, fl1]
    have e2 : fX5_append S Xt ch = (some "java/lang/IllegalStateException", 0, Xt) := by rw [fX5_append, t1, y]; exact if_neg (by decide)
    have e3 : fL_append S Xt O ch = (1, Xt, O) := by rw [fL_append, e2]; exact if_neg (nn _)
    have g1 : gX6_append Mo ch := by rw [gX6_append, if_pos y60]; trivial
    rw [gL_append, e2, if_neg (nn _), e3, e1, if_neg one_ne]
    exact ⟨⟨v1, ⟨.inr rfl, trivial⟩, v1, g1, thr Mo 1, trivial⟩, ⟨K, len, by omega, R.sb (sbf Mo 1)⟩⟩
  · have y60 : ¬ Mo.2.2.2.2.2.2.2.2.2.2.2.2.2.2.2.1 = 60 := by rw [t2']; exact fun e => y (nI_inj (b := 60) (by omega) (by omega) e)
    have lt : nI len < 60 := by rw [Int32.lt_iff_toInt_lt, nI_toInt (by omega), show (60 : Int32).toInt = 60 by decide]; omega
    have kc : (nI len).toNatClampNeg = len := nI_clamp (by omega)
    have p15 : (fX6_fails Mo 0).2.2.2.2.2.2.2.2.2.2.2.2.2.2.2.2.1 = nI len := by rw [fl0]; show (sS11 0 (sS12 0 Mo)).2.2.2.2.2.2.2.2.2.2.2.2.2.2.2.1 = _; rw [pj_11_15, pj_12_15]; exact t2'
    have p4 : (fX6_fails Mo 0).2.2.2.2.2.1 = inpR Mo := by rw [fl0]; show (sS11 0 (sS12 0 Mo)).2.2.2.2.1 = _; rw [pj_11_4, pj_12_4]
    have e1 : fX6_append Mo ch = (nI (len + 1), (sS15 (nI (len + 1)) (sS4 (upd (inpR Mo) len ch) (sS11 0 (sS12 0 Mo))))) := by rw [fX6_append, if_neg y60, p15, p4, nI_1, kc, fl0]
    have g1 : gX6_append Mo ch := by rw [gX6_append, if_neg y60, p15]; exact ⟨vp_in_nI (by omega) (by omega), trivial⟩
    obtain ⟨X', hX'⟩ : ∃ X' : XV, X' = (upd Xt.1 len ch, Xt.2.1, nI (len + 1), Xt.2.2.2.1, Xt.2.2.2.2) := ⟨_, rfl⟩
    have ad : fX4_add Xt ch = X' := by
      rw [fX4_add, t1, if_neg (nI_pos (by omega)), if_neg (show ¬ (60 : Int32) ≤ nI len from nI_ge (b := 60) (by omega) (by omega)), kc, vc, nI_1, hX']
    have x2 : X'.2.2.1 = nI (len + 1) := by rw [hX']
    have x1 : X'.1 = upd Xt.1 len ch := by rw [hX']
    have e2 : fX5_append S Xt ch = (none, nI (len + 1), X') := by rw [fX5_append, ad, t1, if_pos lt, x2]
    have e3 : fL_append S Xt O ch = (0, X', vp_updL O (0 : Int32).toNatClampNeg (nI (len + 1)).toInt64) := by rw [fL_append, e2]; exact if_pos rfl
    rw [gL_append, e2, if_pos rfl, e3, e1, if_pos rfl]
    refine ⟨⟨v1, ⟨.inl rfl, v01, trivial⟩, v1, g1, ?_, v01, lg0 O _, trivial⟩, ⟨K, len + 1, by omega, ⟨n, m, ?_⟩, ?_, ?_, ?_, ⟨x2, ?_, by omega, fun t ht => ?_⟩, ⟨z, r6, ?_⟩, ?_, ?_, ?_, ?_, ?_⟩⟩
    · rw [fX6_thrown]; show (sS15 (nI (len + 1)) (sS4 (upd (inpR Mo) len ch) (sS11 0 (sS12 0 Mo)))).2.2.2.2.2.2.2.2.2.2.2.2.1 = 0; rw [pj_15_12, pj_4_12, pj_11_12, pj_12_12]
    · rw [pj_15_0, pj_4_0, pj_11_0, pj_12_0]; exact h
    · rw [pj_15_0, pj_4_0, pj_11_0, pj_12_0]; exact r2
    · rw [pj_15_10, pj_4_10, pj_11_10, pj_12_10]; exact r3
    · rw [pj_15_1, pj_4_1, pj_11_1, pj_12_1, pj_15_9, pj_4_9, pj_11_9, pj_12_9]; exact r4
    · show (sS15 (nI (len + 1)) (sS4 (upd (inpR Mo) len ch) (sS11 0 (sS12 0 Mo)))).2.2.2.2.2.2.2.2.2.2.2.2.2.2.2.1 = _; rw [pj_15_15]
    · have ei : inpR (sS15 (nI (len + 1)) (sS4 (upd (inpR Mo) len ch) (sS11 0 (sS12 0 Mo)))) = upd (inpR Mo) len ch := by show (sS15 (nI (len + 1)) (sS4 (upd (inpR Mo) len ch) (sS11 0 (sS12 0 Mo)))).2.2.2.2.1 = _; rw [pj_15_4, pj_4_4]
      rw [ei, x1]
      by_cases tl : t = len
      · subst tl; rw [upd_same, upd_same]; exact ⟨rfl, pc⟩
      · rw [upd_ne _ _ tl, upd_ne _ _ tl]; exact t4 t (by omega)
    · exact r7.eq (by rw [pj_15_17, pj_4_17, pj_11_17, pj_12_17]) (by rw [pj_15_5, pj_4_5, pj_11_5, pj_12_5])
    · rw [pj_15_8, pj_4_8, pj_11_8, pj_12_8]; exact r8
    · exact r9.eq (by rw [pj_15_8, pj_4_8, pj_11_8, pj_12_8]) (by rw [pj_15_2, pj_4_2, pj_11_2, pj_12_2])
    · rw [pj_15_16, pj_4_16, pj_11_16, pj_12_16]; exact r10
    · rw [pj_15_13, pj_4_13, pj_11_13, pj_12_13]; exact r11
    · rw [pj_15_14, pj_4_14, pj_11_14, pj_12_14]; exact r12
theorem account_rd {K len : Nat} {C : CV} {T Sn : TV} {Hs : HV} {G : Nat → TV} {X : XV} {Ln : LV} {S : SV} (R : RCk K len C T Sn Hs G X Ln S) (O : Nat → Int64) (x : Int32) : gX6_account S x ∧ gL_account C T Hs X O x ∧ RDO S (fL_account C T Hs X O x) (fX6_account S x) := by
  obtain ⟨⟨n, m, h⟩, r2, -, ⟨jj, c, -, hc, hHs, hch, -⟩, ⟨t1, t2, -, -⟩, -⟩ := id R
  subst r2
  have hn : S.1 0 = nI n := h.1.1
  have hm : S.1 1 = nI m := h.1.2.1
  have n12 : n ≤ 12 := h.1.2.2.1
  have m12 : m ≤ 12 := h.1.2.2.2.1
  have f0 : (fX6_fails S 0).2.1 = S.1 := by rw [fl0]; exact f0_0 S 0
  have f15 : (fX6_fails S 0).2.2.2.2.2.2.2.2.2.2.2.2.2.2.2.2.1 = nI len := by rw [fl0]; show (sS11 0 (sS12 0 S)).2.2.2.2.2.2.2.2.2.2.2.2.2.2.2.1 = _; rw [pj_11_15, pj_12_15]; exact t2
  have f9 : (fX6_fails S 0).2.2.2.2.2.2.2.2.2.2.1 = nI c := by rw [fl0]; show (sS11 0 (sS12 0 S)).2.2.2.2.2.2.2.2.2.1 = _; rw [pj_11_9, pj_12_9]; exact hch
  have fS : (fX6_fails S 0).2 = (sS11 0 (sS12 0 S)) := by rw [fl0]
  have hF : (fX6_fails S 0).2.1 0 = nI n := by rw [f0]; exact hn
  obtain ⟨tv, tv1, tv2, tv3, tv4⟩ := taken_v (fX6_fails S 0).2 (by rw [f0]; exact h)
  rw [f0] at tv2 tv3 tv4
  obtain ⟨a1, b1⟩ := summed_r (fX6_fails S 0).2 (w := 3) (y := 3) hF n12 (by decide) rfl
  obtain ⟨a2, b2⟩ := summed_r (fX6_fails S 0).2 (w := 2) (y := 2) hF n12 (by decide) rfl
  obtain ⟨a3, b3⟩ := under_r (fX6_fails S 0).2 hF n12
  obtain ⟨a4, b4⟩ := cats_eq (fX6_fails S 0).2 m (by rw [f0]; exact hm) m12
  rw [f0] at a1 a2 a3 a4
  have k1 := sum_c S.1 (w := 3) (y := 3) hn n12 (by decide) rfl
  have k2 := sum_c S.1 (w := 2) (y := 2) hn n12 (by decide) rfl
  have k3 := sum_c S.1 (w := 4) (y := 4) hn n12 (by decide) rfl
  rcases in_split x 0 12 with ⟨e, d⟩ | ⟨e, d, d'⟩
  · have ne : ∀ w : Int32, 0 ≤ w.toInt → w.toInt ≤ 12 → ¬ x = w := fun w h1 h2 q => by
      subst q
      rcases d with d | d
      · rw [Int32.lt_iff_toInt_lt, show (0 : Int32).toInt = 0 by decide] at d; omega
      · rw [Int32.lt_iff_toInt_lt, show (12 : Int32).toInt = 12 by decide] at d; omega
    have e1 : fX6_account S x = (0, sS11 0 (sS12 1 S)) := by rw [fX6_account, e, if_pos rfl, fl1]
    have e2 : fX5_account C (tvOf S.1) Hs X x = (some "java/lang/IllegalArgumentException", 0) := by
      rw [fX5_account, if_neg (ne 0 (by decide) (by decide)), if_neg (ne 1 (by decide) (by decide)), if_neg (ne 2 (by decide) (by decide)), if_neg (ne 3 (by decide) (by decide)), if_neg (ne 4 (by decide) (by decide)), if_neg (ne 5 (by decide) (by decide)), if_neg (ne 6 (by decide) (by decide)), if_neg (ne 7 (by decide) (by decide)), if_neg (ne 8 (by decide) (by decide)), if_neg (ne 9 (by decide) (by decide)), if_neg (ne 10 (by decide) (by decide)), if_neg (ne 11 (by decide) (by decide)), if_neg (ne 12 (by decide) (by decide))]
    rw [e1]
    exact ⟨by rw [gX6_account, e, if_pos rfl]; trivial, R1_no O _ e2 (thr S 1) (sbf S 1)⟩
  · obtain ⟨w1, w2⟩ := nlt_rng (A := 0) (B := 12) (by decide) (by decide) d d'
    obtain ⟨w, hw, -, hw5⟩ := of_rng w1 (by omega) w2
    have key : ∀ v, fX6_account S x = (v, (sS11 0 (sS12 0 S))) → fX5_account C (tvOf S.1) Hs X x = (none, v) → gX6_account S x → gX6_account S x ∧ gL_account C (tvOf S.1) Hs X O x ∧ RDO S (fL_account C (tvOf S.1) Hs X O x) (fX6_account S x) := fun v e1 e2 g => by
      rw [e1]; exact ⟨g, R1_ok O _ e2 rfl (thr S 0) (sbf S 0)⟩
    have cs : x = 0 ∨ x = 1 ∨ x = 2 ∨ x = 3 ∨ x = 4 ∨ x = 5 ∨ x = 6 ∨ x = 7 ∨ x = 8 ∨ x = 9 ∨ x = 10 ∨ x = 11 ∨ x = 12 := by
      have : w = 0 ∨ w = 1 ∨ w = 2 ∨ w = 3 ∨ w = 4 ∨ w = 5 ∨ w = 6 ∨ w = 7 ∨ w = 8 ∨ w = 9 ∨ w = 10 ∨ w = 11 ∨ w = 12 := by omega
      rcases this with rfl | rfl | rfl | rfl | rfl | rfl | rfl | rfl | rfl | rfl | rfl | rfl | rfl
      · exact .inl hw
      · exact .inr (.inl hw)
      · exact .inr (.inr (.inl hw))
      · exact .inr (.inr (.inr (.inl hw)))
      · exact .inr (.inr (.inr (.inr (.inl hw))))
      · exact .inr (.inr (.inr (.inr (.inr (.inl hw)))))
      · exact .inr (.inr (.inr (.inr (.inr (.inr (.inl hw))))))
      · exact .inr (.inr (.inr (.inr (.inr (.inr (.inr (.inl hw)))))))
      · exact .inr (.inr (.inr (.inr (.inr (.inr (.inr (.inr (.inl hw))))))))
      · exact .inr (.inr (.inr (.inr (.inr (.inr (.inr (.inr (.inr (.inl hw)))))))))
      · exact .inr (.inr (.inr (.inr (.inr (.inr (.inr (.inr (.inr (.inr (.inl hw))))))))))
      · exact .inr (.inr (.inr (.inr (.inr (.inr (.inr (.inr (.inr (.inr (.inr (.inl hw)))))))))))
      · exact .inr (.inr (.inr (.inr (.inr (.inr (.inr (.inr (.inr (.inr (.inr (.inr (hw))))))))))))
    rcases cs with rfl | rfl | rfl | rfl | rfl | rfl | rfl | rfl | rfl | rfl | rfl | rfl | rfl
    · refine key (S.1 0) ?_ ?_ ?_
      · rw [fX6_account, e, if_neg one_ne, if_pos rfl, c0, f0, fS]
      · rw [fX5_account, if_pos rfl]; rfl
      · rw [gX6_account, e, if_neg one_ne, if_pos rfl]; exact ⟨gHd (j := 0) rfl (by omega), trivial⟩
    · refine key (fo (fun a k => a + qs S.1 k 3) 0 n 0) ?_ ?_ ?_
      · rw [fX6_account, e, if_neg one_ne, if_neg (by decide : ¬ (1 : Int32) = 0), if_pos rfl, a1, fS]
      · rw [fX5_account, if_neg (by decide : ¬ (1 : Int32) = 0), if_pos rfl, k1]
      · rw [gX6_account, e, if_neg one_ne, if_neg (by decide : ¬ (1 : Int32) = 0), if_pos rfl]; exact ⟨b1, trivial⟩
    · refine key (S.1 1) ?_ ?_ ?_
      · rw [fX6_account, e, if_neg one_ne, if_neg (by decide : ¬ (2 : Int32) = 0), if_neg (by decide : ¬ (2 : Int32) = 1), if_pos rfl, c1, f0, fS]
      · rw [fX5_account, if_neg (by decide : ¬ (2 : Int32) = 0), if_neg (by decide : ¬ (2 : Int32) = 1), if_pos rfl]; rfl
      · rw [gX6_account, e, if_neg one_ne, if_neg (by decide : ¬ (2 : Int32) = 0), if_neg (by decide : ¬ (2 : Int32) = 1), if_pos rfl]; exact ⟨gHd (j := 1) rfl (by omega), trivial⟩
    · refine key (fX3_cats (tvOf S.1)) ?_ ?_ ?_
      · rw [fX6_account, e, if_neg one_ne, if_neg (by decide : ¬ (3 : Int32) = 0), if_neg (by decide : ¬ (3 : Int32) = 1), if_neg (by decide : ¬ (3 : Int32) = 2), if_pos rfl, a4, fS]
      · rw [fX5_account, if_neg (by decide : ¬ (3 : Int32) = 0), if_neg (by decide : ¬ (3 : Int32) = 1), if_neg (by decide : ¬ (3 : Int32) = 2), if_pos rfl]
      · rw [gX6_account, e, if_neg one_ne, if_neg (by decide : ¬ (3 : Int32) = 0), if_neg (by decide : ¬ (3 : Int32) = 1), if_neg (by decide : ¬ (3 : Int32) = 2), if_pos rfl]; exact ⟨b4, trivial⟩
    · refine key (nI tv) ?_ ?_ ?_
      · rw [fX6_account, e, if_neg one_ne, if_neg (by decide : ¬ (4 : Int32) = 0), if_neg (by decide : ¬ (4 : Int32) = 1), if_neg (by decide : ¬ (4 : Int32) = 2), if_neg (by decide : ¬ (4 : Int32) = 3), if_pos rfl, c0, f0, tv3, fS]
      · rw [fX5_account, if_neg (by decide : ¬ (4 : Int32) = 0), if_neg (by decide : ¬ (4 : Int32) = 1), if_neg (by decide : ¬ (4 : Int32) = 2), if_neg (by decide : ¬ (4 : Int32) = 3), if_pos rfl, tv2]
      · rw [gX6_account, e, if_neg one_ne, if_neg (by decide : ¬ (4 : Int32) = 0), if_neg (by decide : ¬ (4 : Int32) = 1), if_neg (by decide : ¬ (4 : Int32) = 2), if_neg (by decide : ¬ (4 : Int32) = 3), if_pos rfl, c0, f0]; exact ⟨gHd (j := 0) rfl (by omega), tv4, trivial⟩
    · refine key (S.1 2) ?_ ?_ ?_
      · rw [fX6_account, e, if_neg one_ne, if_neg (by decide : ¬ (5 : Int32) = 0), if_neg (by decide : ¬ (5 : Int32) = 1), if_neg (by decide : ¬ (5 : Int32) = 2), if_neg (by decide : ¬ (5 : Int32) = 3), if_neg (by decide : ¬ (5 : Int32) = 4), if_pos rfl, c2', f0, fS]
      · rw [fX5_account, if_neg (by decide : ¬ (5 : Int32) = 0), if_neg (by decide : ¬ (5 : Int32) = 1), if_neg (by decide : ¬ (5 : Int32) = 2), if_neg (by decide : ¬ (5 : Int32) = 3), if_neg (by decide : ¬ (5 : Int32) = 4), if_pos rfl]; rfl
      · rw [gX6_account, e, if_neg one_ne, if_neg (by decide : ¬ (5 : Int32) = 0), if_neg (by decide : ¬ (5 : Int32) = 1), if_neg (by decide : ¬ (5 : Int32) = 2), if_neg (by decide : ¬ (5 : Int32) = 3), if_neg (by decide : ¬ (5 : Int32) = 4), if_pos rfl]; exact ⟨gHd (j := 2) rfl (by omega), trivial⟩
    · refine key (fo (fun a k => a + qs S.1 k 4) 0 n 0) ?_ ?_ ?_
      · rw [fX6_account, e, if_neg one_ne, if_neg (by decide : ¬ (6 : Int32) = 0), if_neg (by decide : ¬ (6 : Int32) = 1), if_neg (by decide : ¬ (6 : Int32) = 2), if_neg (by decide : ¬ (6 : Int32) = 3), if_neg (by decide : ¬ (6 : Int32) = 4), if_neg (by decide : ¬ (6 : Int32) = 5), if_pos rfl, a3, fS]
      · rw [fX5_account, if_neg (by decide : ¬ (6 : Int32) = 0), if_neg (by decide : ¬ (6 : Int32) = 1), if_neg (by decide : ¬ (6 : Int32) = 2), if_neg (by decide : ¬ (6 : Int32) = 3), if_neg (by decide : ¬ (6 : Int32) = 4), if_neg (by decide : ¬ (6 : Int32) = 5), if_pos rfl, k3]
      · rw [gX6_account, e, if_neg one_ne, if_neg (by decide : ¬ (6 : Int32) = 0), if_neg (by decide : ¬ (6 : Int32) = 1), if_neg (by decide : ¬ (6 : Int32) = 2), if_neg (by decide : ¬ (6 : Int32) = 3), if_neg (by decide : ¬ (6 : Int32) = 4), if_neg (by decide : ¬ (6 : Int32) = 5), if_pos rfl]; exact ⟨b3, trivial⟩
    · refine key (S.1 3) ?_ ?_ ?_
      · rw [fX6_account, e, if_neg one_ne, if_neg (by decide : ¬ (7 : Int32) = 0), if_neg (by decide : ¬ (7 : Int32) = 1), if_neg (by decide : ¬ (7 : Int32) = 2), if_neg (by decide : ¬ (7 : Int32) = 3), if_neg (by decide : ¬ (7 : Int32) = 4), if_neg (by decide : ¬ (7 : Int32) = 5), if_neg (by decide : ¬ (7 : Int32) = 6), if_neg (by decide : ¬ (7 : Int32) = 10), if_neg (by decide : ¬ (7 : Int32) = 11), if_neg (by decide : ¬ (7 : Int32) = 12), show ((3 : Int32) + 7 - 7).toNatClampNeg = 3 by decide, f0, fS]
      · rw [fX5_account, if_neg (by decide : ¬ (7 : Int32) = 0), if_neg (by decide : ¬ (7 : Int32) = 1), if_neg (by decide : ¬ (7 : Int32) = 2), if_neg (by decide : ¬ (7 : Int32) = 3), if_neg (by decide : ¬ (7 : Int32) = 4), if_neg (by decide : ¬ (7 : Int32) = 5), if_neg (by decide : ¬ (7 : Int32) = 6), if_pos rfl]; rfl
      · rw [gX6_account, e, if_neg one_ne, if_neg (by decide : ¬ (7 : Int32) = 0), if_neg (by decide : ¬ (7 : Int32) = 1), if_neg (by decide : ¬ (7 : Int32) = 2), if_neg (by decide : ¬ (7 : Int32) = 3), if_neg (by decide : ¬ (7 : Int32) = 4), if_neg (by decide : ¬ (7 : Int32) = 5), if_neg (by decide : ¬ (7 : Int32) = 6), if_neg (by decide : ¬ (7 : Int32) = 10), if_neg (by decide : ¬ (7 : Int32) = 11), if_neg (by decide : ¬ (7 : Int32) = 12)]; exact ⟨gHd (j := 3) rfl (by omega), trivial⟩
    · refine key (S.1 4) ?_ ?_ ?_
      · rw [fX6_account, e, if_neg one_ne, if_neg (by decide : ¬ (8 : Int32) = 0), if_neg (by decide : ¬ (8 : Int32) = 1), if_neg (by decide : ¬ (8 : Int32) = 2), if_neg (by decide : ¬ (8 : Int32) = 3), if_neg (by decide : ¬ (8 : Int32) = 4), if_neg (by decide : ¬ (8 : Int32) = 5), if_neg (by decide : ¬ (8 : Int32) = 6), if_neg (by decide : ¬ (8 : Int32) = 10), if_neg (by decide : ¬ (8 : Int32) = 11), if_neg (by decide : ¬ (8 : Int32) = 12), show ((3 : Int32) + 8 - 7).toNatClampNeg = 4 by decide, f0, fS]
      · rw [fX5_account, if_neg (by decide : ¬ (8 : Int32) = 0), if_neg (by decide : ¬ (8 : Int32) = 1), if_neg (by decide : ¬ (8 : Int32) = 2), if_neg (by decide : ¬ (8 : Int32) = 3), if_neg (by decide : ¬ (8 : Int32) = 4), if_neg (by decide : ¬ (8 : Int32) = 5), if_neg (by decide : ¬ (8 : Int32) = 6), if_neg (by decide : ¬ (8 : Int32) = 7), if_pos rfl]; rfl
      · rw [gX6_account, e, if_neg one_ne, if_neg (by decide : ¬ (8 : Int32) = 0), if_neg (by decide : ¬ (8 : Int32) = 1), if_neg (by decide : ¬ (8 : Int32) = 2), if_neg (by decide : ¬ (8 : Int32) = 3), if_neg (by decide : ¬ (8 : Int32) = 4), if_neg (by decide : ¬ (8 : Int32) = 5), if_neg (by decide : ¬ (8 : Int32) = 6), if_neg (by decide : ¬ (8 : Int32) = 10), if_neg (by decide : ¬ (8 : Int32) = 11), if_neg (by decide : ¬ (8 : Int32) = 12)]; exact ⟨gHd (j := 4) rfl (by omega), trivial⟩
    · refine key (S.1 5) ?_ ?_ ?_
      · rw [fX6_account, e, if_neg one_ne, if_neg (by decide : ¬ (9 : Int32) = 0), if_neg (by decide : ¬ (9 : Int32) = 1), if_neg (by decide : ¬ (9 : Int32) = 2), if_neg (by decide : ¬ (9 : Int32) = 3), if_neg (by decide : ¬ (9 : Int32) = 4), if_neg (by decide : ¬ (9 : Int32) = 5), if_neg (by decide : ¬ (9 : Int32) = 6), if_neg (by decide : ¬ (9 : Int32) = 10), if_neg (by decide : ¬ (9 : Int32) = 11), if_neg (by decide : ¬ (9 : Int32) = 12), show ((3 : Int32) + 9 - 7).toNatClampNeg = 5 by decide, f0, fS]
      · rw [fX5_account, if_neg (by decide : ¬ (9 : Int32) = 0), if_neg (by decide : ¬ (9 : Int32) = 1), if_neg (by decide : ¬ (9 : Int32) = 2), if_neg (by decide : ¬ (9 : Int32) = 3), if_neg (by decide : ¬ (9 : Int32) = 4), if_neg (by decide : ¬ (9 : Int32) = 5), if_neg (by decide : ¬ (9 : Int32) = 6), if_neg (by decide : ¬ (9 : Int32) = 7), if_neg (by decide : ¬ (9 : Int32) = 8), if_pos rfl]; rfl
      · rw [gX6_account, e, if_neg one_ne, if_neg (by decide : ¬ (9 : Int32) = 0), if_neg (by decide : ¬ (9 : Int32) = 1), if_neg (by decide : ¬ (9 : Int32) = 2), if_neg (by decide : ¬ (9 : Int32) = 3), if_neg (by decide : ¬ (9 : Int32) = 4), if_neg (by decide : ¬ (9 : Int32) = 5), if_neg (by decide : ¬ (9 : Int32) = 6), if_neg (by decide : ¬ (9 : Int32) = 10), if_neg (by decide : ¬ (9 : Int32) = 11), if_neg (by decide : ¬ (9 : Int32) = 12)]; exact ⟨gHd (j := 5) rfl (by omega), trivial⟩
    · refine key (fo (fun a k => a + qs S.1 k 2) 0 n 0) ?_ ?_ ?_
      · rw [fX6_account, e, if_neg one_ne, if_neg (by decide : ¬ (10 : Int32) = 0), if_neg (by decide : ¬ (10 : Int32) = 1), if_neg (by decide : ¬ (10 : Int32) = 2), if_neg (by decide : ¬ (10 : Int32) = 3), if_neg (by decide : ¬ (10 : Int32) = 4), if_neg (by decide : ¬ (10 : Int32) = 5), if_neg (by decide : ¬ (10 : Int32) = 6), if_pos rfl, a2, fS]
      · rw [fX5_account, if_neg (by decide : ¬ (10 : Int32) = 0), if_neg (by decide : ¬ (10 : Int32) = 1), if_neg (by decide : ¬ (10 : Int32) = 2), if_neg (by decide : ¬ (10 : Int32) = 3), if_neg (by decide : ¬ (10 : Int32) = 4), if_neg (by decide : ¬ (10 : Int32) = 5), if_neg (by decide : ¬ (10 : Int32) = 6), if_neg (by decide : ¬ (10 : Int32) = 7), if_neg (by decide : ¬ (10 : Int32) = 8), if_neg (by decide : ¬ (10 : Int32) = 9), if_pos rfl, k2]
      · rw [gX6_account, e, if_neg one_ne, if_neg (by decide : ¬ (10 : Int32) = 0), if_neg (by decide : ¬ (10 : Int32) = 1), if_neg (by decide : ¬ (10 : Int32) = 2), if_neg (by decide : ¬ (10 : Int32) = 3), if_neg (by decide : ¬ (10 : Int32) = 4), if_neg (by decide : ¬ (10 : Int32) = 5), if_neg (by decide : ¬ (10 : Int32) = 6), if_pos rfl]; exact ⟨b2, trivial⟩
    · refine key (nI len) ?_ ?_ ?_
      · rw [fX6_account, e, if_neg one_ne, if_neg (by decide : ¬ (11 : Int32) = 0), if_neg (by decide : ¬ (11 : Int32) = 1), if_neg (by decide : ¬ (11 : Int32) = 2), if_neg (by decide : ¬ (11 : Int32) = 3), if_neg (by decide : ¬ (11 : Int32) = 4), if_neg (by decide : ¬ (11 : Int32) = 5), if_neg (by decide : ¬ (11 : Int32) = 6), if_neg (by decide : ¬ (11 : Int32) = 10), if_pos rfl, f15, fS]
      · rw [fX5_account, if_neg (by decide : ¬ (11 : Int32) = 0), if_neg (by decide : ¬ (11 : Int32) = 1), if_neg (by decide : ¬ (11 : Int32) = 2), if_neg (by decide : ¬ (11 : Int32) = 3), if_neg (by decide : ¬ (11 : Int32) = 4), if_neg (by decide : ¬ (11 : Int32) = 5), if_neg (by decide : ¬ (11 : Int32) = 6), if_neg (by decide : ¬ (11 : Int32) = 7), if_neg (by decide : ¬ (11 : Int32) = 8), if_neg (by decide : ¬ (11 : Int32) = 9), if_neg (by decide : ¬ (11 : Int32) = 10), if_pos rfl, t1]
      · rw [gX6_account, e, if_neg one_ne, if_neg (by decide : ¬ (11 : Int32) = 0), if_neg (by decide : ¬ (11 : Int32) = 1), if_neg (by decide : ¬ (11 : Int32) = 2), if_neg (by decide : ¬ (11 : Int32) = 3), if_neg (by decide : ¬ (11 : Int32) = 4), if_neg (by decide : ¬ (11 : Int32) = 5), if_neg (by decide : ¬ (11 : Int32) = 6), if_neg (by decide : ¬ (11 : Int32) = 10), if_pos rfl]; exact trivial
    · refine key (nI c) ?_ ?_ ?_
      · rw [fX6_account, e, if_neg one_ne, if_neg (by decide : ¬ (12 : Int32) = 0), if_neg (by decide : ¬ (12 : Int32) = 1), if_neg (by decide : ¬ (12 : Int32) = 2), if_neg (by decide : ¬ (12 : Int32) = 3), if_neg (by decide : ¬ (12 : Int32) = 4), if_neg (by decide : ¬ (12 : Int32) = 5), if_neg (by decide : ¬ (12 : Int32) = 6), if_neg (by decide : ¬ (12 : Int32) = 10), if_neg (by decide : ¬ (12 : Int32) = 11), if_pos rfl, f9, fS]
      · rw [fX5_account, if_neg (by decide : ¬ (12 : Int32) = 0), if_neg (by decide : ¬ (12 : Int32) = 1), if_neg (by decide : ¬ (12 : Int32) = 2), if_neg (by decide : ¬ (12 : Int32) = 3), if_neg (by decide : ¬ (12 : Int32) = 4), if_neg (by decide : ¬ (12 : Int32) = 5), if_neg (by decide : ¬ (12 : Int32) = 6), if_neg (by decide : ¬ (12 : Int32) = 7), if_neg (by decide : ¬ (12 : Int32) = 8), if_neg (by decide : ¬ (12 : Int32) = 9), if_neg (by decide : ¬ (12 : Int32) = 10), if_neg (by decide : ¬ (12 : Int32) = 11), if_pos rfl, hHs]
      · rw [gX6_account, e, if_neg one_ne, if_neg (by decide : ¬ (12 : Int32) = 0), if_neg (by decide : ¬ (12 : Int32) = 1), if_neg (by decide : ¬ (12 : Int32) = 2), if_neg (by decide : ¬ (12 : Int32) = 3), if_neg (by decide : ¬ (12 : Int32) = 4), if_neg (by decide : ¬ (12 : Int32) = 5), if_neg (by decide : ¬ (12 : Int32) = 6), if_neg (by decide : ¬ (12 : Int32) = 10), if_neg (by decide : ¬ (12 : Int32) = 11), if_pos rfl]; exact trivial
theorem c_30 {xs : Nat → Int32} {L : Nat} (hL : L ≤ 2560) (i : Nat) (S : CV) (T : TV) (Tr : TV) (Sn : TV) (Hs : HV) (G : (Nat → TV)) (Xt : XV) (Ln : LV) (Mo : SV) (O : (Nat → Int64)) (Oq : (Nat → UInt64)) (hi : i + 5 ≤ L) (hR : Rel i S T Tr Sn Hs G Xt Ln Mo O Oq) : gM_30 S T Tr Sn Hs G Xt Ln Mo O Oq xs L (nI i) ∧ Rel (i + 5) S T Tr Sn Hs G Xt Ln (fM_30 S T Tr Sn Hs G Xt Ln Mo O Oq xs L (nI i)).1 (fM_30 S T Tr Sn Hs G Xt Ln Mo O Oq xs L (nI i)).2 Oq := by
  obtain ⟨K, len, hk, R⟩ := hR
  have v1 : vp_in (nI i + 1) L := by rw [show nI i + 1 = nI (i + 1) from nI_add i 1]; exact vp_in_nI (by omega) (by omega)
  have v2 : vp_in (nI i + 2) L := by rw [show nI i + 2 = nI (i + 2) from nI_add i 2]; exact vp_in_nI (by omega) (by omega)
  have v3 : vp_in (nI i + 3) L := by rw [show nI i + 3 = nI (i + 3) from nI_add i 3]; exact vp_in_nI (by omega) (by omega)
  have v4 : vp_in (nI i + 4) L := by rw [show nI i + 4 = nI (i + 4) from nI_add i 4]; exact vp_in_nI (by omega) (by omega)
  have k := account_rd R O (xs (nI i + 1).toNatClampNeg)
  simp only [gM_30, fM_30, ite_self]
  exact ⟨⟨v1, k.2.1, v1, k.1, k.2.2.1, k.2.2.tail⟩, ⟨K, len, by omega, R.sb k.2.2.2.2⟩⟩
theorem c_n (i : Nat) (S : CV) (T : TV) (Tr : TV) (Sn : TV) (Hs : HV) (G : (Nat → TV)) (Xt : XV) (Ln : LV) (Mo : SV) (O : (Nat → Int64)) (Oq : (Nat → UInt64)) (hR : Rel i S T Tr Sn Hs G Xt Ln Mo O Oq) : ∃ j : Nat, j < 9 ∧ Hs.1 = nI j := by
  obtain ⟨K, len, hk, -, -, -, ⟨j, c, hj, -, hHs, -, -⟩, -⟩ := hR
  exact ⟨j, hj, by rw [hHs]⟩
theorem c_c (i : Nat) (S : CV) (T : TV) (Tr : TV) (Sn : TV) (Hs : HV) (G : (Nat → TV)) (Xt : XV) (Ln : LV) (Mo : SV) (O : (Nat → Int64)) (Oq : (Nat → UInt64)) (hR : Rel i S T Tr Sn Hs G Xt Ln Mo O Oq) : ∀ z, narrow .char (.int (Ln.1 z)) = .int (Ln.1 z) := by
  obtain ⟨K, len, hk, -, -, -, -, -, ⟨z, -, -, -, -, l4⟩, -⟩ := hR
  exact l4
theorem c_d (i : Nat) (S : CV) (T : TV) (Tr : TV) (Sn : TV) (Hs : HV) (G : (Nat → TV)) (Xt : XV) (Ln : LV) (Mo : SV) (O : (Nat → Int64)) (Oq : (Nat → UInt64)) (hR : Rel i S T Tr Sn Hs G Xt Ln Mo O Oq) : Rel (i + 5) S T Tr Sn Hs G Xt Ln Mo O Oq := by
  obtain ⟨K, len, hk, R⟩ := hR
  exact ⟨K, len, by omega, R⟩
