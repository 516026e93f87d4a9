/-! What holds between the class and the reference -/
def SB (S S' : SV) : Prop := S'.1 = S.1 ∧ S'.2.1 = S.2.1 ∧ S'.2.2.1 = S.2.2.1 ∧ S'.2.2.2.2.1 = S.2.2.2.2.1 ∧ S'.2.2.2.2.2.1 = S.2.2.2.2.2.1 ∧ S'.2.2.2.2.2.2.2.2.1 = S.2.2.2.2.2.2.2.2.1 ∧ S'.2.2.2.2.2.2.2.2.2.1 = S.2.2.2.2.2.2.2.2.2.1 ∧ S'.2.2.2.2.2.2.2.2.2.2.1 = S.2.2.2.2.2.2.2.2.2.2.1 ∧ S'.2.2.2.2.2.2.2.2.2.2.2.2.2.1 = S.2.2.2.2.2.2.2.2.2.2.2.2.2.1 ∧ S'.2.2.2.2.2.2.2.2.2.2.2.2.2.2.1 = S.2.2.2.2.2.2.2.2.2.2.2.2.2.2.1 ∧ S'.2.2.2.2.2.2.2.2.2.2.2.2.2.2.2.1 = S.2.2.2.2.2.2.2.2.2.2.2.2.2.2.2.1 ∧ S'.2.2.2.2.2.2.2.2.2.2.2.2.2.2.2.2.1 = S.2.2.2.2.2.2.2.2.2.2.2.2.2.2.2.2.1 ∧ S'.2.2.2.2.2.2.2.2.2.2.2.2.2.2.2.2.2.1 = S.2.2.2.2.2.2.2.2.2.2.2.2.2.2.2.2.2.1
theorem SB.rfl' (S : SV) : SB S S := ⟨rfl, rfl, rfl, rfl, rfl, rfl, rfl, rfl, rfl, rfl, rfl, rfl, rfl⟩
theorem SB.s3 {S S' : SV} (h : SB S S') (a : Nat → Int32) : SB S (sS3 a S') := ⟨(pj_3_0 a S').trans h.1, (pj_3_1 a S').trans h.2.1, (pj_3_2 a S').trans h.2.2.1, (pj_3_4 a S').trans h.2.2.2.1, (pj_3_5 a S').trans h.2.2.2.2.1, (pj_3_8 a S').trans h.2.2.2.2.2.1, (pj_3_9 a S').trans h.2.2.2.2.2.2.1, (pj_3_10 a S').trans h.2.2.2.2.2.2.2.1, (pj_3_13 a S').trans h.2.2.2.2.2.2.2.2.1, (pj_3_14 a S').trans h.2.2.2.2.2.2.2.2.2.1, (pj_3_15 a S').trans h.2.2.2.2.2.2.2.2.2.2.1, (pj_3_16 a S').trans h.2.2.2.2.2.2.2.2.2.2.2.1, (pj_3_17 a S').trans h.2.2.2.2.2.2.2.2.2.2.2.2⟩
theorem SB.s6 {S S' : SV} (h : SB S S') (a : Nat → Int32) : SB S (sS6 a S') := ⟨(pj_6_0 a S').trans h.1, (pj_6_1 a S').trans h.2.1, (pj_6_2 a S').trans h.2.2.1, (pj_6_4 a S').trans h.2.2.2.1, (pj_6_5 a S').trans h.2.2.2.2.1, (pj_6_8 a S').trans h.2.2.2.2.2.1, (pj_6_9 a S').trans h.2.2.2.2.2.2.1, (pj_6_10 a S').trans h.2.2.2.2.2.2.2.1, (pj_6_13 a S').trans h.2.2.2.2.2.2.2.2.1, (pj_6_14 a S').trans h.2.2.2.2.2.2.2.2.2.1, (pj_6_15 a S').trans h.2.2.2.2.2.2.2.2.2.2.1, (pj_6_16 a S').trans h.2.2.2.2.2.2.2.2.2.2.2.1, (pj_6_17 a S').trans h.2.2.2.2.2.2.2.2.2.2.2.2⟩
theorem SB.s7 {S S' : SV} (h : SB S S') (a : Nat → Int32) : SB S (sS7 a S') := ⟨(pj_7_0 a S').trans h.1, (pj_7_1 a S').trans h.2.1, (pj_7_2 a S').trans h.2.2.1, (pj_7_4 a S').trans h.2.2.2.1, (pj_7_5 a S').trans h.2.2.2.2.1, (pj_7_8 a S').trans h.2.2.2.2.2.1, (pj_7_9 a S').trans h.2.2.2.2.2.2.1, (pj_7_10 a S').trans h.2.2.2.2.2.2.2.1, (pj_7_13 a S').trans h.2.2.2.2.2.2.2.2.1, (pj_7_14 a S').trans h.2.2.2.2.2.2.2.2.2.1, (pj_7_15 a S').trans h.2.2.2.2.2.2.2.2.2.2.1, (pj_7_16 a S').trans h.2.2.2.2.2.2.2.2.2.2.2.1, (pj_7_17 a S').trans h.2.2.2.2.2.2.2.2.2.2.2.2⟩
theorem SB.s11 {S S' : SV} (h : SB S S') (a : Int32) : SB S (sS11 a S') := ⟨(pj_11_0 a S').trans h.1, (pj_11_1 a S').trans h.2.1, (pj_11_2 a S').trans h.2.2.1, (pj_11_4 a S').trans h.2.2.2.1, (pj_11_5 a S').trans h.2.2.2.2.1, (pj_11_8 a S').trans h.2.2.2.2.2.1, (pj_11_9 a S').trans h.2.2.2.2.2.2.1, (pj_11_10 a S').trans h.2.2.2.2.2.2.2.1, (pj_11_13 a S').trans h.2.2.2.2.2.2.2.2.1, (pj_11_14 a S').trans h.2.2.2.2.2.2.2.2.2.1, (pj_11_15 a S').trans h.2.2.2.2.2.2.2.2.2.2.1, (pj_11_16 a S').trans h.2.2.2.2.2.2.2.2.2.2.2.1, (pj_11_17 a S').trans h.2.2.2.2.2.2.2.2.2.2.2.2⟩
theorem SB.s12 {S S' : SV} (h : SB S S') (a : Int32) : SB S (sS12 a S') := ⟨(pj_12_0 a S').trans h.1, (pj_12_1 a S').trans h.2.1, (pj_12_2 a S').trans h.2.2.1, (pj_12_4 a S').trans h.2.2.2.1, (pj_12_5 a S').trans h.2.2.2.2.1, (pj_12_8 a S').trans h.2.2.2.2.2.1, (pj_12_9 a S').trans h.2.2.2.2.2.2.1, (pj_12_10 a S').trans h.2.2.2.2.2.2.2.1, (pj_12_13 a S').trans h.2.2.2.2.2.2.2.2.1, (pj_12_14 a S').trans h.2.2.2.2.2.2.2.2.2.1, (pj_12_15 a S').trans h.2.2.2.2.2.2.2.2.2.2.1, (pj_12_16 a S').trans h.2.2.2.2.2.2.2.2.2.2.2.1, (pj_12_17 a S').trans h.2.2.2.2.2.2.2.2.2.2.2.2⟩
theorem SB.s18 {S S' : SV} (h : SB S S') (a : Int32) : SB S (sS18 a S') := ⟨(pj_18_0 a S').trans h.1, (pj_18_1 a S').trans h.2.1, (pj_18_2 a S').trans h.2.2.1, (pj_18_4 a S').trans h.2.2.2.1, (pj_18_5 a S').trans h.2.2.2.2.1, (pj_18_8 a S').trans h.2.2.2.2.2.1, (pj_18_9 a S').trans h.2.2.2.2.2.2.1, (pj_18_10 a S').trans h.2.2.2.2.2.2.2.1, (pj_18_13 a S').trans h.2.2.2.2.2.2.2.2.1, (pj_18_14 a S').trans h.2.2.2.2.2.2.2.2.2.1, (pj_18_15 a S').trans h.2.2.2.2.2.2.2.2.2.2.1, (pj_18_16 a S').trans h.2.2.2.2.2.2.2.2.2.2.2.1, (pj_18_17 a S').trans h.2.2.2.2.2.2.2.2.2.2.2.2⟩
theorem SB.s19 {S S' : SV} (h : SB S S') (a : Int32) : SB S (sS19 a S') := ⟨(pj_19_0 a S').trans h.1, (pj_19_1 a S').trans h.2.1, (pj_19_2 a S').trans h.2.2.1, (pj_19_4 a S').trans h.2.2.2.1, (pj_19_5 a S').trans h.2.2.2.2.1, (pj_19_8 a S').trans h.2.2.2.2.2.1, (pj_19_9 a S').trans h.2.2.2.2.2.2.1, (pj_19_10 a S').trans h.2.2.2.2.2.2.2.1, (pj_19_13 a S').trans h.2.2.2.2.2.2.2.2.1, (pj_19_14 a S').trans h.2.2.2.2.2.2.2.2.2.1, (pj_19_15 a S').trans h.2.2.2.2.2.2.2.2.2.2.1, (pj_19_16 a S').trans h.2.2.2.2.2.2.2.2.2.2.2.1, (pj_19_17 a S').trans h.2.2.2.2.2.2.2.2.2.2.2.2⟩
def SVD (K : Nat) (Sn : TV) (S : SV) : Prop := S.2.2.2.2.2.2.2.2.1 = 0 ∨ (S.2.2.2.2.2.2.2.2.1 = 1 ∧ ∃ n' m' q, WT K n' m' q ∧ Sn = tvOf q ∧ ∀ z, z < 114 → q z = S.2.2.1 z)
def RCk (K len : Nat) (C : CV) (T Sn : TV) (Hs : HV) (G : Nat → TV) (X : XV) (Ln : LV) (S : SV) : Prop :=
  (∃ n m, WT K n m S.1) ∧ T = tvOf S.1 ∧ S.2.2.2.2.2.2.2.2.2.2.1 = 0 ∧ HR K Hs G S.2.1 S.2.2.2.2.2.2.2.2.2.1 ∧ TX X S len ∧ (∃ z, z ≤ 600 ∧ LZ z Ln S) ∧ C.1 = S.2.2.2.2.2.2.2.2.1 ∧ SVD K Sn S ∧ C.2.1 = S.2.2.2.2.2.2.2.2.2.2.2.2.2.2.2.2.1 ∧ C.2.2.1 = S.2.2.2.2.2.2.2.2.2.2.2.2.2.1 ∧ C.2.2.2 = S.2.2.2.2.2.2.2.2.2.2.2.2.2.2.1
theorem SVD.eq {K : Nat} {Sn : TV} {S S' : SV} (h : SVD K Sn S) (e8 : S'.2.2.2.2.2.2.2.2.1 = S.2.2.2.2.2.2.2.2.1) (e2 : S'.2.2.1 = S.2.2.1) : SVD K Sn S' := by
  rw [SVD, e8, e2]; exact h
theorem SVD.mono {K K' : Nat} {Sn : TV} {S : SV} (h : SVD K Sn S) (hK : K ≤ K') : SVD K' Sn S := by
  rcases h with h | ⟨h, n', m', q, a, b⟩
  · exact .inl h
  · exact .inr ⟨h, n', m', q, a.mono hK, b⟩
theorem TX.eq {X : XV} {S S' : SV} {len : Nat} (h : TX X S len) (e15 : S'.2.2.2.2.2.2.2.2.2.2.2.2.2.2.2.1 = S.2.2.2.2.2.2.2.2.2.2.2.2.2.2.2.1) (e4 : S'.2.2.2.2.1 = S.2.2.2.2.1) : TX X S' len := by
  obtain ⟨a, b, c, d⟩ := h
  exact ⟨a, (show S'.2.2.2.2.2.2.2.2.2.2.2.2.2.2.2.1 = nI len from e15.trans b), c, fun t ht => ⟨(d t ht).1.trans (congrFun (show inpR S = inpR S' from e4.symm) t), (d t ht).2⟩⟩
theorem LZ.eq {z : Nat} {Ln : LV} {S S' : SV} (h : LZ z Ln S) (e17 : S'.2.2.2.2.2.2.2.2.2.2.2.2.2.2.2.2.2.1 = S.2.2.2.2.2.2.2.2.2.2.2.2.2.2.2.2.2.1) (e5 : S'.2.2.2.2.2.1 = S.2.2.2.2.2.1) : LZ z Ln S' := by
  obtain ⟨a, b, c, d⟩ := h
  exact ⟨a, (show S'.2.2.2.2.2.2.2.2.2.2.2.2.2.2.2.2.2.1 = nI z from e17.trans b), fun t ht => (c t ht).trans (congrFun (show sgnR S = sgnR S' from e5.symm) t), d⟩
theorem RCk.sb {K len : Nat} {C : CV} {T Sn : TV} {Hs : HV} {G : Nat → TV} {X : XV} {Ln : LV} {S S' : SV} (R : RCk K len C T Sn Hs G X Ln S) (h : SB S S') : RCk K len C T Sn Hs G X Ln S' := by
  obtain ⟨⟨n, m, r1⟩, r2, r3, r4, r5, ⟨z, r6, r7⟩, r8, r9, r10, r11, r12⟩ := R
  exact ⟨⟨n, m, by rw [h.1]; exact r1⟩, by rw [h.1]; exact r2, h.2.2.2.2.2.2.2.1.trans r3, by rw [h.2.1, h.2.2.2.2.2.2.1]; exact r4, r5.eq h.2.2.2.2.2.2.2.2.2.2.1 h.2.2.2.1, ⟨z, r6, r7.eq h.2.2.2.2.2.2.2.2.2.2.2.2 h.2.2.2.2.1⟩, r8.trans h.2.2.2.2.2.1.symm, r9.eq h.2.2.2.2.2.1 h.2.2.1, r10.trans h.2.2.2.2.2.2.2.2.2.2.2.1.symm, r11.trans h.2.2.2.2.2.2.2.2.1.symm, r12.trans h.2.2.2.2.2.2.2.2.2.1.symm⟩
theorem RCk.mono {K K' len : Nat} {C : CV} {T Sn : TV} {Hs : HV} {G : Nat → TV} {X : XV} {Ln : LV} {S : SV} (R : RCk K len C T Sn Hs G X Ln S) (hK : K ≤ K') : RCk K' len C T Sn Hs G X Ln S := by
  obtain ⟨⟨n, m, r1⟩, r2, r3, r4, r5, r6, r8, r9, r10, r11, r12⟩ := R
  exact ⟨⟨n, m, r1.mono hK⟩, r2, r3, r4.mono hK, r5, r6, r8, r9.mono hK, r10, r11, r12⟩
theorem nI_ne {v : Nat} (hv : v ≤ 1000) {x : Int32} (hx : x.toInt < 0) : ¬ nI v = x := fun e => by
  have := congrArg Int32.toInt e; rw [nI_toInt (by omega)] at this; omega
theorem Out.c1ne {K : Nat} {C : CV} {S : SV} {A : Int32 × CV × TV} {B : Int32 × SV} {c1 d1 c2 cr d2 dr : Int32} (h : Out K C S A B c1 c2 cr) (h' : Out K C S A B d1 d2 dr) (hn : c1 ≠ d1) : A.1 ≠ -1 := by
  intro e
  rcases h with ⟨v, q, s', k', r, ch', n', m', b0, b1, -⟩ | ⟨b1, b2⟩ | ⟨b1, b2⟩ | ⟨why, det, b1, b2⟩
  · rw [b1] at e; exact nI_ne b0 (by decide) e
  · rcases h' with ⟨v, q, s', k', r, ch', n', m', a0, a1, -⟩ | ⟨a1, a2⟩ | ⟨a1, a2⟩ | ⟨why, det, a1, a2⟩
    · rw [a1] at e; exact nI_ne a0 (by decide) e
    · rw [b2] at a2
      have := congrArg (fun z : Int32 × SV => z.2.2.2.2.2.2.2.2.2.2.2.2.2.1) a2
      simp only [pj_11_12, pj_12_12] at this
      exact hn this
    · rw [a1] at e; exact absurd e (by decide : ¬ ((-2 : Int32) = -1))
    · rw [a1] at e; exact absurd e (by decide : ¬ ((-3 : Int32) = -1))
  · rw [b1] at e; exact absurd e (by decide : ¬ ((-2 : Int32) = -1))
  · rw [b1] at e; exact absurd e (by decide : ¬ ((-3 : Int32) = -1))
theorem Out.c2ne {K : Nat} {C : CV} {S : SV} {A : Int32 × CV × TV} {B : Int32 × SV} {c1 d1 c2 cr d2 dr : Int32} (h : Out K C S A B c1 c2 cr) (h' : Out K C S A B d1 d2 dr) (hn : c2 ≠ d2) : A.1 ≠ -2 := by
  intro e
  rcases h with ⟨v, q, s', k', r, ch', n', m', b0, b1, -⟩ | ⟨b1, b2⟩ | ⟨b1, b2⟩ | ⟨why, det, b1, b2⟩
  · rw [b1] at e; exact nI_ne b0 (by decide) e
  · rw [b1] at e; exact absurd e (by decide : ¬ ((-1 : Int32) = -2))
  · rcases h' with ⟨v, q, s', k', r, ch', n', m', a0, a1, -⟩ | ⟨a1, a2⟩ | ⟨a1, a2⟩ | ⟨why, det, a1, a2⟩
    · rw [a1] at e; exact nI_ne a0 (by decide) e
    · rw [a1] at e; exact absurd e (by decide : ¬ ((-1 : Int32) = -2))
    · rw [b2] at a2
      have := congrArg (fun z : Int32 × SV => z.2.2.2.2.2.2.2.2.2.2.2.2.2.1) a2
      simp only [pj_11_12, pj_12_12] at this
      exact hn this
    · rw [a1] at e; exact absurd e (by decide : ¬ ((-3 : Int32) = -2))
  · rw [b1] at e; exact absurd e (by decide : ¬ ((-3 : Int32) = -2))
def FO (Hs : HV) (G : Nat → TV) (T : TV) (A : Int32 × CV × TV) : (Option String) × Int32 × CV × TV × HV × (Nat → TV) := (if (fX5_settled A.2.1 Hs A.1).1 = none then (none, (fX5_settled A.2.1 Hs A.1).2.1, A.2.1, A.2.2, (fX5_settled A.2.1 Hs A.1).2.2, (fX1_prepare Hs G T)) else ((fX5_settled A.2.1 Hs A.1).1, 0, A.2.1, A.2.2, (fX5_settled A.2.1 Hs A.1).2.2, (fX1_prepare Hs G T)))
theorem FO.chg {K len : Nat} {C : CV} {T Sn : TV} {Hs : HV} {G : Nat → TV} {X : XV} {Ln : LV} {S : SV} (R : RCk K len C T Sn Hs G X Ln S) {A : Int32 × CV × TV} {B : Int32 × SV} {c1 c2 cr : Int32} (h : Out K C S A B c1 c2 cr) :
    (((FO Hs G T A).1 = none ∧ fX6_thrown B.2 = 0 ∧ (FO Hs G T A).2.1 = B.1 ∧ A.1 ≠ -1 ∧ A.1 ≠ -2 ∧ A.1 ≠ -3) ∨ (A.1 = -1 ∧ (FO Hs G T A).1 = some "java/lang/IndexOutOfBoundsException" ∧ fX6_thrown B.2 = c1) ∨ (A.1 = -2 ∧ (FO Hs G T A).1 = some "java/lang/IllegalArgumentException" ∧ fX6_thrown B.2 = c2) ∨ (A.1 = -3 ∧ (FO Hs G T A).1 = some "java/lang/UnsupportedOperationException" ∧ fX6_thrown B.2 = cr)) ∧
    RCk (K + 1) len (FO Hs G T A).2.2.1 (FO Hs G T A).2.2.2.1 Sn (FO Hs G T A).2.2.2.2.1 (FO Hs G T A).2.2.2.2.2 X Ln B.2 := by
  obtain ⟨⟨n, m, r1⟩, r2, r3, r4, r5, ⟨z, r6, r7⟩, r8, r9, r10, r11, r12⟩ := R
  subst r2
  rcases h with ⟨v, q, s', k', r, ch', n', m', b0, b1, b2, b3, b4⟩ | ⟨b1, b2⟩ | ⟨b1, b2⟩ | ⟨why, det, b1, b2⟩
  · subst b1; subst b2
    have n1 : ¬ nI v = -1 := nI_ne b0 (by decide)
    have n2 : ¬ nI v = -2 := nI_ne b0 (by decide)
    have n3 : ¬ nI v = -3 := nI_ne b0 (by decide)
    have e : fX5_settled C Hs (nI v) = (none, nI v, fX1_keep Hs) := by rw [fX5_settled, if_neg n1, if_neg n2, if_neg n3]
    have eF : FO Hs G (tvOf S.1) (nI v, C, tvOf q) = (none, nI v, C, tvOf q, fX1_keep Hs, fX1_prepare Hs G (tvOf S.1)) := by
      rw [FO]; dsimp only; rw [e]; exact if_pos rfl
    rw [eF]
    refine ⟨.inl ⟨rfl, ?_, rfl, n1, n2, n3⟩, ⟨n', m', ?_⟩, ?_, ?_, ?_, ?_, ⟨z, r6, ?_⟩, ?_, ?_, ?_, ?_, ?_⟩
    · rw [fX6_thrown]; show (sS0 q (sS6 s' (sS11 r (sS1 k' (sS9 ch' (sS12 0 S)))))).2.2.2.2.2.2.2.2.2.2.2.2.1 = 0; rw [pj_0_12, pj_6_12, pj_11_12, pj_1_12, pj_9_12, pj_12_12]
    · show WT (K + 1) n' m' (sS0 q (sS6 s' (sS11 r (sS1 k' (sS9 ch' (sS12 0 S)))))).1; rw [pj_0_0]; exact b3
    · show tvOf q = tvOf (sS0 q (sS6 s' (sS11 r (sS1 k' (sS9 ch' (sS12 0 S)))))).1; rw [pj_0_0]
    · show (sS0 q (sS6 s' (sS11 r (sS1 k' (sS9 ch' (sS12 0 S)))))).2.2.2.2.2.2.2.2.2.2.1 = 0; rw [pj_0_10, pj_6_10, pj_11_10, pj_1_10, pj_9_10, pj_12_10]; exact r3
    · show HR (K + 1) (fX1_keep Hs) (fX1_prepare Hs G (tvOf S.1)) (sS0 q (sS6 s' (sS11 r (sS1 k' (sS9 ch' (sS12 0 S)))))).2.1 (sS0 q (sS6 s' (sS11 r (sS1 k' (sS9 ch' (sS12 0 S)))))).2.2.2.2.2.2.2.2.2.1
      rw [pj_0_1, pj_6_1, pj_11_1, pj_1_1, pj_0_9, pj_6_9, pj_11_9, pj_1_9, pj_9_9]; exact (HR.keep r4 r3 r1 b4).mono (by omega)
    · exact r5.eq (S' := (sS0 q (sS6 s' (sS11 r (sS1 k' (sS9 ch' (sS12 0 S))))))) (by rw [pj_0_15, pj_6_15, pj_11_15, pj_1_15, pj_9_15, pj_12_15]) (by rw [pj_0_4, pj_6_4, pj_11_4, pj_1_4, pj_9_4, pj_12_4])
    · exact r7.eq (S' := (sS0 q (sS6 s' (sS11 r (sS1 k' (sS9 ch' (sS12 0 S))))))) (by rw [pj_0_17, pj_6_17, pj_11_17, pj_1_17, pj_9_17, pj_12_17]) (by rw [pj_0_5, pj_6_5, pj_11_5, pj_1_5, pj_9_5, pj_12_5])
    · show C.1 = (sS0 q (sS6 s' (sS11 r (sS1 k' (sS9 ch' (sS12 0 S)))))).2.2.2.2.2.2.2.2.1; rw [pj_0_8, pj_6_8, pj_11_8, pj_1_8, pj_9_8, pj_12_8]; exact r8
    · exact (r9.mono (by omega)).eq (S' := (sS0 q (sS6 s' (sS11 r (sS1 k' (sS9 ch' (sS12 0 S))))))) (by rw [pj_0_8, pj_6_8, pj_11_8, pj_1_8, pj_9_8, pj_12_8]) (by rw [pj_0_2, pj_6_2, pj_11_2, pj_1_2, pj_9_2, pj_12_2])
    · show C.2.1 = (sS0 q (sS6 s' (sS11 r (sS1 k' (sS9 ch' (sS12 0 S)))))).2.2.2.2.2.2.2.2.2.2.2.2.2.2.2.2.1; rw [pj_0_16, pj_6_16, pj_11_16, pj_1_16, pj_9_16, pj_12_16]; exact r10
    · show C.2.2.1 = (sS0 q (sS6 s' (sS11 r (sS1 k' (sS9 ch' (sS12 0 S)))))).2.2.2.2.2.2.2.2.2.2.2.2.2.1; rw [pj_0_13, pj_6_13, pj_11_13, pj_1_13, pj_9_13, pj_12_13]; exact r11
    · show C.2.2.2 = (sS0 q (sS6 s' (sS11 r (sS1 k' (sS9 ch' (sS12 0 S)))))).2.2.2.2.2.2.2.2.2.2.2.2.2.2.1; rw [pj_0_14, pj_6_14, pj_11_14, pj_1_14, pj_9_14, pj_12_14]; exact r12
  · subst b1; subst b2
    have e : fX5_settled C Hs (-1) = (some "java/lang/IndexOutOfBoundsException", 0, Hs) := by rw [fX5_settled]; exact if_pos rfl
    have eF : FO Hs G (tvOf S.1) (-1, C, tvOf S.1) = (some "java/lang/IndexOutOfBoundsException", 0, C, tvOf S.1, Hs, fX1_prepare Hs G (tvOf S.1)) := by
      rw [FO]; dsimp only; rw [e]; exact if_neg (by intro e; cases e)
    rw [eF]
    refine ⟨.inr (.inl ⟨rfl, rfl, ?_⟩), RCk.sb (S' := (sS11 0 (sS12 c1 S))) (RCk.mono (K := K) ⟨⟨n, m, r1⟩, rfl, r3, r4.prep _, r5, ⟨z, r6, r7⟩, r8, r9, r10, r11, r12⟩ (by omega)) (((SB.rfl' S).s12 c1).s11 0)⟩
    rw [fX6_thrown]; show (sS11 0 (sS12 c1 S)).2.2.2.2.2.2.2.2.2.2.2.2.1 = c1; rw [pj_11_12, pj_12_12]
  · subst b1; subst b2
    have e : fX5_settled C Hs (-2) = (some "java/lang/IllegalArgumentException", 0, Hs) := by rw [fX5_settled]; rw [if_neg (by decide)]; exact if_pos rfl
    have eF : FO Hs G (tvOf S.1) (-2, C, tvOf S.1) = (some "java/lang/IllegalArgumentException", 0, C, tvOf S.1, Hs, fX1_prepare Hs G (tvOf S.1)) := by
      rw [FO]; dsimp only; rw [e]; exact if_neg (by intro e; cases e)
    rw [eF]
    refine ⟨.inr (.inr (.inl ⟨rfl, rfl, ?_⟩)), RCk.sb (S' := (sS11 0 (sS12 c2 S))) (RCk.mono (K := K) ⟨⟨n, m, r1⟩, rfl, r3, r4.prep _, r5, ⟨z, r6, r7⟩, r8, r9, r10, r11, r12⟩ (by omega)) (((SB.rfl' S).s12 c2).s11 0)⟩
    rw [fX6_thrown]; show (sS11 0 (sS12 c2 S)).2.2.2.2.2.2.2.2.2.2.2.2.1 = c2; rw [pj_11_12, pj_12_12]
  · subst b1; subst b2
    have e : fX5_settled (C.1, C.2.1, why, det) Hs (-3) = (some "java/lang/UnsupportedOperationException", 0, Hs) := by rw [fX5_settled]; rw [if_neg (by decide), if_neg (by decide)]; exact if_pos rfl
    have eF : FO Hs G (tvOf S.1) (-3, (C.1, C.2.1, why, det), tvOf S.1) = (some "java/lang/UnsupportedOperationException", 0, (C.1, C.2.1, why, det), tvOf S.1, Hs, fX1_prepare Hs G (tvOf S.1)) := by
      rw [FO]; dsimp only; rw [e]; exact if_neg (by intro e; cases e)
    rw [eF]
    refine ⟨.inr (.inr (.inr ⟨rfl, rfl, ?_⟩)), ⟨n, m, ?_⟩, ?_, ?_, ?_, ?_, ⟨z, r6, ?_⟩, ?_, ?_, ?_, ?_, ?_⟩
    · rw [fX6_thrown]; show (sS14 det (sS13 why (sS11 1 (sS12 cr S)))).2.2.2.2.2.2.2.2.2.2.2.2.1 = cr; rw [pj_14_12, pj_13_12, pj_11_12, pj_12_12]
    · show WT (K + 1) n m (sS14 det (sS13 why (sS11 1 (sS12 cr S)))).1; rw [pj_14_0, pj_13_0, pj_11_0, pj_12_0]; exact r1.mono (by omega)
    · show tvOf S.1 = tvOf (sS14 det (sS13 why (sS11 1 (sS12 cr S)))).1; rw [pj_14_0, pj_13_0, pj_11_0, pj_12_0]
    · show (sS14 det (sS13 why (sS11 1 (sS12 cr S)))).2.2.2.2.2.2.2.2.2.2.1 = 0; rw [pj_14_10, pj_13_10, pj_11_10, pj_12_10]; exact r3
    · show HR (K + 1) Hs (fX1_prepare Hs G (tvOf S.1)) (sS14 det (sS13 why (sS11 1 (sS12 cr S)))).2.1 (sS14 det (sS13 why (sS11 1 (sS12 cr S)))).2.2.2.2.2.2.2.2.2.1
      rw [pj_14_1, pj_13_1, pj_11_1, pj_12_1, pj_14_9, pj_13_9, pj_11_9, pj_12_9]; exact (r4.prep _).mono (by omega)
    · exact r5.eq (S' := (sS14 det (sS13 why (sS11 1 (sS12 cr S))))) (by rw [pj_14_15, pj_13_15, pj_11_15, pj_12_15]) (by rw [pj_14_4, pj_13_4, pj_11_4, pj_12_4])
    · exact r7.eq (S' := (sS14 det (sS13 why (sS11 1 (sS12 cr S))))) (by rw [pj_14_17, pj_13_17, pj_11_17, pj_12_17]) (by rw [pj_14_5, pj_13_5, pj_11_5, pj_12_5])
    · show C.1 = (sS14 det (sS13 why (sS11 1 (sS12 cr S)))).2.2.2.2.2.2.2.2.1; rw [pj_14_8, pj_13_8, pj_11_8, pj_12_8]; exact r8
    · exact (r9.mono (by omega)).eq (S' := (sS14 det (sS13 why (sS11 1 (sS12 cr S))))) (by rw [pj_14_8, pj_13_8, pj_11_8, pj_12_8]) (by rw [pj_14_2, pj_13_2, pj_11_2, pj_12_2])
    · show C.2.1 = (sS14 det (sS13 why (sS11 1 (sS12 cr S)))).2.2.2.2.2.2.2.2.2.2.2.2.2.2.2.2.1; rw [pj_14_16, pj_13_16, pj_11_16, pj_12_16]; exact r10
    · show why = (sS14 det (sS13 why (sS11 1 (sS12 cr S)))).2.2.2.2.2.2.2.2.2.2.2.2.2.1; rw [pj_14_13, pj_13_13]
    · show det = (sS14 det (sS13 why (sS11 1 (sS12 cr S)))).2.2.2.2.2.2.2.2.2.2.2.2.2.2.1; rw [pj_14_14]
