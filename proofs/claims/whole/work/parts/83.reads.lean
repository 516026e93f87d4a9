/-! The law's cases: reads -/
def RDO (S : SV) (FL : Int32 × (Nat → Int64)) (B : Int32 × SV) : Prop := fX6_thrown B.2 = FL.1 ∧ (FL.1 = 0 → lg_cmp (FL.2 (0 : Int32).toNatClampNeg) (B.1.toInt64) = 0) ∧ SB S B.2
theorem RDO.tail {S : SV} {FL : Int32 × (Nat → Int64)} {B : Int32 × SV} (h : RDO S FL B) : (if FL.1 = 0 then ((vp_in 0 1) ∧ ((lg_cmp (FL.2 (0 : Int32).toNatClampNeg) (B.1.toInt64)) = 0) ∧ True) else True) := by
  by_cases e : FL.1 = 0
  · rw [if_pos e]; exact ⟨v01, h.2.1 e, trivial⟩
  · rw [if_neg e]; trivial
def mapR1 (F : (Option String) × Int32) (O : Nat → Int64) : Int32 × (Nat → Int64) := (if F.1 = none then (0, (vp_updL O (0 : Int32).toNatClampNeg (F.2.toInt64))) else (1, O))
def mapR2 (F : (Option String) × Int32) (O : Nat → Int64) : Int32 × (Nat → Int64) := (if F.1 = none then (0, (vp_updL O (0 : Int32).toNatClampNeg (F.2.toInt64))) else (if F.1 = some "java/lang/IndexOutOfBoundsException" then (1, O) else (2, O)))
def GR1 (E : String) (F : (Option String) × Int32) : Prop := ((F.1 = none ∨ F.1 = some E) ∧ (if F.1 = none then ((vp_in 0 1) ∧ True) else True))
def GR2 (F : (Option String) × Int32) : Prop := ((F.1 = none ∨ F.1 = some "java/lang/IndexOutOfBoundsException" ∨ F.1 = some "java/lang/IllegalArgumentException") ∧ (if F.1 = none then ((vp_in 0 1) ∧ True) else True))
theorem R1_ok {S : SV} {E : String} {F : (Option String) × Int32} {B : Int32 × SV} (O : Nat → Int64) (v : Int32) (h : F = (none, v)) (hB : B.1 = v) (ht : fX6_thrown B.2 = 0) (sb : SB S B.2) : GR1 E F ∧ RDO S (mapR1 F O) B := by
  subst h
  exact ⟨⟨.inl rfl, by rw [if_pos rfl]; exact ⟨v01, trivial⟩⟩, ht, fun _ => by rw [hB]; exact lg0 O _, sb⟩
theorem R1_no {S : SV} {E : String} {F : (Option String) × Int32} {B : Int32 × SV} (O : Nat → Int64) (v : Int32) (h : F = (some E, v)) (ht : fX6_thrown B.2 = 1) (sb : SB S B.2) : GR1 E F ∧ RDO S (mapR1 F O) B := by
  subst h
  exact ⟨⟨.inr rfl, by rw [if_neg (by intro e; cases e)]; trivial⟩, ht, fun e => absurd e (by decide : ¬ ((1 : Int32) = 0)), sb⟩
theorem R2_ok {S : SV} {F : (Option String) × Int32} {B : Int32 × SV} (O : Nat → Int64) (v : Int32) (h : F = (none, v)) (hB : B.1 = v) (ht : fX6_thrown B.2 = 0) (sb : SB S B.2) : GR2 F ∧ RDO S (mapR2 F O) B := by
  subst h
  exact ⟨⟨.inl rfl, by rw [if_pos rfl]; exact ⟨v01, trivial⟩⟩, ht, fun _ => by rw [hB]; exact lg0 O _, sb⟩
theorem R2_io {S : SV} {F : (Option String) × Int32} {B : Int32 × SV} (O : Nat → Int64) (v : Int32) (h : F = (some "java/lang/IndexOutOfBoundsException", v)) (ht : fX6_thrown B.2 = 1) (sb : SB S B.2) : GR2 F ∧ RDO S (mapR2 F O) B := by
  subst h
  exact ⟨⟨.inr (.inl rfl), by rw [if_neg (by intro e; cases e)]; trivial⟩, ht, fun e => absurd e (by decide : ¬ ((1 : Int32) = 0)), sb⟩
theorem R2_ia {S : SV} {F : (Option String) × Int32} {B : Int32 × SV} (O : Nat → Int64) (v : Int32) (h : F = (some "java/lang/IllegalArgumentException", v)) (ht : fX6_thrown B.2 = 2) (sb : SB S B.2) : GR2 F ∧ RDO S (mapR2 F O) B := by
  subst h
  have e : mapR2 (some "java/lang/IllegalArgumentException", v) O = (2, O) := by rw [mapR2, if_neg (by intro e; cases e)]; exact if_neg (show ¬ (some "java/lang/IllegalArgumentException" = some "java/lang/IndexOutOfBoundsException") by decide)
  rw [e]
  exact ⟨⟨.inr (.inr rfl), by rw [if_neg (by intro e; cases e)]; trivial⟩, ht, fun e => absurd e (by decide : ¬ ((2 : Int32) = 0)), sb⟩
theorem thr (S : SV) (c : Int32) : fX6_thrown (sS11 0 (sS12 c S)) = c := by rw [fX6_thrown, pj_11_12, pj_12_12]
theorem sbf (S : SV) (c : Int32) : SB S (sS11 0 (sS12 c S)) := ((SB.rfl' S).s12 c).s11 0
theorem f0_0 (S : SV) (c : Int32) : (sS11 0 (sS12 c S)).1 = S.1 := by rw [pj_11_0, pj_12_0]
theorem lay {K n m : Nat} {g : Nat → Int32} (h : WT K n m g) (S' : SV) (e : S'.1 = g) : ∃ s', fX6_laysSeats S' = sS6 s' S' ∧ gX6_laysSeats S' ∧ (∀ k, k < m → s' k = qp g k 2) ∧ (sS6 s' S').1 = g ∧ seats (sS6 s' S') = s' ∧ SE n m s' := by
  obtain ⟨s', l1, l2, l3⟩ := ls_r S' (m := m) (by rw [e]; exact h.1.2.1) h.1.2.2.2.1
  have l4 : ∀ k, k < m → s' k = qp g k 2 := fun k hk => by rw [l3 k, if_pos hk, e]
  exact ⟨s', l1, l2, l4, by rw [pj_6_0]; exact e, pj_6_6 _ _, fun k hk => by rw [l4 k hk]; exact h.se k hk⟩
theorem reqS {C : CV} {T : TV} {x : Int32} (e : fX3_hasStool T x = 1) : fX5_requireStool C T x = none := by rw [fX5_requireStool, e]; exact if_neg one_ne
theorem reqS0 {C : CV} {T : TV} {x : Int32} (e : fX3_hasStool T x = 0) : fX5_requireStool C T x = some "java/lang/IndexOutOfBoundsException" := by rw [fX5_requireStool, e]; exact if_pos rfl
theorem reqP {C : CV} {T : TV} {x : Int32} (e : fX3_hasSitter T x = 1) : fX5_requireSitter C T x = none := by rw [fX5_requireSitter, e]; exact if_neg one_ne
theorem reqP0 {C : CV} {T : TV} {x : Int32} (e : fX3_hasSitter T x = 0) : fX5_requireSitter C T x = some "java/lang/IndexOutOfBoundsException" := by rw [fX5_requireSitter, e]; exact if_pos rfl
theorem nn (E : String) : ¬ (some E = (none : Option String)) := fun e => by cases e
theorem stoolOf_rd {K len : Nat} {C : CV} {T Sn : TV} {Hs : HV} {G : Nat → TV} {X : XV} {Ln : LV} {S : SV} (R : RCk K len C T Sn Hs G X Ln S) (O : Nat → Int64) (x1 x2 : Int32) : gX6_stoolOf S x1 x2 ∧ gL_stoolOf C T O x1 x2 ∧ RDO S (fL_stoolOf C T O x1 x2) (fX6_stoolOf S x1 x2) := by
  obtain ⟨⟨n, m, h⟩, r2, -⟩ := id R
  subst r2
  have hn : S.1 0 = nI n := h.1.1
  have hm : S.1 1 = nI m := h.1.2.1
  have n12 : n ≤ 12 := h.1.2.2.1
  have m12 : m ≤ 12 := h.1.2.2.2.1
  rcases isStool_cases S hn n12 x1 with ⟨i, hi, rfl, a, b⟩ | ⟨a, b⟩
  · rcases in_split x2 0 5 with ⟨c, d⟩ | ⟨c, d, e⟩
    · have e1 : fX6_stoolOf S (nI i) x2 = (0, sS11 0 (sS12 2 S)) := by rw [fX6_stoolOf, b, if_neg one_ne, c, if_pos rfl, fl2]
      have e2 : fX5_stoolOf C (tvOf S.1) (nI i) x2 = (some "java/lang/IllegalArgumentException", 0) := by
        rw [fX5_stoolOf, reqS a, if_pos rfl]
        by_cases q : x2 < 0
        · rw [if_pos q]
        · rw [if_neg q, if_neg]
          intro q'
          rcases d with d | d
          · exact q d
          · rw [Int32.lt_iff_toInt_lt] at d q'; rw [show (5 : Int32).toInt = 5 by decide] at d; rw [show (6 : Int32).toInt = 6 by decide] at q'; omega
      rw [e1]
      exact ⟨by rw [gX6_stoolOf, b, if_neg one_ne, c, if_pos rfl]; exact ⟨gIsStool S _, trivial⟩, R2_ia O _ e2 (thr S 2) (sbf S 2)⟩
    · obtain ⟨w1, w2⟩ := nlt_rng (A := 0) (B := 5) (by decide) (by decide) d e
      obtain ⟨w, hw, -, hw5⟩ := of_rng w1 (by omega) w2
      have w6 : w < 6 := by omega
      have e1 : fX6_stoolOf S (nI i) x2 = (qs S.1 i w, sS11 0 (sS12 0 S)) := by
        rw [fX6_stoolOf, b, if_neg one_ne, c, if_neg one_ne, fl0, rO _ (by omega) w6 hw, f0_0]
      have e2 : fX5_stoolOf C (tvOf S.1) (nI i) x2 = (none, qs S.1 i w) := by
        rw [fX5_stoolOf, reqS a, if_pos rfl, if_neg d, if_pos, rS S.1 (by omega) w6 hw]
        rw [hw, Int32.lt_iff_toInt_lt, nI_toInt (by omega), show (6 : Int32).toInt = 6 by decide]; omega
      rw [e1]
      exact ⟨by rw [gX6_stoolOf, b, if_neg one_ne, c, if_neg one_ne, fl0]; exact ⟨gIsStool S _, gO _ (by omega) w6 hw, trivial⟩, R2_ok O _ e2 rfl (thr S 0) (sbf S 0)⟩
  · have e1 : fX6_stoolOf S x1 x2 = (0, sS11 0 (sS12 1 S)) := by rw [fX6_stoolOf, b, if_pos rfl, fl1]
    have e2 : fX5_stoolOf C (tvOf S.1) x1 x2 = (some "java/lang/IndexOutOfBoundsException", 0) := by rw [fX5_stoolOf, reqS0 a, if_neg (nn _)]
    rw [e1]
    exact ⟨by rw [gX6_stoolOf, b, if_pos rfl]; exact ⟨gIsStool S _, trivial⟩, R2_io O _ e2 (thr S 1) (sbf S 1)⟩
theorem sitterOf_rd {K len : Nat} {C : CV} {T Sn : TV} {Hs : HV} {G : Nat → TV} {X : XV} {Ln : LV} {S : SV} (R : RCk K len C T Sn Hs G X Ln S) (O : Nat → Int64) (x1 x2 : Int32) : gX6_sitterOf S x1 x2 ∧ gL_sitterOf C T O x1 x2 ∧ RDO S (fL_sitterOf C T O x1 x2) (fX6_sitterOf S x1 x2) := by
  obtain ⟨⟨n, m, h⟩, r2, -⟩ := id R
  subst r2
  have hn : S.1 0 = nI n := h.1.1
  have hm : S.1 1 = nI m := h.1.2.1
  have n12 : n ≤ 12 := h.1.2.2.1
  have m12 : m ≤ 12 := h.1.2.2.2.1
  rcases isSitter_cases S hm m12 x1 with ⟨i, hi, rfl, a, b⟩ | ⟨a, b⟩
  · rcases in_split x2 0 4 with ⟨c, d⟩ | ⟨c, d, e⟩
    · have e1 : fX6_sitterOf S (nI i) x2 = (0, sS11 0 (sS12 2 S)) := by rw [fX6_sitterOf, b, if_neg one_ne, c, if_pos rfl, fl2]
      have ne : ∀ w : Int32, 0 ≤ w.toInt → w.toInt ≤ 4 → ¬ x2 = w := fun w h1 h2 q => by
        subst q
        rcases d with d | d
        · rw [Int32.lt_iff_toInt_lt, show (0 : Int32).toInt = 0 by decide] at d; omega
        · rw [Int32.lt_iff_toInt_lt, show (4 : Int32).toInt = 4 by decide] at d; omega
      have e2 : fX5_sitterOf C (tvOf S.1) (nI i) x2 = (some "java/lang/IllegalArgumentException", 0) := by
        rw [fX5_sitterOf, reqP a, if_pos rfl, if_neg (ne 0 (by decide) (by decide)), if_neg (ne 1 (by decide) (by decide)), if_neg (ne 2 (by decide) (by decide)), if_neg (ne 3 (by decide) (by decide)), if_neg (ne 4 (by decide) (by decide))]
      rw [e1]
      exact ⟨by rw [gX6_sitterOf, b, if_neg one_ne, c, if_pos rfl]; exact ⟨gIsSitter S _, trivial⟩, R2_ia O _ e2 (thr S 2) (sbf S 2)⟩
    · obtain ⟨w1, w2⟩ := nlt_rng (A := 0) (B := 4) (by decide) (by decide) d e
      obtain ⟨w, hw, -, hw5⟩ := of_rng w1 (by omega) w2
      have i12 : i < 12 := by omega
      by_cases w3 : w < 3
      · have q1 : ¬ (3 : Int32) ≤ x2 := by rw [hw]; exact up_le (x := 3) (n := 3) rfl (by omega) w3
        have e1 : fX6_sitterOf S (nI i) x2 = (qp S.1 i w, sS11 0 (sS12 0 S)) := by
          rw [fX6_sitterOf, b, if_neg one_ne, c, if_neg one_ne, if_neg q1, fl0, rB _ i12 w3 hw, f0_0]
        have e2 : fX5_sitterOf C (tvOf S.1) (nI i) x2 = (none, qp S.1 i w) := by
          rw [fX5_sitterOf, reqP a, if_pos rfl]
          have hw' : w = 0 ∨ w = 1 ∨ w = 2 := by omega
          rcases hw' with rfl | rfl | rfl
          · rw [if_pos (show x2 = 0 from hw), rP S.1 i12 (w := 0) (y := 0) (by decide) rfl]
          · subst hw; rw [if_neg (by decide), if_pos (by decide), rP S.1 i12 (w := 1) (y := 1) (by decide) rfl]
          · subst hw; rw [if_neg (by decide), if_neg (by decide), if_pos (by decide), rP S.1 i12 (w := 2) (y := 2) (by decide) rfl]
        rw [e1]
        exact ⟨by rw [gX6_sitterOf, b, if_neg one_ne, c, if_neg one_ne, if_neg q1, fl0]; exact ⟨gIsSitter S _, gB _ i12 w3 hw, trivial⟩, R2_ok O _ e2 rfl (thr S 0) (sbf S 0)⟩
      · have q1 : (3 : Int32) ≤ x2 := by rw [hw]; exact nI_le (a := 3) (by omega) (by omega)
        have hw' : w = 3 ∨ w = 4 := by omega
        rcases hw' with rfl | rfl
        · have q4 : ¬ x2 = 4 := by rw [hw]; decide
          obtain ⟨s', l1, l2, l3, l4, l5, l6⟩ := lay h (sS11 0 (sS12 0 S)) (f0_0 S 0)
          obtain ⟨c1', c2'⟩ := cw_r (sS6 s' (sS11 0 (sS12 0 S))) (K := K) (n := n) (by rw [l4]; exact h) (by rw [l5]; exact l6) hi
          rw [l4, l5] at c1'
          have ec : sf (fun o => ck S.1 s' i o) 0 m = sf (fun o => ck S.1 (fun k => qp S.1 k 2) i o) 0 m := sf_congr (fun o _ ho => ck_cong (n := n) (fun _ _ => rfl) (fun _ _ => rfl) (l3 i hi) (l3 o (by omega)) (l6 i hi) (l6 o (by omega)) n12)
          have e1 : fX6_sitterOf S (nI i) x2 = (nI (sf (fun o => ck S.1 (fun k => qp S.1 k 2) i o) 0 m), sS6 s' (sS11 0 (sS12 0 S))) := by
            rw [fX6_sitterOf, b, if_neg one_ne, c, if_neg one_ne, if_pos q1, if_neg q4, fl0, l1, c1', ec]
          have e2 : fX5_sitterOf C (tvOf S.1) (nI i) x2 = (none, nI (sf (fun o => ck S.1 (fun k => qp S.1 k 2) i o) 0 m)) := by
            subst hw
            rw [fX5_sitterOf, reqP a, if_pos rfl, if_neg (by decide), if_neg (by decide), if_neg (by decide), if_pos (by decide), cw_c h hi]
          rw [e1]
          exact ⟨by rw [gX6_sitterOf, b, if_neg one_ne, c, if_neg one_ne, if_pos q1, if_neg q4, fl0, l1]; exact ⟨gIsSitter S _, l2, c2', trivial⟩, R2_ok O _ e2 rfl (by rw [fX6_thrown, pj_6_12, pj_11_12, pj_12_12]) ((sbf S 0).s6 s')⟩
        · have q4 : x2 = 4 := by rw [hw]; decide
          obtain ⟨c1', c2'⟩ := isCat_eq (sS11 0 (sS12 0 S)) (k := i) i12
          rw [f0_0] at c1'
          have e1 : fX6_sitterOf S (nI i) x2 = ((if qp S.1 i 0 = 0 then 1 else 0), sS11 0 (sS12 0 S)) := by
            rw [fX6_sitterOf, b, if_neg one_ne, c, if_neg one_ne, if_pos q1, if_pos q4, fl0, c1']
            by_cases z : qp S.1 i 0 = 0
            · rw [if_pos z, if_neg one_ne]
            · rw [if_neg z, if_pos rfl]
          have e2 : fX5_sitterOf C (tvOf S.1) (nI i) x2 = (none, (if qp S.1 i 0 = 0 then 1 else 0)) := by
            subst hw
            rw [fX5_sitterOf, reqP a, if_pos rfl, if_neg (by decide), if_neg (by decide), if_neg (by decide), if_neg (by decide), if_pos (by decide), rP S.1 i12 (w := 0) (y := 0) (by decide) rfl]
            by_cases z : qp S.1 i 0 = 0
            · rw [if_pos z, if_pos z]
            · rw [if_neg z, if_neg z]
          rw [e1]
          exact ⟨by rw [gX6_sitterOf, b, if_neg one_ne, c, if_neg one_ne, if_pos q1, if_pos q4, fl0]; exact ⟨gIsSitter S _, c2', trivial⟩, R2_ok O _ e2 rfl (thr S 0) (sbf S 0)⟩
  · have e1 : fX6_sitterOf S x1 x2 = (0, sS11 0 (sS12 1 S)) := by rw [fX6_sitterOf, b, if_pos rfl, fl1]
    have e2 : fX5_sitterOf C (tvOf S.1) x1 x2 = (some "java/lang/IndexOutOfBoundsException", 0) := by rw [fX5_sitterOf, reqP0 a, if_neg (nn _)]
    rw [e1]
    exact ⟨by rw [gX6_sitterOf, b, if_pos rfl]; exact ⟨gIsSitter S _, trivial⟩, R2_io O _ e2 (thr S 1) (sbf S 1)⟩
theorem clash_rd {K len : Nat} {C : CV} {T Sn : TV} {Hs : HV} {G : Nat → TV} {X : XV} {Ln : LV} {S : SV} (R : RCk K len C T Sn Hs G X Ln S) (O : Nat → Int64) (x1 x2 : Int32) : gX6_clash S x1 x2 ∧ gL_clash C T O x1 x2 ∧ ((fX6_thrown (fX6_clash S x1 x2).2 = (fL_clash C T O x1 x2).1) ∧ (if (fL_clash C T O x1 x2).1 = 0 then ((vp_in 0 1) ∧ (if (fX6_clash S x1 x2).1 = 0 then (((lg_cmp ((fL_clash C T O x1 x2).2 (0 : Int32).toNatClampNeg) 0) = 0) ∧ True) else (((lg_cmp ((fL_clash C T O x1 x2).2 (0 : Int32).toNatClampNeg) 1) = 0) ∧ True))) else True)) ∧ SB S (fX6_clash S x1 x2).2 := by
  obtain ⟨⟨n, m, h⟩, r2, -⟩ := id R
  subst r2
  have hn : S.1 0 = nI n := h.1.1
  have hm : S.1 1 = nI m := h.1.2.1
  have n12 : n ≤ 12 := h.1.2.2.1
  have m12 : m ≤ 12 := h.1.2.2.2.1
  have bad : fX6_clash S x1 x2 = (0, sS11 0 (sS12 1 S)) → fX5_clash C (tvOf S.1) x1 x2 = (some "java/lang/IndexOutOfBoundsException", 0) → gL_clash C (tvOf S.1) O x1 x2 ∧ ((fX6_thrown (fX6_clash S x1 x2).2 = (fL_clash C (tvOf S.1) O x1 x2).1) ∧ (if (fL_clash C (tvOf S.1) O x1 x2).1 = 0 then ((vp_in 0 1) ∧ (if (fX6_clash S x1 x2).1 = 0 then (((lg_cmp ((fL_clash C (tvOf S.1) O x1 x2).2 (0 : Int32).toNatClampNeg) 0) = 0) ∧ True) else (((lg_cmp ((fL_clash C (tvOf S.1) O x1 x2).2 (0 : Int32).toNatClampNeg) 1) = 0) ∧ True))) else True)) ∧ SB S (fX6_clash S x1 x2).2 := fun e1 e2 => by
    have eL : fL_clash C (tvOf S.1) O x1 x2 = (1, O) := by rw [fL_clash, e2]; exact if_neg (nn _)
    rw [eL, e1, gL_clash, e2, if_neg (nn _)]
    exact ⟨⟨.inr rfl, trivial⟩, ⟨thr S 1, by rw [if_neg one_ne]; trivial⟩, sbf S 1⟩
  rcases isSitter_cases S hm m12 x1 with ⟨i, hi, rfl, a, b⟩ | ⟨a, b⟩
  · rcases isSitter_cases S hm m12 x2 with ⟨j, hj, rfl, a', b'⟩ | ⟨a', b'⟩
    · obtain ⟨s', l1, l2, l3, l4, l5, l6⟩ := lay h (sS11 0 (sS12 0 S)) (f0_0 S 0)
      obtain ⟨c1', c2'⟩ := cl_r (sS6 s' (sS11 0 (sS12 0 S))) (K := K) (n := n) (by rw [l4]; exact h) (by rw [l5]; exact l6) hi hj
      rw [l4, l5] at c1'
      have ec : ck S.1 s' i j = ck S.1 (fun k => qp S.1 k 2) i j := ck_cong (n := n) (fun _ _ => rfl) (fun _ _ => rfl) (l3 i hi) (l3 j hj) (l6 i hi) (l6 j hj) n12
      have e1 : fX6_clash S (nI i) (nI j) = (nI (ck S.1 (fun k => qp S.1 k 2) i j), sS6 s' (sS11 0 (sS12 0 S))) := by
        rw [fX6_clash, b, if_neg one_ne, b', if_neg one_ne, fl0, l1, c1', ec]
      have e2 : fX5_clash C (tvOf S.1) (nI i) (nI j) = (none, nI (ck S.1 (fun k => qp S.1 k 2) i j)) := by
        rw [fX5_clash, reqP a, if_pos rfl, reqP a', if_pos rfl, cl_c h hi hj]
      have g1 : gX6_clash S (nI i) (nI j) := by
        rw [gX6_clash, b, if_neg one_ne, b', if_neg one_ne, fl0, l1]; exact ⟨gIsSitter S _, gIsSitter S _, l2, c2', trivial⟩
      refine ⟨g1, ?_⟩
      have t1 : fX6_thrown (sS6 s' (sS11 0 (sS12 0 S))) = 0 := by rw [fX6_thrown, pj_6_12, pj_11_12, pj_12_12]
      rw [e1, gL_clash, fL_clash, e2]
      by_cases z : nI (ck S.1 (fun k => qp S.1 k 2) i j) = 0
      · simp only [z, ↓reduceIte]
        exact ⟨⟨.inl trivial, v01, trivial⟩, ⟨t1, v01, lg0 O 0, trivial⟩, (sbf S 0).s6 s'⟩
      · simp only [z, ↓reduceIte]
        exact ⟨⟨.inl trivial, v01, trivial⟩, ⟨t1, v01, lg0 O 1, trivial⟩, (sbf S 0).s6 s'⟩
    · refine ⟨?_, bad ?_ ?_⟩
      · rw [gX6_clash, b, if_neg one_ne, b', if_pos rfl]; exact ⟨gIsSitter S _, gIsSitter S _, trivial⟩
      · rw [fX6_clash, b, if_neg one_ne, b', if_pos rfl, fl1]
      · rw [fX5_clash, reqP a, if_pos rfl, reqP0 a', if_neg (nn _)]
  · refine ⟨?_, bad ?_ ?_⟩
    · rw [gX6_clash, b, if_pos rfl]; exact ⟨gIsSitter S _, trivial⟩
    · rw [fX6_clash, b, if_pos rfl, fl1]
    · rw [fX5_clash, reqP0 a, if_neg (nn _)]
theorem c_5 {xs : Nat → Int32} {L : Nat} (hL : L ≤ 2560) (i : Nat) (S : CV) (T : TV) (Tr : TV) (Sn : TV) (Hs : HV) (G : (Nat → TV)) (Xt : XV) (Ln : LV) (Mo : SV) (O : (Nat → Int64)) (Oq : (Nat → UInt64)) (hi : i + 5 ≤ L) (hR : Rel i S T Tr Sn Hs G Xt Ln Mo O Oq) : gM_5 S T Tr Sn Hs G Xt Ln Mo O Oq xs L (nI i) ∧ Rel (i + 5) S T Tr Sn Hs G Xt Ln (fM_5 S T Tr Sn Hs G Xt Ln Mo O Oq xs L (nI i)).1 (fM_5 S T Tr Sn Hs G Xt Ln Mo O Oq xs L (nI i)).2 Oq := by
  obtain ⟨K, len, hk, R⟩ := hR
  have v1 : vp_in (nI i + 1) L := by rw [show nI i + 1 = nI (i + 1) from nI_add i 1]; exact vp_in_nI (by omega) (by omega)
  have v2 : vp_in (nI i + 2) L := by rw [show nI i + 2 = nI (i + 2) from nI_add i 2]; exact vp_in_nI (by omega) (by omega)
  have v3 : vp_in (nI i + 3) L := by rw [show nI i + 3 = nI (i + 3) from nI_add i 3]; exact vp_in_nI (by omega) (by omega)
  have v4 : vp_in (nI i + 4) L := by rw [show nI i + 4 = nI (i + 4) from nI_add i 4]; exact vp_in_nI (by omega) (by omega)
  have k := stoolOf_rd R O (xs (nI i + 1).toNatClampNeg) (xs (nI i + 2).toNatClampNeg)
  simp only [gM_5, fM_5, ite_self]
  exact ⟨⟨v1, v2, k.2.1, v1, v2, k.1, k.2.2.1, k.2.2.tail⟩, ⟨K, len, by omega, R.sb k.2.2.2.2⟩⟩
theorem c_6 {xs : Nat → Int32} {L : Nat} (hL : L ≤ 2560) (i : Nat) (S : CV) (T : TV) (Tr : TV) (Sn : TV) (Hs : HV) (G : (Nat → TV)) (Xt : XV) (Ln : LV) (Mo : SV) (O : (Nat → Int64)) (Oq : (Nat → UInt64)) (hi : i + 5 ≤ L) (hR : Rel i S T Tr Sn Hs G Xt Ln Mo O Oq) : gM_6 S T Tr Sn Hs G Xt Ln Mo O Oq xs L (nI i) ∧ Rel (i + 5) S T Tr Sn Hs G Xt Ln (fM_6 S T Tr Sn Hs G Xt Ln Mo O Oq xs L (nI i)).1 (fM_6 S T Tr Sn Hs G Xt Ln Mo O Oq xs L (nI i)).2 Oq := by
  obtain ⟨K, len, hk, R⟩ := hR
  have v1 : vp_in (nI i + 1) L := by rw [show nI i + 1 = nI (i + 1) from nI_add i 1]; exact vp_in_nI (by omega) (by omega)
  have v2 : vp_in (nI i + 2) L := by rw [show nI i + 2 = nI (i + 2) from nI_add i 2]; exact vp_in_nI (by omega) (by omega)
  have v3 : vp_in (nI i + 3) L := by rw [show nI i + 3 = nI (i + 3) from nI_add i 3]; exact vp_in_nI (by omega) (by omega)
  have v4 : vp_in (nI i + 4) L := by rw [show nI i + 4 = nI (i + 4) from nI_add i 4]; exact vp_in_nI (by omega) (by omega)
  have k := sitterOf_rd R O (xs (nI i + 1).toNatClampNeg) (xs (nI i + 2).toNatClampNeg)
  simp only [gM_6, fM_6, ite_self]
  exact ⟨⟨v1, v2, k.2.1, v1, v2, k.1, k.2.2.1, k.2.2.tail⟩, ⟨K, len, by omega, R.sb k.2.2.2.2⟩⟩
theorem c_8 {xs : Nat → Int32} {L : Nat} (hL : L ≤ 2560) (i : Nat) (S : CV) (T : TV) (Tr : TV) (Sn : TV) (Hs : HV) (G : (Nat → TV)) (Xt : XV) (Ln : LV) (Mo : SV) (O : (Nat → Int64)) (Oq : (Nat → UInt64)) (hi : i + 5 ≤ L) (hR : Rel i S T Tr Sn Hs G Xt Ln Mo O Oq) : gM_8 S T Tr Sn Hs G Xt Ln Mo O Oq xs L (nI i) ∧ Rel (i + 5) S T Tr Sn Hs G Xt Ln (fM_8 S T Tr Sn Hs G Xt Ln Mo O Oq xs L (nI i)).1 (fM_8 S T Tr Sn Hs G Xt Ln Mo O Oq xs L (nI i)).2 Oq := by
  obtain ⟨K, len, hk, R⟩ := hR
  have v1 : vp_in (nI i + 1) L := by rw [show nI i + 1 = nI (i + 1) from nI_add i 1]; exact vp_in_nI (by omega) (by omega)
  have v2 : vp_in (nI i + 2) L := by rw [show nI i + 2 = nI (i + 2) from nI_add i 2]; exact vp_in_nI (by omega) (by omega)
  have v3 : vp_in (nI i + 3) L := by rw [show nI i + 3 = nI (i + 3) from nI_add i 3]; exact vp_in_nI (by omega) (by omega)
  have v4 : vp_in (nI i + 4) L := by rw [show nI i + 4 = nI (i + 4) from nI_add i 4]; exact vp_in_nI (by omega) (by omega)
  have k := clash_rd R O (xs (nI i + 1).toNatClampNeg) (xs (nI i + 2).toNatClampNeg)
  simp only [gM_8, fM_8, ite_self]
  exact ⟨⟨v1, v2, k.2.1, v1, v2, k.1, k.2.2.1.1, k.2.2.1.2⟩, ⟨K, len, by omega, R.sb k.2.2.2⟩⟩
theorem clashes_rd {K len : Nat} {C : CV} {T Sn : TV} {Hs : HV} {G : Nat → TV} {X : XV} {Ln : LV} {S : SV} (R : RCk K len C T Sn Hs G X Ln S) (x : Int32) : gX6_clashes S x ∧ fX5_clashes C T x = (fX6_clashes S x).1 ∧ SB S (fX6_clashes S x).2 := by
  obtain ⟨⟨n, m, h⟩, r2, -⟩ := id R
  subst r2
  have hn : S.1 0 = nI n := h.1.1
  have hm : S.1 1 = nI m := h.1.2.1
  have n12 : n ≤ 12 := h.1.2.2.1
  have m12 : m ≤ 12 := h.1.2.2.2.1
  obtain ⟨s', l1, l2, l3, l4, l5, l6⟩ := lay h (sS12 0 S) (pj_12_0 _ _)
  obtain ⟨c1', c2'⟩ := ct_r (sS6 s' (sS12 0 S)) (K := K) (n := n) (m := m) (by rw [l4]; exact h) (by rw [l5]; exact l6)
  rw [l4, l5, cp_cong (g' := S.1) (s' := fun k => qp S.1 k 2) n12 (fun _ _ => rfl) (fun _ _ => rfl) l3 l6] at c1'
  have e : fX5_clashes C (tvOf S.1) x = nI (sf (fun i => sf (fun j => ck S.1 (fun k => qp S.1 k 2) i j) (i + 1) (m - (i + 1))) 0 m) := by
    rw [fX5_clashes, cs_eq h, cp_c h]; exact ite_self _
  rw [gX6_clashes, fX6_clashes, l1, c1', e]
  exact ⟨⟨l2, c2', trivial⟩, rfl, ((SB.rfl' S).s12 0).s6 s'⟩
theorem c_7 {xs : Nat → Int32} {L : Nat} (hL : L ≤ 2560) (i : Nat) (S : CV) (T : TV) (Tr : TV) (Sn : TV) (Hs : HV) (G : (Nat → TV)) (Xt : XV) (Ln : LV) (Mo : SV) (O : (Nat → Int64)) (Oq : (Nat → UInt64)) (hi : i + 5 ≤ L) (hR : Rel i S T Tr Sn Hs G Xt Ln Mo O Oq) : gM_7 S T Tr Sn Hs G Xt Ln Mo O Oq xs L (nI i) ∧ Rel (i + 5) S T Tr Sn Hs G Xt Ln (fM_7 S T Tr Sn Hs G Xt Ln Mo O Oq xs L (nI i)) O Oq := by
  obtain ⟨K, len, hk, R⟩ := hR
  have v1 : vp_in (nI i + 1) L := by rw [show nI i + 1 = nI (i + 1) from nI_add i 1]; exact vp_in_nI (by omega) (by omega)
  have v2 : vp_in (nI i + 2) L := by rw [show nI i + 2 = nI (i + 2) from nI_add i 2]; exact vp_in_nI (by omega) (by omega)
  have v3 : vp_in (nI i + 3) L := by rw [show nI i + 3 = nI (i + 3) from nI_add i 3]; exact vp_in_nI (by omega) (by omega)
  have v4 : vp_in (nI i + 4) L := by rw [show nI i + 4 = nI (i + 4) from nI_add i 4]; exact vp_in_nI (by omega) (by omega)
  by_cases e : (xs (nI i + 1).toNatClampNeg) = 0
  · have k := clashes_rd R 0
    simp only [gM_7, fM_7, if_pos e]
    exact ⟨⟨v1, v1, k.1, k.2.1, trivial⟩, ⟨K, len, by omega, R.sb k.2.2⟩⟩
  · have k := clashes_rd R 1
    simp only [gM_7, fM_7, if_neg e]
    exact ⟨⟨v1, v1, k.1, k.2.1, trivial⟩, ⟨K, len, by omega, R.sb k.2.2⟩⟩
theorem c_10 {xs : Nat → Int32} {L : Nat} (hL : L ≤ 2560) (i : Nat) (S : CV) (T : TV) (Tr : TV) (Sn : TV) (Hs : HV) (G : (Nat → TV)) (Xt : XV) (Ln : LV) (Mo : SV) (O : (Nat → Int64)) (Oq : (Nat → UInt64)) (hi : i + 5 ≤ L) (hR : Rel i S T Tr Sn Hs G Xt Ln Mo O Oq) : gM_10 S T Tr Sn Hs G Xt Ln Mo O Oq xs L (nI i) ∧ Rel (i + 5) S T (fM_10 S T Tr Sn Hs G Xt Ln Mo O Oq xs L (nI i)).1 Sn Hs G Xt Ln (fM_10 S T Tr Sn Hs G Xt Ln Mo O Oq xs L (nI i)).2 O Oq := by
  obtain ⟨K, len, hk, R⟩ := hR
  obtain ⟨⟨n, m, h⟩, r2, -⟩ := id R
  subst r2
  obtain ⟨s', e1, e2⟩ := would_eq S Mo h Tr
  rw [gM_10, fM_10, e1]
  exact ⟨⟨e2, rfl, trivial⟩, ⟨K, len, by omega, R.sb (((SB.rfl' Mo).s12 0).s6 s')⟩⟩
