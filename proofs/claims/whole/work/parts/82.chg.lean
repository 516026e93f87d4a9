/-! The law's cases: changes -/
def Rel (i : Nat) (C : CV) (T Tr Sn : TV) (Hs : HV) (G : Nat → TV) (X : XV) (Ln : LV) (S : SV) (O : Nat → Int64) (Oq : Nat → UInt64) : Prop := ∃ K len, 5 * (K + len) ≤ i ∧ RCk K len C T Sn Hs G X Ln S
abbrev LO := Int32 × CV × TV × HV × (Nat → TV) × (Nat → Int64)
abbrev FT := (Option String) × Int32 × CV × TV × HV × (Nat → TV)
def mapA (F : FT) (O : Nat → Int64) : LO := (if F.1 = none then (0, F.2.2.1, F.2.2.2.1, F.2.2.2.2.1, F.2.2.2.2.2, (vp_updL O (0 : Int32).toNatClampNeg (F.2.1.toInt64))) else (if F.1 = some "java/lang/IllegalArgumentException" then (1, F.2.2.1, F.2.2.2.1, F.2.2.2.2.1, F.2.2.2.2.2, O) else (2, F.2.2.1, F.2.2.2.1, F.2.2.2.2.1, F.2.2.2.2.2, O)))
def GAA (F : FT) : Prop := ((F.1 = none ∨ F.1 = some "java/lang/IllegalArgumentException" ∨ F.1 = some "java/lang/UnsupportedOperationException") ∧ (if F.1 = none then ((vp_in 0 1) ∧ True) else True))
def mapB (F : FT) (O : Nat → Int64) : LO := (if F.1 = none then (0, F.2.2.1, F.2.2.2.1, F.2.2.2.2.1, F.2.2.2.2.2, (vp_updL O (0 : Int32).toNatClampNeg (F.2.1.toInt64))) else (if F.1 = some "java/lang/IndexOutOfBoundsException" then (1, F.2.2.1, F.2.2.2.1, F.2.2.2.2.1, F.2.2.2.2.2, O) else (2, F.2.2.1, F.2.2.2.1, F.2.2.2.2.1, F.2.2.2.2.2, O)))
def GAB (F : FT) : Prop := ((F.1 = none ∨ F.1 = some "java/lang/IndexOutOfBoundsException" ∨ F.1 = some "java/lang/UnsupportedOperationException") ∧ (if F.1 = none then ((vp_in 0 1) ∧ True) else True))
def mapC (F : FT) (O : Nat → Int64) : LO := (if F.1 = none then (0, F.2.2.1, F.2.2.2.1, F.2.2.2.2.1, F.2.2.2.2.2, (vp_updL O (0 : Int32).toNatClampNeg (F.2.1.toInt64))) else (if F.1 = some "java/lang/IndexOutOfBoundsException" then (1, F.2.2.1, F.2.2.2.1, F.2.2.2.2.1, F.2.2.2.2.2, O) else (if F.1 = some "java/lang/IllegalArgumentException" then (2, F.2.2.1, F.2.2.2.1, F.2.2.2.2.1, F.2.2.2.2.2, O) else (3, F.2.2.1, F.2.2.2.1, F.2.2.2.2.1, F.2.2.2.2.2, O))))
def GAC (F : FT) : Prop := ((F.1 = none ∨ F.1 = some "java/lang/IndexOutOfBoundsException" ∨ F.1 = some "java/lang/IllegalArgumentException" ∨ F.1 = some "java/lang/UnsupportedOperationException") ∧ (if F.1 = none then ((vp_in 0 1) ∧ True) else True))
def CHG (K len : Nat) (Sn : TV) (X : XV) (Ln : LV) (FL : LO) (B : Int32 × SV) : Prop := fX6_thrown B.2 = FL.1 ∧ (FL.1 = 0 → lg_cmp (FL.2.2.2.2.2 (0 : Int32).toNatClampNeg) (B.1.toInt64) = 0) ∧ RCk (K + 1) len FL.2.1 FL.2.2.1 Sn FL.2.2.2.1 FL.2.2.2.2.1 X Ln B.2
theorem v01 : vp_in 0 1 := vp_in_nI (n := 0) (by omega) (by omega)
theorem lg0 (O : Nat → Int64) (v : Int64) : lg_cmp (vp_updL O (0 : Int32).toNatClampNeg v (0 : Int32).toNatClampNeg) v = 0 := by
  rw [pk_uLs]; exact (lg_cmp_eq v v).mpr rfl
theorem CHG.tail {K len : Nat} {Sn : TV} {X : XV} {Ln : LV} {FL : LO} {B : Int32 × SV} (h : CHG K len Sn X Ln FL B) : (if FL.1 = 0 then ((vp_in 0 1) ∧ ((lg_cmp (FL.2.2.2.2.2 (0 : Int32).toNatClampNeg) (B.1.toInt64)) = 0) ∧ True) else True) := by
  by_cases e : FL.1 = 0
  · rw [if_pos e]; exact ⟨v01, h.2.1 e, trivial⟩
  · rw [if_neg e]; trivial
theorem mapA_chg {K len : Nat} {C : CV} {T Sn : TV} {Hs : HV} {G : Nat → TV} {X : XV} {Ln : LV} {S : SV} (R : RCk K len C T Sn Hs G X Ln S) {A : Int32 × CV × TV} {B : Int32 × SV} {c1 : Int32} (h : Out K C S A B c1 1 2) (n1 : A.1 ≠ -1) (O : Nat → Int64) : GAA (FO Hs G T A) ∧ CHG K len Sn X Ln (mapA (FO Hs G T A) O) B := by
  obtain ⟨cs, R'⟩ := FO.chg R h
  obtain ⟨F, hF⟩ : ∃ F, F = FO Hs G T A := ⟨_, rfl⟩
  rw [← hF] at cs R' ⊢
  rcases cs with ⟨a, b, d, -⟩ | ⟨a', a, b⟩ | ⟨a', a, b⟩ | ⟨a', a, b⟩
  · have e : mapA F O = (0, F.2.2.1, F.2.2.2.1, F.2.2.2.2.1, F.2.2.2.2.2, (vp_updL O (0 : Int32).toNatClampNeg (F.2.1.toInt64))) := if_pos a
    rw [e]
    exact ⟨⟨.inl a, by rw [if_pos a]; exact ⟨v01, trivial⟩⟩, b, fun _ => by rw [← d]; exact lg0 O _, R'⟩
  · exact absurd a' n1
  · have e : mapA F O = (1, F.2.2.1, F.2.2.2.1, F.2.2.2.2.1, F.2.2.2.2.2, O) := by rw [mapA, if_neg (by rw [a]; intro e; cases e), if_pos a]
    rw [e]
    exact ⟨⟨(.inr (.inl a)), by rw [if_neg (by rw [a]; intro e; cases e)]; trivial⟩, b, fun e => absurd e (by decide : ¬ ((1 : Int32) = 0)), R'⟩
  · have e : mapA F O = (2, F.2.2.1, F.2.2.2.1, F.2.2.2.2.1, F.2.2.2.2.2, O) := by rw [mapA, if_neg (by rw [a]; intro e; cases e), if_neg (by rw [a]; decide)]
    rw [e]
    exact ⟨⟨(.inr (.inr a)), by rw [if_neg (by rw [a]; intro e; cases e)]; trivial⟩, b, fun e => absurd e (by decide : ¬ ((2 : Int32) = 0)), R'⟩
theorem mapB_chg {K len : Nat} {C : CV} {T Sn : TV} {Hs : HV} {G : Nat → TV} {X : XV} {Ln : LV} {S : SV} (R : RCk K len C T Sn Hs G X Ln S) {A : Int32 × CV × TV} {B : Int32 × SV} {c2 : Int32} (h : Out K C S A B 1 c2 2) (n2 : A.1 ≠ -2) (O : Nat → Int64) : GAB (FO Hs G T A) ∧ CHG K len Sn X Ln (mapB (FO Hs G T A) O) B := by
  obtain ⟨cs, R'⟩ := FO.chg R h
  obtain ⟨F, hF⟩ : ∃ F, F = FO Hs G T A := ⟨_, rfl⟩
  rw [← hF] at cs R' ⊢
  rcases cs with ⟨a, b, d, -⟩ | ⟨a', a, b⟩ | ⟨a', a, b⟩ | ⟨a', a, b⟩
  · have e : mapB F O = (0, F.2.2.1, F.2.2.2.1, F.2.2.2.2.1, F.2.2.2.2.2, (vp_updL O (0 : Int32).toNatClampNeg (F.2.1.toInt64))) := if_pos a
    rw [e]
    exact ⟨⟨.inl a, by rw [if_pos a]; exact ⟨v01, trivial⟩⟩, b, fun _ => by rw [← d]; exact lg0 O _, R'⟩
  · have e : mapB F O = (1, F.2.2.1, F.2.2.2.1, F.2.2.2.2.1, F.2.2.2.2.2, O) := by rw [mapB, if_neg (by rw [a]; intro e; cases e), if_pos a]
    rw [e]
    exact ⟨⟨(.inr (.inl a)), by rw [if_neg (by rw [a]; intro e; cases e)]; trivial⟩, b, fun e => absurd e (by decide : ¬ ((1 : Int32) = 0)), R'⟩
  · exact absurd a' n2
  · have e : mapB F O = (2, F.2.2.1, F.2.2.2.1, F.2.2.2.2.1, F.2.2.2.2.2, O) := by rw [mapB, if_neg (by rw [a]; intro e; cases e), if_neg (by rw [a]; decide)]
    rw [e]
    exact ⟨⟨(.inr (.inr a)), by rw [if_neg (by rw [a]; intro e; cases e)]; trivial⟩, b, fun e => absurd e (by decide : ¬ ((2 : Int32) = 0)), R'⟩
theorem mapC_chg {K len : Nat} {C : CV} {T Sn : TV} {Hs : HV} {G : Nat → TV} {X : XV} {Ln : LV} {S : SV} (R : RCk K len C T Sn Hs G X Ln S) {A : Int32 × CV × TV} {B : Int32 × SV} (h : Out K C S A B 1 2 3) (O : Nat → Int64) : GAC (FO Hs G T A) ∧ CHG K len Sn X Ln (mapC (FO Hs G T A) O) B := by
  obtain ⟨cs, R'⟩ := FO.chg R h
  obtain ⟨F, hF⟩ : ∃ F, F = FO Hs G T A := ⟨_, rfl⟩
  rw [← hF] at cs R' ⊢
  rcases cs with ⟨a, b, d, -⟩ | ⟨a', a, b⟩ | ⟨a', a, b⟩ | ⟨a', a, b⟩
  · have e : mapC F O = (0, F.2.2.1, F.2.2.2.1, F.2.2.2.2.1, F.2.2.2.2.2, (vp_updL O (0 : Int32).toNatClampNeg (F.2.1.toInt64))) := if_pos a
    rw [e]
    exact ⟨⟨.inl a, by rw [if_pos a]; exact ⟨v01, trivial⟩⟩, b, fun _ => by rw [← d]; exact lg0 O _, R'⟩
  · have e : mapC F O = (1, F.2.2.1, F.2.2.2.1, F.2.2.2.2.1, F.2.2.2.2.2, O) := by rw [mapC, if_neg (by rw [a]; intro e; cases e), if_pos a]
    rw [e]
    exact ⟨⟨(.inr (.inl a)), by rw [if_neg (by rw [a]; intro e; cases e)]; trivial⟩, b, fun e => absurd e (by decide : ¬ ((1 : Int32) = 0)), R'⟩
  · have e : mapC F O = (2, F.2.2.1, F.2.2.2.1, F.2.2.2.2.1, F.2.2.2.2.2, O) := by rw [mapC, if_neg (by rw [a]; intro e; cases e), if_neg (by rw [a]; decide), if_pos a]
    rw [e]
    exact ⟨⟨(.inr (.inr (.inl a))), by rw [if_neg (by rw [a]; intro e; cases e)]; trivial⟩, b, fun e => absurd e (by decide : ¬ ((2 : Int32) = 0)), R'⟩
  · have e : mapC F O = (3, F.2.2.1, F.2.2.2.1, F.2.2.2.2.1, F.2.2.2.2.2, O) := by rw [mapC, if_neg (by rw [a]; intro e; cases e), if_neg (by rw [a]; decide), if_neg (by rw [a]; decide)]
    rw [e]
    exact ⟨⟨(.inr (.inr (.inr a))), by rw [if_neg (by rw [a]; intro e; cases e)]; trivial⟩, b, fun e => absurd e (by decide : ¬ ((3 : Int32) = 0)), R'⟩
theorem stool_chg {K len : Nat} {C : CV} {T Sn : TV} {Hs : HV} {G : Nat → TV} {X : XV} {Ln : LV} {S : SV} (R : RCk K len C T Sn Hs G X Ln S) (hK : K ≤ 9000) (O : Nat → Int64) (x1 x2 x3 x4 : Int32) : gL_stool C T Hs G O x1 x2 x3 x4 ∧ gX6_stool S x1 x2 x3 x4 ∧ CHG K len Sn X Ln (fL_stool C T Hs G O x1 x2 x3 x4) (fX6_stool S x1 x2 x3 x4) := by
  obtain ⟨⟨n, m, r1⟩, r2, -, ⟨jj, c, -, hc, -, hch, -⟩, -⟩ := id R
  subst r2
  have hK' : K ≤ 10000 := by omega
  have o := stool_out C S r1 hc hch x1 x2 x3 x4
  have o' := stool_out2 C S r1 hc hch x1 x2 x3 x4
  have key := mapA_chg R o.1 (o.1.c1ne o'.1 (by decide)) O
  exact ⟨key.1, o.2, key.2⟩
theorem guest_chg {K len : Nat} {C : CV} {T Sn : TV} {Hs : HV} {G : Nat → TV} {X : XV} {Ln : LV} {S : SV} (R : RCk K len C T Sn Hs G X Ln S) (hK : K ≤ 9000) (O : Nat → Int64) (x1 x2 : Int32) : gL_guest C T Hs G O x1 x2 ∧ gX6_guest S x1 x2 ∧ CHG K len Sn X Ln (fL_guest C T Hs G O x1 x2) (fX6_guest S x1 x2) := by
  obtain ⟨⟨n, m, r1⟩, r2, -, ⟨jj, c, -, hc, -, hch, -⟩, -⟩ := id R
  subst r2
  have hK' : K ≤ 10000 := by omega
  have o := guest_out C S r1 hc hch x1 x2
  have o' := guest_out2 C S r1 hc hch x1 x2
  have key := mapA_chg R o.1 (o.1.c1ne o'.1 (by decide)) O
  exact ⟨key.1, o.2, key.2⟩
theorem cat_chg {K len : Nat} {C : CV} {T Sn : TV} {Hs : HV} {G : Nat → TV} {X : XV} {Ln : LV} {S : SV} (R : RCk K len C T Sn Hs G X Ln S) (hK : K ≤ 9000) (O : Nat → Int64) (x1 : Int32) : gL_cat C T Hs G O x1 ∧ gX6_cat S x1 ∧ CHG K len Sn X Ln (fL_cat C T Hs G O x1) (fX6_cat S x1) := by
  obtain ⟨⟨n, m, r1⟩, r2, -, ⟨jj, c, -, hc, -, hch, -⟩, -⟩ := id R
  subst r2
  have hK' : K ≤ 10000 := by omega
  have o := cat_out C S r1 hc hch x1
  have o' := cat_out2 C S r1 hc hch x1
  have key := mapA_chg R o.1 (o.1.c1ne o'.1 (by decide)) O
  exact ⟨key.1, o.2, key.2⟩
theorem sit_chg {K len : Nat} {C : CV} {T Sn : TV} {Hs : HV} {G : Nat → TV} {X : XV} {Ln : LV} {S : SV} (R : RCk K len C T Sn Hs G X Ln S) (hK : K ≤ 9000) (O : Nat → Int64) (x1 x2 : Int32) : gL_sit C T Hs G O x1 x2 ∧ gX6_sit S x1 x2 ∧ CHG K len Sn X Ln (fL_sit C T Hs G O x1 x2) (fX6_sit S x1 x2) := by
  obtain ⟨⟨n, m, r1⟩, r2, -, ⟨jj, c, -, hc, -, hch, -⟩, -⟩ := id R
  subst r2
  have hK' : K ≤ 10000 := by omega
  have o := sit_out C S r1 hc hch x1 x2
  have o' := sit_out2 C S r1 hc hch x1 x2
  have key := mapB_chg R o.1 (o.1.c2ne o'.1 (by decide)) O
  exact ⟨key.1, o.2, key.2⟩
theorem getUp_chg {K len : Nat} {C : CV} {T Sn : TV} {Hs : HV} {G : Nat → TV} {X : XV} {Ln : LV} {S : SV} (R : RCk K len C T Sn Hs G X Ln S) (hK : K ≤ 9000) (O : Nat → Int64) (x1 : Int32) : gL_getUp C T Hs G O x1 ∧ gX6_getUp S x1 ∧ CHG K len Sn X Ln (fL_getUp C T Hs G O x1) (fX6_getUp S x1) := by
  obtain ⟨⟨n, m, r1⟩, r2, -, ⟨jj, c, -, hc, -, hch, -⟩, -⟩ := id R
  subst r2
  have hK' : K ≤ 10000 := by omega
  have o := getUp_out C S r1 hc hch x1
  have o' := getUp_out2 C S r1 hc hch x1
  have key := mapB_chg R o.1 (o.1.c2ne o'.1 (by decide)) O
  exact ⟨key.1, o.2, key.2⟩
theorem brawl_chg {K len : Nat} {C : CV} {T Sn : TV} {Hs : HV} {G : Nat → TV} {X : XV} {Ln : LV} {S : SV} (R : RCk K len C T Sn Hs G X Ln S) (hK : K ≤ 9000) (O : Nat → Int64) (x1 x2 : Int32) : gL_brawl C T Hs G O x1 x2 ∧ gX6_brawl S x1 x2 ∧ CHG K len Sn X Ln (fL_brawl C T Hs G O x1 x2) (fX6_brawl S x1 x2) := by
  obtain ⟨⟨n, m, r1⟩, r2, -, ⟨jj, c, -, hc, -, hch, -⟩, -⟩ := id R
  subst r2
  have hK' : K ≤ 10000 := by omega
  have o := brawl_out C S r1 hc hch x1 x2
  have key := mapC_chg R o.1 O
  exact ⟨key.1, o.2, key.2⟩
theorem swap_chg {K len : Nat} {C : CV} {T Sn : TV} {Hs : HV} {G : Nat → TV} {X : XV} {Ln : LV} {S : SV} (R : RCk K len C T Sn Hs G X Ln S) (hK : K ≤ 9000) (O : Nat → Int64) (x1 x2 : Int32) : gL_swap C T Hs G O x1 x2 ∧ gX6_swap S x1 x2 ∧ CHG K len Sn X Ln (fL_swap C T Hs G O x1 x2) (fX6_swap S x1 x2) := by
  obtain ⟨⟨n, m, r1⟩, r2, -, ⟨jj, c, -, hc, -, hch, -⟩, -⟩ := id R
  subst r2
  have hK' : K ≤ 10000 := by omega
  have o := swap_out C S r1 hc hch x1 x2
  have key := mapC_chg R o.1 O
  exact ⟨key.1, o.2, key.2⟩
theorem coin_chg {K len : Nat} {C : CV} {T Sn : TV} {Hs : HV} {G : Nat → TV} {X : XV} {Ln : LV} {S : SV} (R : RCk K len C T Sn Hs G X Ln S) (hK : K ≤ 9000) (O : Nat → Int64) (x1 : Int32) : gL_coin C T Hs G O x1 ∧ gX6_coin S x1 ∧ CHG K len Sn X Ln (fL_coin C T Hs G O x1) (fX6_coin S x1) := by
  obtain ⟨⟨n, m, r1⟩, r2, -, ⟨jj, c, -, hc, -, hch, -⟩, -⟩ := id R
  subst r2
  have hK' : K ≤ 10000 := by omega
  have o := coin_out C S r1 hc hch hK' x1
  have o' := coin_out2 C S r1 hc hch hK' x1
  have key := mapB_chg R o.1 (o.1.c2ne o'.1 (by decide)) O
  exact ⟨key.1, o.2, key.2⟩
theorem takeCoin_chg {K len : Nat} {C : CV} {T Sn : TV} {Hs : HV} {G : Nat → TV} {X : XV} {Ln : LV} {S : SV} (R : RCk K len C T Sn Hs G X Ln S) (hK : K ≤ 9000) (O : Nat → Int64) (x1 : Int32) : gL_takeCoin C T Hs G O x1 ∧ gX6_takeCoin S x1 ∧ CHG K len Sn X Ln (fL_takeCoin C T Hs G O x1) (fX6_takeCoin S x1) := by
  obtain ⟨⟨n, m, r1⟩, r2, -, ⟨jj, c, -, hc, -, hch, -⟩, -⟩ := id R
  subst r2
  have hK' : K ≤ 10000 := by omega
  have o := take_out C S r1 hc hch hK' x1
  have o' := take_out2 C S r1 hc hch hK' x1
  have key := mapB_chg R o.1 (o.1.c2ne o'.1 (by decide)) O
  exact ⟨key.1, o.2, key.2⟩
theorem c_0 {xs : Nat → Int32} {L : Nat} (hL : L ≤ 2560) (i : Nat) (S : CV) (T : TV) (Tr : TV) (Sn : TV) (Hs : HV) (G : (Nat → TV)) (Xt : XV) (Ln : LV) (Mo : SV) (O : (Nat → Int64)) (Oq : (Nat → UInt64)) (hi : i + 5 ≤ L) (hR : Rel i S T Tr Sn Hs G Xt Ln Mo O Oq) : gM_0 S T Tr Sn Hs G Xt Ln Mo O Oq xs L (nI i) ∧ Rel (i + 5) (fM_0 S T Tr Sn Hs G Xt Ln Mo O Oq xs L (nI i)).1 (fM_0 S T Tr Sn Hs G Xt Ln Mo O Oq xs L (nI i)).2.1 Tr Sn (fM_0 S T Tr Sn Hs G Xt Ln Mo O Oq xs L (nI i)).2.2.1 (fM_0 S T Tr Sn Hs G Xt Ln Mo O Oq xs L (nI i)).2.2.2.1 Xt Ln (fM_0 S T Tr Sn Hs G Xt Ln Mo O Oq xs L (nI i)).2.2.2.2.1 (fM_0 S T Tr Sn Hs G Xt Ln Mo O Oq xs L (nI i)).2.2.2.2.2 Oq := by
  obtain ⟨K, len, hk, R⟩ := hR
  have v1 : vp_in (nI i + 1) L := by rw [show nI i + 1 = nI (i + 1) from nI_add i 1]; exact vp_in_nI (by omega) (by omega)
  have v2 : vp_in (nI i + 2) L := by rw [show nI i + 2 = nI (i + 2) from nI_add i 2]; exact vp_in_nI (by omega) (by omega)
  have v3 : vp_in (nI i + 3) L := by rw [show nI i + 3 = nI (i + 3) from nI_add i 3]; exact vp_in_nI (by omega) (by omega)
  have v4 : vp_in (nI i + 4) L := by rw [show nI i + 4 = nI (i + 4) from nI_add i 4]; exact vp_in_nI (by omega) (by omega)
  by_cases e : (xs (nI i + 4).toNatClampNeg) = 0
  · have k := stool_chg R (by omega) O (xs (nI i + 1).toNatClampNeg) (xs (nI i + 2).toNatClampNeg) (xs (nI i + 3).toNatClampNeg) 0
    simp only [gM_0, fM_0, if_pos e, ite_self]
    exact ⟨⟨v1, v2, v3, v4, k.1, v1, v2, v3, v4, k.2.1, k.2.2.1, k.2.2.tail⟩, ⟨K + 1, len, by omega, k.2.2.2.2⟩⟩
  · have k := stool_chg R (by omega) O (xs (nI i + 1).toNatClampNeg) (xs (nI i + 2).toNatClampNeg) (xs (nI i + 3).toNatClampNeg) 1
    simp only [gM_0, fM_0, if_neg e, ite_self]
    exact ⟨⟨v1, v2, v3, v4, k.1, v1, v2, v3, v4, k.2.1, k.2.2.1, k.2.2.tail⟩, ⟨K + 1, len, by omega, k.2.2.2.2⟩⟩
theorem c_1 {xs : Nat → Int32} {L : Nat} (hL : L ≤ 2560) (i : Nat) (S : CV) (T : TV) (Tr : TV) (Sn : TV) (Hs : HV) (G : (Nat → TV)) (Xt : XV) (Ln : LV) (Mo : SV) (O : (Nat → Int64)) (Oq : (Nat → UInt64)) (hi : i + 5 ≤ L) (hR : Rel i S T Tr Sn Hs G Xt Ln Mo O Oq) : gM_1 S T Tr Sn Hs G Xt Ln Mo O Oq xs L (nI i) ∧ Rel (i + 5) (fM_1 S T Tr Sn Hs G Xt Ln Mo O Oq xs L (nI i)).1 (fM_1 S T Tr Sn Hs G Xt Ln Mo O Oq xs L (nI i)).2.1 Tr Sn (fM_1 S T Tr Sn Hs G Xt Ln Mo O Oq xs L (nI i)).2.2.1 (fM_1 S T Tr Sn Hs G Xt Ln Mo O Oq xs L (nI i)).2.2.2.1 Xt Ln (fM_1 S T Tr Sn Hs G Xt Ln Mo O Oq xs L (nI i)).2.2.2.2.1 (fM_1 S T Tr Sn Hs G Xt Ln Mo O Oq xs L (nI i)).2.2.2.2.2 Oq := by
  obtain ⟨K, len, hk, R⟩ := hR
  have v1 : vp_in (nI i + 1) L := by rw [show nI i + 1 = nI (i + 1) from nI_add i 1]; exact vp_in_nI (by omega) (by omega)
  have v2 : vp_in (nI i + 2) L := by rw [show nI i + 2 = nI (i + 2) from nI_add i 2]; exact vp_in_nI (by omega) (by omega)
  have v3 : vp_in (nI i + 3) L := by rw [show nI i + 3 = nI (i + 3) from nI_add i 3]; exact vp_in_nI (by omega) (by omega)
  have v4 : vp_in (nI i + 4) L := by rw [show nI i + 4 = nI (i + 4) from nI_add i 4]; exact vp_in_nI (by omega) (by omega)
  have k := guest_chg R (by omega) O (xs (nI i + 1).toNatClampNeg) (xs (nI i + 2).toNatClampNeg)
  simp only [gM_1, fM_1, ite_self]
  exact ⟨⟨v1, v2, k.1, v1, v2, k.2.1, k.2.2.1, k.2.2.tail⟩, ⟨K + 1, len, by omega, k.2.2.2.2⟩⟩
theorem c_2 {xs : Nat → Int32} {L : Nat} (hL : L ≤ 2560) (i : Nat) (S : CV) (T : TV) (Tr : TV) (Sn : TV) (Hs : HV) (G : (Nat → TV)) (Xt : XV) (Ln : LV) (Mo : SV) (O : (Nat → Int64)) (Oq : (Nat → UInt64)) (hi : i + 5 ≤ L) (hR : Rel i S T Tr Sn Hs G Xt Ln Mo O Oq) : gM_2 S T Tr Sn Hs G Xt Ln Mo O Oq xs L (nI i) ∧ Rel (i + 5) (fM_2 S T Tr Sn Hs G Xt Ln Mo O Oq xs L (nI i)).1 (fM_2 S T Tr Sn Hs G Xt Ln Mo O Oq xs L (nI i)).2.1 Tr Sn (fM_2 S T Tr Sn Hs G Xt Ln Mo O Oq xs L (nI i)).2.2.1 (fM_2 S T Tr Sn Hs G Xt Ln Mo O Oq xs L (nI i)).2.2.2.1 Xt Ln (fM_2 S T Tr Sn Hs G Xt Ln Mo O Oq xs L (nI i)).2.2.2.2.1 (fM_2 S T Tr Sn Hs G Xt Ln Mo O Oq xs L (nI i)).2.2.2.2.2 Oq := by
  obtain ⟨K, len, hk, R⟩ := hR
  have v1 : vp_in (nI i + 1) L := by rw [show nI i + 1 = nI (i + 1) from nI_add i 1]; exact vp_in_nI (by omega) (by omega)
  have v2 : vp_in (nI i + 2) L := by rw [show nI i + 2 = nI (i + 2) from nI_add i 2]; exact vp_in_nI (by omega) (by omega)
  have v3 : vp_in (nI i + 3) L := by rw [show nI i + 3 = nI (i + 3) from nI_add i 3]; exact vp_in_nI (by omega) (by omega)
  have v4 : vp_in (nI i + 4) L := by rw [show nI i + 4 = nI (i + 4) from nI_add i 4]; exact vp_in_nI (by omega) (by omega)
  have k := cat_chg R (by omega) O (xs (nI i + 1).toNatClampNeg)
  simp only [gM_2, fM_2, ite_self]
  exact ⟨⟨v1, k.1, v1, k.2.1, k.2.2.1, k.2.2.tail⟩, ⟨K + 1, len, by omega, k.2.2.2.2⟩⟩
theorem c_3 {xs : Nat → Int32} {L : Nat} (hL : L ≤ 2560) (i : Nat) (S : CV) (T : TV) (Tr : TV) (Sn : TV) (Hs : HV) (G : (Nat → TV)) (Xt : XV) (Ln : LV) (Mo : SV) (O : (Nat → Int64)) (Oq : (Nat → UInt64)) (hi : i + 5 ≤ L) (hR : Rel i S T Tr Sn Hs G Xt Ln Mo O Oq) : gM_3 S T Tr Sn Hs G Xt Ln Mo O Oq xs L (nI i) ∧ Rel (i + 5) (fM_3 S T Tr Sn Hs G Xt Ln Mo O Oq xs L (nI i)).1 (fM_3 S T Tr Sn Hs G Xt Ln Mo O Oq xs L (nI i)).2.1 Tr Sn (fM_3 S T Tr Sn Hs G Xt Ln Mo O Oq xs L (nI i)).2.2.1 (fM_3 S T Tr Sn Hs G Xt Ln Mo O Oq xs L (nI i)).2.2.2.1 Xt Ln (fM_3 S T Tr Sn Hs G Xt Ln Mo O Oq xs L (nI i)).2.2.2.2.1 (fM_3 S T Tr Sn Hs G Xt Ln Mo O Oq xs L (nI i)).2.2.2.2.2 Oq := by
  obtain ⟨K, len, hk, R⟩ := hR
  have v1 : vp_in (nI i + 1) L := by rw [show nI i + 1 = nI (i + 1) from nI_add i 1]; exact vp_in_nI (by omega) (by omega)
  have v2 : vp_in (nI i + 2) L := by rw [show nI i + 2 = nI (i + 2) from nI_add i 2]; exact vp_in_nI (by omega) (by omega)
  have v3 : vp_in (nI i + 3) L := by rw [show nI i + 3 = nI (i + 3) from nI_add i 3]; exact vp_in_nI (by omega) (by omega)
  have v4 : vp_in (nI i + 4) L := by rw [show nI i + 4 = nI (i + 4) from nI_add i 4]; exact vp_in_nI (by omega) (by omega)
  have k := sit_chg R (by omega) O (xs (nI i + 1).toNatClampNeg) (xs (nI i + 2).toNatClampNeg)
  simp only [gM_3, fM_3, ite_self]
  exact ⟨⟨v1, v2, k.1, v1, v2, k.2.1, k.2.2.1, k.2.2.tail⟩, ⟨K + 1, len, by omega, k.2.2.2.2⟩⟩
theorem c_4 {xs : Nat → Int32} {L : Nat} (hL : L ≤ 2560) (i : Nat) (S : CV) (T : TV) (Tr : TV) (Sn : TV) (Hs : HV) (G : (Nat → TV)) (Xt : XV) (Ln : LV) (Mo : SV) (O : (Nat → Int64)) (Oq : (Nat → UInt64)) (hi : i + 5 ≤ L) (hR : Rel i S T Tr Sn Hs G Xt Ln Mo O Oq) : gM_4 S T Tr Sn Hs G Xt Ln Mo O Oq xs L (nI i) ∧ Rel (i + 5) (fM_4 S T Tr Sn Hs G Xt Ln Mo O Oq xs L (nI i)).1 (fM_4 S T Tr Sn Hs G Xt Ln Mo O Oq xs L (nI i)).2.1 Tr Sn (fM_4 S T Tr Sn Hs G Xt Ln Mo O Oq xs L (nI i)).2.2.1 (fM_4 S T Tr Sn Hs G Xt Ln Mo O Oq xs L (nI i)).2.2.2.1 Xt Ln (fM_4 S T Tr Sn Hs G Xt Ln Mo O Oq xs L (nI i)).2.2.2.2.1 (fM_4 S T Tr Sn Hs G Xt Ln Mo O Oq xs L (nI i)).2.2.2.2.2 Oq := by
  obtain ⟨K, len, hk, R⟩ := hR
  have v1 : vp_in (nI i + 1) L := by rw [show nI i + 1 = nI (i + 1) from nI_add i 1]; exact vp_in_nI (by omega) (by omega)
  have v2 : vp_in (nI i + 2) L := by rw [show nI i + 2 = nI (i + 2) from nI_add i 2]; exact vp_in_nI (by omega) (by omega)
  have v3 : vp_in (nI i + 3) L := by rw [show nI i + 3 = nI (i + 3) from nI_add i 3]; exact vp_in_nI (by omega) (by omega)
  have v4 : vp_in (nI i + 4) L := by rw [show nI i + 4 = nI (i + 4) from nI_add i 4]; exact vp_in_nI (by omega) (by omega)
  have k := getUp_chg R (by omega) O (xs (nI i + 1).toNatClampNeg)
  simp only [gM_4, fM_4, ite_self]
  exact ⟨⟨v1, k.1, v1, k.2.1, k.2.2.1, k.2.2.tail⟩, ⟨K + 1, len, by omega, k.2.2.2.2⟩⟩
theorem c_9 {xs : Nat → Int32} {L : Nat} (hL : L ≤ 2560) (i : Nat) (S : CV) (T : TV) (Tr : TV) (Sn : TV) (Hs : HV) (G : (Nat → TV)) (Xt : XV) (Ln : LV) (Mo : SV) (O : (Nat → Int64)) (Oq : (Nat → UInt64)) (hi : i + 5 ≤ L) (hR : Rel i S T Tr Sn Hs G Xt Ln Mo O Oq) : gM_9 S T Tr Sn Hs G Xt Ln Mo O Oq xs L (nI i) ∧ Rel (i + 5) (fM_9 S T Tr Sn Hs G Xt Ln Mo O Oq xs L (nI i)).1 (fM_9 S T Tr Sn Hs G Xt Ln Mo O Oq xs L (nI i)).2.1 Tr Sn (fM_9 S T Tr Sn Hs G Xt Ln Mo O Oq xs L (nI i)).2.2.1 (fM_9 S T Tr Sn Hs G Xt Ln Mo O Oq xs L (nI i)).2.2.2.1 Xt Ln (fM_9 S T Tr Sn Hs G Xt Ln Mo O Oq xs L (nI i)).2.2.2.2.1 (fM_9 S T Tr Sn Hs G Xt Ln Mo O Oq xs L (nI i)).2.2.2.2.2 Oq := by
  obtain ⟨K, len, hk, R⟩ := hR
  have v1 : vp_in (nI i + 1) L := by rw [show nI i + 1 = nI (i + 1) from nI_add i 1]; exact vp_in_nI (by omega) (by omega)
  have v2 : vp_in (nI i + 2) L := by rw [show nI i + 2 = nI (i + 2) from nI_add i 2]; exact vp_in_nI (by omega) (by omega)
  have v3 : vp_in (nI i + 3) L := by rw [show nI i + 3 = nI (i + 3) from nI_add i 3]; exact vp_in_nI (by omega) (by omega)
  have v4 : vp_in (nI i + 4) L := by rw [show nI i + 4 = nI (i + 4) from nI_add i 4]; exact vp_in_nI (by omega) (by omega)
  have k := brawl_chg R (by omega) O (xs (nI i + 1).toNatClampNeg) (xs (nI i + 2).toNatClampNeg)
  simp only [gM_9, fM_9, ite_self]
  exact ⟨⟨v1, v2, k.1, v1, v2, k.2.1, k.2.2.1, k.2.2.tail⟩, ⟨K + 1, len, by omega, k.2.2.2.2⟩⟩
theorem c_11 {xs : Nat → Int32} {L : Nat} (hL : L ≤ 2560) (i : Nat) (S : CV) (T : TV) (Tr : TV) (Sn : TV) (Hs : HV) (G : (Nat → TV)) (Xt : XV) (Ln : LV) (Mo : SV) (O : (Nat → Int64)) (Oq : (Nat → UInt64)) (hi : i + 5 ≤ L) (hR : Rel i S T Tr Sn Hs G Xt Ln Mo O Oq) : gM_11 S T Tr Sn Hs G Xt Ln Mo O Oq xs L (nI i) ∧ Rel (i + 5) (fM_11 S T Tr Sn Hs G Xt Ln Mo O Oq xs L (nI i)).1 (fM_11 S T Tr Sn Hs G Xt Ln Mo O Oq xs L (nI i)).2.1 Tr Sn (fM_11 S T Tr Sn Hs G Xt Ln Mo O Oq xs L (nI i)).2.2.1 (fM_11 S T Tr Sn Hs G Xt Ln Mo O Oq xs L (nI i)).2.2.2.1 Xt Ln (fM_11 S T Tr Sn Hs G Xt Ln Mo O Oq xs L (nI i)).2.2.2.2.1 (fM_11 S T Tr Sn Hs G Xt Ln Mo O Oq xs L (nI i)).2.2.2.2.2 Oq := by
  obtain ⟨K, len, hk, R⟩ := hR
  have v1 : vp_in (nI i + 1) L := by rw [show nI i + 1 = nI (i + 1) from nI_add i 1]; exact vp_in_nI (by omega) (by omega)
  have v2 : vp_in (nI i + 2) L := by rw [show nI i + 2 = nI (i + 2) from nI_add i 2]; exact vp_in_nI (by omega) (by omega)
  have v3 : vp_in (nI i + 3) L := by rw [show nI i + 3 = nI (i + 3) from nI_add i 3]; exact vp_in_nI (by omega) (by omega)
  have v4 : vp_in (nI i + 4) L := by rw [show nI i + 4 = nI (i + 4) from nI_add i 4]; exact vp_in_nI (by omega) (by omega)
  have k := swap_chg R (by omega) O (xs (nI i + 1).toNatClampNeg) (xs (nI i + 2).toNatClampNeg)
  simp only [gM_11, fM_11, ite_self]
  exact ⟨⟨v1, v2, k.1, v1, v2, k.2.1, k.2.2.1, k.2.2.tail⟩, ⟨K + 1, len, by omega, k.2.2.2.2⟩⟩
theorem c_13 {xs : Nat → Int32} {L : Nat} (hL : L ≤ 2560) (i : Nat) (S : CV) (T : TV) (Tr : TV) (Sn : TV) (Hs : HV) (G : (Nat → TV)) (Xt : XV) (Ln : LV) (Mo : SV) (O : (Nat → Int64)) (Oq : (Nat → UInt64)) (hi : i + 5 ≤ L) (hR : Rel i S T Tr Sn Hs G Xt Ln Mo O Oq) : gM_13 S T Tr Sn Hs G Xt Ln Mo O Oq xs L (nI i) ∧ Rel (i + 5) (fM_13 S T Tr Sn Hs G Xt Ln Mo O Oq xs L (nI i)).1 (fM_13 S T Tr Sn Hs G Xt Ln Mo O Oq xs L (nI i)).2.1 Tr Sn (fM_13 S T Tr Sn Hs G Xt Ln Mo O Oq xs L (nI i)).2.2.1 (fM_13 S T Tr Sn Hs G Xt Ln Mo O Oq xs L (nI i)).2.2.2.1 Xt Ln (fM_13 S T Tr Sn Hs G Xt Ln Mo O Oq xs L (nI i)).2.2.2.2.1 (fM_13 S T Tr Sn Hs G Xt Ln Mo O Oq xs L (nI i)).2.2.2.2.2 Oq := by
  obtain ⟨K, len, hk, R⟩ := hR
  have v1 : vp_in (nI i + 1) L := by rw [show nI i + 1 = nI (i + 1) from nI_add i 1]; exact vp_in_nI (by omega) (by omega)
  have v2 : vp_in (nI i + 2) L := by rw [show nI i + 2 = nI (i + 2) from nI_add i 2]; exact vp_in_nI (by omega) (by omega)
  have v3 : vp_in (nI i + 3) L := by rw [show nI i + 3 = nI (i + 3) from nI_add i 3]; exact vp_in_nI (by omega) (by omega)
  have v4 : vp_in (nI i + 4) L := by rw [show nI i + 4 = nI (i + 4) from nI_add i 4]; exact vp_in_nI (by omega) (by omega)
  have k := coin_chg R (by omega) O (xs (nI i + 1).toNatClampNeg)
  simp only [gM_13, fM_13, ite_self]
  exact ⟨⟨v1, k.1, v1, k.2.1, k.2.2.1, k.2.2.tail⟩, ⟨K + 1, len, by omega, k.2.2.2.2⟩⟩
theorem c_14 {xs : Nat → Int32} {L : Nat} (hL : L ≤ 2560) (i : Nat) (S : CV) (T : TV) (Tr : TV) (Sn : TV) (Hs : HV) (G : (Nat → TV)) (Xt : XV) (Ln : LV) (Mo : SV) (O : (Nat → Int64)) (Oq : (Nat → UInt64)) (hi : i + 5 ≤ L) (hR : Rel i S T Tr Sn Hs G Xt Ln Mo O Oq) : gM_14 S T Tr Sn Hs G Xt Ln Mo O Oq xs L (nI i) ∧ Rel (i + 5) (fM_14 S T Tr Sn Hs G Xt Ln Mo O Oq xs L (nI i)).1 (fM_14 S T Tr Sn Hs G Xt Ln Mo O Oq xs L (nI i)).2.1 Tr Sn (fM_14 S T Tr Sn Hs G Xt Ln Mo O Oq xs L (nI i)).2.2.1 (fM_14 S T Tr Sn Hs G Xt Ln Mo O Oq xs L (nI i)).2.2.2.1 Xt Ln (fM_14 S T Tr Sn Hs G Xt Ln Mo O Oq xs L (nI i)).2.2.2.2.1 (fM_14 S T Tr Sn Hs G Xt Ln Mo O Oq xs L (nI i)).2.2.2.2.2 Oq := by
  obtain ⟨K, len, hk, R⟩ := hR
  have v1 : vp_in (nI i + 1) L := by rw [show nI i + 1 = nI (i + 1) from nI_add i 1]; exact vp_in_nI (by omega) (by omega)
  have v2 : vp_in (nI i + 2) L := by rw [show nI i + 2 = nI (i + 2) from nI_add i 2]; exact vp_in_nI (by omega) (by omega)
  have v3 : vp_in (nI i + 3) L := by rw [show nI i + 3 = nI (i + 3) from nI_add i 3]; exact vp_in_nI (by omega) (by omega)
  have v4 : vp_in (nI i + 4) L := by rw [show nI i + 4 = nI (i + 4) from nI_add i 4]; exact vp_in_nI (by omega) (by omega)
  have k := takeCoin_chg R (by omega) O (xs (nI i + 1).toNatClampNeg)
  simp only [gM_14, fM_14, ite_self]
  exact ⟨⟨v1, k.1, v1, k.2.1, k.2.2.1, k.2.2.tail⟩, ⟨K + 1, len, by omega, k.2.2.2.2⟩⟩
theorem Out.c3ne {K : Nat} {C : CV} {S : SV} {A : Int32 × CV × TV} {B : Int32 × SV} {c1 d1 c2 cr d2 dr : Int32} (h : Out K C S A B c1 c2 cr) (h' : Out K C S A B d1 d2 dr) (hn : cr ≠ dr) : A.1 ≠ -3 := by
  intro e
  rcases h with ⟨v, q, s', k', r, ch', n', m', b0, b1, -⟩ | ⟨b1, b2⟩ | ⟨b1, b2⟩ | ⟨why, det, b1, b2⟩
  · rw [b1] at e; exact nI_ne b0 (by decide) e
  · rw [b1] at e; exact absurd e (by decide : ¬ ((-1 : Int32) = -3))
  · rw [b1] at e; exact absurd e (by decide : ¬ ((-2 : Int32) = -3))
  · rcases h' with ⟨v, q, s', k', r, ch', n', m', a0, a1, -⟩ | ⟨a1, a2⟩ | ⟨a1, a2⟩ | ⟨why', det', a1, a2⟩
    · rw [a1] at e; exact nI_ne a0 (by decide) e
    · rw [a1] at e; exact absurd e (by decide : ¬ ((-1 : Int32) = -3))
    · rw [a1] at e; exact absurd e (by decide : ¬ ((-2 : Int32) = -3))
    · rw [b2] at a2
      have := congrArg (fun z : Int32 × SV => z.2.2.2.2.2.2.2.2.2.2.2.2.2.1) a2
      simp only [pj_14_12, pj_13_12, pj_11_12, pj_12_12] at this
      exact hn this
theorem c_20 {xs : Nat → Int32} {L : Nat} (hL : L ≤ 2560) (i : Nat) (S : CV) (T : TV) (Tr : TV) (Sn : TV) (Hs : HV) (G : (Nat → TV)) (Xt : XV) (Ln : LV) (Mo : SV) (O : (Nat → Int64)) (Oq : (Nat → UInt64)) (hi : i + 5 ≤ L) (hR : Rel i S T Tr Sn Hs G Xt Ln Mo O Oq) : gM_20 S T Tr Sn Hs G Xt Ln Mo O Oq xs L (nI i) ∧ Rel (i + 5) S (fM_20 S T Tr Sn Hs G Xt Ln Mo O Oq xs L (nI i)).1 Tr Sn (fM_20 S T Tr Sn Hs G Xt Ln Mo O Oq xs L (nI i)).2.1 (fM_20 S T Tr Sn Hs G Xt Ln Mo O Oq xs L (nI i)).2.2.1 Xt Ln (fM_20 S T Tr Sn Hs G Xt Ln Mo O Oq xs L (nI i)).2.2.2 O Oq := by
  obtain ⟨K, len, hk, R⟩ := hR
  obtain ⟨⟨n, m, r1⟩, r2, -, ⟨jj, c, -, hc, -, hch, -⟩, -⟩ := id R
  subst r2
  have o := night_out S Mo r1 hc hch (show K ≤ 10000 by omega) 1 1 1
  have o' := night_out S Mo r1 hc hch (show K ≤ 10000 by omega) 5 5 5
  obtain ⟨cs, R'⟩ := FO.chg R o.1
  have eF : ∀ T', fX5_night S T' Hs G = ((FO Hs G T' ((fX3_passNight T').1, S, (fX3_passNight T').2)).1, (FO Hs G T' ((fX3_passNight T').1, S, (fX3_passNight T').2)).2.1, (FO Hs G T' ((fX3_passNight T').1, S, (fX3_passNight T').2)).2.2.2.1, (FO Hs G T' ((fX3_passNight T').1, S, (fX3_passNight T').2)).2.2.2.2.1, (FO Hs G T' ((fX3_passNight T').1, S, (fX3_passNight T').2)).2.2.2.2.2) := fun T' => by
    rw [fX5_night, FO]
    by_cases e : (fX5_settled S Hs (fX3_passNight T').1).1 = none
    · simp only [if_pos e]
    · simp only [if_neg e]
  have eC : ∀ T', (FO Hs G T' ((fX3_passNight T').1, S, (fX3_passNight T').2)).2.2.1 = S := fun T' => by
    rw [FO]
    by_cases e : (fX5_settled S Hs (fX3_passNight T').1).1 = none
    · simp only [if_pos e]
    · simp only [if_neg e]
  rw [eC] at R'
  rcases cs with ⟨a, b, d, -⟩ | ⟨a', -⟩ | ⟨a', -⟩ | ⟨a', -⟩
  · rw [gM_20, fM_20, eF]
    exact ⟨⟨a, o.2, d, trivial⟩, ⟨K + 1, len, by omega, R'⟩⟩
  · exact absurd a' (o.1.c1ne o'.1 (by decide))
  · exact absurd a' (o.1.c2ne o'.1 (by decide))
  · exact absurd a' (o.1.c3ne o'.1 (by decide))
theorem c_27 {xs : Nat → Int32} {L : Nat} (hL : L ≤ 2560) (i : Nat) (S : CV) (T : TV) (Tr : TV) (Sn : TV) (Hs : HV) (G : (Nat → TV)) (Xt : XV) (Ln : LV) (Mo : SV) (O : (Nat → Int64)) (Oq : (Nat → UInt64)) (hi : i + 5 ≤ L) (hR : Rel i S T Tr Sn Hs G Xt Ln Mo O Oq) : gM_27 S T Tr Sn Hs G Xt Ln Mo O Oq xs L (nI i) ∧ Rel (i + 5) (fM_27 S T Tr Sn Hs G Xt Ln Mo O Oq xs L (nI i)).1 (fM_27 S T Tr Sn Hs G Xt Ln Mo O Oq xs L (nI i)).2.1 Tr Sn (fM_27 S T Tr Sn Hs G Xt Ln Mo O Oq xs L (nI i)).2.2.1 (fM_27 S T Tr Sn Hs G Xt Ln Mo O Oq xs L (nI i)).2.2.2.1 (fM_27 S T Tr Sn Hs G Xt Ln Mo O Oq xs L (nI i)).2.2.2.2.1 Ln (fM_27 S T Tr Sn Hs G Xt Ln Mo O Oq xs L (nI i)).2.2.2.2.2.1 (fM_27 S T Tr Sn Hs G Xt Ln Mo O Oq xs L (nI i)).2.2.2.2.2.2 Oq := by
  obtain ⟨K, len, hk, R⟩ := hR
  obtain ⟨⟨n, m, r1⟩, r2, r3, r4, r5, ⟨z, r6, r7⟩, r8, r9, r10, r11, r12⟩ := R
  subst r2
  obtain ⟨gr, o, v, C', T', Hs', G', X', w, S', e1, e2, w1, w2, w3, w4, w5, w6, w7, w8, w9, w10, w11, w12, w13, w14⟩ := run_eq S Mo Hs G Xt r1 r3 r4 r5 (show K + len ≤ 9000 by omega) r10 r11 r12
  obtain ⟨n', m', w2⟩ := w2
  have R' : RCk (K + len) 0 C' T' Sn Hs' G' X' Ln S' := ⟨⟨n', m', w2⟩, w3, w4, w5, w6, ⟨z, r6, r7.eq w8 w7⟩, w11.trans (r8.trans w10.symm), (r9.mono (by omega)).eq w10 w9, w12, w13, w14⟩
  rcases w1 with ⟨a, b, d⟩ | ⟨a, b⟩ | ⟨a, b⟩
  · subst a; subst d
    have eL : fL_run S (tvOf Mo.1) Hs G Xt O = (0, C', T', Hs', G', X', vp_updL O (0 : Int32).toNatClampNeg v.toInt64) := by rw [fL_run, e1]; exact if_pos rfl
    have gL : gL_run S (tvOf Mo.1) Hs G Xt O := by rw [gL_run, e1]; exact ⟨.inl rfl, by rw [if_pos rfl]; exact ⟨v01, trivial⟩⟩
    simp only [gM_27, fM_27, ite_self]
    rw [eL, e2]
    exact ⟨⟨gL, gr, b, by rw [if_pos rfl]; exact ⟨v01, lg0 O _, trivial⟩⟩, ⟨K + len, 0, by omega, R'⟩⟩
  · subst a
    have eL : fL_run S (tvOf Mo.1) Hs G Xt O = (1, C', T', Hs', G', X', O) := by rw [fL_run, e1, if_neg (by intro e; cases e)]; exact if_pos rfl
    have gL : gL_run S (tvOf Mo.1) Hs G Xt O := by rw [gL_run, e1]; exact ⟨.inr (.inl rfl), by rw [if_neg (by intro e; cases e)]; trivial⟩
    simp only [gM_27, fM_27, ite_self]
    rw [eL, e2]
    exact ⟨⟨gL, gr, b, by rw [if_neg (show ¬ ((1 : Int32) = 0) by decide)]; trivial⟩, ⟨K + len, 0, by omega, R'⟩⟩
  · subst a
    have eL : fL_run S (tvOf Mo.1) Hs G Xt O = (2, C', T', Hs', G', X', O) := by rw [fL_run, e1, if_neg (by intro e; cases e)]; exact if_neg (show ¬ (some "java/lang/UnsupportedOperationException" = some "java/lang/IllegalArgumentException") by decide)
    have gL : gL_run S (tvOf Mo.1) Hs G Xt O := by rw [gL_run, e1]; exact ⟨.inr (.inr rfl), by rw [if_neg (by intro e; cases e)]; trivial⟩
    simp only [gM_27, fM_27, ite_self]
    rw [eL, e2]
    exact ⟨⟨gL, gr, b, by rw [if_neg (show ¬ ((2 : Int32) = 0) by decide)]; trivial⟩, ⟨K + len, 0, by omega, R'⟩⟩
