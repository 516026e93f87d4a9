/-! Numbers of stools and sitters, who may sit, clashes -/
abbrev seats (S : SV) : Nat → Int32 := S.2.2.2.2.2.2.1
theorem m1I {n : Nat} (h : n ≤ 100000) : (nI n - 1).toInt = (n : Int) - 1 := by
  have e1 : (1 : Int32).toInt = 1 := by decide
  rw [fb_subI (by rw [nI_toInt (by omega), e1]; omega) (by rw [nI_toInt (by omega), e1]; omega), nI_toInt (by omega), e1]
theorem in_cases {x y : Int32} {n : Nat} (hn : y = nI n) (h12 : n ≤ 12) : (∃ i, i < n ∧ x = nI i ∧ (if x < 0 then (0 : Int32) else (if y ≤ x then 0 else 1)) = 1 ∧ fX6_in x 0 (y - 1) = 1) ∨ ((if x < 0 then (0 : Int32) else (if y ≤ x then 0 else 1)) = 0 ∧ fX6_in x 0 (y - 1) = 0) := by
  subst hn
  rw [fX6_in]
  by_cases h : x < 0
  · right; rw [if_pos h, if_pos h]; exact ⟨rfl, rfl⟩
  · obtain ⟨j, hj, rfl⟩ := nI_of h
    by_cases h2 : j < n
    · left
      have a1 : ¬ nI n ≤ nI j := nI_ge h2 (by omega)
      have a2 : ¬ nI n - 1 < nI j := by rw [Int32.lt_iff_toInt_lt, m1I (by omega), nI_toInt hj]; omega
      refine ⟨j, h2, rfl, ?_, ?_⟩
      · rw [if_neg h, if_neg a1]
      · rw [if_neg h, if_neg a2]
    · right
      have a1 : nI n ≤ nI j := nI_le (by omega) hj
      have a2 : nI n - 1 < nI j := by rw [Int32.lt_iff_toInt_lt, m1I (by omega), nI_toInt hj]; omega
      refine ⟨?_, ?_⟩
      · rw [if_neg h, if_pos a1]
      · rw [if_neg h, if_pos a2]
theorem isStool_cases (S : SV) {n : Nat} (hn : S.1 0 = nI n) (h12 : n ≤ 12) (x : Int32) : (∃ i, i < n ∧ x = nI i ∧ fX3_hasStool (tvOf S.1) x = 1 ∧ fX6_isStool S x = 1) ∨ (fX3_hasStool (tvOf S.1) x = 0 ∧ fX6_isStool S x = 0) := in_cases hn h12
theorem isSitter_cases (S : SV) {m : Nat} (hm : S.1 1 = nI m) (h12 : m ≤ 12) (x : Int32) : (∃ i, i < m ∧ x = nI i ∧ fX3_hasSitter (tvOf S.1) x = 1 ∧ fX6_isSitter S x = 1) ∨ (fX3_hasSitter (tvOf S.1) x = 0 ∧ fX6_isSitter S x = 0) := in_cases hm h12
theorem gHd {c : Int32} {j : Nat} (hc : c = nI j) (hj : j < 114) : vp_in c 114 := by
  subst hc; exact vp_in_nI hj (by omega)
theorem gIsStool (S : SV) (x : Int32) : gX6_isStool S x := ⟨gHd (j := 0) rfl (by omega), trivial⟩
theorem gIsSitter (S : SV) (x : Int32) : gX6_isSitter S x := ⟨gHd (j := 1) rfl (by omega), trivial⟩
theorem one_ne : ¬ (1 : Int32) = 0 := by decide
theorem isCat_eq (S : SV) {k : Nat} (hk : k < 12) : fX6_isCat S (nI k) = (if qp S.1 k 0 = 0 then 1 else 0) ∧ gX6_isCat S (nI k) := by
  refine ⟨?_, gB S hk (by decide) rfl, trivial⟩
  rw [fX6_isCat, rB S (w := 0) (y := 0) hk (by decide) rfl]
theorem may_c {K n m : Nat} {g : Nat → Int32} (h : WT K n m g) {k i : Nat} (hk : k < m) (hi : i < n) : fX3_maySit (tvOf g) (nI k) (nI i) = if ¬ qp g k 0 = 0 ∨ qs g i 3 = 0 then 1 else 0 := by
  have hn := h.1.2.2.1
  have hm := h.1.2.2.2.1
  have hr := (h.2.2 k hk).1
  rw [fX3_maySit, rP g (w := 0) (y := 0) (by omega) (by decide) rfl, rS g (w := 3) (y := 3) (by omega) (by decide) rfl]
  by_cases h0 : qp g k 0 = 0
  · rw [h0, if_neg (by decide)]
    by_cases hb : qs g i 3 = 0
    · rw [if_pos hb, if_pos (Or.inr hb)]
    · rw [if_neg hb, if_neg (fun z => z.elim (fun z => z rfl) hb)]
  · have h1 : (0 : Int32) < qp g k 0 := by
      rw [Int32.lt_iff_toInt_lt, z0]
      have : (qp g k 0).toInt ≠ 0 := fun z => h0 (toI_eq (by rw [z, z0]))
      omega
    rw [if_pos h1, if_pos (Or.inl h0)]
theorem may_r (S : SV) {n m : Nat} (hn : n ≤ 12) (hm : m ≤ 12) {k i : Nat} (hk : k < m) (hi : i < n) : fX6_maySit S (nI k) (nI i) = (if ¬ qp S.1 k 0 = 0 ∨ qs S.1 i 3 = 0 then 1 else 0) ∧ gX6_maySit S (nI k) (nI i) := by
  have e := isCat_eq S (k := k) (by omega)
  refine ⟨?_, e.2, ?_⟩
  · rw [fX6_maySit, e.1, rO S (w := 3) (y := 3) (by omega) (by decide) rfl]
    by_cases h0 : qp S.1 k 0 = 0
    · rw [if_pos h0, if_neg one_ne]
      by_cases hb : qs S.1 i 3 = 0
      · rw [if_pos hb, if_pos (Or.inr hb)]
      · rw [if_neg hb, if_neg (fun z => z.elim (fun z => z h0) hb)]
    · rw [if_neg h0, if_pos rfl, if_pos (Or.inl h0)]
  · split
    · trivial
    · exact ⟨gO S (by omega) (by decide) rfl, trivial⟩
/-- whether two clash, by the seats s: 1 or 0 -/
def ck (g s : Nat → Int32) (k o : Nat) : Nat :=
  if s k = -1 then 0 else if s o = -1 then 0 else
  if ((qp g o 0).toInt < (qp g k 0).toInt ∧ (qs g (s k).toNatClampNeg 0).toInt < (qs g (s o).toNatClampNeg 0).toInt) ∨ ((qp g k 0).toInt < (qp g o 0).toInt ∧ (qs g (s o).toNatClampNeg 0).toInt < (qs g (s k).toNatClampNeg 0).toInt) then 1 else 0
theorem ck_le (g s : Nat → Int32) (k o : Nat) : ck g s k o ≤ 1 := by
  unfold ck
  repeat' split
  all_goals omega
theorem ck_comm (g s : Nat → Int32) (k o : Nat) : ck g s k o = ck g s o k := by
  unfold ck
  by_cases h1 : s k = -1
  · by_cases h2 : s o = -1
    · rw [if_pos h1, if_pos h2]
    · rw [if_pos h1, if_neg h2, if_pos h1]
  · by_cases h2 : s o = -1
    · rw [if_neg h1, if_pos h2, if_pos h2]
    · rw [if_neg h1, if_neg h2, if_neg h2, if_neg h1]
      split
      · rename_i h
        rw [if_pos h.symm]
      · rename_i h
        rw [if_neg (fun z => h z.symm)]
theorem ck_self (g s : Nat → Int32) (k : Nat) : ck g s k k = 0 := by
  unfold ck
  split
  · rfl
  · split
    · omega
    · rfl
theorem cl_num {r1 r2 h1 h2 : Int32} (a1 : 0 ≤ r1.toInt ∧ r1.toInt ≤ 9) (a2 : 0 ≤ r2.toInt ∧ r2.toInt ≤ 9) (b1 : 1 ≤ h1.toInt ∧ h1.toInt ≤ 40) (b2 : 1 ≤ h2.toInt ∧ h2.toInt ≤ 40) :
    (if (r1 - r2) ≤ 0 then (if 0 ≤ (r1 - r2) then (0 : Int32) else (if (h1 - h2) ≤ 0 then 0 else 1)) else (if (h1 - h2) < 0 then 1 else (if 0 ≤ (r1 - r2) then 0 else (if (h1 - h2) ≤ 0 then 0 else 1)))) = nI (if (r2.toInt < r1.toInt ∧ h1.toInt < h2.toInt) ∨ (r1.toInt < r2.toInt ∧ h2.toInt < h1.toInt) then 1 else 0) := by
  have e1 : (r1 - r2).toInt = r1.toInt - r2.toInt := fb_subI (by omega) (by omega)
  have e2 : (h1 - h2).toInt = h1.toInt - h2.toInt := fb_subI (by omega) (by omega)
  simp only [Int32.le_iff_toInt_le, Int32.lt_iff_toInt_lt, e1, e2, z0]
  repeat' split
  all_goals first | rfl | (exfalso; omega)
/-- seats -/
def SE (n m : Nat) (s : Nat → Int32) : Prop := ∀ k, k < m → s k = -1 ∨ ∃ i, i < n ∧ s k = nI i
theorem WT.se {K n m : Nat} {g : Nat → Int32} (h : WT K n m g) : SE n m (fun k => qp g k 2) := fun k hk => (h.sit hk).imp id (fun ⟨i, a, b, _⟩ => ⟨i, a, b⟩)
theorem sits_c {n m : Nat} {g : Nat → Int32} (hm : m ≤ 12) (h : SE n m (fun k => qp g k 2)) {k : Nat} (hk : k < m) : fX3_sits (tvOf g) (nI k) = if qp g k 2 = -1 then 0 else 1 := by
  rw [fX3_sits, rP g (w := 2) (y := 2) (by omega) (by decide) rfl]
theorem cl_c {K n m : Nat} {g : Nat → Int32} (h : WT K n m g) {k o : Nat} (hk : k < m) (ho : o < m) : fX3_areClashing (tvOf g) (nI k) (nI o) = nI (ck g (fun k => qp g k 2) k o) := by
  have hn := h.1.2.2.1
  have hm := h.1.2.2.2.1
  rw [fX3_areClashing, sits_c hm h.se hk, sits_c hm h.se ho, rP g (k := k) (w := 0) (y := 0) (by omega) (by decide) rfl, rP g (k := o) (w := 0) (y := 0) (by omega) (by decide) rfl, rP g (k := k) (w := 2) (y := 2) (by omega) (by decide) rfl, rP g (k := o) (w := 2) (y := 2) (by omega) (by decide) rfl]
  rcases h.sit hk with h1 | ⟨i, hi, h1, -, -⟩
  · rw [h1, if_pos rfl, if_pos rfl, ck, if_pos h1]; rfl
  · have n1 : ¬ qp g k 2 = -1 := by rw [h1]; exact nI_m1 (by omega)
    rw [if_neg n1, if_neg one_ne]
    rcases h.sit ho with h2 | ⟨j, hj, h2, -, -⟩
    · rw [h2, if_pos rfl, if_pos rfl, ck, if_neg n1, if_pos h2]; rfl
    · have n2 : ¬ qp g o 2 = -1 := by rw [h2]; exact nI_m1 (by omega)
      rw [if_neg n2, if_neg one_ne, ck, if_neg n1, if_neg n2]
      rw [h1, h2, rS g (w := 0) (y := 0) (show i < 12 by omega) (by decide) rfl, rS g (w := 0) (y := 0) (show j < 12 by omega) (by decide) rfl, nI_clamp (by omega), nI_clamp (by omega)]
      exact cl_num (h.2.2 k hk).1 (h.2.2 o ho).1 (h.2.1 i hi).1 (h.2.1 j hj).1
theorem cl_r {K n m : Nat} (S : SV) (h : WT K n m S.1) (hs : SE n m (seats S)) {k o : Nat} (hk : k < m) (ho : o < m) : fX6_areClashing S (nI k) (nI o) = nI (ck S.1 (seats S) k o) ∧ gX6_areClashing S (nI k) (nI o) := by
  have hn := h.1.2.2.1
  have hm := h.1.2.2.2.1
  have ek : S.2.2.2.2.2.2.1 (nI k).toNatClampNeg = seats S k := by rw [nI_clamp (by omega)]
  have eo : S.2.2.2.2.2.2.1 (nI o).toNatClampNeg = seats S o := by rw [nI_clamp (by omega)]
  rw [fX6_areClashing, gX6_areClashing, ek, eo, rB S (k := k) (w := 0) (y := 0) (by omega) (by decide) rfl, rB S (k := o) (w := 0) (y := 0) (by omega) (by decide) rfl]
  have vk : vp_in (nI k) 12 := vp_in_nI (by omega) (by omega)
  have vo : vp_in (nI o) 12 := vp_in_nI (by omega) (by omega)
  rcases hs k hk with h1 | ⟨i, hi, h1⟩
  · have c1 : seats S k < 0 := by rw [h1]; decide
    rw [if_pos c1, if_pos c1, ck, if_pos h1]
    exact ⟨rfl, vk, trivial⟩
  · have n1 : ¬ seats S k < 0 := by rw [h1]; exact nI_pos (by omega)
    have n1' : ¬ seats S k = -1 := by rw [h1]; exact nI_m1 (by omega)
    rw [if_neg n1, if_neg n1]
    rcases hs o ho with h2 | ⟨j, hj, h2⟩
    · have c2 : ¬ 0 ≤ seats S o := by rw [h2]; decide
      rw [if_neg c2, if_neg c2, ck, if_neg n1', if_pos h2]
      exact ⟨rfl, vk, vo, trivial⟩
    · have c2 : 0 ≤ seats S o := by rw [h2]; exact nI_pos' (by omega)
      have n2' : ¬ seats S o = -1 := by rw [h2]; exact nI_m1 (by omega)
      rw [if_pos c2, if_pos c2, ck, if_neg n1', if_neg n2']
      rw [h1, h2, rO S (w := 0) (y := 0) (show i < 12 by omega) (by decide) rfl, rO S (w := 0) (y := 0) (show j < 12 by omega) (by decide) rfl, nI_clamp (by omega), nI_clamp (by omega)]
      exact ⟨cl_num (h.2.2 k hk).1 (h.2.2 o ho).1 (h.2.1 i hi).1 (h.2.1 j hj).1, vk, vo, gB S (by omega) (by decide) rfl, gB S (by omega) (by decide) rfl, vk, gO S (by omega) (by decide) rfl, vo, gO S (by omega) (by decide) rfl, trivial⟩
/-- how many clash with one -/
theorem cw_c {K n m : Nat} {g : Nat → Int32} (h : WT K n m g) {k : Nat} (hk : k < m) : fX3_clashesWith (tvOf g) (nI k) = nI (sf (fun o => ck g (fun k => qp g k 2) k o) 0 m) := by
  have hm := h.1.2.2.2.1
  have hg : (tvOf g).2.2.2.1 = nI m := h.1.2.1
  have hf := fuel0 hg (by omega)
  have key := (fo_itv (f := lX3_clashesWith_4 (tvOf g) (nI k)) ((0, 0) : Int32 × Int32) (fun (a : Nat) j => (nI a, nI j)) (fun a => (nI a, nI m)) (fun a o => a + ck g (fun k => qp g k 2) k o) (fun _ _ => True) m (fun a j hj _ => ⟨by
    rw [lX3_clashesWith_4, if_neg (up_le hg (by omega) hj), cl_c h hk hj]
    have h1 := ck_le g (fun k => qp g k 2) k j
    rcases (show ck g (fun k => qp g k 2) k j = 0 ∨ ck g (fun k => qp g k 2) k j = 1 by omega) with h2 | h2
    · rw [h2, if_pos nI_0, nI_1]; rfl
    · rw [h2, if_neg (by decide), nI_1, nI_1], trivial⟩) (fun a _ => by
    rw [lX3_clashesWith_4, if_pos (at_le hg)]) m 0 0 _ (by omega) hf trivial).1
  rw [fo_sf, Nat.zero_add] at key
  exact congrArg Prod.fst key
theorem cw_r {K n m : Nat} (S : SV) (h : WT K n m S.1) (hs : SE n m (seats S)) {k : Nat} (hk : k < m) : fX6_clashesOf S (nI k) = nI (sf (fun o => ck S.1 (seats S) k o) 0 m) ∧ gX6_clashesOf S (nI k) := by
  have hm := h.1.2.2.2.1
  have hg : S.1 (1 : Int32).toNatClampNeg = nI m := by rw [c1]; exact h.1.2.1
  have hf := fuel0 hg (by omega)
  have v1 : vp_in 1 114 := gHd (j := 1) rfl (by omega)
  have key := (fo_loop (f := lX6_clashesOf_4 S (nI k)) (P := glX6_clashesOf_4 S (nI k)) (fun (a : Nat) j => (nI a, nI j)) (fun a => (nI a, nI m)) (fun a o => a + ck S.1 (seats S) k o) (fun _ _ => True) m (fun a j hj _ => by
    obtain ⟨e1, e2⟩ := cl_r S h hs hk hj
    have hc := up_le hg (by omega) hj
    refine ⟨?_, ?_, trivial⟩
    · rw [glX6_clashesOf_4, if_neg hc]; exact ⟨v1, e2, trivial⟩
    · rw [lX6_clashesOf_4, if_neg hc, e1]
      have h1 := ck_le S.1 (seats S) k j
      rcases (show ck S.1 (seats S) k j = 0 ∨ ck S.1 (seats S) k j = 1 by omega) with h2 | h2
      · rw [h2, if_pos nI_0, nI_1, Int32.add_zero]; rfl
      · rw [h2, if_neg (by decide), nI_1, nI_1]) (fun a _ => ⟨by rw [glX6_clashesOf_4, if_pos (at_le hg)]; exact ⟨v1, trivial⟩, by rw [lX6_clashesOf_4, if_pos (at_le hg)]⟩) m 0 0 _ (by omega) hf trivial).1
  rw [fo_sf, Nat.zero_add] at key
  exact ⟨congrArg Prod.fst (lrun_itv (d := ((0, 0) : Int32 × Int32)) key), ⟨_, key⟩, trivial⟩
/-- all clashes: by the reference -/
theorem ct_r {K n m : Nat} (S : SV) (h : WT K n m S.1) (hs : SE n m (seats S)) : fX6_clashesTried S = nI (sf (fun i => sf (fun j => ck S.1 (seats S) i j) (i + 1) (m - (i + 1))) 0 m) ∧ gX6_clashesTried S := by
  have hm := h.1.2.2.2.1
  have hg : S.1 (1 : Int32).toNatClampNeg = nI m := by rw [c1]; exact h.1.2.1
  have hf := fuel0 hg (by omega)
  have v1 : vp_in 1 114 := gHd (j := 1) rfl (by omega)
  have key := (fo_loop (f := lX6_clashesTried_4 S) (P := glX6_clashesTried_4 S) (fun (a : Nat) j => (nI a, nI j)) (fun a => (nI a, nI m)) (fun a k => a + sf (fun o => ck S.1 (seats S) k o) 0 m) (fun _ _ => True) m (fun a j hj _ => by
    obtain ⟨e1, e2⟩ := cw_r S h hs hj
    have hc := up_le hg (by omega) hj
    refine ⟨?_, ?_, trivial⟩
    · rw [glX6_clashesTried_4, if_neg hc]; exact ⟨v1, e2, trivial⟩
    · rw [lX6_clashesTried_4, if_neg hc, e1, nI_add, nI_1]) (fun a _ => ⟨by rw [glX6_clashesTried_4, if_pos (at_le hg)]; exact ⟨v1, trivial⟩, by rw [lX6_clashesTried_4, if_pos (at_le hg)]⟩) m 0 0 _ (by omega) hf trivial).1
  rw [fo_sf, Nat.zero_add, sf_pairs (fun k o => ck S.1 (seats S) k o) (ck_comm _ _) (ck_self _ _)] at key
  refine ⟨?_, ⟨_, key⟩, trivial⟩
  have e := congrArg Prod.fst (lrun_itv (d := ((0, 0) : Int32 × Int32)) key)
  have hb : sf (fun i => sf (fun j => ck S.1 (seats S) i j) (i + 1) (m - (i + 1))) 0 m ≤ m * 12 := sf_bound 12 (fun i _ hi => by
    have := sf_bound (w := fun j => ck S.1 (seats S) i j) 1 (c := m - (i + 1)) (k := i + 1) (fun j _ _ => ck_le _ _ _ _)
    omega)
  have hb2 : m * 12 ≤ 144 := by omega
  generalize sf (fun i => sf (fun j => ck S.1 (seats S) i j) (i + 1) (m - (i + 1))) 0 m = q at *
  rw [fX6_clashesTried]
  refine (congrArg (fun z : Int32 => z / 2) e).trans ?_
  show nI (2 * q) / 2 = nI q
  apply toI_eq
  rw [Int32.toInt_div_of_ne_right _ _ (by decide), nI_toInt (by omega), nI_toInt (by omega), show (2 : Int32).toInt = 2 by decide]
  rw [Int.tdiv_eq_ediv_of_nonneg (by omega)]
  omega
/-- all clashes: by the class, pair by pair -/
theorem cp_c {K n m : Nat} {g : Nat → Int32} (h : WT K n m g) : fX3_clashesByPairs (tvOf g) = nI (sf (fun i => sf (fun j => ck g (fun k => qp g k 2) i j) (i + 1) (m - (i + 1))) 0 m) := by
  have hm := h.1.2.2.2.1
  have hg : (tvOf g).2.2.2.1 = nI m := h.1.2.1
  have hf := fuel0 hg (by omega)
  have key := (fo_itv (f := lX3_clashesByPairs_4 (tvOf g)) ((0, 0) : Int32 × Int32) (fun (a : Nat) j => (nI a, nI j)) (fun a => (nI a, nI m)) (fun a i => a + sf (fun j => ck g (fun k => qp g k 2) i j) (i + 1) (m - (i + 1))) (fun _ _ => True) m (fun a i hi _ => ⟨by
    have hf2 : m - (i + 1) < ((tvOf g).2.2.2.1.toInt - (nI i + 1).toInt).toNat + 1 := fuelk hg (nI_1 i) (by omega) (by omega)
    have k2 := (fo_itv (f := lX3_clashesByPairs_16 (tvOf g) (nI a, nI i)) ((nI a, nI i + 1) : Int32 × Int32) (fun (b : Nat) j => (nI b, nI j)) (fun b => (nI b, nI m)) (fun b j => b + ck g (fun k => qp g k 2) i j) (fun _ _ => True) m (fun b j hj _ => ⟨by
      rw [lX3_clashesByPairs_16, if_neg (up_le hg (by omega) hj), cl_c h hi hj]
      have h1 := ck_le g (fun k => qp g k 2) i j
      rcases (show ck g (fun k => qp g k 2) i j = 0 ∨ ck g (fun k => qp g k 2) i j = 1 by omega) with h2 | h2
      · rw [h2, if_pos nI_0, nI_1]; rfl
      · rw [h2, if_neg (by decide), nI_1, nI_1], trivial⟩) (fun b _ => by
      rw [lX3_clashesByPairs_16, if_pos (at_le hg)]) (m - (i + 1)) (i + 1) a _ (by omega) hf2 trivial).1
    rw [fo_sf] at k2
    rw [lX3_clashesByPairs_4, if_neg (up_le hg (by omega) hi)]
    rw [← nI_1] at k2
    simp only []
    rw [k2, nI_1], trivial⟩) (fun a _ => by
    rw [lX3_clashesByPairs_4, if_pos (at_le hg)]) m 0 0 _ (by omega) hf trivial).1
  rw [fo_sf, Nat.zero_add] at key
  exact congrArg Prod.fst key
theorem ck_cong {g g' s s' : Nat → Int32} {k o n : Nat} (hr : ∀ j, j = k ∨ j = o → qp g j 0 = qp g' j 0) (hh : ∀ i, i < n → qs g i 0 = qs g' i 0) (hsk : s k = s' k) (hso : s o = s' o) (hk : s k = -1 ∨ ∃ i, i < n ∧ s k = nI i) (ho : s o = -1 ∨ ∃ i, i < n ∧ s o = nI i) (hn : n ≤ 12) : ck g s k o = ck g' s' k o := by
  unfold ck
  rw [← hsk, ← hso]
  rcases hk with hk | ⟨i, hi, hk⟩
  · rw [if_pos hk, if_pos hk]
  · rcases ho with ho | ⟨j, hj, ho⟩
    · rw [if_pos ho, if_pos ho]
    · rw [hk, ho, nI_clamp (by omega), nI_clamp (by omega), hr k (Or.inl rfl), hr o (Or.inr rfl), hh i hi, hh j hj]
