/-! Sitting down, getting up, swapping: the class's rows are those that the reference takes -/
theorem upd_same (g : Nat → Int32) (j : Nat) (v : Int32) : upd g j v j = v := if_pos rfl
theorem upd_ne (g : Nat → Int32) {j z : Nat} (v : Int32) (h : z ≠ j) : upd g j v z = g z := if_neg h
theorem TK.heads {n b : Nat} {g s h : Nat → Int32} (t : TK n b g s h) {c : Nat} (hc : c < 6) : h c = g c := t.2.2.2 c (fun _ _ => by omega) (fun _ _ => by omega)
theorem TK.qS {n b : Nat} {g s h : Nat → Int32} (t : TK n b g s h) {i w : Nat} (hi : i < 12) (hw : w < 5) : qs h i w = qs g i w := t.2.2.2 _ (fun _ _ => by omega) (fun _ _ => by omega)
theorem TK.qP {n b : Nat} {g s h : Nat → Int32} (t : TK n b g s h) (hn : n ≤ 12) {k w : Nat} (hw : w < 2) : qp h k w = qp g k w := t.2.2.2 _ (fun _ _ => by omega) (fun _ _ => by omega)
theorem TK.seat {n b : Nat} {g s h : Nat → Int32} (t : TK n b g s h) {k : Nat} (hk : k < b) : qp h k 2 = s k := t.1 k hk
theorem TK.who {n b : Nat} {g s h : Nat → Int32} (t : TK n b g s h) {k i : Nat} (hk : k < b) (hi : i < n) (e : s k = nI i) : qs h i 5 = nI k := t.2.1 k hk i hi e
theorem TK.free {n b : Nat} {g s h : Nat → Int32} (t : TK n b g s h) {i : Nat} (hi : i < n) (e : ∀ k, k < b → s k ≠ nI i) : qs h i 5 = -1 := t.2.2.1 i hi e
theorem TK.wt {K n m : Nat} {g s h : Nat → Int32} (t : TK n m g s h) (hg : WT K n m g) (hs : SE n m s) (hb : ∀ k i, k < m → i < n → s k = nI i → qp g k 0 = 0 → qs g i 3 = 0) : WT K n m h := by
  obtain ⟨⟨a1, a2, a3, a4, a5, a6⟩, b, c⟩ := hg
  refine ⟨⟨by rw [t.heads (by omega), a1], by rw [t.heads (by omega), a2], a3, a4, by rw [t.heads (by omega)]; exact a5, by rw [t.heads (by omega)]; exact a6⟩, fun i hi => ?_, fun k hk => ?_⟩
  · obtain ⟨b1, b2, b3, b4, b5, -⟩ := b i hi
    rw [t.qS (w := 0) (by omega) (by omega), t.qS (w := 1) (by omega) (by omega), t.qS (w := 2) (by omega) (by omega), t.qS (w := 3) (by omega) (by omega), t.qS (w := 4) (by omega) (by omega)]
    refine ⟨b1, b2, b3, b4, b5, ?_⟩
    by_cases h3 : ∃ k, k < m ∧ s k = nI i
    · obtain ⟨k, hk, e⟩ := h3
      exact Or.inr ⟨k, hk, t.who hk hi e, by rw [t.seat hk, e]⟩
    · exact Or.inl (t.free hi (fun k hk e => h3 ⟨k, hk, e⟩))
  · obtain ⟨c1, c2, -⟩ := c k hk
    rw [t.qP a3 (w := 0) (by omega), t.qP a3 (w := 1) (by omega), t.seat hk]
    refine ⟨c1, c2, ?_⟩
    rcases hs k hk with e | ⟨i, hi, e⟩
    · exact Or.inl e
    · exact Or.inr ⟨i, hi, e, t.who hk hi e, fun h0 => by rw [t.qS (w := 3) (by omega) (by omega)]; exact hb k i hk hi e h0⟩
/-- the row behind a sitter who got up -/
theorem leave_c {K n m : Nat} {g : Nat → Int32} (h : WT K n m g) {k : Nat} (hk : k < m) : ∃ g1, fX3_leave (tvOf g) (nI k) = (qp g k 2, tvOf g1) ∧ g1 (78 + (3 * k + 2)) = -1 ∧ (∀ i, i < n → qp g k 2 = nI i → g1 (6 + (6 * i + 5)) = -1) ∧ ∀ j, j ≠ 78 + (3 * k + 2) → (∀ i, i < n → qp g k 2 = nI i → j ≠ 6 + (6 * i + 5)) → g1 j = g j := by
  have hn := h.1.2.2.1
  have hm := h.1.2.2.2.1
  have e0 : fX3_ofSitter (tvOf g) (nI k) 2 = qp g k 2 := rP g (w := 2) (y := 2) (by omega) (by decide) rfl
  rw [fX3_leave, e0]
  rcases h.sit hk with e | ⟨i, hi, e, -, -⟩
  · rw [e, tv_setS_none, tv_setP g (w := 2) (y := 2) (-1) (by omega) (by decide) rfl]
    refine ⟨_, rfl, upd_same _ _ _, fun i hi z => absurd z.symm (nI_m1 (by omega)), fun j h1 _ => upd_ne _ _ h1⟩
  · rw [e, tv_setS g (w := 5) (y := 5) (-1) (show i < 12 by omega) (by decide) rfl, tv_setP _ (w := 2) (y := 2) (-1) (by omega) (by decide) rfl]
    refine ⟨_, rfl, upd_same _ _ _, fun i' hi' z => ?_, fun j h1 h2 => ?_⟩
    · have : i' = i := nI_inj (by omega) (by omega) z.symm
      subst this
      rw [upd_ne _ _ (by omega), upd_same]
    · rw [upd_ne _ _ h1, upd_ne _ _ (h2 i hi rfl)]
theorem take_c (g : Nat → Int32) {k i : Nat} (hk : k < 12) (hi : i < 12) : fX3_take (tvOf g) (nI k) (nI i) = tvOf (upd (upd g (78 + (3 * k + 2)) (nI i)) (6 + (6 * i + 5)) (nI k)) := by
  rw [fX3_take, tv_setP g (w := 2) (y := 2) (nI i) hk (by decide) rfl, tv_setS _ (w := 5) (y := 5) (nI k) hi (by decide) rfl]
/-- consistency, read the other way -/
theorem WT.one {K n m : Nat} {g : Nat → Int32} (h : WT K n m g) {k o i : Nat} (hk : k < m) (ho : o < m) (hi : i < n) (e1 : qp g k 2 = nI i) (e2 : qp g o 2 = nI i) : k = o := by
  have hn := h.1.2.2.1
  have hm := h.1.2.2.2.1
  have f1 : qs g i 5 = nI k := by
    rcases h.sit hk with z | ⟨j, hj, z, w, -⟩
    · rw [e1] at z; exact absurd z (nI_m1 (by omega))
    · rw [e1] at z
      rw [nI_inj (by omega) (by omega) z]; exact w
  have f2 : qs g i 5 = nI o := by
    rcases h.sit ho with z | ⟨j, hj, z, w, -⟩
    · rw [e2] at z; exact absurd z (nI_m1 (by omega))
    · rw [e2] at z
      rw [nI_inj (by omega) (by omega) z]; exact w
  exact nI_inj (by omega) (by omega) (f1.symm.trans f2)
theorem WT.whoOf {K n m : Nat} {g : Nat → Int32} (h : WT K n m g) {k i : Nat} (hk : k < m) (hi : i < n) (e1 : qp g k 2 = nI i) : qs g i 5 = nI k := by
  have hn := h.1.2.2.1
  have hm := h.1.2.2.2.1
  rcases h.sit hk with z | ⟨j, hj, z, w, -⟩
  · rw [e1] at z; exact absurd z (nI_m1 (by omega))
  · rw [e1] at z
    rw [nI_inj (by omega) (by omega) z]; exact w
theorem WT.sitOf {K n m : Nat} {g : Nat → Int32} (h : WT K n m g) {k i : Nat} (hk : k < m) (hi : i < n) (e1 : qs g i 5 = nI k) : qp g k 2 = nI i := by
  have hn := h.1.2.2.1
  have hm := h.1.2.2.2.1
  rcases h.who hi with z | ⟨j, hj, z, w⟩
  · rw [e1] at z; exact absurd z (nI_m1 (by omega))
  · rw [e1] at z
    rw [nI_inj (by omega) (by omega) z]; exact w
theorem tk_up {K n m : Nat} {g g1 : Nat → Int32} (h : WT K n m g) {k : Nat} (hk : k < m) (a1 : g1 (78 + (3 * k + 2)) = -1) (a2 : ∀ i, i < n → qp g k 2 = nI i → g1 (6 + (6 * i + 5)) = -1) (a3 : ∀ j, j ≠ 78 + (3 * k + 2) → (∀ i, i < n → qp g k 2 = nI i → j ≠ 6 + (6 * i + 5)) → g1 j = g j) {s : Nat → Int32} (hs : ∀ x, x < m → s x = if x = k then -1 else qp g x 2) : TK n m g s g1 := by
  have hn := h.1.2.2.1
  have hm := h.1.2.2.2.1
  refine ⟨fun x hx => ?_, fun x hx i hi e => ?_, fun i hi e => ?_, fun j h1 h2 => a3 j (h1 k hk) (fun i hi _ => h2 i hi)⟩
  · rw [hs x hx]
    by_cases hxk : x = k
    · rw [if_pos hxk, hxk, a1]
    · rw [if_neg hxk, a3 _ (by omega) (fun i hi _ => by omega)]; rfl
  · rw [hs x hx] at e
    by_cases hxk : x = k
    · rw [if_pos hxk] at e; exact absurd e.symm (nI_m1 (by omega))
    · rw [if_neg hxk] at e
      have hw := h.whoOf hx hi e
      rw [a3 _ (by omega) (fun i' hi' z => ?_)]
      · exact hw
      · intro hj
        have : i' = i := by omega
        subst this
        exact hxk (h.one hx hk hi e z)
  · by_cases hz : qp g k 2 = nI i
    · exact a2 i hi hz
    · rw [a3 _ (by omega) (fun i' hi' z hj => ?_)]
      · rcases h.who hi with w | ⟨x, hx, w, w2⟩
        · exact w
        · exfalso
          refine e x hx ?_
          rw [hs x hx, if_neg (fun z => hz (by rw [← z]; exact w2)), w2]
      · have : i' = i := by omega
        subst this
        exact hz z
theorem tk_sit {K n m : Nat} {g g1 : Nat → Int32} (h : WT K n m g) {k i : Nat} (hk : k < m) (hi : i < n) (hfree : qs g i 5 = -1) (a2 : ∀ i, i < n → qp g k 2 = nI i → g1 (6 + (6 * i + 5)) = -1) (a3 : ∀ j, j ≠ 78 + (3 * k + 2) → (∀ i, i < n → qp g k 2 = nI i → j ≠ 6 + (6 * i + 5)) → g1 j = g j) {s : Nat → Int32} (hs : ∀ x, x < m → s x = if x = k then nI i else qp g x 2) : TK n m g s (upd (upd g1 (78 + (3 * k + 2)) (nI i)) (6 + (6 * i + 5)) (nI k)) := by
  have hn := h.1.2.2.1
  have hm := h.1.2.2.2.1
  refine ⟨fun x hx => ?_, fun x hx i' hi' e => ?_, fun i' hi' e => ?_, fun j h1 h2 => ?_⟩
  · rw [hs x hx, upd_ne _ _ (by omega)]
    by_cases hxk : x = k
    · rw [if_pos hxk, hxk, upd_same]
    · rw [if_neg hxk, upd_ne _ _ (by omega), a3 _ (by omega) (fun i hi _ => by omega)]; rfl
  · rw [hs x hx] at e
    by_cases hxk : x = k
    · rw [if_pos hxk] at e
      have : i' = i := nI_inj (by omega) (by omega) e.symm
      subst this
      rw [upd_same, hxk]
    · rw [if_neg hxk] at e
      have hw := h.whoOf hx hi' e
      have hii : i' ≠ i := by
        intro z; subst z
        rw [hfree] at hw
        exact nI_m1 (by omega) hw.symm
      rw [upd_ne _ _ (by omega), upd_ne _ _ (by omega), a3 _ (by omega) (fun i2 hi2 z => ?_)]
      · exact hw
      · intro hj
        have : i2 = i' := by omega
        subst this
        exact hxk (h.one hx hk hi' e z)
  · have hii : i' ≠ i := by
      intro z; subst z
      exact e k hk (by rw [hs k hk, if_pos rfl])
    rw [upd_ne _ _ (by omega), upd_ne _ _ (by omega)]
    by_cases hz : qp g k 2 = nI i'
    · exact a2 i' hi' hz
    · rw [a3 _ (by omega) (fun i2 hi2 z hj => ?_)]
      · rcases h.who hi' with w | ⟨x, hx, w, w2⟩
        · exact w
        · exfalso
          refine e x hx ?_
          rw [hs x hx, if_neg (fun z => hz (by rw [← z]; exact w2)), w2]
      · have : i2 = i' := by omega
        subst this
        exact hz z
  · rw [upd_ne _ _ (h2 i hi), upd_ne _ _ (h1 k hk), a3 j (h1 k hk) (fun i hi _ => h2 i hi)]
/-- two who sit, at i1 and i2, swapped -/
def swRow (g : Nat → Int32) (k o i1 i2 : Nat) : Nat → Int32 := upd (upd (upd (upd g (78 + (3 * k + 2)) (nI i2)) (6 + (6 * i2 + 5)) (nI k)) (78 + (3 * o + 2)) (nI i1)) (6 + (6 * i1 + 5)) (nI o)
theorem exch_c (g : Nat → Int32) {k o i1 i2 : Nat} (hk : k < 12) (ho : o < 12) (h1 : i1 < 12) (h2 : i2 < 12) (e1 : qp g k 2 = nI i1) (e2 : qp g o 2 = nI i2) : fX3_exchange (tvOf g) (nI k) (nI o) = tvOf (swRow g k o i1 i2) := by
  rw [fX3_exchange, rP g (k := o) (w := 2) (y := 2) ho (by decide) rfl, rP g (k := k) (w := 2) (y := 2) hk (by decide) rfl, e1, e2, take_c g hk h2, take_c _ ho h1]
  rfl
theorem tk_swap {K n m : Nat} {g : Nat → Int32} (h : WT K n m g) {k o i1 i2 : Nat} (hk : k < m) (ho : o < m) (hko : k ≠ o) (h1 : i1 < n) (h2 : i2 < n) (e1 : qp g k 2 = nI i1) (e2 : qp g o 2 = nI i2) {s : Nat → Int32} (hs : ∀ x, x < m → s x = if x = o then nI i1 else if x = k then nI i2 else qp g x 2) : TK n m g s (swRow g k o i1 i2) := by
  have hn := h.1.2.2.1
  have hm := h.1.2.2.2.1
  have h12 : i1 ≠ i2 := by
    intro z; subst z
    exact hko (h.one hk ho h1 e1 e2)
  refine ⟨fun x hx => ?_, fun x hx i' hi' e => ?_, fun i' hi' e => ?_, fun j z1 z2 => ?_⟩
  · rw [hs x hx, swRow, upd_ne _ _ (by omega)]
    by_cases hxo : x = o
    · rw [if_pos hxo, hxo, upd_same]
    · rw [if_neg hxo, upd_ne _ _ (by omega), upd_ne _ _ (by omega)]
      by_cases hxk : x = k
      · rw [if_pos hxk, hxk, upd_same]
      · rw [if_neg hxk, upd_ne _ _ (by omega)]; rfl
  · rw [hs x hx] at e
    rw [swRow]
    by_cases hxo : x = o
    · rw [if_pos hxo] at e
      have : i' = i1 := nI_inj (by omega) (by omega) e.symm
      subst this
      rw [upd_same, hxo]
    · rw [if_neg hxo] at e
      by_cases hxk : x = k
      · rw [if_pos hxk] at e
        have : i' = i2 := nI_inj (by omega) (by omega) e.symm
        subst this
        rw [upd_ne _ _ (by omega), upd_ne _ _ (by omega), upd_same, hxk]
      · rw [if_neg hxk] at e
        have hw := h.whoOf hx hi' e
        have n1 : i' ≠ i1 := by
          intro z; subst z
          exact hxk (h.one hx hk hi' e e1)
        have n2 : i' ≠ i2 := by
          intro z; subst z
          exact hxo (h.one hx ho hi' e e2)
        rw [upd_ne _ _ (by omega), upd_ne _ _ (by omega), upd_ne _ _ (by omega), upd_ne _ _ (by omega)]
        exact hw
  · have n1 : i' ≠ i1 := by
      intro z; subst z
      exact e o ho (by rw [hs o ho, if_pos rfl])
    have n2 : i' ≠ i2 := by
      intro z; subst z
      exact e k hk (by rw [hs k hk, if_neg hko, if_pos rfl])
    rw [swRow, upd_ne _ _ (by omega), upd_ne _ _ (by omega), upd_ne _ _ (by omega), upd_ne _ _ (by omega)]
    rcases h.who hi' with w | ⟨x, hx, w, w2⟩
    · exact w
    · exfalso
      refine e x hx ?_
      have x1 : x ≠ o := by
        intro z; subst z
        rw [e2] at w2
        exact n2 (nI_inj (by omega) (by omega) w2).symm
      have x2 : x ≠ k := by
        intro z; subst z
        rw [e1] at w2
        exact n1 (nI_inj (by omega) (by omega) w2).symm
      rw [hs x hx, if_neg x1, if_neg x2, w2]
  · rw [swRow, upd_ne _ _ (z2 i1 h1), upd_ne _ _ (z1 o ho), upd_ne _ _ (z2 i2 h2), upd_ne _ _ (z1 k hk)]
/-- the reference's side: lay the seats, change them, take them -/
theorem lt_r (S : SV) {K n m : Nat} (h : WT K n m S.1) (s : Nat → Int32) (hs : SE n m s) (inj : ∀ k o i, k < m → o < m → i < n → s k = nI i → s o = nI i → k = o) {row : Nat → Int32} (t : TK n m S.1 s row) : fX6_takesSeats (sS6 s S) = sS0 row (sS6 s S) ∧ gX6_takesSeats (sS6 s S) := by
  obtain ⟨r, e1, e2, e3⟩ := tk_r (sS6 s S) (n := n) (m := m) h.1.1 h.1.2.1 h.1.2.2.1 h.1.2.2.2.1 hs inj
  rw [e3.uniq t] at e1
  exact ⟨e1, e2⟩
theorem TK.cong {n m : Nat} {g s s' h : Nat → Int32} (t : TK n m g s h) (e : ∀ k, k < m → s' k = s k) : TK n m g s' h :=
  ⟨fun k hk => by rw [e k hk]; exact t.1 k hk, fun k hk i hi z => t.2.1 k hk i hi (by rw [← e k hk]; exact z), fun i hi z => t.2.2.1 i hi (fun k hk y => z k hk (by rw [e k hk]; exact y)), fun j h1 h2 => t.2.2.2 j h1 h2⟩
