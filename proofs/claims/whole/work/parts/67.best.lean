/-! The best swap -/
def cpr (g s : Nat → Int32) (m : Nat) : Nat := sf (fun i => sf (fun j => ck g s i j) (i + 1) (m - (i + 1))) 0 m
def swS (g : Nat → Int32) (k o : Nat) (x : Nat) : Int32 := if x = o then qp g k 2 else if x = k then qp g o 2 else qp g x 2
def can (g : Nat → Int32) (k o : Nat) : Prop := ¬ qp g k 2 = -1 ∧ ¬ qp g o 2 = -1 ∧ (¬ qp g k 0 = 0 ∨ qs g (qp g o 2).toNatClampNeg 3 = 0) ∧ (¬ qp g o 0 = 0 ∨ qs g (qp g k 2).toNatClampNeg 3 = 0)
/-- one step of the search: the fewest, the first, the second -/
def bss (g : Nat → Int32) (m k : Nat) (z : Nat × Int32 × Int32) (o : Nat) : Nat × Int32 × Int32 :=
  if ¬ qp g k 2 = -1 ∧ ¬ qp g o 2 = -1 ∧ (¬ qp g k 0 = 0 ∨ qs g (qp g o 2).toNatClampNeg 3 = 0) ∧ (¬ qp g o 0 = 0 ∨ qs g (qp g k 2).toNatClampNeg 3 = 0) then (if cpr g (swS g k o) m < z.1 then (cpr g (swS g k o) m, nI k, nI o) else z) else z
def bst2 (z : Nat × Int32 × Int32) : Int32 := if z.2.1 = -1 then -1 else z.2.1 * 12 + z.2.2
def bsI (m : Nat) (z : Nat × Int32 × Int32) : Prop := z.1 ≤ 144 ∧ (z.2.1 = -1 ∨ ∃ k o, k < m ∧ o < m ∧ z.2.1 = nI k ∧ z.2.2 = nI o)
theorem bss_inv {g : Nat → Int32} {m k o : Nat} (hm : m ≤ 12) (hk : k < m) (ho : o < m) {z : Nat × Int32 × Int32} (h : bsI m z) : bsI m (bss g m k z o) := by
  unfold bss
  split
  · split
    · exact ⟨cp_le _ _ hm, Or.inr ⟨k, o, hk, ho, rfl, rfl⟩⟩
    · exact h
  · exact h
theorem sw_back {K n m : Nat} {g : Nat → Int32} (h : WT K n m g) {k o i1 i2 : Nat} (hk : k < m) (ho : o < m) (hko : k ≠ o) (h1 : i1 < n) (h2 : i2 < n) (e1 : qp g k 2 = nI i1) (e2 : qp g o 2 = nI i2) : swRow (swRow g k o i1 i2) k o i2 i1 = g := by
  have hn := h.1.2.2.1
  have hm := h.1.2.2.2.1
  have h12 : i1 ≠ i2 := by
    intro z; subst z
    exact hko (h.one hk ho h1 e1 e2)
  have w1 := h.whoOf hk h1 e1
  have w2 := h.whoOf ho h2 e2
  funext j
  unfold swRow
  by_cases j1 : j = 6 + (6 * i2 + 5)
  · rw [j1, upd_same]; exact w2.symm
  · rw [upd_ne _ _ j1]
    by_cases j2 : j = 78 + (3 * o + 2)
    · rw [j2, upd_same]; exact e2.symm
    · rw [upd_ne _ _ j2]
      by_cases j3 : j = 6 + (6 * i1 + 5)
      · rw [j3, upd_same]; exact w1.symm
      · rw [upd_ne _ _ j3]
        by_cases j4 : j = 78 + (3 * k + 2)
        · rw [j4, upd_same]; exact e1.symm
        · rw [upd_ne _ _ j4, upd_ne _ _ j3, upd_ne _ _ j2, upd_ne _ _ j1, upd_ne _ _ j4]
theorem can_c {K n m : Nat} {g : Nat → Int32} (h : WT K n m g) {k o : Nat} (hk : k < m) (ho : o < m) : fX3_canExchange (tvOf g) (nI k) (nI o) = if ¬ qp g k 2 = -1 ∧ ¬ qp g o 2 = -1 ∧ (¬ qp g k 0 = 0 ∨ qs g (qp g o 2).toNatClampNeg 3 = 0) ∧ (¬ qp g o 0 = 0 ∨ qs g (qp g k 2).toNatClampNeg 3 = 0) then 1 else 0 := by
  have hn := h.1.2.2.1
  have hm := h.1.2.2.2.1
  rw [fX3_canExchange, sits_c hm h.se hk, sits_c hm h.se ho, rP g (k := k) (w := 2) (y := 2) (by omega) (by decide) rfl, rP g (k := o) (w := 2) (y := 2) (by omega) (by decide) rfl]
  rcases h.sit hk with e1 | ⟨i1, hi1, e1, -, -⟩
  · rw [if_pos e1, if_pos rfl, if_neg (fun z => z.1 e1)]
  · have n1 : ¬ qp g k 2 = -1 := by rw [e1]; exact nI_m1 (by omega)
    rw [if_neg n1, if_neg one_ne]
    rcases h.sit ho with e2 | ⟨i2, hi2, e2, -, -⟩
    · rw [if_pos e2, if_pos rfl, if_neg (fun z => z.2.1 e2)]
    · have n2 : ¬ qp g o 2 = -1 := by rw [e2]; exact nI_m1 (by omega)
      rw [if_neg n2, if_neg one_ne, e1, e2, may_c h hk hi2, may_c h ho hi1, nI_clamp (by omega), nI_clamp (by omega)]
      by_cases c1 : ¬ qp g k 0 = 0 ∨ qs g i2 3 = 0
      · rw [if_pos c1, if_neg one_ne]
        by_cases c2 : ¬ qp g o 0 = 0 ∨ qs g i1 3 = 0
        · rw [if_pos c2, if_neg one_ne, if_pos ⟨nI_m1 (by omega), nI_m1 (by omega), c1, c2⟩]
        · rw [if_neg c2, if_pos rfl, if_neg (fun z => c2 z.2.2.2)]
      · rw [if_neg c1, if_pos rfl, if_neg (fun z => c1 z.2.2.1)]
theorem can_r {K n m : Nat} (S : SV) (h : WT K n m S.1) {k o : Nat} (hk : k < m) (ho : o < m) : fX6_canSwap S (nI k) (nI o) = (if ¬ qp S.1 k 2 = -1 ∧ ¬ qp S.1 o 2 = -1 ∧ (¬ qp S.1 k 0 = 0 ∨ qs S.1 (qp S.1 o 2).toNatClampNeg 3 = 0) ∧ (¬ qp S.1 o 0 = 0 ∨ qs S.1 (qp S.1 k 2).toNatClampNeg 3 = 0) then 1 else 0) ∧ gX6_canSwap S (nI k) (nI o) := by
  have hn := h.1.2.2.1
  have hm := h.1.2.2.2.1
  have gk : gX6_by S (nI k) 2 := gB S (by omega) (by decide) rfl
  have go : gX6_by S (nI o) 2 := gB S (by omega) (by decide) rfl
  rw [fX6_canSwap, gX6_canSwap, rB S (k := k) (w := 2) (y := 2) (by omega) (by decide) rfl, rB S (k := o) (w := 2) (y := 2) (by omega) (by decide) rfl]
  rcases h.sit hk with e1 | ⟨i1, hi1, e1, -, -⟩
  · have c : qp S.1 k 2 < 0 := by rw [e1]; decide
    rw [if_pos c, if_pos c, if_neg (fun z => z.1 e1)]
    exact ⟨rfl, gk, trivial⟩
  · have n1 : ¬ qp S.1 k 2 < 0 := by rw [e1]; exact nI_pos (by omega)
    rw [if_neg n1, if_neg n1]
    rcases h.sit ho with e2 | ⟨i2, hi2, e2, -, -⟩
    · have c : qp S.1 o 2 < 0 := by rw [e2]; decide
      rw [if_pos c, if_pos c, if_neg (fun z => z.2.1 e2)]
      exact ⟨rfl, gk, go, trivial⟩
    · have n2 : ¬ qp S.1 o 2 < 0 := by rw [e2]; exact nI_pos (by omega)
      obtain ⟨a1, a2⟩ := may_r S (n := n) (m := m) hn hm hk hi2
      obtain ⟨b1, b2⟩ := may_r S (n := n) (m := m) hn hm ho hi1
      rw [if_neg n2, if_neg n2, e1, e2, a1, b1, nI_clamp (by omega), nI_clamp (by omega)]
      by_cases c1 : ¬ qp S.1 k 0 = 0 ∨ qs S.1 i2 3 = 0
      · rw [if_pos c1, if_neg one_ne, if_neg one_ne]
        by_cases c2 : ¬ qp S.1 o 0 = 0 ∨ qs S.1 i1 3 = 0
        · rw [if_pos c2, if_neg one_ne, if_pos ⟨nI_m1 (by omega), nI_m1 (by omega), c1, c2⟩]
          exact ⟨rfl, gk, go, go, a2, gk, b2, trivial⟩
        · rw [if_neg c2, if_pos rfl, if_neg (fun z => c2 z.2.2.2)]
          exact ⟨rfl, gk, go, go, a2, gk, b2, trivial⟩
      · rw [if_neg c1, if_pos rfl, if_pos rfl, if_neg (fun z => c1 z.2.2.1)]
        exact ⟨rfl, gk, go, go, a2, trivial⟩
theorem nI_nle2 {a b : Nat} (ha : a ≤ 100000) (hb : b ≤ 100000) : (nI a ≤ nI b) = (a ≤ b) := propext (nI_leI (by omega) (by omega))
theorem nI_nlt2 {a b : Nat} (ha : a ≤ 100000) (hb : b ≤ 100000) : (nI a < nI b) = (a < b) := propext (nI_ltI (by omega) (by omega))
theorem bst2_new {k o : Nat} (c : Nat) (hk : k ≤ 100000) : bst2 (c, nI k, nI o) = nI k * 12 + nI o := if_neg (nI_m1 hk)
/-- the counts of a swap, on both sides -/
theorem swc {K n m : Nat} {g : Nat → Int32} (h : WT K n m g) {k o i1 i2 : Nat} (hk : k < m) (ho : o < m) (hko : k ≠ o) (h1 : i1 < n) (h2 : i2 < n) (e1 : qp g k 2 = nI i1) (e2 : qp g o 2 = nI i2) (m1 : ¬ qp g k 0 = 0 ∨ qs g i2 3 = 0) (m2 : ¬ qp g o 0 = 0 ∨ qs g i1 3 = 0) : fX3_clashesByPairs (tvOf (swRow g k o i1 i2)) = nI (cpr g (swS g k o) m) := by
  have hn := h.1.2.2.1
  rw [cp_c (swRow_wt h hk ho hko h1 h2 e1 e2 m1 m2)]
  have t := tk_swap h hk ho hko h1 h2 e1 e2 (s := swS g k o) (fun x hx => by rw [swS, e1, e2])
  congr 1
  exact cp_cong hn (fun j hj => t.qP hn (by omega)) (fun i hi => t.qS (by omega) (by omega)) (fun x hx => t.seat hx) (swRow_wt h hk ho hko h1 h2 e1 e2 m1 m2).se
theorem bp_in {K n m : Nat} (C : CV) {g : Nat → Int32} (h : WT K n m g) (Tr n1 : TV) {k : Nat} (hk : k < m) (v1 : TV) (v2 v3 : Int32) : ∀ z, bsI m z → itv (tvOf g, nI z.1, bst2 z, nI k + 1) (lX5_bestPair_39 C (tvOf g) Tr (v1, v2, v3, nI k) n1) ((fun w : (TV × Int32 × Int32 × Int32) => ((tvOf g).2.2.2.1.toInt - w.2.2.2.toInt).toNat) (tvOf g, nI z.1, bst2 z, nI k + 1) + 1) (tvOf g, nI z.1, bst2 z, nI k + 1) = (tvOf g, nI (fo (bss g m k) (k + 1) (m - (k + 1)) z).1, bst2 (fo (bss g m k) (k + 1) (m - (k + 1)) z), nI m) ∧ bsI m (fo (bss g m k) (k + 1) (m - (k + 1)) z) := by
  intro z hz
  have hn := h.1.2.2.1
  have hm := h.1.2.2.2.1
  have hg : (tvOf g).2.2.2.1 = nI m := h.1.2.1
  have hf2 : m - (k + 1) < ((tvOf g).2.2.2.1.toInt - (nI k + 1).toInt).toNat + 1 := fuelk hg (nI_1 k) (by omega) (by omega)
  have key := fo_itv (f := lX5_bestPair_39 C (tvOf g) Tr (v1, v2, v3, nI k) n1) ((tvOf g, nI z.1, bst2 z, nI k + 1) : TV × Int32 × Int32 × Int32) (fun (z : Nat × Int32 × Int32) j => (tvOf g, nI z.1, bst2 z, nI j)) (fun z => (tvOf g, nI z.1, bst2 z, nI m)) (bss g m k) (fun z o => bsI m z ∧ k < o) m (fun z o ho hI => ⟨by
    have hc := up_le hg (by omega) ho
    rw [lX5_bestPair_39, if_neg hc]
    simp only []
    rw [can_c h hk ho]
    unfold bss
    by_cases c : ¬ qp g k 2 = -1 ∧ ¬ qp g o 2 = -1 ∧ (¬ qp g k 0 = 0 ∨ qs g (qp g o 2).toNatClampNeg 3 = 0) ∧ (¬ qp g o 0 = 0 ∨ qs g (qp g k 2).toNatClampNeg 3 = 0)
    · rw [if_pos c, if_neg one_ne, if_pos c]
      obtain ⟨i1, hi1, e1, -, -⟩ := (h.sit hk).resolve_left c.1
      obtain ⟨i2, hi2, e2, -, -⟩ := (h.sit ho).resolve_left c.2.1
      have m1 : ¬ qp g k 0 = 0 ∨ qs g i2 3 = 0 := by have := c.2.2.1; rw [e2, nI_clamp (by omega)] at this; exact this
      have m2 : ¬ qp g o 0 = 0 ∨ qs g i1 3 = 0 := by have := c.2.2.2; rw [e1, nI_clamp (by omega)] at this; exact this
      have hko : k ≠ o := by omega
      have t := tk_swap h hk ho hko hi1 hi2 e1 e2 (s := swS g k o) (fun x hx => by rw [swS, e1, e2])
      rw [exch_c g (by omega) (by omega) (by omega) (by omega) e1 e2, swc h hk ho hko hi1 hi2 e1 e2 m1 m2]
      have ek : qp (swRow g k o i1 i2) k 2 = nI i2 := by rw [t.seat hk, swS, if_neg hko, if_pos rfl, e2]
      have eo : qp (swRow g k o i1 i2) o 2 = nI i1 := by rw [t.seat ho, swS, if_pos rfl, e1]
      rw [exch_c (swRow g k o i1 i2) (by omega) (by omega) (by omega) (by omega) ek eo, sw_back h hk ho hko hi1 hi2 e1 e2]
      have b1 := hI.1.1
      have b2 : cpr g (swS g k o) m ≤ 144 := cp_le _ _ hm
      by_cases c2 : z.1 ≤ cpr g (swS g k o) m
      · have c3 : ¬ cpr g (swS g k o) m < z.1 := by omega
        rw [if_pos (nI_le c2 (by omega)), if_neg c3, nI_1]
      · have c3 : cpr g (swS g k o) m < z.1 := by omega
        rw [if_neg (nI_ge c3 (by omega)), if_pos c3, nI_1, bst2_new _ (by omega)]
    · rw [if_neg c, if_pos rfl, if_neg c, nI_1], bss_inv hm hk ho hI.1, by omega⟩) (fun z _ => by
    rw [lX5_bestPair_39, if_pos (at_le hg)]) (m - (k + 1)) (k + 1) z _ (by omega) hf2 ⟨hz, by omega⟩
  rw [← nI_1] at key
  exact ⟨key.1, key.2.1⟩
theorem bp_c {K n m : Nat} (C : CV) {g : Nat → Int32} (h : WT K n m g) (Tr : TV) : fX5_bestPair C (tvOf g) Tr = (bst2 (fo (fun z k => fo (bss g m k) (k + 1) (m - (k + 1)) z) 0 m (cpr g (fun k => qp g k 2) m, -1, -1)), tvOf g) ∧ bsI m (fo (fun z k => fo (bss g m k) (k + 1) (m - (k + 1)) z) 0 m (cpr g (fun k => qp g k 2) m, -1, -1)) := by
  have hn := h.1.2.2.1
  have hm := h.1.2.2.2.1
  have hg : (tvOf g).2.2.2.1 = nI m := h.1.2.1
  have hf := fuel0 hg (by omega)
  have b0 : bsI m ((cpr g (fun k => qp g k 2) m, -1, -1) : Nat × Int32 × Int32) := ⟨cp_le _ _ hm, Or.inl rfl⟩
  have key := fo_itv (f := lX5_bestPair_23 C (tvOf g) Tr (tvOf g)) ((tvOf g, nI (cpr g (fun k => qp g k 2) m), -1, 0) : TV × Int32 × Int32 × Int32) (fun (z : Nat × Int32 × Int32) j => (tvOf g, nI z.1, bst2 z, nI j)) (fun z => (tvOf g, nI z.1, bst2 z, nI m)) (fun z k => fo (bss g m k) (k + 1) (m - (k + 1)) z) (fun z _ => bsI m z) m (fun z k hk hI => by
    have hc := up_le hg (by omega) hk
    obtain ⟨e1, e2⟩ := bp_in C h Tr (tvOf g) hk (tvOf g) (nI z.1) (bst2 z) z hI
    refine ⟨?_, e2⟩
    rw [lX5_bestPair_23, if_neg hc]
    simp only [] at e1 ⊢
    rw [e1, nI_1]) (fun z _ => by
    rw [lX5_bestPair_23, if_pos (at_le hg)]) m 0 (cpr g (fun k => qp g k 2) m, -1, -1) _ (by omega) hf b0
  have key1 : itv (tvOf g, nI (cpr g (fun k => qp g k 2) m), -1, 0) (lX5_bestPair_23 C (tvOf g) Tr (tvOf g)) ((fun v : (TV × Int32 × Int32 × Int32) => ((tvOf g).2.2.2.1.toInt - v.2.2.2.toInt).toNat) (tvOf g, nI (cpr g (fun k => qp g k 2) m), -1, 0) + 1) (tvOf g, nI (cpr g (fun k => qp g k 2) m), -1, 0) = _ := key.1
  refine ⟨?_, key.2⟩
  rw [fX5_bestPair, fX3_copy, cp_c h]
  have : nI (cpr g (fun k => qp g k 2) m) = nI (sf (fun i => sf (fun j => ck g (fun k => qp g k 2) i j) (i + 1) (m - (i + 1))) 0 m) := rfl
  rw [← this, key1]
/-- a fold of which a part goes its own way -/
theorem fo_snd {α β : Type} {st : α × β → Nat → α × β} {s : β → Nat → β} : ∀ {c k : Nat} {z : α × β}, (∀ z i, (st z i).2 = s z.2 i) → (fo st k c z).2 = fo s k c z.2
  | 0, _, _, _ => rfl
  | c + 1, k, z, h => by
    rw [fo, fo, fo_snd h, h]
def swT (S : SV) (g : Nat → Int32) (m k : Nat) (z : (Nat → Int32) × Nat × Int32 × Int32) (o : Nat) : (Nat → Int32) × Nat × Int32 × Int32 :=
  (if ¬ qp g k 2 = -1 ∧ ¬ qp g o 2 = -1 ∧ (¬ qp g k 0 = 0 ∨ qs g (qp g o 2).toNatClampNeg 3 = 0) ∧ (¬ qp g o 0 = 0 ∨ qs g (qp g k 2).toNatClampNeg 3 = 0) then seats (fX6_swaps (sS6 z.1 S) (nI k) (nI o)) else z.1, bss g m k z.2 o)
theorem br_in {K n m : Nat} (S : SV) (h : WT K n m S.1) {k : Nat} (hk : k < m) (v1 : SV) (v2 v3 v4 : Int32) : ∀ z : (Nat → Int32) × Nat × Int32 × Int32, bsI m z.2 → lrun (lX6_bestSwap_34 (v1, v2, v3, v4, nI k)) (glX6_bestSwap_34 (v1, v2, v3, v4, nI k)) (((S.1 (1 : Int32).toNatClampNeg).toInt - (nI k + 1).toInt).toNat + 1) (sS6 z.1 S, nI z.2.1, z.2.2.1, z.2.2.2, nI k + 1) (sS6 (fo (swT S S.1 m k) (k + 1) (m - (k + 1)) z).1 S, nI (fo (swT S S.1 m k) (k + 1) (m - (k + 1)) z).2.1, (fo (swT S S.1 m k) (k + 1) (m - (k + 1)) z).2.2.1, (fo (swT S S.1 m k) (k + 1) (m - (k + 1)) z).2.2.2, nI m) ∧ bsI m (fo (swT S S.1 m k) (k + 1) (m - (k + 1)) z).2 := by
  intro z hz
  have hn := h.1.2.2.1
  have hm := h.1.2.2.2.1
  have v1' : vp_in 1 114 := gHd (j := 1) rfl (by omega)
  have hg : S.1 (1 : Int32).toNatClampNeg = nI m := by rw [c1]; exact h.1.2.1
  have hf2 : m - (k + 1) < ((S.1 (1 : Int32).toNatClampNeg).toInt - (nI k + 1).toInt).toNat + 1 := fuelk hg (nI_1 k) (by omega) (by omega)
  have key := fo_loop (f := lX6_bestSwap_34 (v1, v2, v3, v4, nI k)) (P := glX6_bestSwap_34 (v1, v2, v3, v4, nI k)) (fun (z : (Nat → Int32) × Nat × Int32 × Int32) j => (sS6 z.1 S, nI z.2.1, z.2.2.1, z.2.2.2, nI j)) (fun z => (sS6 z.1 S, nI z.2.1, z.2.2.1, z.2.2.2, nI m)) (swT S S.1 m k) (fun z o => bsI m z.2 ∧ k < o) m (fun z o ho hI => by
    have hc : ¬ (sS6 z.1 S).1 (1 : Int32).toNatClampNeg ≤ nI o := up_le hg (by omega) ho
    obtain ⟨cr1, cr2⟩ := can_r (sS6 z.1 S) (K := K) (n := n) (m := m) h hk ho
    replace cr1 : fX6_canSwap (sS6 z.1 S) (nI k) (nI o) = (if ¬ qp S.1 k 2 = -1 ∧ ¬ qp S.1 o 2 = -1 ∧ (¬ qp S.1 k 0 = 0 ∨ qs S.1 (qp S.1 o 2).toNatClampNeg 3 = 0) ∧ (¬ qp S.1 o 0 = 0 ∨ qs S.1 (qp S.1 k 2).toNatClampNeg 3 = 0) then 1 else 0) := cr1
    rw [glX6_bestSwap_34, lX6_bestSwap_34, if_neg hc, if_neg hc]
    simp only []
    rw [cr1]
    have inv : bsI m (swT S S.1 m k z o).2 ∧ k < o + 1 := ⟨bss_inv hm hk ho hI.1, by omega⟩
    unfold swT bss at inv ⊢
    by_cases c : ¬ qp S.1 k 2 = -1 ∧ ¬ qp S.1 o 2 = -1 ∧ (¬ qp S.1 k 0 = 0 ∨ qs S.1 (qp S.1 o 2).toNatClampNeg 3 = 0) ∧ (¬ qp S.1 o 0 = 0 ∨ qs S.1 (qp S.1 k 2).toNatClampNeg 3 = 0)
    · rw [if_pos c, if_pos c] at inv
      rw [if_pos c, if_neg one_ne, if_neg one_ne, if_pos c, if_pos c]
      obtain ⟨i1, hi1, e1, -, -⟩ := (h.sit hk).resolve_left c.1
      obtain ⟨i2, hi2, e2, -, -⟩ := (h.sit ho).resolve_left c.2.1
      obtain ⟨s', w1, w2, w3, w4, -⟩ := sw_r (sS6 z.1 S) (K := K) (n := n) (m := m) h hk ho (by omega) hi1 hi2 e1 e2
      have w1' : fX6_swaps (sS6 z.1 S) (nI k) (nI o) = sS6 s' S := w1
      obtain ⟨t1, t2⟩ := ct_r (sS6 s' S) (K := K) (n := n) (m := m) h w3
      have te : fX6_clashesTried (sS6 s' S) = nI (cpr S.1 (swS S.1 k o) m) := by
        rw [t1]
        congr 1
        exact cp_cong hn (fun _ _ => rfl) (fun _ _ => rfl) (fun x hx => by
          show s' x = swS S.1 k o x
          rw [w4 x hx, swS, e1, e2]; rfl) w3
      rw [w1'] at inv ⊢
      rw [te]
      have b1 := hI.1.1
      have b2 : cpr S.1 (swS S.1 k o) m ≤ 144 := cp_le _ _ hm
      refine ⟨⟨v1', cr2, w2, t2, trivial⟩, ?_, inv⟩
      by_cases c2 : cpr S.1 (swS S.1 k o) m < z.2.1
      · rw [if_pos (nI_lt c2 (by omega)), if_pos c2, nI_1]; rfl
      · rw [if_neg (nI_nlt (show z.2.1 ≤ cpr S.1 (swS S.1 k o) m by omega) (by omega)), if_neg c2, nI_1]; rfl
    · rw [if_neg c, if_neg c] at inv
      rw [if_neg c, if_pos rfl, if_pos rfl, if_neg c, if_neg c]
      exact ⟨⟨v1', cr2, trivial⟩, by rw [nI_1], inv⟩) (fun z _ => by
    have hc : (sS6 z.1 S).1 (1 : Int32).toNatClampNeg ≤ nI m := at_le hg
    exact ⟨by rw [glX6_bestSwap_34, if_pos hc]; exact ⟨v1', trivial⟩, by rw [lX6_bestSwap_34, if_pos hc]⟩) (m - (k + 1)) (k + 1) z _ (by omega) hf2 ⟨hz, by omega⟩
  rw [← nI_1] at key
  exact ⟨key.1, key.2.1⟩
theorem bw_r {K n m : Nat} (S : SV) (h : WT K n m S.1) (x : Int32) : ∃ s', ∀ Z, Z = fo (fun z k => fo (bss S.1 m k) (k + 1) (m - (k + 1)) z) 0 m (cpr S.1 (fun k => qp S.1 k 2) m, -1, -1) → bsI m Z ∧ gX6_bestSwap S x ∧ fX6_bestSwap S x = if 0 ≤ Z.2.1 then ((if x = 0 then Z.2.1 else Z.2.2), sS11 0 (sS12 0 (sS6 s' S))) else (0, sS11 0 (sS12 1 (sS6 s' S))) := by
  have hn := h.1.2.2.1
  have hm := h.1.2.2.2.1
  have v1' : vp_in 1 114 := gHd (j := 1) rfl (by omega)
  have hg : S.1 (1 : Int32).toNatClampNeg = nI m := by rw [c1]; exact h.1.2.1
  obtain ⟨s0, l1, l2, l3⟩ := ls_r S h.1.2.1 hm
  have hs0 : SE n m (seats (sS6 s0 S)) := fun k hk => by
    show s0 k = -1 ∨ ∃ i, i < n ∧ s0 k = nI i
    rw [l3 k, if_pos hk]; exact h.se k hk
  obtain ⟨t1, t2⟩ := ct_r (sS6 s0 S) (K := K) (n := n) (m := m) h hs0
  have te : fX6_clashesTried (sS6 s0 S) = nI (cpr S.1 (fun k => qp S.1 k 2) m) := by
    rw [t1]
    congr 1
    exact cp_cong hn (fun _ _ => rfl) (fun _ _ => rfl) (fun k hk => by
      show s0 k = qp S.1 k 2
      rw [l3 k, if_pos hk]) hs0
  have hf := fuel0 (x := (sS6 s0 S).1 (1 : Int32).toNatClampNeg) (n := m) hg (by omega)
  have b0 : bsI m ((cpr S.1 (fun k => qp S.1 k 2) m, -1, -1) : Nat × Int32 × Int32) := ⟨cp_le _ _ hm, Or.inl rfl⟩
  obtain ⟨key, inv⟩ := fo_loop (f := lX6_bestSwap_17) (P := glX6_bestSwap_17) (fun (z : (Nat → Int32) × Nat × Int32 × Int32) j => (sS6 z.1 S, nI z.2.1, z.2.2.1, z.2.2.2, nI j)) (fun z => (sS6 z.1 S, nI z.2.1, z.2.2.1, z.2.2.2, nI m)) (fun z k => fo (swT S S.1 m k) (k + 1) (m - (k + 1)) z) (fun z _ => bsI m z.2) m (fun z k hk hI => by
    have hc : ¬ (sS6 z.1 S).1 (1 : Int32).toNatClampNeg ≤ nI k := up_le hg (by omega) hk
    obtain ⟨e1, e2⟩ := br_in S h hk (sS6 z.1 S) (nI z.2.1) z.2.2.1 z.2.2.2 z hI
    refine ⟨?_, ?_, e2⟩
    · rw [glX6_bestSwap_17, if_neg hc]
      exact ⟨v1', ⟨_, e1⟩, trivial⟩
    · rw [lX6_bestSwap_17, if_neg hc]
      have e3 : itv (sS6 z.1 S, nI z.2.1, z.2.2.1, z.2.2.2, (nI k + 1)) (lX6_bestSwap_34 (sS6 z.1 S, nI z.2.1, z.2.2.1, z.2.2.2, nI k)) ((fun w : (SV × Int32 × Int32 × Int32 × Int32) => ((w.1.1 (1 : Int32).toNatClampNeg).toInt - w.2.2.2.2.toInt).toNat) (sS6 z.1 S, nI z.2.1, z.2.2.1, z.2.2.2, (nI k + 1)) + 1) (sS6 z.1 S, nI z.2.1, z.2.2.1, z.2.2.2, (nI k + 1)) = _ := lrun_itv e1
      simp only [] at e3 ⊢
      rw [e3, nI_1]) (fun z _ => by
    have hc : (sS6 z.1 S).1 (1 : Int32).toNatClampNeg ≤ nI m := at_le hg
    exact ⟨by rw [glX6_bestSwap_17, if_pos hc]; exact ⟨v1', trivial⟩, by rw [lX6_bestSwap_17, if_pos hc]⟩) m 0 (s0, cpr S.1 (fun k => qp S.1 k 2) m, -1, -1) _ (by omega) hf b0
  have e2 : (fo (fun z k => fo (swT S S.1 m k) (k + 1) (m - (k + 1)) z) 0 m (s0, cpr S.1 (fun k => qp S.1 k 2) m, -1, -1)).2 = fo (fun z k => fo (bss S.1 m k) (k + 1) (m - (k + 1)) z) 0 m (cpr S.1 (fun k => qp S.1 k 2) m, -1, -1) := fo_snd (fun z k => fo_snd (fun z o => rfl))
  generalize fo (fun z k => fo (swT S S.1 m k) (k + 1) (m - (k + 1)) z) 0 m (s0, cpr S.1 (fun k => qp S.1 k 2) m, -1, -1) = zz at key inv e2
  refine ⟨zz.1, fun Z hZ => ?_⟩
  rw [← e2] at hZ
  subst hZ
  have w1 : itv ((fX6_laysSeats S), (fX6_clashesTried (fX6_laysSeats S)), (-1 : Int32), (-1 : Int32), (0 : Int32)) lX6_bestSwap_17 ((fun v : (SV × Int32 × Int32 × Int32 × Int32) => ((v.1.1 (1 : Int32).toNatClampNeg).toInt - v.2.2.2.2.toInt).toNat) ((fX6_laysSeats S), (fX6_clashesTried (fX6_laysSeats S)), (-1), (-1), 0) + 1) ((fX6_laysSeats S), (fX6_clashesTried (fX6_laysSeats S)), (-1), (-1), 0) = (sS6 zz.1 S, nI zz.2.1, zz.2.2.1, zz.2.2.2, nI m) := by
    rw [l1, te]; exact lrun_itv key
  rw [fX6_bestSwap, gX6_bestSwap, w1]
  refine ⟨inv, ⟨l2, by rw [l1]; exact t2, ⟨_, by rw [l1, te]; exact key⟩, trivial⟩, ?_⟩
  by_cases c : 0 ≤ zz.2.2.1
  · rw [if_pos c, if_pos c]
    by_cases x0 : x = 0
    · rw [if_pos x0, if_pos x0, fl0]
    · rw [if_neg x0, if_neg x0, fl0]
  · rw [if_neg c, if_neg c, fl1]
