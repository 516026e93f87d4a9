/-! Brawls: the loops -/
def bst (g : Nat → Int32) (a e m : Nat) (z : (Nat → Int32) × (Nat → Int32) × Int32) (p : Nat) : (Nat → Int32) × (Nat → Int32) × Int32 :=
  if atR g m (nI p) = -1 then z else
  if inR a e (qp g (atR g m (nI p)).toNatClampNeg 2) = false then z else
  (tkRow z.1 (atR g m (nI p)).toNatClampNeg (fo (hst z.1 (atR g m (nI p)).toNatClampNeg) a (e - a) (-1)), upd z.2.1 (atR g m (nI p)).toNatClampNeg (fo (hst z.1 (atR g m (nI p)).toNatClampNeg) a (e - a) (-1)), if fo (hst z.1 (atR g m (nI p)).toNatClampNeg) a (e - a) (-1) = qp g (atR g m (nI p)).toNatClampNeg 2 then z.2.2 + 0 else z.2.2 + 1)
def bI (g : Nat → Int32) (a e n m : Nat) (z : (Nat → Int32) × (Nat → Int32) × Int32) (p : Nat) : Prop := BR g a e n m p z.1 z.2.1 ∧ 0 ≤ z.2.2.toInt ∧ z.2.2.toInt ≤ p
theorem cnt_up {x : Int32} {p : Nat} {c : Prop} [Decidable c] (h1 : 0 ≤ x.toInt) (h2 : x.toInt ≤ p) (hp : p ≤ 100000) : 0 ≤ (if c then x + 0 else x + 1).toInt ∧ (if c then x + 0 else x + 1).toInt ≤ ((p + 1 : Nat) : Int) := by
  have e : (x + 1).toInt = x.toInt + 1 := addI rfl o1I (by omega) (by omega)
  split
  · rw [Int32.add_zero]; omega
  · rw [e]; omega
theorem not_inR {a e : Nat} {x : Int32} (h : inR a e x = false) : x < nI a ∨ (¬ x < nI a ∧ nI e - 1 < x) := by
  have := of_decide_eq_false h
  by_cases h1 : x < nI a
  · exact Or.inl h1
  · refine Or.inr ⟨h1, ?_⟩
    by_cases h2 : nI e - 1 < x
    · exact h2
    · exact absurd ⟨h1, h2⟩ this
theorem take_tk (q : Nat → Int32) {a e k : Nat} (hk : k < 12) (he : e ≤ 12) {f : Int32} (hf : hsI q a k f e) : fX3_take (tvOf q) (nI k) f = tvOf (tkRow q k f) := by
  rcases hf with hf | ⟨i, f1, f2, hf, -, -⟩
  · rw [tkRow, if_pos hf, hf, fX3_take, tv_setS_none, tv_setP q (w := 2) (y := 2) (-1) hk (by decide) rfl]
  · have fm : ¬ f = -1 := by rw [hf]; exact nI_m1 (by omega)
    rw [tkRow, if_neg fm, hf, take_c q hk (show i < 12 by omega), nI_clamp (by omega)]
theorem bst_inv {g : Nat → Int32} {a e n m : Nat} (hn : n ≤ 12) (hm : m ≤ 12) (ha : a ≤ e) (he : e ≤ n) (hrw : RW m g) (hh : ∀ i, i < n → 1 ≤ (qs g i 0).toInt) {z : (Nat → Int32) × (Nat → Int32) × Int32} {p : Nat} (hp : p < m) (h : bI g a e n m z p) (hg0 : z.1 0 = nI n) : bI g a e n m (bst g a e m z p) (p + 1) := by
  obtain ⟨h1, h2, h3⟩ := h
  unfold bst
  rcases atR_cases g (m := m) (p := p) hm (by omega) with ⟨e1, e2⟩ | ⟨k, hk, e1, e2⟩
  · rw [if_pos e1]
    exact ⟨h1.skip (fun k hk z => absurd z (e2 k hk)), h2, by omega⟩
  · have em : ¬ atR g m (nI p) = -1 := by rw [e1]; exact nI_m1 (by omega)
    rw [if_neg em, e1, nI_clamp (by omega)]
    cases hr : inR a e (qp g k 2) with
    | false =>
      rw [if_pos rfl]
      refine ⟨h1.skip (fun x hx z => ?_), h2, by omega⟩
      rw [cn_inj g hx hk (z.trans e2.symm)]; exact hr
    | true =>
      rw [if_neg (by decide)]
      have hf := (hf_c (q := z.1) (n := n) (a := a) (e := e) (k := k) hg0 hn ha he (by omega) (by rw [h1.qP hn (by omega)]; exact (hrw k hk).1.1) (fun i hi => by rw [h1.qS (by omega) (by omega)]; exact hh i hi)).2
      have cu := cnt_up (c := fo (hst z.1 k) a (e - a) (-1) = qp g k 2) h2 h3 (by omega)
      exact ⟨h1.sit hn hm he hk e2 hr hf, cu.1, cu.2⟩
/-- the class's brawl -/
theorem bs_c {K n m a e : Nat} {g : Nat → Int32} (h : WT K n m g) (ha : a ≤ e) (he : e ≤ n) (s0 : Nat → Int32) (hs : ∀ k, k < m → s0 k = if inR a e (qp g k 2) = true then -1 else qp g k 2) :
    ∃ gc, fX3_seatAnew (tvOf g) (nI a) (nI e - 1) = ((fo (bst g a e m) 0 m (gc, s0, 0)).2.2, tvOf (fo (bst g a e m) 0 m (gc, s0, 0)).1) ∧ bI g a e n m (gc, s0, 0) 0 ∧ bI g a e n m (fo (bst g a e m) 0 m (gc, s0, 0)) m := by
  have hn := h.1.2.2.1
  have hm := h.1.2.2.2.1
  have hg : (tvOf g).2.2.1 = nI n := h.1.1
  have hf0 := fuelk (x := (tvOf g).2.2.1) (y := nI a) (n := n) (k := a) hg rfl (by omega) (by omega)
  obtain ⟨k1, i1⟩ := fo_itv (f := lX3_seatAnew_2 (tvOf g) (nI a) (nI e - 1)) ((tvOf g, nI a) : TV × Int32) (fun (q : Nat → Int32) j => (tvOf q, nI j)) (fun q => (tvOf q, nI e)) (fun q j => upd q (6 + (6 * j + 5)) (-1)) (fun q j => a ≤ j ∧ (∀ i, a ≤ i → i < j → q (6 + (6 * i + 5)) = -1) ∧ (∀ z, (∀ i, a ≤ i → i < j → z ≠ 6 + (6 * i + 5)) → q z = g z)) e (fun q j hj hI => ⟨by
    have hc1 : ¬ (nI e - 1) < nI j := by rw [lt_e (by omega) (by omega)]; omega
    have hq : (tvOf q).2.2.1 = nI n := (hI.2.2 0 (fun i _ _ => by omega)).trans h.1.1
    have hc2 := up_le hq (by omega) (show j < n by omega)
    rw [lX3_seatAnew_2, if_neg hc1, if_neg hc2, nI_1]
    simp only []
    rw [tv_setS q (w := 5) (y := 5) (-1) (show j < 12 by omega) (by decide) rfl], by omega, fun i a1 a2 => by
    by_cases hij : i = j
    · rw [hij]; exact upd_same _ _ _
    · rw [upd_ne _ _ (by omega)]; exact hI.2.1 i a1 (by omega), fun z hz => by
    rw [upd_ne _ _ (hz j hI.1 (by omega))]
    exact hI.2.2 z (fun i a1 a2 => hz i a1 (by omega))⟩) (fun q _ => by
    have hc1 : (nI e - 1) < nI e := by rw [lt_e (by omega) (by omega)]; omega
    rw [lX3_seatAnew_2, if_pos hc1]) (e - a) a g _ (by omega) (show e - a < ((tvOf g).2.2.1.toInt - (nI a).toInt).toNat + 1 by omega) ⟨Nat.le_refl _, fun i a1 a2 => absurd a1 (by omega), fun _ _ => rfl⟩
  generalize fo (fun q j => upd q (6 + (6 * j + 5)) (-1)) a (e - a) g = gc at k1 i1
  have k1' : itv (tvOf g, nI a) (lX3_seatAnew_2 (tvOf g) (nI a) (nI e - 1)) ((fun v : (TV × Int32) => (v.1.2.2.1.toInt - v.2.toInt).toNat) (tvOf g, nI a) + 1) (tvOf g, nI a) = (tvOf gc, nI e) := k1
  have b0 : bI g a e n m (gc, s0, 0) 0 := ⟨BR.start h he i1.2.1 i1.2.2 hs ha, by rw [show ((gc, s0, (0 : Int32)) : (Nat → Int32) × (Nat → Int32) × Int32).2.2 = 0 from rfl, z0]; omega, by rw [show ((gc, s0, (0 : Int32)) : (Nat → Int32) × (Nat → Int32) × Int32).2.2 = 0 from rfl, z0]; omega⟩
  have hgc : (tvOf gc).2.2.2.1 = nI m := (b0.1.hd (c := 1) (by omega)).trans h.1.2.1
  have hf2 := fuel0 (x := (tvOf gc).2.2.2.1) (n := m) hgc (by omega)
  obtain ⟨k2, i2⟩ := fo_itv (f := lX3_seatAnew_33 (tvOf g) (nI a) (nI e - 1)) ((tvOf gc, 0, 0) : TV × Int32 × Int32) (fun (z : (Nat → Int32) × (Nat → Int32) × Int32) j => (tvOf z.1, z.2.2, nI j)) (fun z => (tvOf z.1, z.2.2, nI m)) (bst g a e m) (bI g a e n m) m (fun z p hp hI => by
    have hq0 : z.1 0 = nI n := (hI.1.hd (c := 0) (by omega)).trans h.1.1
    have hq1 : z.1 1 = nI m := (hI.1.hd (c := 1) (by omega)).trans h.1.2.1
    have hI2 := bst_inv hn hm ha he h.rw (fun i hi => (h.2.1 i hi).1.1) hp hI hq0
    refine ⟨?_, hI2⟩
    have hc : ¬ (tvOf z.1).2.2.2.1 ≤ nI p := up_le hq1 (by omega) hp
    have hrq : RW m z.1 := fun k hk => by rw [hI.1.qP hn (by omega), hI.1.qP hn (by omega)]; exact h.rw k hk
    have hat : fX3_rankedAt (tvOf z.1) (nI p) = atR g m (nI p) := (at_c hq1 hm hrq (nI p)).trans (atR_cong (fun j w _ hw => hI.1.qP hn hw) _)
    rw [lX3_seatAnew_33, if_neg hc]
    simp only [hat]
    unfold bst
    rcases atR_cases g (m := m) (p := p) hm (by omega) with ⟨e1, e2⟩ | ⟨k, hk, e1, e2⟩
    · have hlt : fX3_ofSitter (tvOf z.1) (-1) 2 < nI a := by
        rw [rP_none, Int32.lt_iff_toInt_lt, nI_toInt (by omega), show (-1 : Int32).toInt = -1 by decide]; omega
      rw [e1, if_pos hlt, if_pos rfl, nI_1]
    · have em : ¬ nI k = -1 := nI_m1 (by omega)
      rw [e1, if_neg em, nI_clamp (by omega), rP z.1 (w := 2) (y := 2) (show k < 12 by omega) (by decide) rfl]
      obtain ⟨b1, b2, b3⟩ := hI.1.2.1 k hk
      cases hr : inR a e (qp g k 2) with
      | false =>
        rw [if_pos rfl, (b2 hr).2]
        rcases not_inR hr with c | ⟨c, c2⟩
        · rw [if_pos c, nI_1]
        · rw [if_neg c, if_pos c2, nI_1]
      | true =>
        have hr2 := of_decide_eq_true hr
        rw [if_neg (show ¬ true = false by decide), (b1 ⟨hr, by omega⟩).2, if_neg hr2.1, if_neg hr2.2]
        obtain ⟨f1, f2⟩ := hf_c (q := z.1) (n := n) (a := a) (e := e) (k := k) hq0 hn ha he (by omega) (hrq k hk).1.1 (fun i hi => by rw [hI.1.qS (by omega) (by omega)]; exact (h.2.1 i hi).1.1)
        rw [f1, take_tk z.1 (show k < 12 by omega) (show e ≤ 12 by omega) f2]
        by_cases c : fo (hst z.1 k) a (e - a) (-1) = qp g k 2
        · rw [if_pos c, if_pos c, nI_1]
        · rw [if_neg c, if_neg c, nI_1]) (fun z hI => by
    have hq1 : z.1 1 = nI m := (hI.1.hd (c := 1) (by omega)).trans h.1.2.1
    have hc : (tvOf z.1).2.2.2.1 ≤ nI m := at_le hq1
    rw [lX3_seatAnew_33, if_pos hc]) m 0 (gc, s0, 0) _ (by omega) hf2 b0
  refine ⟨gc, ?_, b0, i2⟩
  have k2' : itv (tvOf gc, (0 : Int32), (0 : Int32)) (lX3_seatAnew_33 (tvOf g) (nI a) (nI e - 1)) ((fun v : (TV × Int32 × Int32) => (v.1.2.2.2.1.toInt - v.2.2.toInt).toNat) (tvOf gc, 0, 0) + 1) (tvOf gc, 0, 0) = (tvOf (fo (bst g a e m) 0 m (gc, s0, 0)).1, (fo (bst g a e m) 0 m (gc, s0, 0)).2.2, nI m) := k2
  rw [fX3_seatAnew, k1', k2']
/-- the reference's brawl, over a row that differs in the number of brawls at most -/
theorem bs_r {K n m a e : Nat} {g : Nat → Int32} (S : SV) (h : WT K n m g) (hS : ∀ j, j ≠ 4 → S.1 j = g j) (ha : a ≤ e) (he : e ≤ n) :
    ∃ s0, (∀ k, k < m → s0 k = if inR a e (qp g k 2) = true then -1 else qp g k 2) ∧ ∀ gc, bI g a e n m (gc, s0, 0) 0 → fX6_reseats S (nI a) (nI e - 1) = ((fo (bst g a e m) 0 m (gc, s0, 0)).2.2, sS6 (fo (bst g a e m) 0 m (gc, s0, 0)).2.1 S) ∧ gX6_reseats S (nI a) (nI e - 1) := by
  have hn := h.1.2.2.1
  have hm := h.1.2.2.2.1
  have v1 : vp_in 1 114 := gHd (j := 1) rfl (by omega)
  have hS1 : S.1 1 = nI m := (hS 1 (by omega)).trans h.1.2.1
  have hSp : ∀ k w, qp S.1 k w = qp g k w := fun k w => hS _ (by omega)
  have hSs : ∀ i w, qs S.1 i w = qs g i w := fun i w => hS _ (by omega)
  obtain ⟨sl, l1, l2, l3⟩ := ls_r S hS1 hm
  have hg : S.1 (1 : Int32).toNatClampNeg = nI m := by rw [c1]; exact hS1
  have hf := fuel0 (x := (sS6 sl S).1 (1 : Int32).toNatClampNeg) (n := m) hg (by omega)
  -- who is up
  obtain ⟨k1, i1⟩ := fo_loop (f := lX6_reseats_9 (nI a) (nI e - 1)) (P := glX6_reseats_9 (nI a) (nI e - 1)) (fun (z : (Nat → Int32) × Int32) j => (sS6 z.1 S, z.2, nI j)) (fun z => (sS6 z.1 S, z.2, nI m)) (fun z j => if inR a e (z.1 j) = true then (upd z.1 j (-1), z.2 ||| (1 <<< (nI j &&& 31))) else z) (fun z j => (∀ k, k < m → z.1 k = if k < j ∧ inR a e (qp g k 2) = true then -1 else qp g k 2) ∧ ∀ i, i < 32 → bt z.2 i = decide (i < j ∧ inR a e (qp g i 2) = true)) m (fun z j hj hI => by
    have hc : ¬ (sS6 z.1 S).1 (1 : Int32).toNatClampNeg ≤ nI j := up_le hg (by omega) hj
    have ej : (sS6 z.1 S).2.2.2.2.2.2.1 (nI j).toNatClampNeg = z.1 j := by rw [nI_clamp (by omega)]; rfl
    have zj : z.1 j = qp g j 2 := by rw [hI.1 j hj, if_neg (by omega)]
    rw [glX6_reseats_9, lX6_reseats_9, if_neg hc, if_neg hc, ej, in_r]
    cases hr : inR a e (z.1 j) with
    | true =>
      rw [if_pos rfl, if_neg one_ne, if_neg one_ne, if_pos rfl]
      refine ⟨⟨v1, vp_in_nI (by omega) (by omega), vp_in_nI (by omega) (by omega), trivial⟩, ?_, fun k hk => ?_, fun i hi => ?_⟩
      · simp only []
        rw [nI_clamp (by omega), nI_1]; rfl
      · show (if k = j then (-1 : Int32) else z.1 k) = _
        by_cases hkj : k = j
        · rw [if_pos hkj, if_pos ⟨by omega, by rw [hkj, ← zj]; exact hr⟩]
        · rw [if_neg hkj, hI.1 k hk]
          by_cases c : k < j ∧ inR a e (qp g k 2) = true
          · rw [if_pos c, if_pos ⟨by omega, c.2⟩]
          · rw [if_neg c, if_neg (fun y => c ⟨by omega, y.2⟩)]
      · show bt (z.2 ||| (1 <<< (nI j &&& 31))) i = _
        rw [bt_or, sh1 j (by omega), bt_two (show j < 12 by omega), hI.2 i hi]
        by_cases hij : j = i
        · subst hij
          rw [decide_eq_true (show j = j from rfl), Bool.or_true, decide_eq_true ⟨by omega, by rw [← zj]; exact hr⟩]
        · rw [decide_eq_false hij, Bool.or_false]
          by_cases c : i < j ∧ inR a e (qp g i 2) = true
          · rw [decide_eq_true c, decide_eq_true ⟨by omega, c.2⟩]
          · rw [decide_eq_false c, decide_eq_false (fun y => c ⟨by omega, y.2⟩)]
    | false =>
      rw [if_neg Bool.false_ne_true, if_pos rfl, if_pos rfl, if_neg Bool.false_ne_true]
      refine ⟨⟨v1, vp_in_nI (by omega) (by omega), trivial⟩, by rw [nI_1], fun k hk => ?_, fun i hi => ?_⟩
      · rw [hI.1 k hk]
        by_cases c : k < j ∧ inR a e (qp g k 2) = true
        · rw [if_pos c, if_pos ⟨by omega, c.2⟩]
        · rw [if_neg c, if_neg (fun y => c ⟨by
            rcases Nat.lt_or_ge k j with w | w
            · exact w
            · exfalso
              have : k = j := by omega
              subst this
              rw [zj, y.2] at hr
              exact Bool.false_ne_true hr.symm, y.2⟩)]
      · rw [hI.2 i hi]
        by_cases c : i < j ∧ inR a e (qp g i 2) = true
        · rw [decide_eq_true c, decide_eq_true ⟨by omega, c.2⟩]
        · rw [decide_eq_false c, decide_eq_false (fun y => c ⟨by
            rcases Nat.lt_or_ge i j with w | w
            · exact w
            · exfalso
              have : i = j := by omega
              subst this
              rw [zj, y.2] at hr
              exact Bool.false_ne_true hr.symm, y.2⟩)]) (fun z _ => by
    have hc : (sS6 z.1 S).1 (1 : Int32).toNatClampNeg ≤ nI m := at_le hg
    exact ⟨by rw [glX6_reseats_9, if_pos hc]; exact ⟨v1, trivial⟩, by rw [lX6_reseats_9, if_pos hc]⟩) m 0 (sl, 0) _ (by omega) hf ⟨fun k hk => by rw [if_neg (by omega)]; show sl k = _; rw [l3 k, if_pos hk, hSp], fun i _ => by rw [decide_eq_false (by omega)]; exact bt_zero i⟩
  generalize fo (fun (z : (Nat → Int32) × Int32) j => if inR a e (z.1 j) = true then (upd z.1 j (-1), z.2 ||| (1 <<< (nI j &&& 31))) else z) 0 m (sl, 0) = z1 at k1 i1
  obtain ⟨s0, up⟩ := z1
  obtain ⟨i2, i3⟩ := i1
  replace i2 : ∀ k, k < m → s0 k = if inR a e (qp g k 2) = true then -1 else qp g k 2 := fun k hk => by
    have := i2 k hk
    rw [show ((s0, up) : (Nat → Int32) × Int32).1 k = s0 k from rfl] at this
    rw [this]
    by_cases c : inR a e (qp g k 2) = true
    · rw [if_pos ⟨hk, c⟩, if_pos c]
    · rw [if_neg (fun y => c y.2), if_neg c]
  replace i3 : ∀ i, i < 32 → bt up i = decide (i < m ∧ inR a e (qp g i 2) = true) := i3
  refine ⟨s0, i2, fun gc b0 => ?_⟩
  have k1' : itv ((fX6_laysSeats S), (0 : Int32), (0 : Int32)) (lX6_reseats_9 (nI a) (nI e - 1)) ((fun v : (SV × Int32 × Int32) => ((v.1.1 (1 : Int32).toNatClampNeg).toInt - v.2.2.toInt).toNat) ((fX6_laysSeats S), 0, 0) + 1) ((fX6_laysSeats S), 0, 0) = (sS6 s0 S, up, nI m) := by
    rw [l1]; exact lrun_itv k1
  have hf2 := fuel0 (x := (sS6 s0 S).1 (1 : Int32).toNatClampNeg) (n := m) hg (by omega)
  obtain ⟨k2, i4⟩ := fo_loop (f := lX6_reseats_65 (nI a) (nI e - 1) (sS6 s0 S, up, nI m)) (P := glX6_reseats_65 (nI a) (nI e - 1) (sS6 s0 S, up, nI m)) (fun (z : (Nat → Int32) × (Nat → Int32) × Int32) j => (sS6 z.2.1 S, z.2.2, nI j)) (fun z => (sS6 z.2.1 S, z.2.2, nI m)) (bst g a e m) (bI g a e n m) m (fun z p hp hI => by
    have hq0 : z.1 0 = nI n := (hI.1.hd (c := 0) (by omega)).trans h.1.1
    have hI2 := bst_inv hn hm ha he h.rw (fun i hi => (h.2.1 i hi).1.1) hp hI hq0
    have hc : ¬ (sS6 z.2.1 S).1 (1 : Int32).toNatClampNeg ≤ nI p := up_le hg (by omega) hp
    have hrq : RW m (sS6 z.2.1 S).1 := fun k hk => by
      have e0 : ∀ w, qp (sS6 z.2.1 S).1 k w = qp g k w := hSp k
      rw [e0 0, e0 1]; exact h.rw k hk
    obtain ⟨at1, at2⟩ := at_r (sS6 z.2.1 S) hS1 hm hrq (nI p)
    have hat : fX6_atPlace (sS6 z.2.1 S) (nI p) = atR g m (nI p) := at1.trans (atR_cong (fun j w _ _ => hSp j w) _)
    rw [glX6_reseats_65, lX6_reseats_65, if_neg hc, if_neg hc]
    simp only [hat]
    rcases atR_cases g (m := m) (p := p) hm (by omega) with ⟨e1, e2⟩ | ⟨k, hk, e1, e2⟩
    · have hb : ((up >>> (atR g m (nI p) &&& 31)) &&& 1) = 0 := by
        rw [e1, sh3, bt_test (j := 31) (by decide) rfl, i3 31 (by omega), decide_eq_false (by omega)]
      rw [if_pos hb, if_pos hb]
      refine ⟨⟨v1, at2, trivial⟩, ?_, hI2⟩
      rw [bst, if_pos e1, nI_1]
    · have em : ¬ nI k = -1 := nI_m1 (by omega)
      have hb : ((up >>> (nI k &&& 31)) &&& 1) = 0 ↔ inR a e (qp g k 2) = false := by
        rw [sh2 k (by omega), bt_test (j := k) (show k < 32 by omega) rfl, i3 k (by omega)]
        cases hr : inR a e (qp g k 2) with
        | true => rw [decide_eq_true ⟨hk, rfl⟩]
        | false => rw [decide_eq_false (fun y => Bool.false_ne_true y.2)]
      unfold bst at hI2 ⊢
      rw [e1, if_neg em, nI_clamp (by omega)] at hI2 ⊢
      cases hr : inR a e (qp g k 2) with
      | false =>
        rw [hr, if_pos rfl] at hI2
        rw [if_pos (hb.mpr hr), if_pos (hb.mpr hr), if_pos rfl]
        exact ⟨⟨v1, at2, trivial⟩, by rw [nI_1], hI2⟩
      | true =>
        have hb2 : ¬ ((up >>> (nI k &&& 31)) &&& 1) = 0 := fun y => by rw [hb.mp y] at hr; exact Bool.false_ne_true hr
        rw [hr, if_neg (show ¬ true = false by decide)] at hI2
        rw [if_neg hb2, if_neg hb2, if_neg (show ¬ true = false by decide)]
        obtain ⟨f1, f2⟩ := sf_r (q := z.1) (sS6 z.2.1 S) hS1 hn hm ha he hk (fun i w _ hw => by
          show qs S.1 i w = _
          rw [hSs, hI.1.qS (by omega) hw]) (fun w hw => by
          show qp S.1 k w = _
          rw [hSp, hI.1.qP hn hw]) (fun i hi => hI.1.free hm hi)
        have eb : ∀ S' : SV, S'.1 = S.1 → fX6_by S' (nI k) 2 = qp g k 2 := fun S' q => by rw [rB S' (w := 2) (y := 2) (by omega) (by decide) rfl, q, hSp]
        rw [f1, eb (sS6 (upd (sS6 z.2.1 S).2.2.2.2.2.2.1 k (fo (hst z.1 k) a (e - a) (-1))) (sS6 z.2.1 S)) rfl]
        have us : ∀ (s' : Nat → Int32) (f : Int32), upd s' k f k = f := fun s' f => upd_same _ _ _
        rw [us]
        refine ⟨⟨v1, at2, f2, vp_in_nI (by omega) (by omega), vp_in_nI (by omega) (by omega), gB _ (by omega) (by decide) rfl, trivial⟩, ?_, hI2⟩
        by_cases c : fo (hst z.1 k) a (e - a) (-1) = qp g k 2
        · rw [if_pos c, if_pos c, nI_1]; rfl
        · rw [if_neg c, if_neg c, nI_1]; rfl) (fun z _ => by
    have hc : (sS6 z.2.1 S).1 (1 : Int32).toNatClampNeg ≤ nI m := at_le hg
    exact ⟨by rw [glX6_reseats_65, if_pos hc]; exact ⟨v1, trivial⟩, by rw [lX6_reseats_65, if_pos hc]⟩) m 0 (gc, s0, 0) _ (by omega) hf2 b0
  have k2' : itv ((sS6 s0 S), (0 : Int32), (0 : Int32)) (lX6_reseats_65 (nI a) (nI e - 1) (sS6 s0 S, up, nI m)) ((fun v : (SV × Int32 × Int32) => ((v.1.1 (1 : Int32).toNatClampNeg).toInt - v.2.2.toInt).toNat) ((sS6 s0 S), 0, 0) + 1) ((sS6 s0 S), 0, 0) = (sS6 (fo (bst g a e m) 0 m (gc, s0, 0)).2.1 S, (fo (bst g a e m) 0 m (gc, s0, 0)).2.2, nI m) := lrun_itv k2
  refine ⟨?_, l2, ?_, ?_⟩
  · rw [fX6_reseats, k1', k2']
  · rw [l1]; exact ⟨_, k1⟩
  · rw [k1']
    exact ⟨⟨_, k2⟩, trivial⟩
