/-! A night -/
def m9 (x : Int32) : Int32 := if x < 9 then x else 9
/-- a stool worn by a sitter: the row, and what it brings -/
def wear (q : Nat → Int32) (i k : Nat) : Nat → Int32 :=
  if qp q k 1 ≤ 100 then (if qs q i 2 ≤ 0 then q else upd q (6 + (6 * i + 1)) (m9 (qs q i 1 + 1)))
  else (if m9 (qs q i 2 + 1) ≤ 0 then upd q (6 + (6 * i + 2)) (m9 (qs q i 2 + 1)) else upd (upd q (6 + (6 * i + 2)) (m9 (qs q i 2 + 1))) (6 + (6 * i + 1)) (m9 (qs (upd q (6 + (6 * i + 2)) (m9 (qs q i 2 + 1))) i 1 + 1)))
def gain (q : Nat → Int32) (i k : Nat) : Int32 := if qs q i 2 = 0 then (if qp q k 0 = 0 then 0 else 1) else 0
theorem wear_c (q : Nat → Int32) {i k : Nat} (hi : i < 12) (hk : k < 12) (hr : 0 ≤ (qp q k 0).toInt) : fX3_wearStool (tvOf q) (nI i) (nI k) = (gain q i k, tvOf (wear q i k)) := by
  have e9 : ∀ x : Int32, (if x < 9 then x else 9) = m9 x := fun _ => rfl
  have er : (qp q k 0 ≤ 0) = (qp q k 0 = 0) := by
    apply propext
    constructor
    · intro h
      rw [Int32.le_iff_toInt_le, z0] at h
      exact toI_eq (by rw [z0]; omega)
    · intro h; rw [h]; exact Int32.le_refl _
  rw [fX3_wearStool]
  simp only [e9]
  rw [rS q (w := 2) (y := 2) hi (by decide) rfl, rS q (w := 1) (y := 1) hi (by decide) rfl, rP q (w := 0) (y := 0) hk (by decide) rfl, rP q (w := 1) (y := 1) hk (by decide) rfl]
  rw [tv_setS q (w := 2) (y := 2) _ hi (by decide) rfl, rS _ (w := 1) (y := 1) hi (by decide) rfl, tv_setS q (w := 1) (y := 1) _ hi (by decide) rfl, tv_setS (upd q (6 + (6 * i + 2)) (m9 (qs q i 2 + 1))) (w := 1) (y := 1) _ hi (by decide) rfl]
  simp only [er]
  rw [gain, wear]
  by_cases a : qs q i 2 = 0
  · by_cases b : qp q k 0 = 0
    · by_cases d : qp q k 1 ≤ 100
      · by_cases e : qs q i 2 ≤ 0
        · rw [if_pos a, if_pos b, if_pos d, if_pos e, if_pos a, if_pos b, if_pos d, if_pos e]
        · rw [if_pos a, if_pos b, if_pos d, if_neg e, if_pos a, if_pos b, if_pos d, if_neg e]
      · by_cases e : m9 (qs q i 2 + 1) ≤ 0
        · rw [if_pos a, if_pos b, if_neg d, if_pos e, if_pos a, if_pos b, if_neg d, if_pos e]
        · rw [if_pos a, if_pos b, if_neg d, if_neg e, if_pos a, if_pos b, if_neg d, if_neg e]
    · by_cases d : qp q k 1 ≤ 100
      · by_cases e : qs q i 2 ≤ 0
        · rw [if_pos a, if_neg b, if_pos d, if_pos e, if_pos a, if_neg b, if_pos d, if_pos e]
        · rw [if_pos a, if_neg b, if_pos d, if_neg e, if_pos a, if_neg b, if_pos d, if_neg e]
      · by_cases e : m9 (qs q i 2 + 1) ≤ 0
        · rw [if_pos a, if_neg b, if_neg d, if_pos e, if_pos a, if_neg b, if_neg d, if_pos e]
        · rw [if_pos a, if_neg b, if_neg d, if_neg e, if_pos a, if_neg b, if_neg d, if_neg e]
  · by_cases d : qp q k 1 ≤ 100
    · by_cases e : qs q i 2 ≤ 0
      · rw [if_neg a, if_pos d, if_pos e, if_neg a, if_pos d, if_pos e]
      · rw [if_neg a, if_pos d, if_neg e, if_neg a, if_pos d, if_neg e]
    · by_cases e : m9 (qs q i 2 + 1) ≤ 0
      · rw [if_neg a, if_neg d, if_pos e, if_neg a, if_neg d, if_pos e]
      · rw [if_neg a, if_neg d, if_neg e, if_neg a, if_neg d, if_neg e]
theorem wear_hd (q : Nat → Int32) (i k : Nat) {c : Nat} (hc : c < 6) : wear q i k c = q c := by
  unfold wear
  split
  · split
    · rfl
    · exact hd_upS _ _ hc
  · split
    · exact hd_upS _ _ hc
    · rw [hd_upS _ _ hc, hd_upS _ _ hc]
theorem wear_wt {K n m : Nat} {q : Nat → Int32} (h : WT K n m q) {i : Nat} (hi : i < n) (k : Nat) : WT K n m (wear q i k) := by
  obtain ⟨b0, b1, b2, -⟩ := h.2.1 i hi
  have w1 : (qs q i 1 + 1).toInt = (qs q i 1).toInt + 1 := addI rfl o1I (by omega) (by omega)
  have w2 : (qs q i 2 + 1).toInt = (qs q i 2).toInt + 1 := addI rfl o1I (by omega) (by omega)
  have m1 := min9I (x := qs q i 1 + 1) (by omega)
  have m2 := min9I (x := qs q i 2 + 1) (by omega)
  have u2 : WT K n m (upd q (6 + (6 * i + 2)) (m9 (qs q i 2 + 1))) := h.up hi (by omega) (fun _ => m2) (by omega)
  unfold wear
  split
  · split
    · exact h
    · exact h.up hi (by omega) (fun _ => m1) (by omega)
  · split
    · exact u2
    · refine u2.up hi (by omega) (fun _ => ?_) (by omega)
      have e : qs (upd q (6 + (6 * i + 2)) (m9 (qs q i 2 + 1))) i 1 = qs q i 1 := by rw [qs_upS _ _ (by omega) (by omega), if_neg (by omega)]
      rw [e]; exact m1
theorem gain_rng (q : Nat → Int32) (i k : Nat) : 0 ≤ (gain q i k).toInt ∧ (gain q i k).toInt ≤ 1 := by
  unfold gain
  split
  · split
    · rw [z0]; omega
    · rw [o1I]; omega
  · rw [z0]; omega
def nst (a : (Nat → Int32) × Int32) (j : Nat) : (Nat → Int32) × Int32 := if qs a.1 j 5 = -1 then a else (wear a.1 j (qs a.1 j 5).toNatClampNeg, a.2 + gain a.1 j (qs a.1 j 5).toNatClampNeg)
/-- what holds half-way through a night -/
def nI0 (K n m : Nat) (g : Nat → Int32) (a : (Nat → Int32) × Int32) (j : Nat) : Prop := WT K n m a.1 ∧ (∀ c, c < 6 → a.1 c = g c) ∧ 0 ≤ a.2.toInt ∧ a.2.toInt ≤ j
theorem nst_inv {K n m : Nat} {g : Nat → Int32} {a : (Nat → Int32) × Int32} {j : Nat} (hj : j < n) (h : nI0 K n m g a j) : nI0 K n m g (nst a j) (j + 1) := by
  obtain ⟨h1, h2, h3, h4⟩ := h
  have hn := h1.1.2.2.1
  unfold nst
  split
  · exact ⟨h1, h2, h3, by omega⟩
  · have := gain_rng a.1 j (qs a.1 j 5).toNatClampNeg
    have e : (a.2 + gain a.1 j (qs a.1 j 5).toNatClampNeg).toInt = a.2.toInt + (gain a.1 j (qs a.1 j 5).toNatClampNeg).toInt := addI rfl rfl (by omega) (by omega)
    refine ⟨wear_wt h1 hj _, fun c hc => (wear_hd _ _ _ hc).trans (h2 c hc), ?_, ?_⟩
    · show 0 ≤ (a.2 + gain a.1 j (qs a.1 j 5).toNatClampNeg).toInt
      rw [e]; omega
    · show (a.2 + gain a.1 j (qs a.1 j 5).toNatClampNeg).toInt ≤ _
      rw [e]; omega
theorem wear_r (S2 : SV) (q : Nat → Int32) {K n m : Nat} (h : WT K n m q) {i k : Nat} (hi : i < n) (hk : k < m) (hw : qs q i 5 = nI k) (got : Int32) :
    lX6_night_12 (sS0 q S2, got, nI i) = .inl (sS0 (wear q i k) S2, got + gain q i k, nI (i + 1)) ∧ glX6_night_12 (sS0 q S2, got, nI i) := by
  have hn := h.1.2.2.1
  have hm := h.1.2.2.2.1
  have hi12 : i < 12 := by omega
  have hk12 : k < 12 := by omega
  have v0 : vp_in 0 114 := gHd (j := 0) rfl (by omega)
  have e9 : ∀ x : Int32, fX6_atMost x 9 = m9 x := fun x => min9 x
  have hq : (sS0 q S2).1 (0 : Int32).toNatClampNeg = nI n := by rw [c0]; exact h.1.1
  have hc : ¬ nI n ≤ nI i := nI_ge hi (by omega)
  have o5 : fX6_of (sS0 q S2) (nI i) 5 = nI k := (rO _ (w := 5) (y := 5) hi12 (by decide) rfl).trans hw
  have o2 : fX6_of (sS0 q S2) (nI i) 2 = qs q i 2 := rO _ (w := 2) (y := 2) hi12 (by decide) rfl
  have o1 : fX6_of (sS0 q S2) (nI i) 1 = qs q i 1 := rO _ (w := 1) (y := 1) hi12 (by decide) rfl
  have b1 : fX6_by (sS0 q S2) (nI k) 1 = qp q k 1 := rB _ (w := 1) (y := 1) hk12 (by decide) rfl
  have cat := (isCat_eq (sS0 q S2) hk12).1
  have cat' : fX6_isCat (sS0 q S2) (nI k) = if qp q k 0 = 0 then 1 else 0 := cat
  have lay2 := one_lay S2 q (i := i) (a := 2) (x := 2) hi12 (by decide) rfl (m9 (qs q i 2 + 1))
  have lay1 := one_lay S2 q (i := i) (a := 1) (x := 1) hi12 (by decide) rfl (m9 (qs q i 1 + 1))
  have p2 : fX6_of (sS0 (upd q (6 + (6 * i + 2)) (m9 (qs q i 2 + 1))) S2) (nI i) 2 = m9 (qs q i 2 + 1) := (rO _ (w := 2) (y := 2) hi12 (by decide) rfl).trans (by
    show qs (upd q (6 + (6 * i + 2)) (m9 (qs q i 2 + 1))) i 2 = _
    rw [qs_upS _ _ (by omega) (by omega), if_pos ⟨rfl, rfl⟩])
  have p1 : fX6_of (sS0 (upd q (6 + (6 * i + 2)) (m9 (qs q i 2 + 1))) S2) (nI i) 1 = qs (upd q (6 + (6 * i + 2)) (m9 (qs q i 2 + 1))) i 1 := rO _ (w := 1) (y := 1) hi12 (by decide) rfl
  have lay3 := one_lay S2 (upd q (6 + (6 * i + 2)) (m9 (qs q i 2 + 1))) (i := i) (a := 1) (x := 1) hi12 (by decide) rfl (m9 (qs (upd q (6 + (6 * i + 2)) (m9 (qs q i 2 + 1))) i 1 + 1))
  have k0 : (0 : Int32) ≤ nI k := nI_pos' (by omega)
  have go : ∀ (S' : SV) (w : Int32) (j : Nat), w = nI j → j < 6 → gX6_of S' (nI i) w := fun S' w j e hj => gO S' hi12 hj e
  have gl : ∀ (S' : SV) (w v : Int32) (j : Nat), w = nI j → j < 6 → gX6_lays S' (nI i) w v := fun S' w v j e hj => (rL S' v hi12 hj e).2
  have gb : gX6_by (sS0 q S2) (nI k) 1 := gB _ hk12 (by decide) rfl
  have gc := (isCat_eq (sS0 q S2) hk12).2
  have g5 := go (sS0 q S2) 5 5 rfl (by omega)
  have g2 := go (sS0 q S2) 2 2 rfl (by omega)
  have g1 := go (sS0 q S2) 1 1 rfl (by omega)
  have g2' := go (sS0 (upd q (6 + (6 * i + 2)) (m9 (qs q i 2 + 1))) S2) 2 2 rfl (by omega)
  have g1' := go (sS0 (upd q (6 + (6 * i + 2)) (m9 (qs q i 2 + 1))) S2) 1 1 rfl (by omega)
  have l2 := gl (sS0 q S2) 2 (m9 (qs q i 2 + 1)) 2 rfl (by omega)
  have l1 := gl (sS0 q S2) 1 (m9 (qs q i 1 + 1)) 1 rfl (by omega)
  have l3 := gl (sS0 (upd q (6 + (6 * i + 2)) (m9 (qs q i 2 + 1))) S2) 1 (m9 (qs (upd q (6 + (6 * i + 2)) (m9 (qs q i 2 + 1))) i 1 + 1)) 1 rfl (by omega)
  rw [lX6_night_12, glX6_night_12]
  simp only [hq, o5, o2, o1, b1, cat', e9, lay2, lay1, p2, p1, lay3, nI_1, if_neg hc, if_pos k0]
  unfold gain wear
  by_cases a : qs q i 2 = 0
  · by_cases b : qp q k 0 = 0
    · by_cases d : qp q k 1 ≤ 100
      · by_cases e : qs q i 2 ≤ 0
        · simp only [if_pos a, if_pos b, if_pos d, if_pos e, if_neg one_ne]
          exact ⟨trivial, v0, g5, g2, g5, gc, g5, gb, g2, trivial⟩
        · simp only [if_pos a, if_pos b, if_pos d, if_neg e, if_neg one_ne]
          exact ⟨trivial, v0, g5, g2, g5, gc, g5, gb, g2, g1, l1, trivial⟩
      · by_cases e : m9 (qs q i 2 + 1) ≤ 0
        · simp only [if_pos a, if_pos b, if_neg d, if_pos e, if_neg one_ne]
          exact ⟨trivial, v0, g5, g2, g5, gc, g5, gb, g2, l2, g2', trivial⟩
        · simp only [if_pos a, if_pos b, if_neg d, if_neg e, if_neg one_ne]
          exact ⟨trivial, v0, g5, g2, g5, gc, g5, gb, g2, l2, g2', g1', l3, trivial⟩
    · by_cases d : qp q k 1 ≤ 100
      · by_cases e : qs q i 2 ≤ 0
        · simp only [if_pos a, if_neg b, if_pos d, if_pos e, ↓reduceIte]
          exact ⟨trivial, v0, g5, g2, g5, gc, g5, gb, g2, trivial⟩
        · simp only [if_pos a, if_neg b, if_pos d, if_neg e, ↓reduceIte]
          exact ⟨trivial, v0, g5, g2, g5, gc, g5, gb, g2, g1, l1, trivial⟩
      · by_cases e : m9 (qs q i 2 + 1) ≤ 0
        · simp only [if_pos a, if_neg b, if_neg d, if_pos e, ↓reduceIte]
          exact ⟨trivial, v0, g5, g2, g5, gc, g5, gb, g2, l2, g2', trivial⟩
        · simp only [if_pos a, if_neg b, if_neg d, if_neg e, ↓reduceIte]
          exact ⟨trivial, v0, g5, g2, g5, gc, g5, gb, g2, l2, g2', g1', l3, trivial⟩
  · by_cases d : qp q k 1 ≤ 100
    · by_cases e : qs q i 2 ≤ 0
      · simp only [if_neg a, if_pos d, if_pos e]
        exact ⟨trivial, v0, g5, g2, g5, gb, g2, trivial⟩
      · simp only [if_neg a, if_pos d, if_neg e]
        exact ⟨trivial, v0, g5, g2, g5, gb, g2, g1, l1, trivial⟩
    · by_cases e : m9 (qs q i 2 + 1) ≤ 0
      · simp only [if_neg a, if_neg d, if_pos e]
        exact ⟨trivial, v0, g5, g2, g5, gb, g2, l2, g2', trivial⟩
      · simp only [if_neg a, if_neg d, if_neg e]
        exact ⟨trivial, v0, g5, g2, g5, gb, g2, l2, g2', g1', l3, trivial⟩
theorem night_loop_r (S2 : SV) {K n m : Nat} (h : WT K n m S2.1) : ∃ q got, lrun lX6_night_12 glX6_night_12 (((S2.1 (0 : Int32).toNatClampNeg).toInt - (0 : Int32).toInt).toNat + 1) (S2, 0, 0) (sS0 q S2, got, nI n) ∧ (q, got) = fo nst 0 n (S2.1, 0) ∧ nI0 K n m S2.1 (q, got) n := by
  have hn := h.1.2.2.1
  have v0 : vp_in 0 114 := gHd (j := 0) rfl (by omega)
  have hf := fuel0 (x := S2.1 (0 : Int32).toNatClampNeg) (n := n) (by rw [c0]; exact h.1.1) (by omega)
  obtain ⟨key, inv⟩ := fo_loop (f := lX6_night_12) (P := glX6_night_12) (fun (a : (Nat → Int32) × Int32) j => (sS0 a.1 S2, a.2, nI j)) (fun a => (sS0 a.1 S2, a.2, nI n)) nst (nI0 K n m S2.1) n (fun a j hj hI => by
    have hI2 := nst_inv hj hI
    rcases hI.1.who hj with w | ⟨k, hk, w, -⟩
    · have hq : (sS0 a.1 S2).1 (0 : Int32).toNatClampNeg = nI n := by rw [c0]; exact hI.1.1.1
      have hc : ¬ nI n ≤ nI j := nI_ge hj (by omega)
      have o5 : fX6_of (sS0 a.1 S2) (nI j) 5 = -1 := (rO _ (w := 5) (y := 5) (by omega) (by decide) rfl).trans w
      refine ⟨?_, ?_, hI2⟩
      · rw [glX6_night_12]
        simp only [hq, o5, if_neg hc, if_neg m1_nle]
        exact ⟨v0, gO _ (by omega) (by decide) rfl, trivial⟩
      · rw [lX6_night_12]
        simp only [hq, o5, if_neg hc, if_neg m1_nle, nI_1]
        rw [nst, if_pos w]
    · obtain ⟨e1, e2⟩ := wear_r S2 a.1 hI.1 hj hk w a.2
      have hm := hI.1.1.2.2.2.1
      refine ⟨e2, ?_, hI2⟩
      rw [e1, nst, if_neg (by rw [w]; exact nI_m1 (by omega)), w, nI_clamp (by omega)]) (fun a hI => by
    have hq : (sS0 a.1 S2).1 (0 : Int32).toNatClampNeg = nI n := by rw [c0]; exact hI.1.1.1
    have hc : (sS0 a.1 S2).1 (0 : Int32).toNatClampNeg ≤ nI n := at_le hq
    exact ⟨by rw [glX6_night_12, if_pos hc]; exact ⟨v0, trivial⟩, by rw [lX6_night_12, if_pos hc]⟩) n 0 (S2.1, 0) _ (by omega) hf ⟨h, fun _ _ => rfl, by rw [z0]; omega, by rw [z0]; omega⟩
  exact ⟨_, _, key, rfl, inv⟩
theorem night_loop_c {K n m : Nat} {g : Nat → Int32} (h : WT K n m g) : itv (tvOf g, (0 : Int32), (0 : Int32)) (lX3_passNight_4 (tvOf g)) ((fun v : (TV × Int32 × Int32) => (v.1.2.2.1.toInt - v.2.2.toInt).toNat) (tvOf g, 0, 0) + 1) (tvOf g, 0, 0) = (tvOf (fo nst 0 n (g, 0)).1, (fo nst 0 n (g, 0)).2, nI n) := by
  have hn := h.1.2.2.1
  have hf := fuel0 (x := (tvOf g).2.2.1) (n := n) h.1.1 (by omega)
  exact (fo_itv (f := lX3_passNight_4 (tvOf g)) (tvOf g, (0 : Int32), (0 : Int32)) (fun (a : (Nat → Int32) × Int32) j => (tvOf a.1, a.2, nI j)) (fun a => (tvOf a.1, a.2, nI n)) nst (nI0 K n m g) n (fun a j hj hI => by
    have hI2 := nst_inv hj hI
    refine ⟨?_, hI2⟩
    have hc : ¬ (tvOf a.1).2.2.1 ≤ nI j := up_le hI.1.1.1 (by omega) hj
    have o5 : fX3_ofStool (tvOf a.1) (nI j) 5 = qs a.1 j 5 := rS a.1 (w := 5) (y := 5) (by omega) (by decide) rfl
    rw [lX3_passNight_4, if_neg hc]
    simp only [o5]
    rcases hI.1.who hj with w | ⟨k, hk, w, -⟩
    · rw [if_pos w, nst, if_pos w, nI_1]
    · have hm := hI.1.1.2.2.2.1
      have n1 : ¬ qs a.1 j 5 = -1 := by rw [w]; exact nI_m1 (by omega)
      rw [if_neg n1, nst, if_neg n1, w, nI_clamp (by omega), wear_c a.1 (by omega) (by omega) (hI.1.2.2 k hk).1.1, nI_1]) (fun a hI => by
    rw [lX3_passNight_4, if_pos (show (tvOf a.1).2.2.1 ≤ nI n from at_le hI.1.1.1)]) n 0 (g, 0) _ (by omega) hf ⟨h, fun _ _ => rfl, by rw [z0]; omega, by rw [z0]; omega⟩).1
theorem tv_h253 (q : Nat → Int32) (a b c : Int32) : ((tvOf q).1, (tvOf q).2.1, (tvOf q).2.2.1, (tvOf q).2.2.2.1, a, b, (tvOf q).2.2.2.2.2.2.1, c) = tvOf (upd (upd (upd q 2 a) 5 c) 3 b) := by
  rw [← (tv_hd q 2 (by omega) a).1, ← (tv_hd q 2 (by omega) a).2, ← (tv_hd (upd q 2 a) 5 (by omega) c).1, ← (tv_hd (upd q 2 a) 5 (by omega) c).2, ← (tv_hd (upd (upd q 2 a) 5 c) 3 (by omega) b).1, ← (tv_hd (upd (upd q 2 a) 5 c) 3 (by omega) b).2]
  rfl
theorem c3' : (3 : Int32).toNatClampNeg = 3 := by decide
theorem night_out {K n m : Nat} (C : CV) (S : SV) (h : WT K n m S.1) {c : Nat} (hc : c ≤ 8) (hch : S.2.2.2.2.2.2.2.2.2.1 = nI c) (hK : K ≤ 10000) (d1 d2 d3 : Int32) : Out K C S ((fX3_passNight (tvOf S.1)).1, C, (fX3_passNight (tvOf S.1)).2) (fX6_night S) d1 d2 d3 ∧ gX6_night S := by
  have hn := h.1.2.2.1
  obtain ⟨k', ch', s1, s2, s3⟩ := kg_r S hc hch
  have hq : (fX6_keeps_g S).1 = S.1 := by rw [s1]; rfl
  rw [fX6_night, gX6_night]
  generalize fX6_keeps_g S = S2 at s1 s2 hq ⊢
  obtain ⟨q, got, e1, e2, e3, e4, e5, e6⟩ := night_loop_r S2 (K := K) (n := n) (m := m) (by rw [hq]; exact h)
  have w1 : itv (S2, (0 : Int32), (0 : Int32)) lX6_night_12 ((fun v : (SV × Int32 × Int32) => ((v.1.1 (0 : Int32).toNatClampNeg).toInt - v.2.2.toInt).toNat) (S2, 0, 0) + 1) (S2, 0, 0) = (sS0 q S2, got, nI n) := lrun_itv e1
  rw [w1, fX3_passNight, night_loop_c h, ← hq, ← e2]
  replace e3 : WT K n m q := e3
  replace e5 : 0 ≤ got.toInt := e5
  replace e6 : got.toInt ≤ n := e6
  have v2 : vp_in 2 114 := gHd (j := 2) rfl (by omega)
  have v5 : vp_in 5 114 := gHd (j := 5) rfl (by omega)
  have v3 : vp_in 3 114 := gHd (j := 3) rfl (by omega)
  obtain ⟨v, hv1, hv2, hv3⟩ := of_rng e5 (by omega) e6
  have row : upd (upd (upd q 2 (q 2 + got)) 5 ((upd q 2 (q 2 + got)) 5 + got)) 3 ((upd (upd q 2 (q 2 + got)) 5 ((upd q 2 (q 2 + got)) 5 + got)) 3 + 1) = upd (upd (upd q 2 (q 2 + got)) 5 (q 5 + got)) 3 (q 3 + 1) := rfl
  refine ⟨Or.inl ⟨v, upd (upd (upd q 2 (q 2 + got)) 5 (q 5 + got)) 3 (q 3 + 1), seats S, k', S.2.2.2.2.2.2.2.2.2.2.2.1, ch', n, m, by omega, ?_, ?_, ?_, s3⟩, s2, ⟨_, e1⟩, v2, v2, v5, v5, v3, v3, trivial⟩
  · rw [← hv1, ← tv_h253]; rfl
  · rw [← hv1, c2, c5, c3', s1]
    rfl
  · have hp0 := e3.1.2.2.2.2.1
    have hp1 := e3.1.2.2.2.2.2
    have w : (q 2 + got).toInt = (q 2).toInt + got.toInt := addI rfl rfl (by omega) (by omega)
    exact (((e3.mono (Nat.le_succ K)).upH (c := 2) (by omega) (by omega) (fun _ => by rw [w]; omega)).upH (c := 5) (by omega) (by omega) (by omega)).upH (c := 3) (by omega) (by omega) (by omega)
