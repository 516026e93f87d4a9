/-! The order by rank -/
def RW (m : Nat) (g : Nat → Int32) : Prop := ∀ k, k < m → (0 ≤ (qp g k 0).toInt ∧ (qp g k 0).toInt ≤ 9) ∧ (1 ≤ (qp g k 1).toInt ∧ (qp g k 1).toInt ≤ 200)
theorem WT.rw {K n m : Nat} {g : Nat → Int32} (h : WT K n m g) : RW m g := fun k hk => ⟨(h.2.2 k hk).1, (h.2.2 k hk).2.1⟩
/-- whether a is ahead of b: 1 or 0 -/
def ah (g : Nat → Int32) (a b : Nat) : Nat := if (qp g b 0).toInt < (qp g a 0).toInt ∨ ((qp g b 0).toInt = (qp g a 0).toInt ∧ ((qp g b 1).toInt < (qp g a 1).toInt ∨ ((qp g b 1).toInt = (qp g a 1).toInt ∧ a < b))) then 1 else 0
theorem ah_le (g : Nat → Int32) (a b : Nat) : ah g a b ≤ 1 := by
  unfold ah; split <;> omega
theorem ah_iff (g : Nat → Int32) (a b : Nat) : ah g a b = 1 ↔ (qp g b 0).toInt < (qp g a 0).toInt ∨ ((qp g b 0).toInt = (qp g a 0).toInt ∧ ((qp g b 1).toInt < (qp g a 1).toInt ∨ ((qp g b 1).toInt = (qp g a 1).toInt ∧ a < b))) := by
  unfold ah
  split
  · rename_i h; exact ⟨fun _ => h, fun _ => rfl⟩
  · rename_i h; exact ⟨fun z => by omega, fun z => absurd z h⟩
/-- how many are ahead -/
def cn (g : Nat → Int32) (m k : Nat) : Nat := sf (fun o => ah g o k) 0 m
theorem cn_lt (g : Nat → Int32) {m k : Nat} (hk : k < m) : cn g m k < m := by
  have h1 : cn g m k < sf (fun _ => 1) 0 m := sf_lt (j := k) (fun i _ _ => ah_le g i k) (Nat.zero_le _) (by omega) (by
    have : ¬ ah g k k = 1 := fun z => by rw [ah_iff] at z; omega
    have := ah_le g k k
    omega)
  have h2 := sf_bound (w := fun _ => 1) 1 (c := m) (k := 0) (fun _ _ _ => Nat.le_refl _)
  omega
theorem cn_mono (g : Nat → Int32) {m a b : Nat} (ha : a < m) (h : ah g a b = 1) : cn g m a < cn g m b := by
  refine sf_lt (j := a) (fun i _ _ => ?_) (Nat.zero_le _) (by omega) ?_
  · have h1 := ah_le g i a
    by_cases h2 : ah g i a = 1
    · have : ah g i b = 1 := by rw [ah_iff] at *; omega
      omega
    · omega
  · have : ¬ ah g a a = 1 := fun z => by rw [ah_iff] at z; omega
    have := ah_le g a a
    omega
theorem cn_inj (g : Nat → Int32) {m a b : Nat} (ha : a < m) (hb : b < m) (h : cn g m a = cn g m b) : a = b := by
  by_cases hab : a = b
  · exact hab
  · exfalso
    have : ah g a b = 1 ∨ ah g b a = 1 := by rw [ah_iff, ah_iff]; omega
    rcases this with z | z
    · have := cn_mono g (m := m) ha z; omega
    · have := cn_mono g (m := m) hb z; omega
theorem cn_cong {g q : Nat → Int32} {m k : Nat} (hk : k < m) (h : ∀ j w, j < m → w < 2 → qp q j w = qp g j w) : cn q m k = cn g m k :=
  sf_congr (fun o _ ho => by
    unfold ah
    rw [h o 0 (by omega) (by omega), h o 1 (by omega) (by omega), h k 0 hk (by omega), h k 1 hk (by omega)])
theorem ahc_num {r1 r2 w1 w2 x1 x2 : Int32} {a b : Nat} (a1 : 0 ≤ r1.toInt ∧ r1.toInt ≤ 9) (a2 : 0 ≤ r2.toInt ∧ r2.toInt ≤ 9) (b1 : 1 ≤ w1.toInt ∧ w1.toInt ≤ 200) (b2 : 1 ≤ w2.toInt ∧ w2.toInt ≤ 200) (h1 : x1.toInt = a) (h2 : x2.toInt = b) :
    (if (r1 - r2) = 0 then (if (w1 - w2) = 0 then (if x2 ≤ x1 then (0 : Int32) else 1) else (if (w1 - w2) ≤ 0 then 0 else 1)) else (if (r1 - r2) ≤ 0 then 0 else 1)) = nI (if r2.toInt < r1.toInt ∨ (r2.toInt = r1.toInt ∧ (w2.toInt < w1.toInt ∨ (w2.toInt = w1.toInt ∧ a < b))) then 1 else 0) := by
  have e1 : (r1 - r2).toInt = r1.toInt - r2.toInt := fb_subI (by omega) (by omega)
  have e2 : (w1 - w2).toInt = w1.toInt - w2.toInt := fb_subI (by omega) (by omega)
  have q1 : ((r1 - r2) = 0) = (r1.toInt - r2.toInt = 0) := by rw [← Int32.toInt_inj, e1, z0]
  have q2 : ((w1 - w2) = 0) = (w1.toInt - w2.toInt = 0) := by rw [← Int32.toInt_inj, e2, z0]
  simp only [q1, q2, Int32.le_iff_toInt_le, e1, e2, z0, h1, h2]
  repeat' split
  all_goals first | rfl | (exfalso; omega)
theorem ahr_num {r1 r2 w1 w2 x1 x2 : Int32} {a b : Nat} (a1 : 0 ≤ r1.toInt ∧ r1.toInt ≤ 9) (a2 : 0 ≤ r2.toInt ∧ r2.toInt ≤ 9) (b1 : 1 ≤ w1.toInt ∧ w1.toInt ≤ 200) (b2 : 1 ≤ w2.toInt ∧ w2.toInt ≤ 200) (h1 : x1.toInt = a) (h2 : x2.toInt = b) :
    (if (r1 - r2) = 0 then (if 0 < (w1 - w2) then (1 : Int32) else (if (w1 - w2) = 0 then (if x2 ≤ x1 then 0 else 1) else 0)) else (if (r1 - r2) ≤ 0 then 0 else 1)) = nI (if r2.toInt < r1.toInt ∨ (r2.toInt = r1.toInt ∧ (w2.toInt < w1.toInt ∨ (w2.toInt = w1.toInt ∧ a < b))) then 1 else 0) := by
  have e1 : (r1 - r2).toInt = r1.toInt - r2.toInt := fb_subI (by omega) (by omega)
  have e2 : (w1 - w2).toInt = w1.toInt - w2.toInt := fb_subI (by omega) (by omega)
  have q1 : ((r1 - r2) = 0) = (r1.toInt - r2.toInt = 0) := by rw [← Int32.toInt_inj, e1, z0]
  have q2 : ((w1 - w2) = 0) = (w1.toInt - w2.toInt = 0) := by rw [← Int32.toInt_inj, e2, z0]
  simp only [q1, q2, Int32.le_iff_toInt_le, Int32.lt_iff_toInt_lt, e1, e2, z0, h1, h2]
  repeat' split
  all_goals first | rfl | (exfalso; omega)
theorem ah_c {m : Nat} {g : Nat → Int32} (hm : m ≤ 12) (h : RW m g) {a b : Nat} (ha : a < m) (hb : b < m) : fX3_isAhead (tvOf g) (nI a) (nI b) = nI (ah g a b) := by
  rw [fX3_isAhead, rP g (k := a) (w := 0) (y := 0) (by omega) (by decide) rfl, rP g (k := b) (w := 0) (y := 0) (by omega) (by decide) rfl, rP g (k := a) (w := 1) (y := 1) (by omega) (by decide) rfl, rP g (k := b) (w := 1) (y := 1) (by omega) (by decide) rfl]
  exact ahc_num (h a ha).1 (h b hb).1 (h a ha).2 (h b hb).2 (nI_toInt (by omega)) (nI_toInt (by omega))
theorem ah_r {m : Nat} (S : SV) (hm : m ≤ 12) (h : RW m S.1) {a b : Nat} (ha : a < m) (hb : b < m) : fX6_isAhead S (nI a) (nI b) = nI (ah S.1 a b) ∧ gX6_isAhead S (nI a) (nI b) := by
  refine ⟨?_, gB S (by omega) (by decide) rfl, gB S (by omega) (by decide) rfl, ?_⟩
  · rw [fX6_isAhead, rB S (k := a) (w := 0) (y := 0) (by omega) (by decide) rfl, rB S (k := b) (w := 0) (y := 0) (by omega) (by decide) rfl, rB S (k := a) (w := 1) (y := 1) (by omega) (by decide) rfl, rB S (k := b) (w := 1) (y := 1) (by omega) (by decide) rfl]
    exact ahr_num (h a ha).1 (h b hb).1 (h a ha).2 (h b hb).2 (nI_toInt (by omega)) (nI_toInt (by omega))
  · split
    · exact ⟨gB S (by omega) (by decide) rfl, gB S (by omega) (by decide) rfl, trivial⟩
    · trivial
/-- the sitter at a place -/
def pl (g : Nat → Int32) (m : Nat) (x : Int32) (k : Nat) : Bool := decide (nI (cn g m k) = x)
def atR (g : Nat → Int32) (m : Nat) (x : Int32) : Int32 := (fd (pl g m x) 0 m).elim (-1) nI
theorem at_c {m : Nat} {g : Nat → Int32} (h1 : g 1 = nI m) (hm : m ≤ 12) (h : RW m g) (x : Int32) : fX3_rankedAt (tvOf g) x = atR g m x := by
  have hg : (tvOf g).2.2.2.1 = nI m := h1
  have hf := fuel0 hg (by omega)
  have inner : ∀ k, k < m → (itv ((0 : Int32), (0 : Int32)) (lX3_rankedAt_15 (tvOf g) x (nI k)) ((fun w : (Int32 × Int32) => ((tvOf g).2.2.2.1.toInt - w.2.toInt).toNat) (0, 0) + 1) (0, 0)).1 = nI (cn g m k) := fun k hk => by
    have key := (fo_itv (f := lX3_rankedAt_15 (tvOf g) x (nI k)) ((0, 0) : Int32 × Int32) (fun (a : Nat) j => (nI a, nI j)) (fun a => (nI a, nI m)) (fun a o => a + ah g o k) (fun _ _ => True) m (fun a j hj _ => ⟨by
      rw [lX3_rankedAt_15, if_neg (up_le hg (by omega) hj), ah_c hm h hj hk]
      have h1 := ah_le g j k
      rcases (show ah g j k = 0 ∨ ah g j k = 1 by omega) with h2 | h2
      · rw [h2, if_pos nI_0, nI_1, Int32.add_zero]; rfl
      · rw [h2, if_neg (by decide), nI_1, nI_1], trivial⟩) (fun a _ => by
      rw [lX3_rankedAt_15, if_pos (at_le hg)]) m 0 0 _ (by omega) hf trivial).1
    rw [fo_sf, Nat.zero_add] at key
    exact congrArg Prod.fst key
  have key := fd_itv (f := lX3_rankedAt_2 (tvOf g) x) (.inl 0) nI (.inl (nI m)) (fun j => .inr (nI j)) (pl g m x) m (fun k hk => by
    have hc := up_le hg (by omega) hk
    refine ⟨fun hp => ?_, fun hp => ?_⟩
    · have hne : ¬ nI (cn g m k) = x := of_decide_eq_false hp
      rw [lX3_rankedAt_2, if_neg hc, inner k hk, if_neg hne, nI_1]
    · have he : nI (cn g m k) = x := of_decide_eq_true hp
      rw [lX3_rankedAt_2, if_neg hc, inner k hk, if_pos he]) (by
    rw [lX3_rankedAt_2, if_pos (at_le hg)]) m 0 _ (by omega) hf
  have key' : itv (.inl 0) (lX3_rankedAt_2 (tvOf g) x) ((fun v : Int32 => ((tvOf g).2.2.2.1.toInt - v.toInt).toNat) 0 + 1) 0 = _ := key
  rw [fX3_rankedAt, key', atR]
  cases fd (pl g m x) 0 m <;> rfl
theorem at_r {m : Nat} (S : SV) (h1 : S.1 1 = nI m) (hm : m ≤ 12) (h : RW m S.1) (x : Int32) : fX6_atPlace S x = atR S.1 m x ∧ gX6_atPlace S x := by
  have hg : S.1 (1 : Int32).toNatClampNeg = nI m := by rw [c1]; exact h1
  have hf := fuel0 hg (by omega)
  have v1 : vp_in 1 114 := gHd (j := 1) rfl (by omega)
  have inner : ∀ k, k < m → lrun (lX6_atPlace_17 S (nI k)) (glX6_atPlace_17 S (nI k)) (((S.1 (1 : Int32).toNatClampNeg).toInt - (0 : Int32).toInt).toNat + 1) ((0 : Int32), (0 : Int32)) (nI (cn S.1 m k), nI m) := fun k hk => by
    have key := (fo_loop (f := lX6_atPlace_17 S (nI k)) (P := glX6_atPlace_17 S (nI k)) (fun (a : Nat) j => (nI a, nI j)) (fun a => (nI a, nI m)) (fun a o => a + ah S.1 o k) (fun _ _ => True) m (fun a j hj _ => by
      obtain ⟨e1, e2⟩ := ah_r S hm h hj hk
      have hc := up_le hg (by omega) hj
      refine ⟨?_, ?_, trivial⟩
      · rw [glX6_atPlace_17, if_neg hc]; exact ⟨v1, e2, trivial⟩
      · rw [lX6_atPlace_17, if_neg hc, e1]
        have h1 := ah_le S.1 j k
        rcases (show ah S.1 j k = 0 ∨ ah S.1 j k = 1 by omega) with h2 | h2
        · rw [h2, if_pos nI_0, nI_1, Int32.add_zero]; rfl
        · rw [h2, if_neg (by decide), nI_1, nI_1]) (fun a _ => ⟨by rw [glX6_atPlace_17, if_pos (at_le hg)]; exact ⟨v1, trivial⟩, by rw [lX6_atPlace_17, if_pos (at_le hg)]⟩) m 0 0 _ (by omega) hf trivial).1
    rw [fo_sf, Nat.zero_add] at key
    exact key
  have inner2 : ∀ k, k < m → (itv ((0 : Int32), (0 : Int32)) (lX6_atPlace_17 S (nI k)) ((fun w : (Int32 × Int32) => ((S.1 (1 : Int32).toNatClampNeg).toInt - w.2.toInt).toNat) (0, 0) + 1) (0, 0)).1 = nI (cn S.1 m k) := fun k hk => congrArg Prod.fst (lrun_itv (inner k hk))
  have key := fd_loop (f := lX6_atPlace_2 S x) (P := glX6_atPlace_2 S x) nI (.inl (nI m)) (fun j => .inr (nI j)) (pl S.1 m x) m (fun k hk => by
    have hc := up_le hg (by omega) hk
    refine ⟨?_, fun hp => ?_, fun hp => ?_⟩
    · rw [glX6_atPlace_2, if_neg hc]; exact ⟨v1, ⟨_, inner k hk⟩, trivial⟩
    · have hne : ¬ nI (cn S.1 m k) = x := of_decide_eq_false hp
      rw [lX6_atPlace_2, if_neg hc, inner2 k hk, if_neg hne, nI_1]
    · have he : nI (cn S.1 m k) = x := of_decide_eq_true hp
      rw [lX6_atPlace_2, if_neg hc, inner2 k hk, if_pos he]) ⟨by rw [glX6_atPlace_2, if_pos (at_le hg)]; exact ⟨v1, trivial⟩, by
    rw [lX6_atPlace_2, if_pos (at_le hg)]⟩ m 0 _ (by omega) hf
  refine ⟨?_, ⟨_, key⟩, trivial⟩
  have key' : itv (.inl 0) (lX6_atPlace_2 S x) ((fun v : Int32 => ((S.1 (1 : Int32).toNatClampNeg).toInt - v.toInt).toNat) 0 + 1) 0 = _ := lrun_itv key
  rw [fX6_atPlace, key', atR]
  cases fd (pl S.1 m x) 0 m <;> rfl
theorem atR_cong {g q : Nat → Int32} {m : Nat} (h : ∀ j w, j < m → w < 2 → qp q j w = qp g j w) (x : Int32) : atR q m x = atR g m x := by
  rw [atR, atR, fd_congr (q := pl g m x) (fun i _ hi => by rw [pl, pl, cn_cong (by omega) h])]
/-- at a place there is nobody, or just one -/
theorem atR_cases (g : Nat → Int32) {m p : Nat} (hm : m ≤ 12) (hp : p ≤ 12) : (atR g m (nI p) = -1 ∧ ∀ k, k < m → cn g m k ≠ p) ∨ (∃ k, k < m ∧ atR g m (nI p) = nI k ∧ cn g m k = p) := by
  have hc : ∀ k, k < m → cn g m k < m := fun k hk => cn_lt g hk
  cases hfd : fd (pl g m (nI p)) 0 m with
  | none =>
    left
    refine ⟨by rw [atR, hfd]; rfl, fun k hk z => ?_⟩
    have := fd_none hfd k (Nat.zero_le _) (by omega)
    have hne : ¬ nI (cn g m k) = nI p := of_decide_eq_false this
    exact hne (by rw [z])
  | some k =>
    right
    obtain ⟨-, h2, h3, -⟩ := fd_some hfd
    have he : nI (cn g m k) = nI p := of_decide_eq_true h3
    have := hc k (by omega)
    exact ⟨k, by omega, by rw [atR, hfd]; rfl, nI_inj (by omega) (by omega) he⟩
