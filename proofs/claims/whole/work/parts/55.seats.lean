/-! Seats: laid, taken -/
theorem fo_upd (v : Nat → Int32) : ∀ (c k : Nat) (s : Nat → Int32) (i : Nat), fo (fun s j => upd s j (v j)) k c s i = if k ≤ i ∧ i < k + c then v i else s i
  | 0, k, s, i => by rw [fo, if_neg (by omega)]
  | c + 1, k, s, i => by
    rw [fo, fo_upd v c (k + 1) _ i]
    by_cases h : k + 1 ≤ i ∧ i < k + 1 + c
    · rw [if_pos h, if_pos (by omega)]
    · rw [if_neg h]
      show (if i = k then v k else s i) = _
      by_cases h2 : i = k
      · rw [if_pos h2, if_pos (by omega), h2]
      · rw [if_neg h2, if_neg (by omega)]
theorem ls_r (S : SV) {m : Nat} (hm : S.1 1 = nI m) (h12 : m ≤ 12) : ∃ s', fX6_laysSeats S = sS6 s' S ∧ gX6_laysSeats S ∧ ∀ k, s' k = if k < m then qp S.1 k 2 else seats S k := by
  have hg : S.1 (1 : Int32).toNatClampNeg = nI m := by rw [c1]; exact hm
  have hf := fuel0 hg (by omega)
  have v1 : vp_in 1 114 := gHd (j := 1) rfl (by omega)
  have key := (fo_loop (f := lX6_laysSeats_2) (P := glX6_laysSeats_2) (fun (s : Nat → Int32) j => (sS6 s S, nI j)) (fun s => (sS6 s S, nI m)) (fun s j => upd s j (qp S.1 j 2)) (fun _ _ => True) m (fun s j hj _ => by
    have hc : ¬ (sS6 s S).1 (1 : Int32).toNatClampNeg ≤ nI j := up_le hg (by omega) hj
    refine ⟨?_, ?_, trivial⟩
    · rw [glX6_laysSeats_2, if_neg hc]; exact ⟨v1, gB _ (by omega) (by decide) rfl, vp_in_nI (by omega) (by omega), trivial⟩
    · rw [lX6_laysSeats_2, if_neg hc]
      have e1 : fX6_by (sS6 s S) (nI j) 2 = qp S.1 j 2 := rB (sS6 s S) (w := 2) (y := 2) (by omega) (by decide) rfl
      have e2 : (nI j).toNatClampNeg = j := nI_clamp (by omega)
      simp only []
      rw [e1, e2, nI_1]
      rfl) (fun s _ => ⟨by
        have hc : (sS6 s S).1 (1 : Int32).toNatClampNeg ≤ nI m := at_le hg
        rw [glX6_laysSeats_2, if_pos hc]; exact ⟨v1, trivial⟩, by
        have hc : (sS6 s S).1 (1 : Int32).toNatClampNeg ≤ nI m := at_le hg
        rw [lX6_laysSeats_2, if_pos hc]⟩) m 0 (seats S) _ (by omega) hf trivial).1
  refine ⟨_, congrArg Prod.fst (lrun_itv (d := ((S, 0) : SV × Int32)) key), ⟨⟨_, key⟩, trivial⟩, fun k => ?_⟩
  rw [fo_upd (fun j => qp S.1 j 2) m 0 (seats S) k]
  simp only [Nat.zero_le, true_and, Nat.zero_add]
/-- the seats s of the first b are taken: the row h -/
def TK (n b : Nat) (g s h : Nat → Int32) : Prop :=
  (∀ k, k < b → h (78 + (3 * k + 2)) = s k) ∧
  (∀ k, k < b → ∀ i, i < n → s k = nI i → h (6 + (6 * i + 5)) = nI k) ∧
  (∀ i, i < n → (∀ k, k < b → s k ≠ nI i) → h (6 + (6 * i + 5)) = -1) ∧
  (∀ j, (∀ k, k < b → j ≠ 78 + (3 * k + 2)) → (∀ i, i < n → j ≠ 6 + (6 * i + 5)) → h j = g j)
theorem TK.uniq {n b : Nat} {g s h h' : Nat → Int32} (a : TK n b g s h) (a' : TK n b g s h') : h = h' := by
  funext j
  obtain ⟨a1, a2, a3, a4⟩ := a
  obtain ⟨b1, b2, b3, b4⟩ := a'
  by_cases h1 : ∃ k, k < b ∧ j = 78 + (3 * k + 2)
  · obtain ⟨k, hk, rfl⟩ := h1
    rw [a1 k hk, b1 k hk]
  · by_cases h2 : ∃ i, i < n ∧ j = 6 + (6 * i + 5)
    · obtain ⟨i, hi, rfl⟩ := h2
      by_cases h3 : ∃ k, k < b ∧ s k = nI i
      · obtain ⟨k, hk, e⟩ := h3
        rw [a2 k hk i hi e, b2 k hk i hi e]
      · have h4 : ∀ k, k < b → s k ≠ nI i := fun k hk e => h3 ⟨k, hk, e⟩
        rw [a3 i hi h4, b3 i hi h4]
    · have h3 : ∀ k, k < b → j ≠ 78 + (3 * k + 2) := fun k hk e => h1 ⟨k, hk, e⟩
      have h4 : ∀ i, i < n → j ≠ 6 + (6 * i + 5) := fun i hi e => h2 ⟨i, hi, e⟩
      rw [a4 j h3 h4, b4 j h3 h4]
theorem tk_r (S : SV) {n m : Nat} (hn : S.1 0 = nI n) (hm : S.1 1 = nI m) (n12 : n ≤ 12) (m12 : m ≤ 12) (hs : SE n m (seats S)) (inj : ∀ k o i, k < m → o < m → i < n → seats S k = nI i → seats S o = nI i → k = o) :
    ∃ h, fX6_takesSeats S = sS0 h S ∧ gX6_takesSeats S ∧ TK n m S.1 (seats S) h := by
  have v0 : vp_in 0 114 := gHd (j := 0) rfl (by omega)
  have v1 : vp_in 1 114 := gHd (j := 1) rfl (by omega)
  -- the stools are freed
  have hf := fuel0 (x := S.1 (0 : Int32).toNatClampNeg) (n := n) (by rw [c0]; exact hn) (by omega)
  obtain ⟨key1, g1⟩ := fo_loop (f := lX6_takesSeats_2) (P := glX6_takesSeats_2) (fun (q : Nat → Int32) j => (sS0 q S, nI j)) (fun q => (sS0 q S, nI n)) (fun q j => upd q (6 + (6 * j + 5)) (-1)) (fun q j => (∀ i, i < j → q (6 + (6 * i + 5)) = -1) ∧ (∀ z, (∀ i, i < j → z ≠ 6 + (6 * i + 5)) → q z = S.1 z)) n (fun q j hj hI => by
    have hq : (sS0 q S).1 (0 : Int32).toNatClampNeg = nI n := by rw [c0]; exact (hI.2 0 (fun i _ => by omega)).trans hn
    have hc : ¬ (sS0 q S).1 (0 : Int32).toNatClampNeg ≤ nI j := up_le hq (by omega) hj
    obtain ⟨e1, e2⟩ := rL (sS0 q S) (i := j) (w := 5) (y := 5) (-1) (by omega) (by decide) rfl
    refine ⟨?_, ?_, ?_, ?_⟩
    · rw [glX6_takesSeats_2, if_neg hc]; exact ⟨v0, e2, trivial⟩
    · rw [lX6_takesSeats_2, if_neg hc]
      simp only []
      rw [e1, nI_1]; rfl
    · intro i hi
      show (if 6 + (6 * i + 5) = 6 + (6 * j + 5) then (-1 : Int32) else q _) = -1
      by_cases h : i = j
      · rw [if_pos (by omega)]
      · rw [if_neg (by omega)]; exact hI.1 i (by omega)
    · intro z hz
      show (if z = 6 + (6 * j + 5) then (-1 : Int32) else q z) = S.1 z
      rw [if_neg (hz j (by omega))]
      exact hI.2 z (fun i hi => hz i (by omega))) (fun q hI => by
    have hq : (sS0 q S).1 (0 : Int32).toNatClampNeg = nI n := by rw [c0]; exact (hI.2 0 (fun i _ => by omega)).trans hn
    have hc : (sS0 q S).1 (0 : Int32).toNatClampNeg ≤ nI n := at_le hq
    exact ⟨by rw [glX6_takesSeats_2, if_pos hc]; exact ⟨v0, trivial⟩, by rw [lX6_takesSeats_2, if_pos hc]⟩) n 0 S.1 _ (by omega) hf ⟨fun i hi => absurd hi (by omega), fun z _ => rfl⟩
  generalize fo (fun q j => upd q (6 + (6 * j + 5)) (-1)) 0 n S.1 = q1 at key1 g1
  -- the sitters sit down
  have hf2 := fuel0 (x := q1 (1 : Int32).toNatClampNeg) (n := m) (by rw [c1]; exact (g1.2 1 (fun i _ => by omega)).trans hm) (by omega)
  obtain ⟨key2, g2⟩ := fo_loop (f := lX6_takesSeats_27) (P := glX6_takesSeats_27) (fun (q : Nat → Int32) j => (sS0 q S, nI j)) (fun q => (sS0 q S, nI m)) (fun q j => if seats S j < 0 then upd q (78 + (3 * j + 2)) (seats S j) else upd (upd q (78 + (3 * j + 2)) (seats S j)) (6 + (6 * (seats S j).toNatClampNeg + 5)) (nI j)) (fun q b => TK n b S.1 (seats S) q) m (fun q j hj hI => by
    have hq : (sS0 q S).1 (1 : Int32).toNatClampNeg = nI m := by rw [c1]; exact (hI.2.2.2 1 (fun k _ => by omega) (fun i _ => by omega)).trans hm
    have hc : ¬ (sS0 q S).1 (1 : Int32).toNatClampNeg ≤ nI j := up_le hq (by omega) hj
    have ej : (nI j).toNatClampNeg = j := nI_clamp (by omega)
    have ix : (78 + 3 * nI j) + 2 = nI (78 + (3 * j + 2)) := ixP (w := 2) (y := 2) (by omega) (by decide) rfl
    have ixc : ((78 + 3 * nI j) + 2).toNatClampNeg = 78 + (3 * j + 2) := by rw [ix]; exact nI_clamp (by omega)
    have vj : vp_in (nI j) 12 := vp_in_nI (by omega) (by omega)
    have vx : vp_in ((78 + 3 * nI j) + 2) 114 := by rw [ix]; exact vp_in_nI (by omega) (by omega)
    have es : (sS0 q S).2.2.2.2.2.2.1 (nI j).toNatClampNeg = seats S j := by rw [ej]; rfl
    rcases hs j hj with h1 | ⟨i, hi, h1⟩
    · have c2 : seats S j < 0 := by rw [h1]; decide
      rw [glX6_takesSeats_27, lX6_takesSeats_27, if_neg hc, if_neg hc, es, if_pos c2, if_pos c2, if_pos c2]
      refine ⟨⟨v1, vj, vx, vj, trivial⟩, ?_, ?_⟩
      · simp only []
        rw [ixc, nI_1]; rfl
      · refine ⟨fun k hk => ?_, fun k hk i hi e => ?_, fun i hi e => ?_, fun z hz1 hz2 => ?_⟩
        · show (if 78 + (3 * k + 2) = 78 + (3 * j + 2) then seats S j else q _) = _
          by_cases h : k = j
          · rw [if_pos (by omega), h]
          · rw [if_neg (by omega)]; exact hI.1 k (by omega)
        · show (if 6 + (6 * i + 5) = 78 + (3 * j + 2) then seats S j else q _) = _
          rw [if_neg (by omega)]
          have : k ≠ j := by
            intro h; subst h
            rw [h1] at e
            exact nI_m1 (by omega) e.symm
          exact hI.2.1 k (by omega) i hi e
        · show (if 6 + (6 * i + 5) = 78 + (3 * j + 2) then seats S j else q _) = _
          rw [if_neg (by omega)]
          exact hI.2.2.1 i hi (fun k hk => e k (by omega))
        · show (if z = 78 + (3 * j + 2) then seats S j else q z) = _
          rw [if_neg (hz1 j (by omega))]
          exact hI.2.2.2 z (fun k hk => hz1 k (by omega)) hz2
    · have c2 : ¬ seats S j < 0 := by rw [h1]; exact nI_pos (by omega)
      have e5 : (seats S j).toNatClampNeg = i := by rw [h1]; exact nI_clamp (by omega)
      obtain ⟨e1, e2⟩ := rL (sS0 (upd q (78 + (3 * j + 2)) (seats S j)) S) (i := i) (w := 5) (y := 5) (nI j) (by omega) (by decide) rfl
      rw [glX6_takesSeats_27, lX6_takesSeats_27, if_neg hc, if_neg hc, es, if_neg c2, if_neg c2, if_neg c2]
      refine ⟨⟨v1, vj, vx, vj, vj, ?_, trivial⟩, ?_, ?_⟩
      · simp only []
        rw [ixc, h1]; rw [h1] at e2; exact e2
      · simp only []
        rw [ixc, e5, nI_1]
        have e1' : fX6_lays (sS0 (upd q (78 + (3 * j + 2)) (nI i)) S) (nI i) 5 (nI j) = sS0 (upd (upd q (78 + (3 * j + 2)) (nI i)) (6 + (6 * i + 5)) (nI j)) S := by rw [h1] at e1; exact e1
        rw [h1]
        exact congrArg (fun z => (Sum.inl (z, nI (j + 1)) : (SV × Int32) ⊕ (SV × Int32))) e1'
      · rw [e5]
        refine ⟨fun k hk => ?_, fun k hk i' hi' e => ?_, fun i' hi' e => ?_, fun z hz1 hz2 => ?_⟩
        · show (if 78 + (3 * k + 2) = 6 + (6 * i + 5) then nI j else if 78 + (3 * k + 2) = 78 + (3 * j + 2) then seats S j else q _) = _
          rw [if_neg (by omega)]
          by_cases h : k = j
          · rw [if_pos (by omega), h]
          · rw [if_neg (by omega)]; exact hI.1 k (by omega)
        · show (if 6 + (6 * i' + 5) = 6 + (6 * i + 5) then nI j else if 6 + (6 * i' + 5) = 78 + (3 * j + 2) then seats S j else q _) = _
          by_cases h : i' = i
          · subst h
            rw [if_pos rfl]
            rw [inj k j i' (by omega) hj hi e h1]
          · rw [if_neg (by omega), if_neg (by omega)]
            have : k ≠ j := by
              intro h3; subst h3
              rw [h1] at e
              exact h (nI_inj (by omega) (by omega) e).symm
            exact hI.2.1 k (by omega) i' hi' e
        · show (if 6 + (6 * i' + 5) = 6 + (6 * i + 5) then nI j else if 6 + (6 * i' + 5) = 78 + (3 * j + 2) then seats S j else q _) = _
          have h : i' ≠ i := fun h => e j (by omega) (by rw [h]; exact h1)
          rw [if_neg (by omega), if_neg (by omega)]
          exact hI.2.2.1 i' hi' (fun k hk => e k (by omega))
        · show (if z = 6 + (6 * i + 5) then nI j else if z = 78 + (3 * j + 2) then seats S j else q z) = _
          rw [if_neg (hz2 i hi), if_neg (hz1 j (by omega))]
          exact hI.2.2.2 z (fun k hk => hz1 k (by omega)) hz2) (fun q hI => by
    have hq : (sS0 q S).1 (1 : Int32).toNatClampNeg = nI m := by rw [c1]; exact (hI.2.2.2 1 (fun k _ => by omega) (fun i _ => by omega)).trans hm
    have hc : (sS0 q S).1 (1 : Int32).toNatClampNeg ≤ nI m := at_le hq
    exact ⟨by rw [glX6_takesSeats_27, if_pos hc]; exact ⟨v1, trivial⟩, by rw [lX6_takesSeats_27, if_pos hc]⟩) m 0 q1 _ (by omega) hf2 ⟨fun k hk => absurd hk (by omega), fun k hk => absurd hk (by omega), fun i hi _ => g1.1 i hi, fun z _ hz => g1.2 z hz⟩
  have w1 := lrun_itv (d := ((S, 0) : SV × Int32)) key1
  refine ⟨_, ?_, ⟨⟨_, key1⟩, ?_, trivial⟩, g2⟩
  · rw [fX6_takesSeats]
    have w1' : itv (S, 0) lX6_takesSeats_2 ((fun v : (SV × Int32) => ((v.1.1 (0 : Int32).toNatClampNeg).toInt - v.2.toInt).toNat) (S, 0) + 1) (S, 0) = (sS0 q1 S, nI n) := w1
    rw [w1']
    exact congrArg Prod.fst (lrun_itv key2)
  · have w1' : itv (S, 0) lX6_takesSeats_2 ((fun v : (SV × Int32) => ((v.1.1 (0 : Int32).toNatClampNeg).toInt - v.2.toInt).toNat) (S, 0) + 1) (S, 0) = (sS0 q1 S, nI n) := w1
    rw [w1']
    exact ⟨_, key2⟩
