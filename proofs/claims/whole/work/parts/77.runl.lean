/-! Run: the loop over orders -/
def END (K : Nat) (C : CV) (S1 : SV) (Rc : CV × TV × Int32 × Int32) (Rr : SV × Int32 × Int32) : Prop :=
  (∃ (v n' m' : Nat) (S' : SV), v ≤ 1000 ∧ Rc.1 = C ∧ Rc.2.1 = tvOf S'.1 ∧ Rc.2.2.1 = nI v ∧ Rr.1 = S' ∧ WT K n' m' S'.1 ∧ RN S1 S' ∧ S'.2.2.2.2.2.2.2.2.2.2.2.2.1 = 0 ∧ S'.2.2.2.2.2.2.2.2.2.2.2.2.2.1 = C.2.2.1 ∧ S'.2.2.2.2.2.2.2.2.2.2.2.2.2.2.1 = C.2.2.2) ∨
  (∃ (v : Int32) (S' : SV), v < 0 ∧ v ≠ -3 ∧ Rc.1 = C ∧ Rc.2.2.1 = v ∧ Rr.1 = S' ∧ Rr.2.2 = 0 ∧ RN S1 S' ∧ 0 < S'.2.2.2.2.2.2.2.2.2.2.2.2.1 ∧ S'.2.2.2.2.2.2.2.2.2.2.2.1 = 0 ∧ S'.2.2.2.2.2.2.2.2.2.2.2.2.2.1 = C.2.2.1 ∧ S'.2.2.2.2.2.2.2.2.2.2.2.2.2.2.1 = C.2.2.2) ∨
  (∃ (S' : SV), Rc.1 = (C.1, C.2.1, S'.2.2.2.2.2.2.2.2.2.2.2.2.2.1, S'.2.2.2.2.2.2.2.2.2.2.2.2.2.2.1) ∧ Rc.2.2.1 = -3 ∧ Rr.1 = S' ∧ Rr.2.2 = 0 ∧ RN S1 S' ∧ 0 < S'.2.2.2.2.2.2.2.2.2.2.2.2.1 ∧ S'.2.2.2.2.2.2.2.2.2.2.2.1 = 1)
theorem pos_ne {x : Int32} (h : 0 < x) : ¬ x = 0 := fun e => by rw [e] at h; exact absurd h (by decide)
theorem pos_nle {x : Int32} (h : 0 < x) : ¬ x ≤ 0 := fun e => by
  rw [Int32.lt_iff_toInt_lt] at h; rw [Int32.le_iff_toInt_le] at e; omega
theorem run_loop (C0 : CV) (T0 : TV) (Hs : HV) (G : Nat → TV) (Xt : XV) (n1 : Int32 × XV) (n3 : Nat → TV) (X : XV) (S1 : SV) {j c : Nat} (hX : X.2.2.2.2 = nI j) (hj : j ≤ 30) (h19 : S1.2.2.2.2.2.2.2.2.2.2.2.2.2.2.2.2.2.2.2 = nI j) (hc : c ≤ 8) (hch : S1.2.2.2.2.2.2.2.2.2.1 = nI c) (hw : ¬ S1.2.2.2.2.2.2.2.2.2.2.1 = 0) (ho : ∀ i, i < j → OE X.2.1 S1.2.2.2.2.2.2.2.1 i) (C : CV) :
    ∀ (k i K n m : Nat) (S : SV) (v : Nat), i + k = j → K + k ≤ 10000 → v ≤ 1000 → WT K n m S.1 → RN S1 S → S.2.2.2.2.2.2.2.2.2.2.2.2.1 = 0 → S.2.2.2.2.2.2.2.2.2.2.2.2.2.1 = C.2.2.1 → S.2.2.2.2.2.2.2.2.2.2.2.2.2.2.1 = C.2.2.2 →
      ∃ Rc Rr, itr (lX5_run_51 C0 T0 Hs G Xt n1 X n3) (k + 1) (C, tvOf S.1, nI v, nI i) = .inr Rc ∧ lrun lX6_run_66 glX6_run_66 (k + 1) (S, nI i, nI v) Rr ∧ END (K + k) C S1 Rc Rr := by
  intro k
  induction k with
  | zero =>
    intro i K n m S v hij hK hv hT hR h12 h13 h14
    have e19 : S.2.2.2.2.2.2.2.2.2.2.2.2.2.2.2.2.2.2.2 = nI j := (hR.2.2.2.2.2.2.2.2.2.2.2.2.2).trans h19
    have le : nI j ≤ nI i := nI_le (by omega) (by omega)
    have e1 : lX5_run_51 C0 T0 Hs G Xt n1 X n3 (C, tvOf S.1, nI v, nI i) = .inr (C, tvOf S.1, nI v, nI i) := by
      unfold lX5_run_51; dsimp only; rw [hX, if_pos le]
    have e2 : lX6_run_66 (S, nI i, nI v) = .inr (S, nI i, nI v) := by
      unfold lX6_run_66; dsimp only; rw [e19, if_pos le]
    have e3 : glX6_run_66 (S, nI i, nI v) := by
      unfold glX6_run_66; dsimp only; rw [e19, if_pos le]; trivial
    exact ⟨(C, tvOf S.1, nI v, nI i), (S, nI i, nI v), by simp only [itr, e1], ⟨e3, .inr e2⟩, .inl ⟨v, n, m, S, hv, rfl, rfl, rfl, rfl, hT, hR, h12, h13, h14⟩⟩
  | succ k ih =>
    intro i K n m S v hij hK hv hT hR h12 h13 h14
    have e19 : S.2.2.2.2.2.2.2.2.2.2.2.2.2.2.2.2.2.2.2 = nI j := (hR.2.2.2.2.2.2.2.2.2.2.2.2.2).trans h19
    have nle : ¬ nI j ≤ nI i := nI_ge (by omega) (by omega)
    have e7 : S.2.2.2.2.2.2.2.1 = S1.2.2.2.2.2.2.2.1 := hR.2.2.2.2.2.1
    have cq := carry_eq C S X hT hc ((hR.2.2.2.2.2.2.2.1).trans hch) (by omega) (by rw [hR.2.2.2.2.2.2.2.2.1]; exact hw) (j := i) (by omega) (by rw [e7]; exact ho i (by omega))
    obtain ⟨cq, gq⟩ := cq
    have e3 : glX6_run_66 (S, nI i, nI v) := by
      unfold glX6_run_66; dsimp only; rw [e19, if_neg nle, h12, if_pos rfl, n5 (by omega)]; exact ⟨gq, trivial⟩
    rcases cq with ⟨v', n', m', S', b0, bA, bB, b1, b2, b3, b4, b5⟩ | ⟨v', S', b0, b6, bA, bB, b2, b3, b7, b4, b5⟩ | ⟨S', bA, bB, b2, b3, b7⟩
    · have e1 : lX5_run_51 C0 T0 Hs G Xt n1 X n3 (C, tvOf S.1, nI v, nI i) = .inl (C, tvOf S'.1, nI v', nI (i + 1)) := by
        unfold lX5_run_51; dsimp only; rw [hX, if_neg nle, if_neg (nI_pos (by omega)), bA, nI_1]
      have e2 : lX6_run_66 (S, nI i, nI v) = .inl (S', nI (i + 1), nI v') := by
        unfold lX6_run_66; dsimp only; rw [e19, if_neg nle, h12, if_pos rfl, n5 (by omega), bB]; dsimp only; rw [b3, if_pos rfl, nI_1]
      obtain ⟨Rc, Rr, d1, d2, d3⟩ := ih (i + 1) (K + 1) n' m' S' v' (by omega) (by omega) b0 b1 (hR.tr b2) b3 (b4.trans h13) (b5.trans h14)
      rw [show K + 1 + k = K + (k + 1) by omega] at d3
      exact ⟨Rc, Rr, by rw [itr, e1]; exact d1, ⟨e3, .inl ⟨_, e2, d2⟩⟩, d3⟩
    · have e1 : lX5_run_51 C0 T0 Hs G Xt n1 X n3 (C, tvOf S.1, nI v, nI i) = .inl (C, tvOf S.1, v', nI (i + 1)) := by
        unfold lX5_run_51; dsimp only; rw [hX, if_neg nle, if_neg (nI_pos (by omega)), bA, nI_1]
      have e2 : lX6_run_66 (S, nI i, nI v) = .inl (S', nI i, 0) := by
        unfold lX6_run_66; dsimp only; rw [e19, if_neg nle, h12, if_pos rfl, n5 (by omega), bB]; dsimp only; rw [if_neg (pos_ne b3)]
      have e4 : lX5_run_51 C0 T0 Hs G Xt n1 X n3 (C, tvOf S.1, v', nI (i + 1)) = .inr (C, tvOf S.1, v', nI (i + 1)) := by
        unfold lX5_run_51; dsimp only; rw [if_pos b0, ite_self]
      have e19' : S'.2.2.2.2.2.2.2.2.2.2.2.2.2.2.2.2.2.2.2 = nI j := (b2.2.2.2.2.2.2.2.2.2.2.2.2.2).trans e19
      have e5 : lX6_run_66 (S', nI i, 0) = .inr (S', nI i, 0) := by
        unfold lX6_run_66; dsimp only; rw [e19', if_neg nle, if_neg (pos_ne b3)]
      have e6 : glX6_run_66 (S', nI i, 0) := by
        unfold glX6_run_66; dsimp only; rw [e19', if_neg nle, if_neg (pos_ne b3)]; trivial
      exact ⟨(C, tvOf S.1, v', nI (i + 1)), (S', nI i, 0), by rw [itr, e1]; simp only [itr, e4], ⟨e3, .inl ⟨_, e2, ⟨e6, .inr e5⟩⟩⟩, .inr (.inl ⟨v', S', b0, b6, rfl, rfl, rfl, rfl, hR.tr b2, b3, b7, b4.trans h13, b5.trans h14⟩)⟩
    · have e1 : lX5_run_51 C0 T0 Hs G Xt n1 X n3 (C, tvOf S.1, nI v, nI i) = .inl ((C.1, C.2.1, S'.2.2.2.2.2.2.2.2.2.2.2.2.2.1, S'.2.2.2.2.2.2.2.2.2.2.2.2.2.2.1), tvOf S.1, -3, nI (i + 1)) := by
        unfold lX5_run_51; dsimp only; rw [hX, if_neg nle, if_neg (nI_pos (by omega)), bA, nI_1]
      have e2 : lX6_run_66 (S, nI i, nI v) = .inl (S', nI i, 0) := by
        unfold lX6_run_66; dsimp only; rw [e19, if_neg nle, h12, if_pos rfl, n5 (by omega), bB]; dsimp only; rw [if_neg (pos_ne b3)]
      have e4 : lX5_run_51 C0 T0 Hs G Xt n1 X n3 ((C.1, C.2.1, S'.2.2.2.2.2.2.2.2.2.2.2.2.2.1, S'.2.2.2.2.2.2.2.2.2.2.2.2.2.2.1), tvOf S.1, -3, nI (i + 1)) = .inr ((C.1, C.2.1, S'.2.2.2.2.2.2.2.2.2.2.2.2.2.1, S'.2.2.2.2.2.2.2.2.2.2.2.2.2.2.1), tvOf S.1, -3, nI (i + 1)) := by
        unfold lX5_run_51; dsimp only; rw [if_pos (by decide : (-3 : Int32) < 0), ite_self]
      have e19' : S'.2.2.2.2.2.2.2.2.2.2.2.2.2.2.2.2.2.2.2 = nI j := (b2.2.2.2.2.2.2.2.2.2.2.2.2.2).trans e19
      have e5 : lX6_run_66 (S', nI i, 0) = .inr (S', nI i, 0) := by
        unfold lX6_run_66; dsimp only; rw [e19', if_neg nle, if_neg (pos_ne b3)]
      have e6 : glX6_run_66 (S', nI i, 0) := by
        unfold glX6_run_66; dsimp only; rw [e19', if_neg nle, if_neg (pos_ne b3)]; trivial
      exact ⟨((C.1, C.2.1, S'.2.2.2.2.2.2.2.2.2.2.2.2.2.1, S'.2.2.2.2.2.2.2.2.2.2.2.2.2.2.1), tvOf S.1, -3, nI (i + 1)), (S', nI i, 0), by rw [itr, e1]; simp only [itr, e4], ⟨e3, .inl ⟨_, e2, ⟨e6, .inr e5⟩⟩⟩, .inr (.inr ⟨S', rfl, rfl, rfl, rfl, hR.tr b2, b3, b7⟩)⟩
