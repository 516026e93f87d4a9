/-! The row of the tavern, by places -/
def qs (g : Nat → Int32) (i w : Nat) : Int32 := g (6 + (6 * i + w))
def qp (g : Nat → Int32) (k w : Nat) : Int32 := g (78 + (3 * k + w))
theorem rS (g : Nat → Int32) {i w : Nat} {y : Int32} (hi : i < 12) (hw : w < 6) (hy : y = nI w) : fX3_ofStool (tvOf g) (nI i) y = qs g i w := by
  rw [ofStool_eq (tvOf g) i w rfl hy hi hw, tv1 g (by omega)]; rfl
theorem rP (g : Nat → Int32) {k w : Nat} {y : Int32} (hk : k < 12) (hw : w < 3) (hy : y = nI w) : fX3_ofSitter (tvOf g) (nI k) y = qp g k w := by
  rw [ofSitter_eq (tvOf g) k w rfl hy hk hw, tv2 g (by omega)]; rfl
theorem rO (S : SV) {i w : Nat} {y : Int32} (hi : i < 12) (hw : w < 6) (hy : y = nI w) : fX6_of S (nI i) y = qs S.1 i w := (of_eq S i w rfl hy hi hw).1
theorem rB (S : SV) {k w : Nat} {y : Int32} (hk : k < 12) (hw : w < 3) (hy : y = nI w) : fX6_by S (nI k) y = qp S.1 k w := (by_eq S k w rfl hy hk hw).1
theorem gO (S : SV) {i w : Nat} {y : Int32} (hi : i < 12) (hw : w < 6) (hy : y = nI w) : gX6_of S (nI i) y := (of_eq S i w rfl hy hi hw).2
theorem gB (S : SV) {k w : Nat} {y : Int32} (hk : k < 12) (hw : w < 3) (hy : y = nI w) : gX6_by S (nI k) y := (by_eq S k w rfl hy hk hw).2
theorem rS_none (g : Nat → Int32) (y : Int32) : fX3_ofStool (tvOf g) (-1) y = -1 := ofStool_none _ _
theorem rP_none (g : Nat → Int32) (y : Int32) : fX3_ofSitter (tvOf g) (-1) y = -1 := ofSitter_none _ _
/-- the well-kept row: n stools, m sitters, K calls behind -/
def WT (K n m : Nat) (g : Nat → Int32) : Prop :=
  (g 0 = nI n ∧ g 1 = nI m ∧ n ≤ 12 ∧ m ≤ 12 ∧ 0 ≤ (g 2).toInt ∧ (g 2).toInt ≤ 6 + 12 * K) ∧
  (∀ i, i < n → (1 ≤ (qs g i 0).toInt ∧ (qs g i 0).toInt ≤ 40) ∧ (0 ≤ (qs g i 1).toInt ∧ (qs g i 1).toInt ≤ 9) ∧ (0 ≤ (qs g i 2).toInt ∧ (qs g i 2).toInt ≤ 9) ∧ (qs g i 3 = 0 ∨ qs g i 3 = 1) ∧ (0 ≤ (qs g i 4).toInt ∧ (qs g i 4).toInt ≤ K) ∧ (qs g i 5 = -1 ∨ ∃ k, k < m ∧ qs g i 5 = nI k ∧ qp g k 2 = nI i)) ∧
  (∀ k, k < m → (0 ≤ (qp g k 0).toInt ∧ (qp g k 0).toInt ≤ 9) ∧ (1 ≤ (qp g k 1).toInt ∧ (qp g k 1).toInt ≤ 200) ∧ (qp g k 2 = -1 ∨ ∃ i, i < n ∧ qp g k 2 = nI i ∧ qs g i 5 = nI k ∧ (qp g k 0 = 0 → qs g i 3 = 0)))
theorem WT.mono {K K' n m : Nat} {g : Nat → Int32} (h : WT K n m g) (hK : K ≤ K') : WT K' n m g := by
  obtain ⟨⟨h1, h2, h3, h4, h5, h6⟩, h7, h8⟩ := h
  refine ⟨⟨h1, h2, h3, h4, h5, by omega⟩, fun i hi => ?_, h8⟩
  obtain ⟨a, b, c, d, e, f⟩ := h7 i hi
  exact ⟨a, b, c, d, ⟨e.1, by omega⟩, f⟩
/-- writes in the row -/
theorem qs_upS (g : Nat → Int32) {i w i' w' : Nat} (v : Int32) (hw : w < 6) (hw' : w' < 6) : qs (upd g (6 + (6 * i + w)) v) i' w' = if i' = i ∧ w' = w then v else qs g i' w' := by
  show (if 6 + (6 * i' + w') = 6 + (6 * i + w) then v else _) = _
  by_cases h : i' = i ∧ w' = w
  · rw [if_pos h, if_pos (by omega)]
  · rw [if_neg h, if_neg (by omega)]; rfl
theorem qp_upP (g : Nat → Int32) {k w k' w' : Nat} (v : Int32) (hw : w < 3) (hw' : w' < 3) : qp (upd g (78 + (3 * k + w)) v) k' w' = if k' = k ∧ w' = w then v else qp g k' w' := by
  show (if 78 + (3 * k' + w') = 78 + (3 * k + w) then v else _) = _
  by_cases h : k' = k ∧ w' = w
  · rw [if_pos h, if_pos (by omega)]
  · rw [if_neg h, if_neg (by omega)]; rfl
theorem qs_upP (g : Nat → Int32) {k w i' w' : Nat} (v : Int32) (hi : i' < 12) (hw' : w' < 6) : qs (upd g (78 + (3 * k + w)) v) i' w' = qs g i' w' := by
  show (if 6 + (6 * i' + w') = 78 + (3 * k + w) then v else _) = _
  rw [if_neg (by omega)]; rfl
theorem qp_upS (g : Nat → Int32) {i w k' w' : Nat} (v : Int32) (hi : i < 12) (hw : w < 6) : qp (upd g (6 + (6 * i + w)) v) k' w' = qp g k' w' := by
  show (if 78 + (3 * k' + w') = 6 + (6 * i + w) then v else _) = _
  rw [if_neg (by omega)]; rfl
theorem qs_upH (g : Nat → Int32) {c i' w' : Nat} (v : Int32) (hc : c < 6) : qs (upd g c v) i' w' = qs g i' w' := by
  show (if 6 + (6 * i' + w') = c then v else _) = _
  rw [if_neg (by omega)]; rfl
theorem qp_upH (g : Nat → Int32) {c i' w' : Nat} (v : Int32) (hc : c < 6) : qp (upd g c v) i' w' = qp g i' w' := by
  show (if 78 + (3 * i' + w') = c then v else _) = _
  rw [if_neg (by omega)]; rfl
theorem hd_upS (g : Nat → Int32) {i w c : Nat} (v : Int32) (hc : c < 6) : upd g (6 + (6 * i + w)) v c = g c := by
  show (if c = 6 + (6 * i + w) then v else _) = _
  rw [if_neg (by omega)]
theorem hd_upP (g : Nat → Int32) {k w c : Nat} (v : Int32) (hc : c < 6) : upd g (78 + (3 * k + w)) v c = g c := by
  show (if c = 78 + (3 * k + w) then v else _) = _
  rw [if_neg (by omega)]
/-- the class's writes are the row's -/
theorem tv_ext {g h : Nat → Int32} (e : ∀ j, j < 114 → g j = h j) : tvOf g = tvOf h := by
  have e1 : (fun j => if j < 72 then g (6 + j) else 0) = (fun j => if j < 72 then h (6 + j) else 0) := by
    funext j
    by_cases hj : j < 72
    · rw [if_pos hj, if_pos hj, e _ (by omega)]
    · rw [if_neg hj, if_neg hj]
  have e2 : (fun j => if j < 36 then g (78 + j) else 0) = (fun j => if j < 36 then h (78 + j) else 0) := by
    funext j
    by_cases hj : j < 36
    · rw [if_pos hj, if_pos hj, e _ (by omega)]
    · rw [if_neg hj, if_neg hj]
  simp only [tvOf]
  rw [e1, e2, e 0 (by omega), e 1 (by omega), e 2 (by omega), e 3 (by omega), e 4 (by omega), e 5 (by omega)]
theorem tv_setS (g : Nat → Int32) {i w : Nat} {y : Int32} (v : Int32) (hi : i < 12) (hw : w < 6) (hy : y = nI w) : fX3_setOfStool (tvOf g) (nI i) y v = tvOf (upd g (6 + (6 * i + w)) v) := by
  subst hy
  have h1 : ¬ nI i < 0 := nI_pos (by omega)
  have h2 : ¬ (12 : Int32) ≤ nI i := nI_ge (a := i) (b := 12) (by omega) (by omega)
  have h3 : ¬ nI w < 0 := nI_pos (by omega)
  have h4 : ¬ (6 : Int32) ≤ nI w := nI_ge (a := w) (b := 6) (by omega) (by omega)
  have e : nI i * 6 + nI w = nI (6 * i + w) := by
    rw [show (6 : Int32) = nI 6 from rfl, nI_mul (by omega) (by omega) (by omega), nI_add]
    congr 1
    omega
  rw [fX3_setOfStool, if_neg h1, if_neg h2, if_neg h3, if_neg h4, e, nI_clamp (by omega)]
  have e1 : upd (tvOf g).1 (6 * i + w) v = (tvOf (upd g (6 + (6 * i + w)) v)).1 := by
    funext j
    show (if j = 6 * i + w then v else if j < 72 then g (6 + j) else 0) = if j < 72 then (if 6 + j = 6 + (6 * i + w) then v else g (6 + j)) else 0
    by_cases hj : j = 6 * i + w
    · rw [if_pos hj, if_pos (by omega), if_pos (by omega)]
    · rw [if_neg hj]
      by_cases h7 : j < 72
      · rw [if_pos h7, if_pos h7, if_neg (by omega)]
      · rw [if_neg h7, if_neg h7]
  have e2 : (tvOf g).2.1 = (tvOf (upd g (6 + (6 * i + w)) v)).2.1 := by
    funext j
    show (if j < 36 then g (78 + j) else 0) = if j < 36 then (if 78 + j = 6 + (6 * i + w) then v else g (78 + j)) else 0
    by_cases h7 : j < 36
    · rw [if_pos h7, if_pos h7, if_neg (by omega)]
    · rw [if_neg h7, if_neg h7]
  rw [e1, e2]
  have e3 : ∀ c, c < 6 → upd g (6 + (6 * i + w)) v c = g c := fun c hc => hd_upS g v hc
  show (_, _, g 0, g 1, g 2, g 3, g 4, g 5) = (_, _, upd g _ v 0, upd g _ v 1, upd g _ v 2, upd g _ v 3, upd g _ v 4, upd g _ v 5)
  rw [e3 0 (by omega), e3 1 (by omega), e3 2 (by omega), e3 3 (by omega), e3 4 (by omega), e3 5 (by omega)]
  rfl
theorem tv_setP (g : Nat → Int32) {k w : Nat} {y : Int32} (v : Int32) (hk : k < 12) (hw : w < 3) (hy : y = nI w) : fX3_setOfSitter (tvOf g) (nI k) y v = tvOf (upd g (78 + (3 * k + w)) v) := by
  subst hy
  have h1 : ¬ nI k < 0 := nI_pos (by omega)
  have h2 : ¬ (12 : Int32) ≤ nI k := nI_ge (a := k) (b := 12) (by omega) (by omega)
  have h3 : ¬ nI w < 0 := nI_pos (by omega)
  have h4 : ¬ (3 : Int32) ≤ nI w := nI_ge (a := w) (b := 3) (by omega) (by omega)
  have e : nI k * 3 + nI w = nI (3 * k + w) := by
    rw [show (3 : Int32) = nI 3 from rfl, nI_mul (by omega) (by omega) (by omega), nI_add]
    congr 1
    omega
  rw [fX3_setOfSitter, if_neg h1, if_neg h2, if_neg h3, if_neg h4, e, nI_clamp (by omega)]
  have e1 : upd (tvOf g).2.1 (3 * k + w) v = (tvOf (upd g (78 + (3 * k + w)) v)).2.1 := by
    funext j
    show (if j = 3 * k + w then v else if j < 36 then g (78 + j) else 0) = if j < 36 then (if 78 + j = 78 + (3 * k + w) then v else g (78 + j)) else 0
    by_cases hj : j = 3 * k + w
    · rw [if_pos hj, if_pos (by omega), if_pos (by omega)]
    · rw [if_neg hj]
      by_cases h7 : j < 36
      · rw [if_pos h7, if_pos h7, if_neg (by omega)]
      · rw [if_neg h7, if_neg h7]
  have e2 : (tvOf g).1 = (tvOf (upd g (78 + (3 * k + w)) v)).1 := by
    funext j
    show (if j < 72 then g (6 + j) else 0) = if j < 72 then (if 6 + j = 78 + (3 * k + w) then v else g (6 + j)) else 0
    by_cases h7 : j < 72
    · rw [if_pos h7, if_pos h7, if_neg (by omega)]
    · rw [if_neg h7, if_neg h7]
  rw [e1, e2]
  have e3 : ∀ c, c < 6 → upd g (78 + (3 * k + w)) v c = g c := fun c hc => hd_upP g v hc
  show (_, _, g 0, g 1, g 2, g 3, g 4, g 5) = (_, _, upd g _ v 0, upd g _ v 1, upd g _ v 2, upd g _ v 3, upd g _ v 4, upd g _ v 5)
  rw [e3 0 (by omega), e3 1 (by omega), e3 2 (by omega), e3 3 (by omega), e3 4 (by omega), e3 5 (by omega)]
  rfl
theorem tv_setS_none (T : TV) (y v : Int32) : fX3_setOfStool T (-1) y v = T := by
  rw [fX3_setOfStool, if_pos (by decide)]
/-- heads -/
theorem tv_hd (g : Nat → Int32) (c : Nat) (hc : c < 6) (v : Int32) : (tvOf (upd g c v)).1 = (tvOf g).1 ∧ (tvOf (upd g c v)).2.1 = (tvOf g).2.1 := by
  constructor
  · funext j
    show (if j < 72 then (if 6 + j = c then v else g (6 + j)) else 0) = if j < 72 then g (6 + j) else 0
    rw [if_neg (show ¬ 6 + j = c by omega)]
  · funext j
    show (if j < 36 then (if 78 + j = c then v else g (78 + j)) else 0) = if j < 36 then g (78 + j) else 0
    rw [if_neg (show ¬ 78 + j = c by omega)]
/-- the reference's writes are the row's -/
theorem rL (S : SV) {i w : Nat} {y : Int32} (v : Int32) (hi : i < 12) (hw : w < 6) (hy : y = nI w) : fX6_lays S (nI i) y v = sS0 (upd S.1 (6 + (6 * i + w)) v) S ∧ gX6_lays S (nI i) y v := by
  subst hy
  have e : (6 + 6 * nI i) + nI w = nI (6 + (6 * i + w)) := by
    rw [show (6 : Int32) = nI 6 from rfl, nI_mul (by omega) (by omega) (by omega), nI_add, nI_add]
    congr 1
    omega
  refine ⟨?_, ?_⟩
  · rw [fX6_lays, e, nI_clamp (by omega)]
  · rw [gX6_lays, e]
    exact ⟨vp_in_nI (by omega) (by omega), trivial⟩
theorem ixP {k w : Nat} {y : Int32} (hk : k < 12) (hw : w < 3) (hy : y = nI w) : (78 + 3 * nI k) + y = nI (78 + (3 * k + w)) := by
  subst hy
  rw [show (3 : Int32) = nI 3 from rfl, show (78 : Int32) = nI 78 from rfl, nI_mul (by omega) (by omega) (by omega), nI_add, nI_add]
  congr 1
  omega
/-- fuel of loops -/
theorem fuel0 {x : Int32} {n : Nat} (h : x = nI n) (hn : n ≤ 100000) : n < (x.toInt - (0 : Int32).toInt).toNat + 1 := by
  rw [h, nI_toInt (by omega), z0]; omega
theorem fuelk {x y : Int32} {n k : Nat} (h : x = nI n) (hy : y = nI k) (hn : n ≤ 100000) (hk : k ≤ 100000) : n - k < (x.toInt - y.toInt).toNat + 1 := by
  rw [h, hy, nI_toInt (by omega), nI_toInt (by omega)]; omega
theorem fuelk1 {x y : Int32} {n k : Nat} (h : x = nI n) (hy : y = nI k) (hn : n ≤ 100000) (hk : k ≤ 100000) : n + 1 - k < (x.toInt + 1 - y.toInt).toNat + 1 := by
  rw [h, hy, nI_toInt (by omega), nI_toInt (by omega)]; omega
theorem up_le {x : Int32} {n k : Nat} (h : x = nI n) (hn : n ≤ 100000) (hk : k < n) : ¬ x ≤ nI k := by
  rw [h]; exact nI_ge hk (by omega)
theorem at_le {x : Int32} {n : Nat} (h : x = nI n) : x ≤ nI n := by
  rw [h]; exact Int32.le_refl _
theorem nI_inj {a b : Nat} (ha : a ≤ 100000) (hb : b ≤ 100000) (h : nI a = nI b) : a = b := (nI_eq (by omega) (by omega)).mp h
theorem nI_m1 {a : Nat} (ha : a ≤ 100000) : nI a ≠ -1 := by
  intro h
  have := congrArg Int32.toInt h
  rw [nI_toInt (by omega), show (-1 : Int32).toInt = -1 by decide] at this
  omega
theorem toI_eq {x y : Int32} (h : x.toInt = y.toInt) : x = y := Int32.toInt_inj.mp h
theorem of_rng {x : Int32} {a b : Int} (h1 : a ≤ x.toInt) (h0 : 0 ≤ a) (h2 : x.toInt ≤ b) : ∃ j : Nat, x = nI j ∧ a ≤ j ∧ (j : Int) ≤ b := by
  have hr := fb_rng x
  refine ⟨x.toInt.toNat, ?_, by omega, by omega⟩
  apply toI_eq
  rw [nI_toInt (by omega)]
  omega
theorem WT.sit {K n m : Nat} {g : Nat → Int32} (h : WT K n m g) {k : Nat} (hk : k < m) : qp g k 2 = -1 ∨ ∃ i, i < n ∧ qp g k 2 = nI i ∧ qs g i 5 = nI k ∧ (qp g k 0 = 0 → qs g i 3 = 0) := (h.2.2 k hk).2.2
theorem WT.who {K n m : Nat} {g : Nat → Int32} (h : WT K n m g) {i : Nat} (hi : i < n) : qs g i 5 = -1 ∨ ∃ k, k < m ∧ qs g i 5 = nI k ∧ qp g k 2 = nI i := (h.2.1 i hi).2.2.2.2.2
theorem m1_lt : (-1 : Int32) < 0 := by decide
theorem m1_nle : ¬ (0 : Int32) ≤ -1 := by decide
