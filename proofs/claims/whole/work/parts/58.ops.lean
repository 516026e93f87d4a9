/-! The changes: coins, stools, sitters -/
theorem upd_comm (g : Nat → Int32) {a b : Nat} (x y : Int32) (h : a ≠ b) : upd (upd g a x) b y = upd (upd g b y) a x := by
  funext j
  show (if j = b then y else if j = a then x else g j) = (if j = a then x else if j = b then y else g j)
  by_cases h1 : j = b
  · rw [if_pos h1, if_neg (fun z => h (z.symm.trans h1)), if_pos h1]
  · rw [if_neg h1, if_neg h1]
theorem WT.up {K n m : Nat} {g : Nat → Int32} (h : WT K n m g) {i w : Nat} {v : Int32} (hi : i < n) (hw : w = 1 ∨ w = 2 ∨ w = 4) (hv : w = 1 ∨ w = 2 → 0 ≤ v.toInt ∧ v.toInt ≤ 9) (hv4 : w = 4 → 0 ≤ v.toInt ∧ v.toInt ≤ K) : WT K n m (upd g (6 + (6 * i + w)) v) := by
  obtain ⟨⟨a1, a2, a3, a4, a5, a6⟩, b, c⟩ := h
  refine ⟨⟨by rw [hd_upS g v (by omega)]; exact a1, by rw [hd_upS g v (by omega)]; exact a2, a3, a4, by rw [hd_upS g v (by omega)]; exact a5, by rw [hd_upS g v (by omega)]; exact a6⟩, fun i' hi' => ?_, fun k hk => ?_⟩
  · obtain ⟨b0, b1, b2, b3, b4, b5⟩ := b i' hi'
    rw [qs_upS g v (w' := 0) (by omega) (by omega), qs_upS g v (w' := 1) (by omega) (by omega), qs_upS g v (w' := 2) (by omega) (by omega), qs_upS g v (w' := 3) (by omega) (by omega), qs_upS g v (w' := 4) (by omega) (by omega), qs_upS g v (w' := 5) (by omega) (by omega)]
    rw [if_neg (show ¬ (i' = i ∧ 0 = w) by omega), if_neg (show ¬ (i' = i ∧ 3 = w) by omega), if_neg (show ¬ (i' = i ∧ 5 = w) by omega)]
    refine ⟨b0, ?_, ?_, b3, ?_, ?_⟩
    · by_cases q : i' = i ∧ 1 = w
      · rw [if_pos q]; exact hv (Or.inl q.2.symm)
      · rw [if_neg q]; exact b1
    · by_cases q : i' = i ∧ 2 = w
      · rw [if_pos q]; exact hv (Or.inr q.2.symm)
      · rw [if_neg q]; exact b2
    · by_cases q : i' = i ∧ 4 = w
      · rw [if_pos q]; exact hv4 q.2.symm
      · rw [if_neg q]; exact b4
    · rcases b5 with b5 | ⟨k, hk, e1, e2⟩
      · exact Or.inl b5
      · exact Or.inr ⟨k, hk, e1, by rw [qp_upS g v (by omega) (by omega)]; exact e2⟩
  · obtain ⟨c0, c1, c2⟩ := c k hk
    rw [qp_upS g v (by omega) (by omega), qp_upS g v (by omega) (by omega), qp_upS g v (by omega) (by omega)]
    refine ⟨c0, c1, ?_⟩
    rcases c2 with c2 | ⟨i', hi', e1, e2, e3⟩
    · exact Or.inl c2
    · refine Or.inr ⟨i', hi', e1, ?_, fun z => ?_⟩
      · rw [qs_upS g v (by omega) (by omega), if_neg (by omega)]; exact e2
      · rw [qs_upS g v (by omega) (by omega), if_neg (by omega)]; exact e3 z
theorem WT.upH {K n m : Nat} {g : Nat → Int32} (h : WT K n m g) {c : Nat} {v : Int32} (hc : 2 ≤ c) (hc6 : c < 6) (hv : c = 2 → 0 ≤ v.toInt ∧ v.toInt ≤ 6 + 12 * K) : WT K n m (upd g c v) := by
  obtain ⟨⟨a1, a2, a3, a4, a5, a6⟩, b, d⟩ := h
  refine ⟨⟨by rw [upd_ne _ _ (by omega)]; exact a1, by rw [upd_ne _ _ (by omega)]; exact a2, a3, a4, ?_, ?_⟩, fun i' hi' => ?_, fun k hk => ?_⟩
  · by_cases q : c = 2
    · subst q; rw [upd_same]; exact (hv rfl).1
    · rw [upd_ne _ _ (fun z => q z.symm)]; exact a5
  · by_cases q : c = 2
    · subst q; rw [upd_same]; exact (hv rfl).2
    · rw [upd_ne _ _ (fun z => q z.symm)]; exact a6
  · simp only [qs_upH g v hc6, qp_upH g v hc6]
    exact b i' hi'
  · simp only [qs_upH g v hc6, qp_upH g v hc6]
    exact d k hk
theorem tv_h1 (g : Nat → Int32) (v : Int32) : ((tvOf g).1, (tvOf g).2.1, (tvOf g).2.2.1, v, (tvOf g).2.2.2.2.1, (tvOf g).2.2.2.2.2.1, (tvOf g).2.2.2.2.2.2.1, (tvOf g).2.2.2.2.2.2.2) = tvOf (upd g 1 v) := by
  rw [← (tv_hd g 1 (by omega) v).1, ← (tv_hd g 1 (by omega) v).2]; rfl
theorem tv_h0 (g : Nat → Int32) (v : Int32) : ((tvOf g).1, (tvOf g).2.1, v, (tvOf g).2.2.2.1, (tvOf g).2.2.2.2.1, (tvOf g).2.2.2.2.2.1, (tvOf g).2.2.2.2.2.2.1, (tvOf g).2.2.2.2.2.2.2) = tvOf (upd g 0 v) := by
  rw [← (tv_hd g 0 (by omega) v).1, ← (tv_hd g 0 (by omega) v).2]; rfl
theorem tv_h2 (g : Nat → Int32) (v : Int32) : ((tvOf g).1, (tvOf g).2.1, (tvOf g).2.2.1, (tvOf g).2.2.2.1, v, (tvOf g).2.2.2.2.2.1, (tvOf g).2.2.2.2.2.2.1, (tvOf g).2.2.2.2.2.2.2) = tvOf (upd g 2 v) := by
  rw [← (tv_hd g 2 (by omega) v).1, ← (tv_hd g 2 (by omega) v).2]; rfl
theorem tv_h4 (g : Nat → Int32) (v : Int32) : ((tvOf g).1, (tvOf g).2.1, (tvOf g).2.2.1, (tvOf g).2.2.2.1, (tvOf g).2.2.2.2.1, (tvOf g).2.2.2.2.2.1, v, (tvOf g).2.2.2.2.2.2.2) = tvOf (upd g 4 v) := by
  rw [← (tv_hd g 4 (by omega) v).1, ← (tv_hd g 4 (by omega) v).2]; rfl
theorem fl0 (S : SV) : fX6_fails S 0 = (0, sS11 0 (sS12 0 S)) := if_pos (by decide)
theorem fl1 (S : SV) : fX6_fails S 1 = (1, sS11 0 (sS12 1 S)) := if_neg (by decide)
theorem fl2 (S : SV) : fX6_fails S 2 = (1, sS11 0 (sS12 2 S)) := if_neg (by decide)
/-- what a change comes to, on both sides -/
def Out (K : Nat) (C : CV) (S : SV) (A : Int32 × CV × TV) (B : Int32 × SV) (c1 c2 cr : Int32) : Prop :=
  (∃ (v : Nat) (h s' k' : Nat → Int32) (r ch' : Int32) (n' m' : Nat), v ≤ 1000 ∧ A = (nI v, C, tvOf h) ∧ B = (nI v, sS0 h (sS6 s' (sS11 r (sS1 k' (sS9 ch' (sS12 0 S)))))) ∧ WT (K + 1) n' m' h ∧ KP S.1 S k' ch') ∨
  (A = (-1, C, tvOf S.1) ∧ B = (0, sS11 0 (sS12 c1 S))) ∨
  (A = (-2, C, tvOf S.1) ∧ B = (0, sS11 0 (sS12 c2 S))) ∨
  (∃ why det, A = (-3, (C.1, C.2.1, why, det), tvOf S.1) ∧ B = (0, sS14 det (sS13 why (sS11 1 (sS12 cr S)))))
/-- the reference keeps, behind 'fails(0)' -/
theorem kf_r (S : SV) {c : Nat} (hc : c ≤ 8) (hch : S.2.2.2.2.2.2.2.2.2.1 = nI c) : ∃ kept' ch', fX6_keeps_g (fX6_fails S 0).2 = sS11 0 (sS1 kept' (sS9 ch' (sS12 0 S))) ∧ gX6_keeps_g (fX6_fails S 0).2 ∧ KP S.1 S kept' ch' := by
  rw [fl0]
  obtain ⟨k', ch', e1, e2, e3⟩ := kg_r (sS11 0 (sS12 0 S)) hc hch
  exact ⟨k', ch', e1, e2, e3⟩
/-- the sum of a number over the stools -/
theorem sum_c (g : Nat → Int32) {n w : Nat} {y : Int32} (hn : g 0 = nI n) (h12 : n ≤ 12) (hw : w < 6) (hy : y = nI w) : fX3_sumOfStools (tvOf g) y = fo (fun a k => a + qs g k w) 0 n 0 := by
  have hg : (tvOf g).2.2.1 = nI n := hn
  have hf := fuel0 hg (by omega)
  refine congrArg Prod.fst (fo_itv (f := lX3_sumOfStools_4 (tvOf g) y) ((0, 0) : Int32 × Int32) (fun (a : Int32) j => (a, nI j)) (fun a => (a, nI n)) (fun a k => a + qs g k w) (fun _ _ => True) n (fun a j hj _ => ⟨by
    rw [lX3_sumOfStools_4, if_neg (up_le hg (by omega) hj), rS g (by omega) hw hy, nI_1], trivial⟩) (fun a _ => by
    rw [lX3_sumOfStools_4, if_pos (at_le hg)]) n 0 0 _ (by omega) hf trivial).1
theorem under_r (S : SV) {n : Nat} (hn : S.1 0 = nI n) (h12 : n ≤ 12) : fX6_underStools S = fo (fun a k => a + qs S.1 k 4) 0 n 0 ∧ gX6_underStools S := by
  have hg : S.1 (0 : Int32).toNatClampNeg = nI n := by rw [c0]; exact hn
  have hf := fuel0 hg (by omega)
  have v0 : vp_in 0 114 := gHd (j := 0) rfl (by omega)
  have key := (fo_loop (f := lX6_underStools_4 S) (P := glX6_underStools_4 S) (fun (a : Int32) j => (a, nI j)) (fun a => (a, nI n)) (fun a k => a + qs S.1 k 4) (fun _ _ => True) n (fun a j hj _ => by
    have hc := up_le hg (by omega) hj
    refine ⟨?_, ?_, trivial⟩
    · rw [glX6_underStools_4, if_neg hc]; exact ⟨v0, gO S (by omega) (by decide) rfl, trivial⟩
    · rw [lX6_underStools_4, if_neg hc, rO S (w := 4) (y := 4) (by omega) (by decide) rfl, nI_1]) (fun a _ => ⟨by rw [glX6_underStools_4, if_pos (at_le hg)]; exact ⟨v0, trivial⟩, by rw [lX6_underStools_4, if_pos (at_le hg)]⟩) n 0 0 _ (by omega) hf trivial).1
  exact ⟨congrArg Prod.fst (lrun_itv (d := ((0, 0) : Int32 × Int32)) key), ⟨_, key⟩, trivial⟩
theorem summed_r (S : SV) {n w : Nat} {y : Int32} (hn : S.1 0 = nI n) (h12 : n ≤ 12) (hw : w < 6) (hy : y = nI w) : fX6_summed S y = fo (fun a k => a + qs S.1 k w) 0 n 0 ∧ gX6_summed S y := by
  have hg : S.1 (0 : Int32).toNatClampNeg = nI n := by rw [c0]; exact hn
  have hf := fuel0 hg (by omega)
  have v0 : vp_in 0 114 := gHd (j := 0) rfl (by omega)
  have key := (fo_loop (f := lX6_summed_4 S y) (P := glX6_summed_4 S y) (fun (a : Int32) j => (a, nI j)) (fun a => (a, nI n)) (fun a k => a + qs S.1 k w) (fun _ _ => True) n (fun a j hj _ => by
    have hc := up_le hg (by omega) hj
    refine ⟨?_, ?_, trivial⟩
    · rw [glX6_summed_4, if_neg hc]; exact ⟨v0, gO S (by omega) hw hy, trivial⟩
    · rw [lX6_summed_4, if_neg hc, rO S (by omega) hw hy, nI_1]) (fun a _ => ⟨by rw [glX6_summed_4, if_pos (at_le hg)]; exact ⟨v0, trivial⟩, by rw [lX6_summed_4, if_pos (at_le hg)]⟩) n 0 0 _ (by omega) hf trivial).1
  exact ⟨congrArg Prod.fst (lrun_itv (d := ((0, 0) : Int32 × Int32)) key), ⟨_, key⟩, trivial⟩
theorem c4 : (4 : Int32).toNatClampNeg = 4 := by decide
/-- a coin -/
theorem coin_out {K n m : Nat} (C : CV) (S : SV) (h : WT K n m S.1) {c : Nat} (hc : c ≤ 8) (hch : S.2.2.2.2.2.2.2.2.2.1 = nI c) (hK : K ≤ 10000) (x : Int32) : Out K C S (fX5_putCoin C (tvOf S.1) x) (fX6_coin S x) 1 1 2 ∧ gX6_coin S x := by
  have hn := h.1.2.2.1
  have hm := h.1.2.2.2.1
  have v2 : vp_in 2 114 := gHd (j := 2) rfl (by omega)
  rcases isStool_cases S h.1.1 hn x with ⟨i, hi, rfl, e1, e2⟩ | ⟨e1, e2⟩
  · rw [fX5_putCoin, fX6_coin, gX6_coin, e1, e2, if_neg one_ne, if_neg one_ne, if_neg one_ne]
    have p2 : (fX6_fails S 0).2.1 (2 : Int32).toNatClampNeg = S.1 2 := by rw [fl0, c2]; rfl
    have hp : (tvOf S.1).2.2.2.2.1 = S.1 2 := rfl
    rw [p2, hp]
    by_cases hz : S.1 2 = 0
    · have hz1 : ¬ 1 ≤ S.1 2 := by rw [hz]; decide
      rw [if_neg hz1, if_pos hz, if_pos hz]
      obtain ⟨u1, u2⟩ := under_r (fX6_fails S 0).2 (n := n) (by rw [fl0]; exact h.1.1) hn
      refine ⟨Or.inr (Or.inr (Or.inr ⟨5, _, rfl, ?_⟩)), gIsStool _ _, v2, u2, trivial⟩
      rw [u1, sum_c S.1 (w := 4) (y := 4) h.1.1 hn (by decide) rfl, fl0]
      rfl
    · have hz1 : 1 ≤ S.1 2 := by
        rw [Int32.le_iff_toInt_le, show (1 : Int32).toInt = 1 by decide]
        have := h.1.2.2.2.2.1
        have : (S.1 2).toInt ≠ 0 := fun z => hz (toI_eq (by rw [z, z0]))
        omega
      have hz2 : 1 ≤ (S.1 2).toInt := by rw [Int32.le_iff_toInt_le, show (1 : Int32).toInt = 1 by decide] at hz1; exact hz1
      rw [if_pos hz1, if_neg hz, if_neg hz]
      have o2 : fX6_of (fX6_fails S 0).2 (nI i) 2 = qs S.1 i 2 := by rw [fl0]; exact rO _ (w := 2) (y := 2) (by omega) (by decide) rfl
      have o4 : fX6_of (fX6_fails S 0).2 (nI i) 4 = qs S.1 i 4 := by rw [fl0]; exact rO _ (w := 4) (y := 4) (by omega) (by decide) rfl
      rw [o2, o4, rS S.1 (w := 2) (y := 2) (show i < 12 by omega) (by decide) rfl, rS S.1 (w := 4) (y := 4) (show i < 12 by omega) (by decide) rfl]
      by_cases hw : qs S.1 i 2 = 0
      · rw [if_pos hw, if_pos hw, if_pos hw]
        refine ⟨Or.inr (Or.inr (Or.inr ⟨6, _, rfl, ?_⟩)), gIsStool _ _, v2, gO _ (by omega) (by decide) rfl, gO _ (by omega) (by decide) rfl, trivial⟩
        rw [fl0]
        rfl
      · rw [if_neg hw, if_neg hw, if_neg hw]
        obtain ⟨k', ch', s1, s2, s3⟩ := kf_r S hc hch
        rw [s1, c2]
        have t1 : (sS11 0 (sS1 k' (sS9 ch' (sS12 0 S)))).1 = S.1 := rfl
        rw [t1]
        have a4 : fX6_of (sS0 (upd S.1 2 (S.1 2 - 1)) (sS11 0 (sS1 k' (sS9 ch' (sS12 0 S))))) (nI i) 4 = qs S.1 i 4 := (rO _ (w := 4) (y := 4) (by omega) (by decide) rfl).trans (qs_upH _ _ (by omega))
        rw [a4]
        obtain ⟨l1, l2⟩ := rL (sS0 (upd S.1 2 (S.1 2 - 1)) (sS11 0 (sS1 k' (sS9 ch' (sS12 0 S))))) (i := i) (w := 4) (y := 4) (qs S.1 i 4 + 1) (by omega) (by decide) rfl
        rw [l1]
        have a2 : fX6_of (sS0 (upd (upd S.1 2 (S.1 2 - 1)) (6 + (6 * i + 4)) (qs S.1 i 4 + 1)) (sS11 0 (sS1 k' (sS9 ch' (sS12 0 S))))) (nI i) 2 = qs S.1 i 2 := (rO _ (w := 2) (y := 2) (by omega) (by decide) rfl).trans (by
          show qs (upd (upd S.1 2 (S.1 2 - 1)) (6 + (6 * i + 4)) (qs S.1 i 4 + 1)) i 2 = _
          rw [qs_upS _ _ (by omega) (by omega), if_neg (by omega), qs_upH _ _ (by omega)])
        have t2 : sS0 (upd (sS0 (upd S.1 2 (S.1 2 - 1)) (sS11 0 (sS1 k' (sS9 ch' (sS12 0 S))))).1 (6 + (6 * i + 4)) (qs S.1 i 4 + 1)) (sS0 (upd S.1 2 (S.1 2 - 1)) (sS11 0 (sS1 k' (sS9 ch' (sS12 0 S))))) = sS0 (upd (upd S.1 2 (S.1 2 - 1)) (6 + (6 * i + 4)) (qs S.1 i 4 + 1)) (sS11 0 (sS1 k' (sS9 ch' (sS12 0 S)))) := rfl
        rw [t2, a2]
        obtain ⟨l3, l4⟩ := rL (sS0 (upd (upd S.1 2 (S.1 2 - 1)) (6 + (6 * i + 4)) (qs S.1 i 4 + 1)) (sS11 0 (sS1 k' (sS9 ch' (sS12 0 S))))) (i := i) (w := 2) (y := 2) (qs S.1 i 2 - 1) (by omega) (by decide) rfl
        rw [l3]
        have t3 : sS0 (upd (sS0 (upd (upd S.1 2 (S.1 2 - 1)) (6 + (6 * i + 4)) (qs S.1 i 4 + 1)) (sS11 0 (sS1 k' (sS9 ch' (sS12 0 S))))).1 (6 + (6 * i + 2)) (qs S.1 i 2 - 1)) (sS0 (upd (upd S.1 2 (S.1 2 - 1)) (6 + (6 * i + 4)) (qs S.1 i 4 + 1)) (sS11 0 (sS1 k' (sS9 ch' (sS12 0 S))))) = sS0 (upd (upd (upd S.1 2 (S.1 2 - 1)) (6 + (6 * i + 4)) (qs S.1 i 4 + 1)) (6 + (6 * i + 2)) (qs S.1 i 2 - 1)) (sS11 0 (sS1 k' (sS9 ch' (sS12 0 S)))) := rfl
        rw [t3]
        have a5 : fX6_of (sS0 (upd (upd (upd S.1 2 (S.1 2 - 1)) (6 + (6 * i + 4)) (qs S.1 i 4 + 1)) (6 + (6 * i + 2)) (qs S.1 i 2 - 1)) (sS11 0 (sS1 k' (sS9 ch' (sS12 0 S))))) (nI i) 2 = qs S.1 i 2 - 1 := (rO _ (w := 2) (y := 2) (by omega) (by decide) rfl).trans (by
          show qs (upd (upd (upd S.1 2 (S.1 2 - 1)) (6 + (6 * i + 4)) (qs S.1 i 4 + 1)) (6 + (6 * i + 2)) (qs S.1 i 2 - 1)) i 2 = _
          rw [qs_upS _ _ (by omega) (by omega), if_pos ⟨rfl, rfl⟩])
        rw [a5]
        obtain ⟨b0, b1, b2, b3, b4, b5⟩ := h.2.1 i hi
        have o1 : (1 : Int32).toInt = 1 := by decide
        have w0 : (qs S.1 i 2).toInt ≠ 0 := fun z => hw (toI_eq (by rw [z, z0]))
        have w1 : (qs S.1 i 2 - 1).toInt = (qs S.1 i 2).toInt - 1 := by rw [fb_subI (by rw [o1]; omega) (by rw [o1]; omega), o1]
        have w2 : (qs S.1 i 4 + 1).toInt = (qs S.1 i 4).toInt + 1 := by rw [fb_addI (by rw [o1]; omega) (by rw [o1]; omega), o1]
        have w3 : (S.1 2 - 1).toInt = (S.1 2).toInt - 1 := by rw [fb_subI (by rw [o1]; omega) (by rw [o1]; have := h.1.2.2.2.2.2; omega), o1]
        obtain ⟨v, hv1, hv2, hv3⟩ := of_rng (x := qs S.1 i 2 - 1) (a := 0) (b := 9) (by omega) (by omega) (by omega)
        refine ⟨Or.inl ⟨v, _, seats S, k', 0, ch', n, m, by omega, ?_, by rw [← hv1]; rfl, ?_, s3⟩, gIsStool _ _, v2, gO _ (by omega) (by decide) rfl, s2, v2, v2, gO _ (by omega) (by decide) rfl, l2, gO _ (by omega) (by decide) rfl, l4, gO _ (by omega) (by decide) rfl, trivial⟩
        · rw [fX3_addCoin, rS S.1 (w := 2) (y := 2) (show i < 12 by omega) (by decide) rfl, hp, tv_h2, rS _ (w := 4) (y := 4) (show i < 12 by omega) (by decide) rfl, qs_upH _ _ (by omega), tv_setS _ (w := 4) (y := 4) _ (show i < 12 by omega) (by decide) rfl, tv_setS _ (w := 2) (y := 2) _ (show i < 12 by omega) (by decide) rfl, hv1]
        · exact (((h.mono (Nat.le_succ K)).upH (c := 2) (by omega) (by omega) (fun _ => by rw [w3]; have := h.1.2.2.2.2.2; omega)).up hi (w := 4) (by omega) (by omega) (fun _ => by rw [w2]; omega)).up hi (w := 2) (by omega) (fun _ => by rw [w1]; omega) (by omega)
  · rw [fX5_putCoin, fX6_coin, gX6_coin, e1, e2, if_pos rfl, if_pos rfl, if_pos rfl]
    exact ⟨Or.inr (Or.inl ⟨rfl, by rw [fl1]⟩), gIsStool _ _, trivial⟩
theorem o1I : (1 : Int32).toInt = 1 := by decide
theorem o9I : (9 : Int32).toInt = 9 := by decide
theorem min9 (x : Int32) : fX6_atMost x 9 = if x < 9 then x else 9 := by
  rw [fX6_atMost]
  by_cases h : x < 9
  · rw [if_pos h, if_neg (by rw [Int32.lt_iff_toInt_lt] at h; rw [Int32.le_iff_toInt_le]; omega)]
  · rw [if_neg h, if_pos (by rw [Int32.lt_iff_toInt_lt] at h; rw [Int32.le_iff_toInt_le]; omega)]
theorem min9I {x : Int32} (h : 0 ≤ x.toInt) : 0 ≤ (if x < 9 then x else (9 : Int32)).toInt ∧ (if x < 9 then x else (9 : Int32)).toInt ≤ 9 := by
  by_cases h2 : x < 9
  · rw [if_pos h2]
    rw [Int32.lt_iff_toInt_lt, o9I] at h2
    omega
  · rw [if_neg h2, o9I]; omega
theorem two_lays (S2 : SV) (q : Nat → Int32) {i a b : Nat} {x y : Int32} (hi : i < 12) (ha : a < 6) (hb : b < 6) (hx : x = nI a) (hy : y = nI b) (v u : Int32) : fX6_lays (fX6_lays (sS0 q S2) (nI i) x v) (nI i) y u = sS0 (upd (upd q (6 + (6 * i + a)) v) (6 + (6 * i + b)) u) S2 := by
  rw [(rL (sS0 q S2) v hi ha hx).1, (rL _ u hi hb hy).1]
  rfl
theorem one_lay (S2 : SV) (q : Nat → Int32) {i a : Nat} {x : Int32} (hi : i < 12) (ha : a < 6) (hx : x = nI a) (v : Int32) : fX6_lays (sS0 q S2) (nI i) x v = sS0 (upd q (6 + (6 * i + a)) v) S2 := (rL (sS0 q S2) v hi ha hx).1
theorem addI {x y : Int32} {a b : Int} (hx : x.toInt = a) (hy : y.toInt = b) (h1 : -2147483648 ≤ a + b) (h2 : a + b < 2147483648) : (x + y).toInt = a + b := by
  rw [fb_addI (by rw [hx, hy]; exact h1) (by rw [hx, hy]; exact h2), hx, hy]
theorem subI {x y : Int32} {a b : Int} (hx : x.toInt = a) (hy : y.toInt = b) (h1 : -2147483648 ≤ a - b) (h2 : a - b < 2147483648) : (x - y).toInt = a - b := by
  rw [fb_subI (by rw [hx, hy]; exact h1) (by rw [hx, hy]; exact h2), hx, hy]
/-- a coin taken back -/
theorem take_out {K n m : Nat} (C : CV) (S : SV) (h : WT K n m S.1) {c : Nat} (hc : c ≤ 8) (hch : S.2.2.2.2.2.2.2.2.2.1 = nI c) (hK : K ≤ 10000) (x : Int32) : Out K C S (fX5_takeCoinBack C (tvOf S.1) x) (fX6_takeCoin S x) 1 1 2 ∧ gX6_takeCoin S x := by
  have hn := h.1.2.2.1
  have hm := h.1.2.2.2.1
  have v2 : vp_in 2 114 := gHd (j := 2) rfl (by omega)
  rcases isStool_cases S h.1.1 hn x with ⟨i, hi, rfl, e1, e2⟩ | ⟨e1, e2⟩
  · have hi12 : i < 12 := by omega
    rw [fX5_takeCoinBack, fX6_takeCoin, gX6_takeCoin, e1, e2, if_neg one_ne, if_neg one_ne, if_neg one_ne]
    have o2 : fX6_of (fX6_fails S 0).2 (nI i) 2 = qs S.1 i 2 := by rw [fl0]; exact rO _ (w := 2) (y := 2) (by omega) (by decide) rfl
    have o4 : fX6_of (fX6_fails S 0).2 (nI i) 4 = qs S.1 i 4 := by rw [fl0]; exact rO _ (w := 4) (y := 4) (by omega) (by decide) rfl
    rw [o2, o4, rS S.1 (w := 2) (y := 2) hi12 (by decide) rfl, rS S.1 (w := 4) (y := 4) hi12 (by decide) rfl]
    by_cases hw : qs S.1 i 4 = 0
    · rw [if_pos hw, if_pos hw, if_pos hw]
      refine ⟨Or.inr (Or.inr (Or.inr ⟨7, _, rfl, ?_⟩)), gIsStool _ _, gO _ (by omega) (by decide) rfl, gO _ (by omega) (by decide) rfl, trivial⟩
      rw [fl0]
      rfl
    · rw [if_neg hw, if_neg hw, if_neg hw]
      obtain ⟨k', ch', s1, s2, s3⟩ := kf_r S hc hch
      have q : (fX6_keeps_g (fX6_fails S 0).2).1 = S.1 := by rw [s1]; rfl
      generalize fX6_keeps_g (fX6_fails S 0).2 = S2 at s1 s2 q ⊢
      rw [c2, q]
      have a4 : fX6_of (sS0 (upd S.1 2 (S.1 2 + 1)) S2) (nI i) 4 = qs S.1 i 4 := (rO _ (w := 4) (y := 4) hi12 (by decide) rfl).trans (qs_upH _ _ (by omega))
      have a2 : fX6_of (fX6_lays (sS0 (upd S.1 2 (S.1 2 + 1)) S2) (nI i) 4 (qs S.1 i 4 - 1)) (nI i) 2 = qs S.1 i 2 := by
        rw [one_lay _ _ (a := 4) (x := 4) hi12 (by decide) rfl]
        refine (rO _ (w := 2) (y := 2) hi12 (by decide) rfl).trans ?_
        show qs (upd (upd S.1 2 (S.1 2 + 1)) (6 + (6 * i + 4)) (qs S.1 i 4 - 1)) i 2 = _
        rw [qs_upS _ _ (by omega) (by omega), if_neg (by omega), qs_upH _ _ (by omega)]
      rw [a4, a2, min9]
      have a5 : fX6_of (fX6_lays (fX6_lays (sS0 (upd S.1 2 (S.1 2 + 1)) S2) (nI i) 4 (qs S.1 i 4 - 1)) (nI i) 2 (if qs S.1 i 2 + 1 < 9 then qs S.1 i 2 + 1 else 9)) (nI i) 2 = (if qs S.1 i 2 + 1 < 9 then qs S.1 i 2 + 1 else 9) := by
        rw [two_lays _ _ (a := 4) (b := 2) (x := 4) (y := 2) hi12 (by omega) (by decide) rfl rfl]
        refine (rO _ (w := 2) (y := 2) hi12 (by decide) rfl).trans ?_
        show qs (upd (upd (upd S.1 2 (S.1 2 + 1)) (6 + (6 * i + 4)) (qs S.1 i 4 - 1)) (6 + (6 * i + 2)) _) i 2 = _
        rw [qs_upS _ _ (by omega) (by omega), if_pos ⟨rfl, rfl⟩]
      rw [a5]
      obtain ⟨b0, b1, b2, b3, b4, b5⟩ := h.2.1 i hi
      have w0 : (qs S.1 i 4).toInt ≠ 0 := fun z => hw (toI_eq (by rw [z, z0]))
      have w1 : (qs S.1 i 2 + 1).toInt = (qs S.1 i 2).toInt + 1 := addI rfl o1I (by omega) (by omega)
      have w2 : (qs S.1 i 4 - 1).toInt = (qs S.1 i 4).toInt - 1 := subI rfl o1I (by omega) (by omega)
      have hp0 := h.1.2.2.2.2.1
      have hp1 := h.1.2.2.2.2.2
      have w3 : (S.1 2 + 1).toInt = (S.1 2).toInt + 1 := addI rfl o1I (by omega) (by omega)
      have w4 := min9I (x := qs S.1 i 2 + 1) (by omega)
      obtain ⟨v, hv1, hv2, hv3⟩ := of_rng w4.1 (by omega) w4.2
      refine ⟨Or.inl ⟨v, upd (upd (upd S.1 2 (S.1 2 + 1)) (6 + (6 * i + 4)) (qs S.1 i 4 - 1)) (6 + (6 * i + 2)) (if qs S.1 i 2 + 1 < 9 then qs S.1 i 2 + 1 else 9), seats S, k', 0, ch', n, m, by omega, ?_, ?_, ?_, s3⟩, gIsStool _ _, gO _ (by omega) (by decide) rfl, s2, v2, v2, gO _ (by omega) (by decide) rfl, (rL _ _ hi12 (by decide) rfl).2, gO _ (by omega) (by decide) rfl, (rL _ _ hi12 (by decide) rfl).2, gO _ (by omega) (by decide) rfl, trivial⟩
      · have hp : (tvOf S.1).2.2.2.2.1 = S.1 2 := rfl
        rw [fX3_removeCoin, rS S.1 (w := 2) (y := 2) hi12 (by decide) rfl, hp, tv_h2, rS _ (w := 4) (y := 4) hi12 (by decide) rfl, qs_upH _ _ (by omega), tv_setS _ (w := 4) (y := 4) _ hi12 (by decide) rfl, tv_setS _ (w := 2) (y := 2) _ hi12 (by decide) rfl, hv1]
      · rw [two_lays _ _ (a := 4) (b := 2) (x := 4) (y := 2) hi12 (by omega) (by decide) rfl rfl, ← hv1, s1]
        rfl
      · exact (((h.mono (Nat.le_succ K)).upH (c := 2) (by omega) (by omega) (fun _ => by rw [w3]; omega)).up hi (w := 4) (by omega) (by omega) (fun _ => by rw [w2]; omega)).up hi (w := 2) (by omega) (fun _ => w4) (by omega)
  · rw [fX5_takeCoinBack, fX6_takeCoin, gX6_takeCoin, e1, e2, if_pos rfl, if_pos rfl, if_pos rfl]
    exact ⟨Or.inr (Or.inl ⟨rfl, by rw [fl1]⟩), gIsStool _ _, trivial⟩
theorem in_split (x a b : Int32) : (fX6_in x a b = 0 ∧ (x < a ∨ b < x)) ∨ (fX6_in x a b = 1 ∧ ¬ x < a ∧ ¬ b < x) := by
  rw [fX6_in]
  by_cases h1 : x < a
  · rw [if_pos h1]; exact Or.inl ⟨rfl, Or.inl h1⟩
  · rw [if_neg h1]
    by_cases h2 : b < x
    · rw [if_pos h2]; exact Or.inl ⟨rfl, Or.inr h2⟩
    · rw [if_neg h2]; exact Or.inr ⟨rfl, h1, h2⟩
theorem nlt_rng {x a b : Int32} {A B : Int} (ha : a.toInt = A) (hb : b.toInt = B) (h1 : ¬ x < a) (h2 : ¬ b < x) : A ≤ x.toInt ∧ x.toInt ≤ B := by
  rw [Int32.lt_iff_toInt_lt, ha] at h1
  rw [Int32.lt_iff_toInt_lt, hb] at h2
  omega
theorem le_of_nlt {x b : Int32} (h : ¬ b < x) : x ≤ b := by
  rw [Int32.lt_iff_toInt_lt] at h
  rw [Int32.le_iff_toInt_le]; omega
/-- the row with a stool more -/
def stRow (g : Nat → Int32) (n : Nat) (x0 x1 x2 x3 : Int32) : Nat → Int32 := upd (upd (upd (upd (upd (upd (upd g 0 (g 0 + 1)) (6 + (6 * n + 0)) x0) (6 + (6 * n + 1)) x1) (6 + (6 * n + 2)) x2) (6 + (6 * n + 3)) x3) (6 + (6 * n + 4)) 0) (6 + (6 * n + 5)) (-1)
theorem stRow_hd (g : Nat → Int32) (n : Nat) (x0 x1 x2 x3 : Int32) {c : Nat} (hc : c < 6) : stRow g n x0 x1 x2 x3 c = if c = 0 then g 0 + 1 else g c := by
  rw [stRow, hd_upS _ _ hc, hd_upS _ _ hc, hd_upS _ _ hc, hd_upS _ _ hc, hd_upS _ _ hc, hd_upS _ _ hc]
  rfl
theorem stRow_old (g : Nat → Int32) (n : Nat) (x0 x1 x2 x3 : Int32) {i w : Nat} (hi : i ≠ n) (hw : w < 6) : qs (stRow g n x0 x1 x2 x3) i w = qs g i w := by
  rw [stRow, qs_upS _ _ (by omega) hw, if_neg (by omega), qs_upS _ _ (by omega) hw, if_neg (by omega), qs_upS _ _ (by omega) hw, if_neg (by omega), qs_upS _ _ (by omega) hw, if_neg (by omega), qs_upS _ _ (by omega) hw, if_neg (by omega), qs_upS _ _ (by omega) hw, if_neg (by omega), qs_upH _ _ (by omega)]
theorem stRow_new (g : Nat → Int32) (n : Nat) (x0 x1 x2 x3 : Int32) : qs (stRow g n x0 x1 x2 x3) n 0 = x0 ∧ qs (stRow g n x0 x1 x2 x3) n 1 = x1 ∧ qs (stRow g n x0 x1 x2 x3) n 2 = x2 ∧ qs (stRow g n x0 x1 x2 x3) n 3 = x3 ∧ qs (stRow g n x0 x1 x2 x3) n 4 = 0 ∧ qs (stRow g n x0 x1 x2 x3) n 5 = -1 := by
  refine ⟨?_, ?_, ?_, ?_, ?_, ?_⟩
  · rw [stRow, qs_upS _ _ (by omega) (by omega), if_neg (by omega), qs_upS _ _ (by omega) (by omega), if_neg (by omega), qs_upS _ _ (by omega) (by omega), if_neg (by omega), qs_upS _ _ (by omega) (by omega), if_neg (by omega), qs_upS _ _ (by omega) (by omega), if_neg (by omega), qs_upS _ _ (by omega) (by omega), if_pos ⟨rfl, rfl⟩]
  · rw [stRow, qs_upS _ _ (by omega) (by omega), if_neg (by omega), qs_upS _ _ (by omega) (by omega), if_neg (by omega), qs_upS _ _ (by omega) (by omega), if_neg (by omega), qs_upS _ _ (by omega) (by omega), if_neg (by omega), qs_upS _ _ (by omega) (by omega), if_pos ⟨rfl, rfl⟩]
  · rw [stRow, qs_upS _ _ (by omega) (by omega), if_neg (by omega), qs_upS _ _ (by omega) (by omega), if_neg (by omega), qs_upS _ _ (by omega) (by omega), if_neg (by omega), qs_upS _ _ (by omega) (by omega), if_pos ⟨rfl, rfl⟩]
  · rw [stRow, qs_upS _ _ (by omega) (by omega), if_neg (by omega), qs_upS _ _ (by omega) (by omega), if_neg (by omega), qs_upS _ _ (by omega) (by omega), if_pos ⟨rfl, rfl⟩]
  · rw [stRow, qs_upS _ _ (by omega) (by omega), if_neg (by omega), qs_upS _ _ (by omega) (by omega), if_pos ⟨rfl, rfl⟩]
  · rw [stRow, qs_upS _ _ (by omega) (by omega), if_pos ⟨rfl, rfl⟩]
theorem stRow_qp (g : Nat → Int32) {n : Nat} (x0 x1 x2 x3 : Int32) (hn : n < 12) (k w : Nat) : qp (stRow g n x0 x1 x2 x3) k w = qp g k w := by
  rw [stRow, qp_upS _ _ hn (by omega), qp_upS _ _ hn (by omega), qp_upS _ _ hn (by omega), qp_upS _ _ hn (by omega), qp_upS _ _ hn (by omega), qp_upS _ _ hn (by omega), qp_upH _ _ (by omega)]
theorem stRow_wt {K n m : Nat} {g : Nat → Int32} (h : WT K n m g) (hn : n < 12) {x0 x1 x2 x3 : Int32} (r0 : 1 ≤ x0.toInt ∧ x0.toInt ≤ 40) (r1 : 0 ≤ x1.toInt ∧ x1.toInt ≤ 9) (r2 : 0 ≤ x2.toInt ∧ x2.toInt ≤ 9) (r3 : x3 = 0 ∨ x3 = 1) : WT K (n + 1) m (stRow g n x0 x1 x2 x3) := by
  obtain ⟨⟨a1, a2, a3, a4, a5, a6⟩, b, d⟩ := h
  refine ⟨⟨?_, ?_, hn, a4, ?_, ?_⟩, fun i hi => ?_, fun k hk => ?_⟩
  · rw [stRow_hd _ _ _ _ _ _ (by omega), if_pos rfl, a1, nI_1]
  · rw [stRow_hd _ _ _ _ _ _ (by omega), if_neg (by omega)]; exact a2
  · rw [stRow_hd _ _ _ _ _ _ (by omega), if_neg (by omega)]; exact a5
  · rw [stRow_hd _ _ _ _ _ _ (by omega), if_neg (by omega)]; exact a6
  · by_cases hin : i = n
    · subst hin
      obtain ⟨e0, e1, e2, e3, e4, e5⟩ := stRow_new g i x0 x1 x2 x3
      rw [e0, e1, e2, e3, e4, e5]
      exact ⟨r0, r1, r2, r3, ⟨by rw [z0]; omega, by rw [z0]; omega⟩, Or.inl rfl⟩
    · simp only [stRow_old g n x0 x1 x2 x3 hin (show 0 < 6 by omega), stRow_old g n x0 x1 x2 x3 hin (show 1 < 6 by omega), stRow_old g n x0 x1 x2 x3 hin (show 2 < 6 by omega), stRow_old g n x0 x1 x2 x3 hin (show 3 < 6 by omega), stRow_old g n x0 x1 x2 x3 hin (show 4 < 6 by omega), stRow_old g n x0 x1 x2 x3 hin (show 5 < 6 by omega), stRow_qp g x0 x1 x2 x3 hn]
      exact b i (by omega)
  · simp only [stRow_qp g x0 x1 x2 x3 hn]
    obtain ⟨d1, d2, d3⟩ := d k hk
    refine ⟨d1, d2, ?_⟩
    rcases d3 with d3 | ⟨i, hi, e1, e2, e3⟩
    · exact Or.inl d3
    · exact Or.inr ⟨i, by omega, e1, by rw [stRow_old _ _ _ _ _ _ (by omega) (by omega)]; exact e2, fun z => by rw [stRow_old _ _ _ _ _ _ (by omega) (by omega)]; exact e3 z⟩
theorem stRow_c (g : Nat → Int32) {n : Nat} (hn : n < 12) (h0 : g 0 = nI n) (x0 x1 x2 x4 : Int32) : fX3_addStool (tvOf g) x0 x1 x2 x4 = (nI n, tvOf (stRow g n x0 x1 x2 (if x4 = 0 then 0 else 1))) := by
  have e : (tvOf g).2.2.1 = nI n := h0
  have mv : ∀ b : Int32, upd (upd (upd (upd (upd (upd (upd g (6 + (6 * n + 0)) x0) (6 + (6 * n + 1)) x1) (6 + (6 * n + 2)) x2) (6 + (6 * n + 3)) b) (6 + (6 * n + 4)) 0) (6 + (6 * n + 5)) (-1)) 0 (g 0 + 1) = stRow g n x0 x1 x2 b := fun b => by
    rw [stRow, upd_comm g (a := 0) (b := 6 + (6 * n + 0)) _ _ (by omega), upd_comm _ (a := 0) (b := 6 + (6 * n + 1)) _ _ (by omega), upd_comm _ (a := 0) (b := 6 + (6 * n + 2)) _ _ (by omega), upd_comm _ (a := 0) (b := 6 + (6 * n + 3)) _ _ (by omega), upd_comm _ (a := 0) (b := 6 + (6 * n + 4)) _ _ (by omega), upd_comm _ (a := 0) (b := 6 + (6 * n + 5)) _ _ (by omega)]
  have r0 : ∀ b : Int32, upd (upd (upd (upd (upd (upd g (6 + (6 * n + 0)) x0) (6 + (6 * n + 1)) x1) (6 + (6 * n + 2)) x2) (6 + (6 * n + 3)) b) (6 + (6 * n + 4)) 0) (6 + (6 * n + 5)) (-1) 0 = g 0 := fun b => by
    rw [hd_upS _ _ (by omega), hd_upS _ _ (by omega), hd_upS _ _ (by omega), hd_upS _ _ (by omega), hd_upS _ _ (by omega), hd_upS _ _ (by omega)]
  have r1 : ∀ b : Int32, fX3_setOfStool (fX3_setOfStool (fX3_setOfStool (fX3_setOfStool (fX3_setOfStool (fX3_setOfStool (tvOf g) (nI n) 0 x0) (nI n) 1 x1) (nI n) 2 x2) (nI n) 3 b) (nI n) 4 0) (nI n) 5 (-1) = tvOf (upd (upd (upd (upd (upd (upd g (6 + (6 * n + 0)) x0) (6 + (6 * n + 1)) x1) (6 + (6 * n + 2)) x2) (6 + (6 * n + 3)) b) (6 + (6 * n + 4)) 0) (6 + (6 * n + 5)) (-1)) := fun b => by
    rw [tv_setS _ (w := 0) (y := 0) _ hn (by decide) rfl, tv_setS _ (w := 1) (y := 1) _ hn (by decide) rfl, tv_setS _ (w := 2) (y := 2) _ hn (by decide) rfl, tv_setS _ (w := 3) (y := 3) _ hn (by decide) rfl, tv_setS _ (w := 4) (y := 4) _ hn (by decide) rfl, tv_setS _ (w := 5) (y := 5) _ hn (by decide) rfl]
  have r2 : ∀ b : Int32, (tvOf (upd (upd (upd (upd (upd (upd g (6 + (6 * n + 0)) x0) (6 + (6 * n + 1)) x1) (6 + (6 * n + 2)) x2) (6 + (6 * n + 3)) b) (6 + (6 * n + 4)) 0) (6 + (6 * n + 5)) (-1))).2.2.1 = g 0 := r0
  rw [fX3_addStool, e]
  by_cases h4 : x4 = 0
  · rw [if_pos h4, if_pos h4, r1 0, r2 0, tv_h0, mv 0]
  · rw [if_neg h4, if_neg h4, r1 1, r2 1, tv_h0, mv 1]
theorem stool_out {K n m : Nat} (C : CV) (S : SV) (h : WT K n m S.1) {c : Nat} (hc : c ≤ 8) (hch : S.2.2.2.2.2.2.2.2.2.1 = nI c) (x1 x2 x3 x4 : Int32) : Out K C S (fX5_setUpStool C (tvOf S.1) x1 x2 x3 x4) (fX6_stool S x1 x2 x3 x4) 1 1 2 ∧ gX6_stool S x1 x2 x3 x4 := by
  have hn := h.1.2.2.1
  have v0 : vp_in 0 114 := gHd (j := 0) rfl (by omega)
  have wrong : fX5_setUpStool C (tvOf S.1) x1 x2 x3 x4 = (-2, C, tvOf S.1) → fX6_stool S x1 x2 x3 x4 = (0, (fX6_fails S 1).2) → Out K C S (fX5_setUpStool C (tvOf S.1) x1 x2 x3 x4) (fX6_stool S x1 x2 x3 x4) 1 1 2 := fun a b => by
    rw [a, b, fl1]
    exact Or.inr (Or.inr (Or.inl ⟨rfl, rfl⟩))
  rcases in_split x1 1 40 with ⟨a1, a2⟩ | ⟨a1, a2, a3⟩
  · refine ⟨wrong ?_ ?_, ?_⟩
    · rw [fX5_setUpStool]
      by_cases y : x1 < 1
      · rw [if_pos y]
      · rw [if_neg y, if_pos (a2.resolve_left y)]
    · rw [fX6_stool, a1, if_pos rfl]
    · rw [gX6_stool, a1, if_pos rfl]; trivial
  rcases in_split x2 0 9 with ⟨b1, b2⟩ | ⟨b1, b2, b3⟩
  · refine ⟨wrong ?_ ?_, ?_⟩
    · rw [fX5_setUpStool, if_neg a2, if_neg a3]
      by_cases y : x2 < 0
      · rw [if_pos y]
      · rw [if_neg y, if_pos (b2.resolve_left y)]
    · rw [fX6_stool, a1, if_neg one_ne, b1, if_pos rfl]
    · rw [gX6_stool, a1, if_neg one_ne, b1, if_pos rfl]; trivial
  rcases in_split x3 0 9 with ⟨d1, d2⟩ | ⟨d1, d2, d3⟩
  · refine ⟨wrong ?_ ?_, ?_⟩
    · rw [fX5_setUpStool, if_neg a2, if_neg a3, if_neg b2, if_neg b3]
      by_cases y : x3 < 0
      · rw [if_pos y]
      · rw [if_neg y, if_neg (fun z => by
          have q := d2.resolve_left y
          rw [Int32.lt_iff_toInt_lt] at q
          rw [Int32.le_iff_toInt_le] at z
          omega)]
    · rw [fX6_stool, a1, if_neg one_ne, b1, if_neg one_ne, d1, if_pos rfl]
    · rw [gX6_stool, a1, if_neg one_ne, b1, if_neg one_ne, d1, if_pos rfl]; trivial
  rw [fX5_setUpStool, if_neg a2, if_neg a3, if_neg b2, if_neg b3, if_neg d2, if_pos (le_of_nlt d3), fX6_stool, a1, if_neg one_ne, b1, if_neg one_ne, d1, if_neg one_ne, gX6_stool, a1, if_neg one_ne, b1, if_neg one_ne, d1, if_neg one_ne]
  have hT : (tvOf S.1).2.2.1 = nI n := h.1.1
  have hS : (fX6_fails S 0).2.1 (0 : Int32).toNatClampNeg = nI n := by rw [fl0, c0]; exact h.1.1
  rw [hT, hS]
  by_cases h12 : n = 12
  · subst h12
    rw [if_neg (show ¬ nI 12 < 12 by decide), if_pos (show nI 12 = 12 from rfl), if_pos (show nI 12 = 12 from rfl)]
    refine ⟨Or.inr (Or.inr (Or.inr ⟨1, 12, rfl, ?_⟩)), v0, trivial⟩
    rw [fl0]; rfl
  · have hn2 : n < 12 := by omega
    have l12 : nI n < 12 := nI_lt (a := n) (b := 12) hn2 (by omega)
    have e12 : ¬ nI n = 12 := fun z => h12 (nI_inj (b := 12) (by omega) (by omega) z)
    rw [if_pos l12, if_neg e12, if_neg e12, stRow_c S.1 hn2 h.1.1]
    obtain ⟨k', ch', s1, s2, s3⟩ := kf_r S hc hch
    have q : (fX6_keeps_g (fX6_fails S 0).2).1 = S.1 := by rw [s1]; rfl
    generalize fX6_keeps_g (fX6_fails S 0).2 = S2 at s1 s2 q ⊢
    rw [c0, q, h.1.1]
    have rr : ∀ b : Int32, fX6_lays (fX6_lays (fX6_lays (fX6_lays (fX6_lays (fX6_lays (sS0 (upd S.1 0 (nI n + 1)) S2) (nI n) 0 x1) (nI n) 1 x2) (nI n) 2 x3) (nI n) 3 b) (nI n) 4 0) (nI n) 5 (-1) = sS0 (stRow S.1 n x1 x2 x3 b) S2 := fun b => by
      rw [one_lay _ _ (a := 0) (x := 0) hn2 (by decide) rfl, one_lay _ _ (a := 1) (x := 1) hn2 (by decide) rfl, one_lay _ _ (a := 2) (x := 2) hn2 (by decide) rfl, one_lay _ _ (a := 3) (x := 3) hn2 (by decide) rfl, one_lay _ _ (a := 4) (x := 4) hn2 (by decide) rfl, one_lay _ _ (a := 5) (x := 5) hn2 (by decide) rfl, stRow, h.1.1]
    rw [rr 0, rr 1]
    have gl : ∀ (S' : SV) (w v : Int32) (j : Nat), w = nI j → j < 6 → gX6_lays S' (nI n) w v := fun S' w v j e hj => (rL S' v hn2 hj e).2
    have wt : ∀ b : Int32, (b = 0 ∨ b = 1) → WT (K + 1) (n + 1) m (stRow S.1 n x1 x2 x3 b) := fun b hb => stRow_wt (h.mono (Nat.le_succ K)) hn2 (nlt_rng (by decide) (by decide) a2 a3) (nlt_rng (by decide) (by decide) b2 b3) (nlt_rng (by decide) (by decide) d2 d3) hb
    by_cases h4 : x4 = 0
    · rw [if_pos h4, if_pos h4, if_pos h4]
      refine ⟨Or.inl ⟨n, stRow S.1 n x1 x2 x3 0, seats S, k', 0, ch', n + 1, m, by omega, rfl, by rw [s1]; rfl, wt 0 (Or.inl rfl), s3⟩, v0, s2, v0, v0, v0, gl _ _ _ 0 rfl (by omega), gl _ _ _ 1 rfl (by omega), gl _ _ _ 2 rfl (by omega), gl _ _ _ 3 rfl (by omega), gl _ _ _ 4 rfl (by omega), gl _ _ _ 5 rfl (by omega), trivial⟩
    · rw [if_neg h4, if_neg h4, if_neg h4]
      refine ⟨Or.inl ⟨n, stRow S.1 n x1 x2 x3 1, seats S, k', 0, ch', n + 1, m, by omega, rfl, by rw [s1]; rfl, wt 1 (Or.inr rfl), s3⟩, v0, s2, v0, v0, v0, gl _ _ _ 0 rfl (by omega), gl _ _ _ 1 rfl (by omega), gl _ _ _ 2 rfl (by omega), gl _ _ _ 3 rfl (by omega), gl _ _ _ 4 rfl (by omega), gl _ _ _ 5 rfl (by omega), trivial⟩
/-- the row with a sitter more -/
def siRow (g : Nat → Int32) (m : Nat) (x0 x1 : Int32) : Nat → Int32 := upd (upd (upd (upd g (78 + (3 * m + 0)) x0) (78 + (3 * m + 1)) x1) (78 + (3 * m + 2)) (-1)) 1 (g 1 + 1)
theorem siRow_wt {K n m : Nat} {g : Nat → Int32} (h : WT K n m g) (hm : m < 12) {x0 x1 : Int32} (r0 : 0 ≤ x0.toInt ∧ x0.toInt ≤ 9) (r1 : 1 ≤ x1.toInt ∧ x1.toInt ≤ 200) : WT K n (m + 1) (siRow g m x0 x1) := by
  obtain ⟨⟨a1, a2, a3, a4, a5, a6⟩, b, d⟩ := h
  have hd : ∀ c, c < 6 → c ≠ 1 → siRow g m x0 x1 c = g c := fun c hc h1 => by
    rw [siRow, upd_ne _ _ h1, hd_upP _ _ hc, hd_upP _ _ hc, hd_upP _ _ hc]
  have eS : ∀ i w, i < 12 → w < 6 → qs (siRow g m x0 x1) i w = qs g i w := fun i w hi hw => by
    rw [siRow, qs_upH _ _ (by omega), qs_upP _ _ hi hw, qs_upP _ _ hi hw, qs_upP _ _ hi hw]
  have eP : ∀ k w, k ≠ m → w < 3 → qp (siRow g m x0 x1) k w = qp g k w := fun k w hk hw => by
    rw [siRow, qp_upH _ _ (by omega), qp_upP _ _ (by omega) hw, if_neg (by omega), qp_upP _ _ (by omega) hw, if_neg (by omega), qp_upP _ _ (by omega) hw, if_neg (by omega)]
  have p0 : qp (siRow g m x0 x1) m 0 = x0 := by
    rw [siRow, qp_upH _ _ (by omega), qp_upP _ _ (by omega) (by omega), if_neg (by omega), qp_upP _ _ (by omega) (by omega), if_neg (by omega), qp_upP _ _ (by omega) (by omega), if_pos ⟨rfl, rfl⟩]
  have p1 : qp (siRow g m x0 x1) m 1 = x1 := by
    rw [siRow, qp_upH _ _ (by omega), qp_upP _ _ (by omega) (by omega), if_neg (by omega), qp_upP _ _ (by omega) (by omega), if_pos ⟨rfl, rfl⟩]
  have p2 : qp (siRow g m x0 x1) m 2 = -1 := by
    rw [siRow, qp_upH _ _ (by omega), qp_upP _ _ (by omega) (by omega), if_pos ⟨rfl, rfl⟩]
  refine ⟨⟨?_, ?_, a3, hm, ?_, ?_⟩, fun i hi => ?_, fun k hk => ?_⟩
  · rw [hd 0 (by omega) (by omega)]; exact a1
  · rw [siRow, upd_same, a2, nI_1]
  · rw [hd 2 (by omega) (by omega)]; exact a5
  · rw [hd 2 (by omega) (by omega)]; exact a6
  · rw [eS i 0 (by omega) (by omega), eS i 1 (by omega) (by omega), eS i 2 (by omega) (by omega), eS i 3 (by omega) (by omega), eS i 4 (by omega) (by omega), eS i 5 (by omega) (by omega)]
    obtain ⟨b0, b1, b2, b3, b4, b5⟩ := b i hi
    refine ⟨b0, b1, b2, b3, b4, ?_⟩
    rcases b5 with b5 | ⟨k, hk, e1, e2⟩
    · exact Or.inl b5
    · exact Or.inr ⟨k, by omega, e1, by rw [eP k 2 (by omega) (by omega)]; exact e2⟩
  · by_cases hkm : k = m
    · subst hkm
      rw [p0, p1, p2]
      exact ⟨r0, r1, Or.inl rfl⟩
    · rw [eP k 0 hkm (by omega), eP k 1 hkm (by omega), eP k 2 hkm (by omega)]
      obtain ⟨d1, d2, d3⟩ := d k (by omega)
      refine ⟨d1, d2, ?_⟩
      rcases d3 with d3 | ⟨i, hi, e1, e2, e3⟩
      · exact Or.inl d3
      · exact Or.inr ⟨i, hi, e1, by rw [eS i 5 (by omega) (by omega)]; exact e2, fun z => by rw [eS i 3 (by omega) (by omega)]; exact e3 z⟩
theorem siRow_c (g : Nat → Int32) {m : Nat} (hm : m < 12) (h1 : g 1 = nI m) (x0 x1 : Int32) : fX3_addSitter (tvOf g) x0 x1 = (nI m, tvOf (siRow g m x0 x1)) := by
  have e : (tvOf g).2.2.2.1 = nI m := h1
  have r2 : (tvOf (upd (upd (upd g (78 + (3 * m + 0)) x0) (78 + (3 * m + 1)) x1) (78 + (3 * m + 2)) (-1))).2.2.2.1 = g 1 := by
    show upd (upd (upd g (78 + (3 * m + 0)) x0) (78 + (3 * m + 1)) x1) (78 + (3 * m + 2)) (-1) 1 = g 1
    rw [hd_upP _ _ (by omega), hd_upP _ _ (by omega), hd_upP _ _ (by omega)]
  rw [fX3_addSitter, e, tv_setP _ (w := 0) (y := 0) _ hm (by decide) rfl, tv_setP _ (w := 1) (y := 1) _ hm (by decide) rfl, tv_setP _ (w := 2) (y := 2) _ hm (by decide) rfl, r2, tv_h1]
  rfl
theorem comes_out {K n m : Nat} (C : CV) (S : SV) (h : WT K n m S.1) {c : Nat} (hc : c ≤ 8) (hch : S.2.2.2.2.2.2.2.2.2.1 = nI c) {x0 x1 : Int32} (r0 : 0 ≤ x0.toInt ∧ x0.toInt ≤ 9) (r1 : 1 ≤ x1.toInt ∧ x1.toInt ≤ 200) : Out K C S (if (tvOf S.1).2.2.2.1 < 12 then ((fX3_addSitter (tvOf S.1) x0 x1).1, C, (fX3_addSitter (tvOf S.1) x0 x1).2) else ((fX5_refuse C 1 (tvOf S.1).2.2.2.1).1, (fX5_refuse C 1 (tvOf S.1).2.2.2.1).2, tvOf S.1)) (fX6_comes (fX6_fails S 0).2 x0 x1) 1 1 2 ∧ gX6_comes (fX6_fails S 0).2 x0 x1 := by
  have hm := h.1.2.2.2.1
  have v1 : vp_in 1 114 := gHd (j := 1) rfl (by omega)
  have hT : (tvOf S.1).2.2.2.1 = nI m := h.1.2.1
  have hS : (fX6_fails S 0).2.1 (1 : Int32).toNatClampNeg = nI m := by rw [fl0, c1]; exact h.1.2.1
  rw [fX6_comes, gX6_comes, hT, hS]
  by_cases h12 : m = 12
  · subst h12
    rw [if_neg (show ¬ nI 12 < 12 by decide), if_pos (show nI 12 = 12 from rfl), if_pos (show nI 12 = 12 from rfl)]
    refine ⟨Or.inr (Or.inr (Or.inr ⟨1, 12, rfl, ?_⟩)), v1, trivial⟩
    rw [fl0]; rfl
  · have hm2 : m < 12 := by omega
    have l12 : nI m < 12 := nI_lt (a := m) (b := 12) hm2 (by omega)
    have e12 : ¬ nI m = 12 := fun z => h12 (nI_inj (b := 12) (by omega) (by omega) z)
    rw [if_pos l12, if_neg e12, if_neg e12, siRow_c S.1 hm2 h.1.2.1]
    obtain ⟨k', ch', s1, s2, s3⟩ := kf_r S hc hch
    have q : (fX6_keeps_g (fX6_fails S 0).2).1 = S.1 := by rw [s1]; rfl
    generalize fX6_keeps_g (fX6_fails S 0).2 = S2 at s1 s2 q ⊢
    rw [c1, q, h.1.2.1, ixP (w := 0) (y := 0) hm2 (by decide) rfl, ixP (w := 1) (y := 1) hm2 (by decide) rfl, ixP (w := 2) (y := 2) hm2 (by decide) rfl, nI_clamp (show 78 + (3 * m + 0) < 2 ^ 31 by omega), nI_clamp (show 78 + (3 * m + 1) < 2 ^ 31 by omega), nI_clamp (show 78 + (3 * m + 2) < 2 ^ 31 by omega)]
    have r3 : upd (upd (upd S.1 (78 + (3 * m + 0)) x0) (78 + (3 * m + 1)) x1) (78 + (3 * m + 2)) (-1) 1 = S.1 1 := by
      rw [hd_upP _ _ (by omega), hd_upP _ _ (by omega), hd_upP _ _ (by omega)]
    rw [r3]
    have r4 : upd (upd (upd (upd S.1 (78 + (3 * m + 0)) x0) (78 + (3 * m + 1)) x1) (78 + (3 * m + 2)) (-1)) 1 (S.1 1 + 1) = siRow S.1 m x0 x1 := rfl
    rw [r4]
    have r5 : siRow S.1 m x0 x1 1 - 1 = nI m := by
      show S.1 1 + 1 - 1 = nI m
      rw [h.1.2.1, nI_1, nI_pred]
    rw [r5]
    refine ⟨Or.inl ⟨m, siRow S.1 m x0 x1, seats S, k', 0, ch', n, m + 1, by omega, rfl, by rw [s1]; rfl, siRow_wt (h.mono (Nat.le_succ K)) hm2 r0 r1, s3⟩, v1, s2, v1, vp_in_nI (by omega) (by omega), vp_in_nI (by omega) (by omega), vp_in_nI (by omega) (by omega), v1, v1, v1, trivial⟩
theorem sitter_out {K n m : Nat} (C : CV) (S : SV) (h : WT K n m S.1) {c : Nat} (hc : c ≤ 8) (hch : S.2.2.2.2.2.2.2.2.2.1 = nI c) {x0 : Int32} (r0 : 0 ≤ x0.toInt ∧ x0.toInt ≤ 9) (x1 : Int32) : Out K C S (fX5_letSitterCome C (tvOf S.1) x0 x1) (if fX6_in x1 1 200 = 0 then (0, (fX6_fails S 1).2) else ((fX6_comes (fX6_fails S 0).2 x0 x1).1, (fX6_comes (fX6_fails S 0).2 x0 x1).2)) 1 1 2 ∧ (if fX6_in x1 1 200 = 0 then True else gX6_comes (fX6_fails S 0).2 x0 x1 ∧ True) := by
  rcases in_split x1 1 200 with ⟨a1, a2⟩ | ⟨a1, a2, a3⟩
  · rw [a1, if_pos rfl, if_pos rfl, fX5_letSitterCome]
    refine ⟨Or.inr (Or.inr (Or.inl ⟨?_, by rw [fl1]⟩)), trivial⟩
    by_cases y : x1 < 1
    · rw [if_pos y]
    · rw [if_neg y, if_neg (fun z => by
        have q := a2.resolve_left y
        rw [Int32.lt_iff_toInt_lt] at q
        rw [Int32.le_iff_toInt_le] at z
        omega)]
  · rw [a1, if_neg one_ne, if_neg one_ne, fX5_letSitterCome, if_neg a2, if_pos (le_of_nlt a3)]
    obtain ⟨u1, u2⟩ := comes_out C S h hc hch r0 (nlt_rng (A := 1) (B := 200) (by decide) (by decide) a2 a3)
    exact ⟨u1, u2, trivial⟩
theorem cat_out {K n m : Nat} (C : CV) (S : SV) (h : WT K n m S.1) {c : Nat} (hc : c ≤ 8) (hch : S.2.2.2.2.2.2.2.2.2.1 = nI c) (x1 : Int32) : Out K C S (fX5_letSitterCome C (tvOf S.1) 0 x1) (fX6_cat S x1) 1 1 2 ∧ gX6_cat S x1 :=
  sitter_out C S h hc hch (x0 := 0) (by rw [z0]; omega) x1
theorem guest_out {K n m : Nat} (C : CV) (S : SV) (h : WT K n m S.1) {c : Nat} (hc : c ≤ 8) (hch : S.2.2.2.2.2.2.2.2.2.1 = nI c) (x0 x1 : Int32) : Out K C S (fX5_letGuestCome C (tvOf S.1) x0 x1) (fX6_guest S x0 x1) 1 1 2 ∧ gX6_guest S x0 x1 := by
  rcases in_split x0 1 9 with ⟨a1, a2⟩ | ⟨a1, a2, a3⟩
  · rw [fX6_guest, gX6_guest, a1, if_pos rfl, if_pos rfl, fX5_letGuestCome]
    refine ⟨Or.inr (Or.inr (Or.inl ⟨?_, by rw [fl1]⟩)), trivial⟩
    by_cases y : x0 < 1
    · rw [if_pos y]
    · rw [if_neg y, if_neg (fun z => by
        have q := a2.resolve_left y
        rw [Int32.lt_iff_toInt_lt] at q
        rw [Int32.le_iff_toInt_le] at z
        omega)]
  · rw [fX6_guest, gX6_guest, a1, if_neg one_ne, if_neg one_ne, fX5_letGuestCome, if_neg a2, if_pos (le_of_nlt a3)]
    have r := nlt_rng (A := 1) (B := 9) (by decide) (by decide) a2 a3
    exact sitter_out C S h hc hch (x0 := x0) (by omega) x1
