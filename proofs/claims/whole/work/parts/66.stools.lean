/-! Clashes stool by stool -/
def sa (g : Nat → Int32) (n : Nat) (h r : Int32) : Nat := sf (fun j => if qs g j 5 = -1 then 0 else if qp g (qs g j 5).toNatClampNeg 0 = r then (if qs g j 0 ≤ h then 0 else 1) else 0) 0 n
theorem sa_c {K n m : Nat} {g : Nat → Int32} (h : WT K n m g) (x r : Int32) : fX3_sittersAbove (tvOf g) x r = nI (sa g n x r) := by
  have hn := h.1.2.2.1
  have hm := h.1.2.2.2.1
  have hg : (tvOf g).2.2.1 = nI n := h.1.1
  have hf := fuel0 hg (by omega)
  have key := (fo_itv (f := lX3_sittersAbove_5 (tvOf g) x r) ((0, 0) : Int32 × Int32) (fun (a : Nat) j => (nI a, nI j)) (fun a => (nI a, nI n)) (fun a j => a + (if qs g j 5 = -1 then 0 else if qp g (qs g j 5).toNatClampNeg 0 = r then (if qs g j 0 ≤ x then 0 else 1) else 0)) (fun _ _ => True) n (fun a j hj _ => ⟨by
    rw [lX3_sittersAbove_5, if_neg (up_le hg (by omega) hj), rS g (w := 5) (y := 5) (show j < 12 by omega) (by decide) rfl, rS g (w := 0) (y := 0) (show j < 12 by omega) (by decide) rfl]
    rcases h.who hj with w | ⟨k, hk, w, -⟩
    · rw [if_pos w, if_pos w, nI_1]; rfl
    · have n1 : ¬ qs g j 5 = -1 := by rw [w]; exact nI_m1 (by omega)
      rw [if_neg n1, if_neg n1, w, nI_clamp (by omega), rP g (w := 0) (y := 0) (show k < 12 by omega) (by decide) rfl]
      by_cases c : qp g k 0 = r
      · rw [if_pos c, if_pos c]
        by_cases c2 : qs g j 0 ≤ x
        · rw [if_pos c2, if_pos c2, nI_1]; rfl
        · rw [if_neg c2, if_neg c2, nI_1, nI_1]
      · rw [if_neg c, if_neg c, nI_1]; rfl, trivial⟩) (fun a _ => by
    rw [lX3_sittersAbove_5, if_pos (at_le hg)]) n 0 0 _ (by omega) hf trivial).1
  rw [fo_sf, Nat.zero_add] at key
  exact congrArg Prod.fst key
theorem cs_c {K n m : Nat} {g : Nat → Int32} (h : WT K n m g) : fX3_clashesByStools (tvOf g) = nI (sf (fun i => if qs g i 5 = -1 then 0 else sf (fun r => sa g n (qs g i 0) (nI r)) 0 (qp g (qs g i 5).toNatClampNeg 0).toNatClampNeg) 0 n) := by
  have hn := h.1.2.2.1
  have hm := h.1.2.2.2.1
  have hg : (tvOf g).2.2.1 = nI n := h.1.1
  have hf := fuel0 hg (by omega)
  have key := (fo_itv (f := lX3_clashesByStools_4 (tvOf g)) ((0, 0) : Int32 × Int32) (fun (a : Nat) j => (nI a, nI j)) (fun a => (nI a, nI n)) (fun a i => a + (if qs g i 5 = -1 then 0 else sf (fun r => sa g n (qs g i 0) (nI r)) 0 (qp g (qs g i 5).toNatClampNeg 0).toNatClampNeg)) (fun _ _ => True) n (fun a i hi _ => ⟨by
    rw [lX3_clashesByStools_4, if_neg (up_le hg (by omega) hi)]
    simp only []
    rw [rS g (w := 5) (y := 5) (show i < 12 by omega) (by decide) rfl]
    rcases h.who hi with w | ⟨k, hk, w, -⟩
    · rw [w, rP_none, if_pos rfl]
      have e0 : itv (nI a, (0 : Int32)) (lX3_clashesByStools_27 (tvOf g) (nI a, nI i)) (((-1 : Int32).toInt - (0 : Int32).toInt).toNat + 1) (nI a, 0) = (nI a, 0) := by
        refine itv_eq ?_
        simp only [itr]
        rw [lX3_clashesByStools_27]
        dsimp only
        rw [rS g (w := 5) (y := 5) (show i < 12 by omega) (by decide) rfl, w, rP_none, if_pos (show (-1 : Int32) ≤ 0 by decide)]
      have e0' := congrArg (fun z : Int32 × Int32 => (Sum.inl (z.1, nI i + 1) : (Int32 × Int32) ⊕ (Int32 × Int32))) e0
      refine e0'.trans ?_
      rw [nI_1]; rfl
    · have n1 : ¬ qs g i 5 = -1 := by rw [w]; exact nI_m1 (by omega)
      rw [if_neg n1, w, nI_clamp (by omega), rP g (w := 0) (y := 0) (show k < 12 by omega) (by decide) rfl]
      obtain ⟨R, hR, hR1, hR2⟩ := of_rng (h.2.2 k hk).1.1 (by omega) (h.2.2 k hk).1.2
      rw [hR, nI_clamp (by omega)]
      have hf2 := fuel0 (x := qp g k 0) hR (by omega)
      rw [hR] at hf2
      have k2 := (fo_itv (f := lX3_clashesByStools_27 (tvOf g) (nI a, nI i)) ((nI a, 0) : Int32 × Int32) (fun (b : Nat) j => (nI b, nI j)) (fun b => (nI b, nI R)) (fun b r => b + sa g n (qs g i 0) (nI r)) (fun _ _ => True) R (fun b r hr _ => ⟨by
        rw [lX3_clashesByStools_27]
        simp only []
        rw [rS g (w := 5) (y := 5) (show i < 12 by omega) (by decide) rfl, w, rP g (w := 0) (y := 0) (show k < 12 by omega) (by decide) rfl, if_neg (up_le hR (by omega) hr), rS g (w := 0) (y := 0) (show i < 12 by omega) (by decide) rfl, sa_c h, nI_add, nI_1], trivial⟩) (fun b _ => by
        rw [lX3_clashesByStools_27]
        simp only []
        rw [rS g (w := 5) (y := 5) (show i < 12 by omega) (by decide) rfl, w, rP g (w := 0) (y := 0) (show k < 12 by omega) (by decide) rfl, if_pos (at_le hR)]) R 0 a _ (by omega) hf2 trivial).1
      rw [fo_sf] at k2
      have k3 := congrArg (fun z : Int32 × Int32 => (Sum.inl (z.1, nI i + 1) : (Int32 × Int32) ⊕ (Int32 × Int32))) k2
      refine Eq.trans ?_ (k3.trans ?_)
      · rfl
      · rw [nI_1], trivial⟩) (fun a _ => by
    rw [lX3_clashesByStools_4, if_pos (at_le hg)]) n 0 0 _ (by omega) hf trivial).1
  rw [fo_sf, Nat.zero_add] at key
  exact congrArg Prod.fst key
/-- sums over the stools that are taken are sums over the sitters who sit -/
theorem sum_ss {K n m : Nat} {g : Nat → Int32} (h : WT K n m g) (F : Nat → Nat) : sf (fun i => if qs g i 5 = -1 then 0 else F (qs g i 5).toNatClampNeg) 0 n = sf (fun k => if qp g k 2 = -1 then 0 else F k) 0 m := by
  have hn := h.1.2.2.1
  have hm := h.1.2.2.2.1
  have e1 : ∀ i, i < n → (if qs g i 5 = -1 then 0 else F (qs g i 5).toNatClampNeg) = sf (fun k => if qs g i 5 = nI k then F k else 0) 0 m := fun i hi => by
    rcases h.who hi with w | ⟨k0, hk, w, -⟩
    · rw [if_pos w]
      exact (sf_none (fun k _ hk => if_neg (fun z => nI_m1 (a := k) (by omega) (z.symm.trans w)))).symm
    · have n1 : ¬ qs g i 5 = -1 := by rw [w]; exact nI_m1 (by omega)
      rw [if_neg n1, w, nI_clamp (by omega)]
      have e : sf (fun k => if nI k0 = nI k then F k else 0) 0 m = sf (fun k => if k = k0 then F k0 else 0) 0 m := sf_congr (fun k _ hk => by
        by_cases c : k = k0
        · rw [if_pos (by rw [c]), if_pos c, c]
        · rw [if_neg (fun z => c (nI_inj (by omega) (by omega) z).symm), if_neg c])
      rw [e, sf_one, if_pos (by omega)]
  have e2 : ∀ k, k < m → sf (fun i => if qs g i 5 = nI k then F k else 0) 0 n = if qp g k 2 = -1 then 0 else F k := fun k hk => by
    rcases h.sit hk with w | ⟨i0, hi0, w, -, -⟩
    · rw [if_pos w]
      exact sf_none (fun i _ hi => if_neg (fun z => nI_m1 (a := i) (by omega) ((h.sitOf hk (by omega) z).symm.trans w)))
    · have n1 : ¬ qp g k 2 = -1 := by rw [w]; exact nI_m1 (by omega)
      rw [if_neg n1]
      have e : sf (fun i => if qs g i 5 = nI k then F k else 0) 0 n = sf (fun i => if i = i0 then F k else 0) 0 n := sf_congr (fun i _ hi => by
        by_cases c : i = i0
        · rw [if_pos (by rw [c]; exact h.whoOf hk hi0 w), if_pos c]
        · rw [if_neg (fun z => c (nI_inj (by omega) (by omega) ((h.sitOf hk (by omega) z).symm.trans w))), if_neg c])
      rw [e, sf_one, if_pos (by omega)]
  rw [sf_congr (fun i _ hi => e1 i (by omega)), sf_swap (fun i k => if qs g i 5 = nI k then F k else 0) m 0]
  exact sf_congr (fun k _ hk => e2 k (by omega))
/-- k ranks above o, and sits lower -/
def lw2 (g : Nat → Int32) (k o : Nat) : Nat := if (qp g o 0).toInt < (qp g k 0).toInt ∧ (qs g (qp g k 2).toNatClampNeg 0).toInt < (qs g (qp g o 2).toNatClampNeg 0).toInt then 1 else 0
def lw3 (g : Nat → Int32) (k o : Nat) : Nat := if qp g k 2 = -1 then 0 else if qp g o 2 = -1 then 0 else lw2 g k o
theorem ck_lw3 (g : Nat → Int32) (k o : Nat) : ck g (fun k => qp g k 2) k o = lw3 g k o + lw3 g o k := by
  unfold ck lw3 lw2
  dsimp only
  by_cases h1 : qp g k 2 = -1
  · by_cases h2 : qp g o 2 = -1
    · rw [if_pos h1, if_pos h1, if_pos h2]
    · rw [if_pos h1, if_pos h1, if_neg h2, if_pos h1]
  · by_cases h2 : qp g o 2 = -1
    · rw [if_neg h1, if_pos h2, if_neg h1, if_pos h2, if_pos h2]
    · rw [if_neg h1, if_neg h2, if_neg h1, if_neg h2, if_neg h2, if_neg h1]
      repeat' split
      all_goals omega
theorem rank_sum {g : Nat → Int32} {k o : Nat} {R : Nat} (hR : qp g k 0 = nI R) (hR9 : R ≤ 9) (ho : 0 ≤ (qp g o 0).toInt ∧ (qp g o 0).toInt ≤ 9) (v : Nat) : sf (fun r => if qp g o 0 = nI r then v else 0) 0 R = if (qp g o 0).toInt < (qp g k 0).toInt then v else 0 := by
  obtain ⟨q, hq, hq1, hq2⟩ := of_rng ho.1 (by omega) ho.2
  have e : sf (fun r => if qp g o 0 = nI r then v else 0) 0 R = sf (fun r => if r = q then v else 0) 0 R := sf_congr (fun r _ hr => by
    rw [hq]
    by_cases c : r = q
    · rw [if_pos (by rw [c]), if_pos c]
    · rw [if_neg (fun z => c (nI_inj (by omega) (by omega) z).symm), if_neg c])
  rw [e, sf_one, hR, hq, nI_toInt (by omega), nI_toInt (by omega)]
  by_cases c : q < R
  · rw [if_pos (by omega), if_pos (by omega)]
  · rw [if_neg (by omega), if_neg (by omega)]
theorem cs_eq {K n m : Nat} {g : Nat → Int32} (h : WT K n m g) : fX3_clashesByStools (tvOf g) = fX3_clashesByPairs (tvOf g) := by
  have hn := h.1.2.2.1
  have hm := h.1.2.2.2.1
  rw [cs_c h, cp_c h]
  congr 1
  have e1 : ∀ i, i < n → (if qs g i 5 = -1 then 0 else sf (fun r => sa g n (qs g i 0) (nI r)) 0 (qp g (qs g i 5).toNatClampNeg 0).toNatClampNeg) = (if qs g i 5 = -1 then 0 else (fun k => sf (fun o => if qp g o 2 = -1 then 0 else lw2 g k o) 0 m) (qs g i 5).toNatClampNeg) := fun i hi => by
    rcases h.who hi with w | ⟨k, hk, w, wp⟩
    · rw [if_pos w, if_pos w]
    · have n1 : ¬ qs g i 5 = -1 := by rw [w]; exact nI_m1 (by omega)
      rw [if_neg n1, if_neg n1, w, nI_clamp (by omega)]
      obtain ⟨R, hR, hR1, hR2⟩ := of_rng (h.2.2 k hk).1.1 (by omega) (h.2.2 k hk).1.2
      rw [show (qp g k 0).toNatClampNeg = R by rw [hR]; exact nI_clamp (by omega)]
      unfold sa
      rw [sf_swap (fun r j => if qs g j 5 = -1 then 0 else if qp g (qs g j 5).toNatClampNeg 0 = nI r then (if qs g j 0 ≤ qs g i 0 then 0 else 1) else 0) n 0]
      refine Eq.trans ?_ (sum_ss h (fun o => lw2 g k o))
      refine sf_congr (fun j _ hj => ?_)
      rcases h.who (show j < n by omega) with y | ⟨o, ho, y, yp⟩
      · rw [if_pos y]
        exact sf_none (fun r _ _ => if_pos y)
      · have n2 : ¬ qs g j 5 = -1 := by rw [y]; exact nI_m1 (by omega)
        rw [if_neg n2]
        have e2 : sf (fun r => if qs g j 5 = -1 then 0 else if qp g (qs g j 5).toNatClampNeg 0 = nI r then (if qs g j 0 ≤ qs g i 0 then 0 else 1) else 0) 0 R = sf (fun r => if qp g o 0 = nI r then (if qs g j 0 ≤ qs g i 0 then 0 else 1) else 0) 0 R := sf_congr (fun r _ _ => by rw [if_neg n2, y, nI_clamp (by omega)])
        rw [e2, rank_sum (k := k) hR (by omega) (h.2.2 o ho).1, lw2, y, nI_clamp (by omega), wp, yp, nI_clamp (by omega), nI_clamp (by omega)]
        by_cases c1 : (qp g o 0).toInt < (qp g k 0).toInt
        · rw [if_pos c1]
          by_cases c2 : qs g j 0 ≤ qs g i 0
          · rw [if_pos c2, if_neg (fun z => by rw [Int32.le_iff_toInt_le] at c2; omega)]
          · rw [if_neg c2, if_pos ⟨c1, by rw [Int32.le_iff_toInt_le] at c2; omega⟩]
        · rw [if_neg c1, if_neg (fun z => c1 z.1)]
  refine ((sf_congr (fun i _ hi => e1 i (by omega))).trans (sum_ss h (fun k => sf (fun o => if qp g o 2 = -1 then 0 else lw2 g k o) 0 m))).trans ?_
  have e3 : sf (fun k => if qp g k 2 = -1 then 0 else sf (fun o => if qp g o 2 = -1 then 0 else lw2 g k o) 0 m) 0 m = sf (fun k => sf (fun o => lw3 g k o) 0 m) 0 m := sf_congr (fun k _ _ => by
    by_cases c : qp g k 2 = -1
    · rw [if_pos c]
      exact (sf_none (fun o _ _ => by rw [lw3, if_pos c])).symm
    · rw [if_neg c]
      exact sf_congr (fun o _ _ => by rw [lw3, if_neg c]))
  rw [e3]
  have e4 := sf_pairs (fun k o => ck g (fun k => qp g k 2) k o) (ck_comm _ _) (ck_self _ _) m
  have e5 : sf (fun k => sf (fun o => ck g (fun k => qp g k 2) k o) 0 m) 0 m = sf (fun k => sf (fun o => lw3 g k o) 0 m) 0 m + sf (fun k => sf (fun o => lw3 g o k) 0 m) 0 m := by
    rw [← sf_add]
    refine sf_congr (fun k _ _ => ?_)
    rw [← sf_add]
    exact sf_congr (fun o _ _ => ck_lw3 g k o)
  have e6 : sf (fun k => sf (fun o => lw3 g o k) 0 m) 0 m = sf (fun k => sf (fun o => lw3 g k o) 0 m) 0 m := sf_swap (fun k o => lw3 g o k) m 0
  rw [e6] at e5
  omega
