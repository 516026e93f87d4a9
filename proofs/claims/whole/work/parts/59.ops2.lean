/-! The changes: sitting down, getting up, swapping -/
/-- the reference lays the seats, changes one, and takes them -/
theorem one_r (S2 : SV) {K n m : Nat} (h : WT K n m S2.1) {k : Nat} (hk : k < m) (v : Int32) {row : Nat → Int32} (hv : v = -1 ∨ ∃ i, i < n ∧ v = nI i ∧ qs S2.1 i 5 = -1) (t : TK n m S2.1 (fun x => if x = k then v else qp S2.1 x 2) row) :
    ∃ s', fX6_takesSeats (sS6 (upd (fX6_laysSeats S2).2.2.2.2.2.2.1 (nI k).toNatClampNeg v) (fX6_laysSeats S2)) = sS0 row (sS6 s' S2) ∧ gX6_laysSeats S2 ∧ gX6_takesSeats (sS6 (upd (fX6_laysSeats S2).2.2.2.2.2.2.1 (nI k).toNatClampNeg v) (fX6_laysSeats S2)) ∧ SE n m s' ∧ ∀ x, x < m → s' x = if x = k then v else qp S2.1 x 2 := by
  have hn := h.1.2.2.1
  have hm := h.1.2.2.2.1
  obtain ⟨s0, e1, e2, e3⟩ := ls_r S2 h.1.2.1 hm
  rw [e1, nI_clamp (by omega)]
  have es : ∀ x, x < m → upd s0 k v x = if x = k then v else qp S2.1 x 2 := fun x hx => by
    show (if x = k then v else s0 x) = _
    rw [e3 x, if_pos hx]
  have hSE : SE n m (upd s0 k v) := fun x hx => by
    rw [es x hx]
    by_cases hxk : x = k
    · rw [if_pos hxk]
      exact hv.imp id (fun ⟨i, a, b, _⟩ => ⟨i, a, b⟩)
    · rw [if_neg hxk]; exact h.se x hx
  have inj : ∀ a b i, a < m → b < m → i < n → upd s0 k v a = nI i → upd s0 k v b = nI i → a = b := fun a b i ha hb hi z1 z2 => by
    rw [es a ha] at z1
    rw [es b hb] at z2
    by_cases hak : a = k
    · by_cases hbk : b = k
      · rw [hak, hbk]
      · exfalso
        rw [if_pos hak] at z1
        rw [if_neg hbk] at z2
        rcases hv with hv | ⟨j, hj, hv, hf⟩
        · rw [hv] at z1; exact nI_m1 (by omega) z1.symm
        · rw [hv] at z1
          have := nI_inj (by omega) (by omega) z1
          subst this
          rw [h.whoOf hb hi z2] at hf
          exact nI_m1 (by omega) hf
    · by_cases hbk : b = k
      · exfalso
        rw [if_neg hak] at z1
        rw [if_pos hbk] at z2
        rcases hv with hv | ⟨j, hj, hv, hf⟩
        · rw [hv] at z2; exact nI_m1 (by omega) z2.symm
        · rw [hv] at z2
          have := nI_inj (by omega) (by omega) z2
          subst this
          rw [h.whoOf ha hi z1] at hf
          exact nI_m1 (by omega) hf
      · rw [if_neg hak] at z1
        rw [if_neg hbk] at z2
        exact h.one ha hb hi z1 z2
  obtain ⟨f1, f2⟩ := lt_r S2 h (upd s0 k v) hSE inj (t.cong es)
  exact ⟨_, f1, e2, f2, hSE, es⟩
theorem getUp_out {K n m : Nat} (C : CV) (S : SV) (h : WT K n m S.1) {c : Nat} (hc : c ≤ 8) (hch : S.2.2.2.2.2.2.2.2.2.1 = nI c) (x : Int32) : Out K C S (fX5_letGetUp C (tvOf S.1) x) (fX6_getUp S x) 1 1 2 ∧ gX6_getUp S x := by
  have hn := h.1.2.2.1
  have hm := h.1.2.2.2.1
  rcases isSitter_cases S h.1.2.1 hm x with ⟨k, hk, rfl, e1, e2⟩ | ⟨e1, e2⟩
  · rw [fX5_letGetUp, fX6_getUp, gX6_getUp, e1, e2, if_neg one_ne, if_neg one_ne, if_neg one_ne]
    have b2 : fX6_by (fX6_fails S 0).2 (nI k) 2 = qp S.1 k 2 := by rw [fl0]; exact rB _ (w := 2) (y := 2) (by omega) (by decide) rfl
    rw [b2, sits_c hm h.se hk]
    have gb : gX6_by (fX6_fails S 0).2 (nI k) 2 := gB _ (by omega) (by decide) rfl
    rcases h.sit hk with e | ⟨i, hi, e, -, -⟩
    · rw [e, if_pos rfl, if_pos rfl, if_neg m1_nle, if_neg m1_nle]
      refine ⟨Or.inr (Or.inr (Or.inr ⟨4, nI k, rfl, ?_⟩)), gIsSitter _ _, gb, trivial⟩
      rw [fl0]; rfl
    · have n1 : ¬ qp S.1 k 2 = -1 := by rw [e]; exact nI_m1 (by omega)
      have n2 : (0 : Int32) ≤ qp S.1 k 2 := by rw [e]; exact nI_pos' (by omega)
      rw [if_neg n1, if_neg one_ne, if_pos n2, if_pos n2]
      obtain ⟨g1, l1, l2, l3, l4⟩ := leave_c h hk
      obtain ⟨k', ch', s1, s2, s3⟩ := kf_r S hc hch
      have q : (fX6_keeps_g (fX6_fails S 0).2).1 = S.1 := by rw [s1]; rfl
      generalize fX6_keeps_g (fX6_fails S 0).2 = S2 at s1 s2 q ⊢
      have t := tk_up h hk l2 l3 l4 (s := fun x => if x = k then -1 else qp S.1 x 2) (fun _ _ => rfl)
      obtain ⟨s', f1, f2, f3, f4, f5⟩ := one_r S2 (K := K) (n := n) (m := m) (by rw [q]; exact h) hk (-1) (row := g1) (Or.inl rfl) (by rw [q]; exact t)
      rw [f1, l1]
      refine ⟨Or.inl ⟨i, g1, s', k', 0, ch', n, m, by omega, by rw [e], by rw [e, s1], ?_, s3⟩, gIsSitter _ _, gb, s2, f2, vp_in_nI (by omega) (by omega), f3, trivial⟩
      rw [q] at f5
      refine (t.wt h (fun x hx => ?_) (fun x j hx hj z => ?_)).mono (Nat.le_succ K)
      · show (if x = k then (-1 : Int32) else qp S.1 x 2) = -1 ∨ _
        by_cases hxk : x = k
        · exact Or.inl (if_pos hxk)
        · simp only [if_neg hxk]; exact h.se x hx
      · replace z : (if x = k then (-1 : Int32) else qp S.1 x 2) = nI j := z
        by_cases hxk : x = k
        · rw [if_pos hxk] at z; exact absurd z.symm (nI_m1 (by omega))
        · rw [if_neg hxk] at z
          rcases h.sit hx with y | ⟨j', hj', y, -, y2⟩
          · rw [y] at z; exact absurd z.symm (nI_m1 (by omega))
          · rw [y] at z
            rw [← nI_inj (by omega) (by omega) z]; exact y2
  · rw [fX5_letGetUp, fX6_getUp, gX6_getUp, e1, e2, if_pos rfl, if_pos rfl, if_pos rfl]
    exact ⟨Or.inr (Or.inl ⟨rfl, by rw [fl1]⟩), gIsSitter _ _, trivial⟩
theorem sit_out {K n m : Nat} (C : CV) (S : SV) (h : WT K n m S.1) {c : Nat} (hc : c ≤ 8) (hch : S.2.2.2.2.2.2.2.2.2.1 = nI c) (x y : Int32) : Out K C S (fX5_seat C (tvOf S.1) x y) (fX6_sit S x y) 1 1 2 ∧ gX6_sit S x y := by
  have hn := h.1.2.2.1
  have hm := h.1.2.2.2.1
  rcases isSitter_cases S h.1.2.1 hm x with ⟨k, hk, rfl, e1, e2⟩ | ⟨e1, e2⟩
  · rcases isStool_cases S h.1.1 hn y with ⟨i, hi, rfl, e3, e4⟩ | ⟨e3, e4⟩
    · rw [fX5_seat, fX6_sit, gX6_sit, e1, e2, e3, e4, if_neg one_ne, if_neg one_ne, if_neg one_ne, if_neg one_ne, if_neg one_ne, if_neg one_ne]
      have b2 : fX6_by (fX6_fails S 0).2 (nI k) 2 = qp S.1 k 2 := by rw [fl0]; exact rB _ (w := 2) (y := 2) (by omega) (by decide) rfl
      have o5 : fX6_of (fX6_fails S 0).2 (nI i) 5 = qs S.1 i 5 := by rw [fl0]; exact rO _ (w := 5) (y := 5) (by omega) (by decide) rfl
      have gb : gX6_by (fX6_fails S 0).2 (nI k) 2 := gB _ (by omega) (by decide) rfl
      have go : gX6_of (fX6_fails S 0).2 (nI i) 5 := gO _ (by omega) (by decide) rfl
      rw [b2, o5, rS S.1 (w := 5) (y := 5) (show i < 12 by omega) (by decide) rfl]
      by_cases hs : qp S.1 k 2 = nI i
      · have hw := h.whoOf hk hi hs
        rw [if_pos hw, if_pos hs, if_pos hs]
        refine ⟨Or.inr (Or.inr (Or.inr ⟨4, nI k, rfl, ?_⟩)), gIsSitter _ _, gIsStool _ _, gb, trivial⟩
        rw [fl0]; rfl
      · have hw : ¬ qs S.1 i 5 = nI k := fun z => hs (h.sitOf hk hi z)
        rw [if_neg hw, if_neg hs, if_neg hs]
        rcases h.who hi with w | ⟨o, ho, w, -⟩
        · rw [w, if_pos rfl, if_pos m1_lt, if_pos m1_lt]
          obtain ⟨m1, m2⟩ := may_r (fX6_fails S 0).2 (n := n) (m := m) hn hm hk hi
          have m1' : fX6_maySit (fX6_fails S 0).2 (nI k) (nI i) = (if ¬ qp S.1 k 0 = 0 ∨ qs S.1 i 3 = 0 then 1 else 0) := by rw [m1, fl0]; rfl
          rw [m1', may_c h hk hi]
          by_cases hmay : ¬ qp S.1 k 0 = 0 ∨ qs S.1 i 3 = 0
          · rw [if_pos hmay, if_neg one_ne, if_neg one_ne, if_neg one_ne]
            obtain ⟨g1, l1, l2, l3, l4⟩ := leave_c h hk
            obtain ⟨k', ch', s1, s2, s3⟩ := kf_r S hc hch
            have q : (fX6_keeps_g (fX6_fails S 0).2).1 = S.1 := by rw [s1]; rfl
            generalize fX6_keeps_g (fX6_fails S 0).2 = S2 at s1 s2 q ⊢
            have t := tk_sit h hk hi w l3 l4 (s := fun x => if x = k then nI i else qp S.1 x 2) (fun _ _ => rfl)
            obtain ⟨s', f1, f2, f3, f4, f5⟩ := one_r S2 (K := K) (n := n) (m := m) (by rw [q]; exact h) hk (nI i) (row := upd (upd g1 (78 + (3 * k + 2)) (nI i)) (6 + (6 * i + 5)) (nI k)) (Or.inr ⟨i, hi, rfl, by rw [q]; exact w⟩) (by rw [q]; exact t)
            rw [q] at f5
            have hwt : WT K n m (upd (upd g1 (78 + (3 * k + 2)) (nI i)) (6 + (6 * i + 5)) (nI k)) := t.wt h (fun x hx => by
                show (if x = k then nI i else qp S.1 x 2) = -1 ∨ ∃ j, j < n ∧ (if x = k then nI i else qp S.1 x 2) = nI j
                by_cases hxk : x = k
                · rw [if_pos hxk]; exact Or.inr ⟨i, hi, rfl⟩
                · rw [if_neg hxk]; exact h.se x hx) (fun x j hx hj z => by
                replace z : (if x = k then nI i else qp S.1 x 2) = nI j := z
                by_cases hxk : x = k
                · rw [if_pos hxk] at z
                  have := nI_inj (by omega) (by omega) z
                  subst this
                  intro z0
                  rw [hxk] at z0
                  exact hmay.resolve_left (fun z => z z0)
                · rw [if_neg hxk] at z
                  rcases h.sit hx with y | ⟨j', hj', y, -, y2⟩
                  · rw [y] at z; exact absurd z.symm (nI_m1 (by omega))
                  · rw [y] at z
                    rw [← nI_inj (by omega) (by omega) z]; exact y2)
            rw [f1, l1, take_c g1 (show k < 12 by omega) (show i < 12 by omega), cw_c hwt hk]
            obtain ⟨w1, w2⟩ := cw_r (sS0 (upd (upd g1 (78 + (3 * k + 2)) (nI i)) (6 + (6 * i + 5)) (nI k)) (sS6 s' S2)) (K := K) (n := n) (m := m) hwt f4 hk
            have ec : sf (fun o => ck (sS0 (upd (upd g1 (78 + (3 * k + 2)) (nI i)) (6 + (6 * i + 5)) (nI k)) (sS6 s' S2)).1 (seats (sS0 (upd (upd g1 (78 + (3 * k + 2)) (nI i)) (6 + (6 * i + 5)) (nI k)) (sS6 s' S2))) k o) 0 m = sf (fun o => ck (upd (upd g1 (78 + (3 * k + 2)) (nI i)) (6 + (6 * i + 5)) (nI k)) (fun x => qp (upd (upd g1 (78 + (3 * k + 2)) (nI i)) (6 + (6 * i + 5)) (nI k)) x 2) k o) 0 m :=
              sf_congr (fun o _ ho => ck_cong (n := n) (fun _ _ => rfl) (fun _ _ => rfl) ((f5 k hk).trans (t.seat hk).symm) ((f5 o (by omega)).trans (t.seat (by omega)).symm) (f4 k hk) (f4 o (by omega)) hn)
            rw [ec] at w1
            rw [w1]
            have hb := sf_bound (w := fun o => ck (upd (upd g1 (78 + (3 * k + 2)) (nI i)) (6 + (6 * i + 5)) (nI k)) (fun x => qp (upd (upd g1 (78 + (3 * k + 2)) (nI i)) (6 + (6 * i + 5)) (nI k)) x 2) k o) 1 (c := m) (k := 0) (fun o _ _ => ck_le _ _ _ _)
            refine ⟨Or.inl ⟨_, _, s', k', 0, ch', n, m, Nat.le_trans hb (by omega), rfl, by rw [s1], hwt.mono (Nat.le_succ K), s3⟩, gIsSitter _ _, gIsStool _ _, gb, go, m2, s2, f2, vp_in_nI (by omega) (by omega), f3, w2, trivial⟩
          · rw [if_neg hmay, if_pos rfl, if_pos rfl, if_pos rfl]
            refine ⟨Or.inr (Or.inr (Or.inr ⟨3, nI i, rfl, ?_⟩)), gIsSitter _ _, gIsStool _ _, gb, go, m2, trivial⟩
            rw [fl0]; rfl
        · have n1 : ¬ qs S.1 i 5 = -1 := by rw [w]; exact nI_m1 (by omega)
          have n2 : ¬ qs S.1 i 5 < 0 := by rw [w]; exact nI_pos (by omega)
          rw [if_neg n1, if_neg n2, if_neg n2]
          refine ⟨Or.inr (Or.inr (Or.inr ⟨2, qs S.1 i 5, rfl, ?_⟩)), gIsSitter _ _, gIsStool _ _, gb, go, go, trivial⟩
          rw [fl0]; rfl
    · rw [fX5_seat, fX6_sit, gX6_sit, e1, e2, e3, e4, if_neg one_ne, if_neg one_ne, if_neg one_ne, if_pos rfl, if_pos rfl, if_pos rfl]
      exact ⟨Or.inr (Or.inl ⟨rfl, by rw [fl1]⟩), gIsSitter _ _, gIsStool _ _, trivial⟩
  · rw [fX5_seat, fX6_sit, gX6_sit, e1, e2, if_pos rfl, if_pos rfl, if_pos rfl]
    exact ⟨Or.inr (Or.inl ⟨rfl, by rw [fl1]⟩), gIsSitter _ _, trivial⟩
/-- the reference swaps two seats -/
theorem sw_r (S2 : SV) {K n m : Nat} (h : WT K n m S2.1) {k o : Nat} (hk : k < m) (ho : o < m) (hko : k ≠ o) {i1 i2 : Nat} (h1 : i1 < n) (h2 : i2 < n) (e1 : qp S2.1 k 2 = nI i1) (e2 : qp S2.1 o 2 = nI i2) :
    ∃ s', fX6_swaps S2 (nI k) (nI o) = sS6 s' S2 ∧ gX6_swaps S2 (nI k) (nI o) ∧ SE n m s' ∧ (∀ x, x < m → s' x = if x = o then nI i1 else if x = k then nI i2 else qp S2.1 x 2) ∧ (∀ a b i, a < m → b < m → i < n → s' a = nI i → s' b = nI i → a = b) := by
  have hn := h.1.2.2.1
  have hm := h.1.2.2.2.1
  obtain ⟨s0, f1, f2, f3⟩ := ls_r S2 h.1.2.1 hm
  have bo : ∀ S' : SV, S'.1 = S2.1 → fX6_by S' (nI o) 2 = nI i2 := fun S' q => by rw [rB S' (w := 2) (y := 2) (by omega) (by decide) rfl, q, e2]
  have bk : ∀ S' : SV, S'.1 = S2.1 → fX6_by S' (nI k) 2 = nI i1 := fun S' q => by rw [rB S' (w := 2) (y := 2) (by omega) (by decide) rfl, q, e1]
  have es : ∀ x, x < m → upd (upd s0 k (nI i2)) o (nI i1) x = if x = o then nI i1 else if x = k then nI i2 else qp S2.1 x 2 := fun x hx => by
    show (if x = o then nI i1 else if x = k then nI i2 else s0 x) = _
    rw [f3 x, if_pos hx]
  refine ⟨upd (upd s0 k (nI i2)) o (nI i1), ?_, ?_, fun x hx => ?_, es, fun a b i ha hb hi z1 z2 => ?_⟩
  · rw [fX6_swaps, f1, nI_clamp (by omega), nI_clamp (by omega), bo (sS6 s0 S2) rfl]
    rw [bk (sS6 (upd (sS6 s0 S2).2.2.2.2.2.2.1 k (nI i2)) (sS6 s0 S2)) rfl]
    rfl
  · rw [gX6_swaps, f1]
    exact ⟨f2, gB _ (by omega) (by decide) rfl, vp_in_nI (by omega) (by omega), gB _ (by omega) (by decide) rfl, vp_in_nI (by omega) (by omega), trivial⟩
  · rw [es x hx]
    by_cases x1 : x = o
    · rw [if_pos x1]; exact Or.inr ⟨i1, h1, rfl⟩
    · rw [if_neg x1]
      by_cases x2 : x = k
      · rw [if_pos x2]; exact Or.inr ⟨i2, h2, rfl⟩
      · rw [if_neg x2]; exact h.se x hx
  · rw [es a ha] at z1
    rw [es b hb] at z2
    have ne1 : ∀ x, x < m → x ≠ k → qp S2.1 x 2 ≠ nI i1 := fun x hx hxk z => hxk (h.one hx hk h1 z e1)
    have ne2 : ∀ x, x < m → x ≠ o → qp S2.1 x 2 ≠ nI i2 := fun x hx hxo z => hxo (h.one hx ho h2 z e2)
    have ne3 : nI i1 ≠ nI i2 := fun z => hko (h.one hk ho h2 (e1.trans z) e2)
    by_cases ao : a = o
    · rw [if_pos ao] at z1
      by_cases bo : b = o
      · rw [ao, bo]
      · rw [if_neg bo] at z2
        by_cases bk : b = k
        · rw [if_pos bk] at z2; exact absurd (z1.trans z2.symm) ne3
        · rw [if_neg bk] at z2; exact absurd (z2.trans z1.symm) (ne1 b hb bk)
    · rw [if_neg ao] at z1
      by_cases ak : a = k
      · rw [if_pos ak] at z1
        by_cases bo : b = o
        · rw [if_pos bo] at z2; exact absurd (z2.trans z1.symm) ne3
        · rw [if_neg bo] at z2
          by_cases bk : b = k
          · rw [ak, bk]
          · rw [if_neg bk] at z2; exact absurd (z2.trans z1.symm) (ne2 b hb bo)
      · rw [if_neg ak] at z1
        by_cases bo : b = o
        · rw [if_pos bo] at z2; exact absurd (z1.trans z2.symm) (ne1 a ha ak)
        · rw [if_neg bo] at z2
          by_cases bk : b = k
          · rw [if_pos bk] at z2; exact absurd (z1.trans z2.symm) (ne2 a ha ao)
          · rw [if_neg bk] at z2; exact h.one ha hb hi z1 z2
theorem swRow_wt {K n m : Nat} {g : Nat → Int32} (h : WT K n m g) {k o i1 i2 : Nat} (hk : k < m) (ho : o < m) (hko : k ≠ o) (h1 : i1 < n) (h2 : i2 < n) (e1 : qp g k 2 = nI i1) (e2 : qp g o 2 = nI i2) (m1 : ¬ qp g k 0 = 0 ∨ qs g i2 3 = 0) (m2 : ¬ qp g o 0 = 0 ∨ qs g i1 3 = 0) : WT K n m (swRow g k o i1 i2) := by
  have hn := h.1.2.2.1
  have hm := h.1.2.2.2.1
  refine (tk_swap h hk ho hko h1 h2 e1 e2 (s := fun x => if x = o then nI i1 else if x = k then nI i2 else qp g x 2) (fun _ _ => rfl)).wt h (fun x hx => ?_) (fun x j hx hj z => ?_)
  · show (if x = o then nI i1 else if x = k then nI i2 else qp g x 2) = -1 ∨ ∃ j, j < n ∧ (if x = o then nI i1 else if x = k then nI i2 else qp g x 2) = nI j
    by_cases x1 : x = o
    · rw [if_pos x1]; exact Or.inr ⟨i1, h1, rfl⟩
    · rw [if_neg x1]
      by_cases x2 : x = k
      · rw [if_pos x2]; exact Or.inr ⟨i2, h2, rfl⟩
      · rw [if_neg x2]; exact h.se x hx
  · replace z : (if x = o then nI i1 else if x = k then nI i2 else qp g x 2) = nI j := z
    intro z0
    by_cases x1 : x = o
    · rw [if_pos x1] at z
      rw [← nI_inj (by omega) (by omega) z]
      rw [x1] at z0
      exact m2.resolve_left (fun y => y z0)
    · rw [if_neg x1] at z
      by_cases x2 : x = k
      · rw [if_pos x2] at z
        rw [← nI_inj (by omega) (by omega) z]
        rw [x2] at z0
        exact m1.resolve_left (fun y => y z0)
      · rw [if_neg x2] at z
        rcases h.sit hx with y | ⟨j', hj', y, -, y2⟩
        · rw [y] at z; exact absurd z.symm (nI_m1 (by omega))
        · rw [y] at z
          rw [← nI_inj (by omega) (by omega) z]; exact y2 z0
theorem cp_le (g s : Nat → Int32) {m : Nat} (hm : m ≤ 12) : sf (fun i => sf (fun j => ck g s i j) (i + 1) (m - (i + 1))) 0 m ≤ 144 := by
  have := sf_bound (w := fun i => sf (fun j => ck g s i j) (i + 1) (m - (i + 1))) 12 (c := m) (k := 0) (fun i _ hi => by
    have := sf_bound (w := fun j => ck g s i j) 1 (c := m - (i + 1)) (k := i + 1) (fun j _ _ => ck_le _ _ _ _)
    omega)
  omega
theorem cp_cong {n m : Nat} {g g' s s' : Nat → Int32} (hn : n ≤ 12) (hr : ∀ j, j < m → qp g j 0 = qp g' j 0) (hh : ∀ i, i < n → qs g i 0 = qs g' i 0) (hs : ∀ k, k < m → s k = s' k) (hSE : SE n m s) : sf (fun i => sf (fun j => ck g s i j) (i + 1) (m - (i + 1))) 0 m = sf (fun i => sf (fun j => ck g' s' i j) (i + 1) (m - (i + 1))) 0 m :=
  sf_congr (fun i _ hi => sf_congr (fun j _ hj => ck_cong (n := n) (fun x hx => hr x (by omega)) hh (hs i (by omega)) (hs j (by omega)) (hSE i (by omega)) (hSE j (by omega)) hn))
theorem swap_out {K n m : Nat} (C : CV) (S : SV) (h : WT K n m S.1) {c : Nat} (hc : c ≤ 8) (hch : S.2.2.2.2.2.2.2.2.2.1 = nI c) (x y : Int32) : Out K C S (fX5_letSwap C (tvOf S.1) x y) (fX6_swap S x y) 1 2 3 ∧ gX6_swap S x y := by
  have hn := h.1.2.2.1
  have hm := h.1.2.2.2.1
  rcases isSitter_cases S h.1.2.1 hm x with ⟨k, hk, rfl, e1, e2⟩ | ⟨e1, e2⟩
  · rcases isSitter_cases S h.1.2.1 hm y with ⟨o, ho, rfl, e3, e4⟩ | ⟨e3, e4⟩
    · rw [fX5_letSwap, fX6_swap, gX6_swap, e1, e2, e3, e4, if_neg one_ne, if_neg one_ne, if_neg one_ne, if_neg one_ne, if_neg one_ne, if_neg one_ne]
      by_cases hko : k = o
      · subst hko
        rw [if_pos rfl, if_pos rfl, if_pos rfl]
        exact ⟨Or.inr (Or.inr (Or.inl ⟨rfl, by rw [fl2]⟩)), gIsSitter _ _, gIsSitter _ _, trivial⟩
      · have hne : ¬ nI k = nI o := fun z => hko (nI_inj (by omega) (by omega) z)
        rw [if_neg hne, if_neg hne, if_neg hne]
        have bk : fX6_by (fX6_fails S 0).2 (nI k) 2 = qp S.1 k 2 := by rw [fl0]; exact rB _ (w := 2) (y := 2) (by omega) (by decide) rfl
        have bo : fX6_by (fX6_fails S 0).2 (nI o) 2 = qp S.1 o 2 := by rw [fl0]; exact rB _ (w := 2) (y := 2) (by omega) (by decide) rfl
        have gk : gX6_by (fX6_fails S 0).2 (nI k) 2 := gB _ (by omega) (by decide) rfl
        have go : gX6_by (fX6_fails S 0).2 (nI o) 2 := gB _ (by omega) (by decide) rfl
        rw [bk, bo, sits_c hm h.se hk, sits_c hm h.se ho, rP S.1 (k := o) (w := 2) (y := 2) (by omega) (by decide) rfl, rP S.1 (k := k) (w := 2) (y := 2) (by omega) (by decide) rfl]
        rcases h.sit hk with f1 | ⟨i1, hi1, f1, -, -⟩
        · rw [f1, if_pos rfl, if_pos rfl, if_neg m1_nle, if_neg m1_nle]
          refine ⟨Or.inr (Or.inr (Or.inr ⟨4, nI k, rfl, ?_⟩)), gIsSitter _ _, gIsSitter _ _, gk, trivial⟩
          rw [fl0]; rfl
        · have n1 : ¬ qp S.1 k 2 = -1 := by rw [f1]; exact nI_m1 (by omega)
          have n2 : (0 : Int32) ≤ qp S.1 k 2 := by rw [f1]; exact nI_pos' (by omega)
          rw [if_neg n1, if_neg one_ne, if_pos n2, if_pos n2]
          rcases h.sit ho with f2 | ⟨i2, hi2, f2, -, -⟩
          · rw [f2, if_pos rfl, if_pos rfl, if_neg m1_nle, if_neg m1_nle]
            refine ⟨Or.inr (Or.inr (Or.inr ⟨4, nI o, rfl, ?_⟩)), gIsSitter _ _, gIsSitter _ _, gk, go, trivial⟩
            rw [fl0]; rfl
          · have n3 : ¬ qp S.1 o 2 = -1 := by rw [f2]; exact nI_m1 (by omega)
            have n4 : (0 : Int32) ≤ qp S.1 o 2 := by rw [f2]; exact nI_pos' (by omega)
            rw [if_neg n3, if_neg one_ne, if_pos n4, if_pos n4, f1, f2]
            obtain ⟨m1, m1g⟩ := may_r (fX6_fails S 0).2 (n := n) (m := m) hn hm hk hi2
            have m1' : fX6_maySit (fX6_fails S 0).2 (nI k) (nI i2) = (if ¬ qp S.1 k 0 = 0 ∨ qs S.1 i2 3 = 0 then 1 else 0) := by rw [m1, fl0]; rfl
            obtain ⟨m2, m2g⟩ := may_r (fX6_fails S 0).2 (n := n) (m := m) hn hm ho hi1
            have m2' : fX6_maySit (fX6_fails S 0).2 (nI o) (nI i1) = (if ¬ qp S.1 o 0 = 0 ∨ qs S.1 i1 3 = 0 then 1 else 0) := by rw [m2, fl0]; rfl
            rw [m1', m2', may_c h hk hi2, may_c h ho hi1]
            by_cases hmay1 : ¬ qp S.1 k 0 = 0 ∨ qs S.1 i2 3 = 0
            · rw [if_pos hmay1, if_neg one_ne, if_neg one_ne, if_neg one_ne]
              by_cases hmay2 : ¬ qp S.1 o 0 = 0 ∨ qs S.1 i1 3 = 0
              · rw [if_pos hmay2, if_neg one_ne, if_neg one_ne, if_neg one_ne]
                obtain ⟨k', ch', s1, s2, s3⟩ := kf_r S hc hch
                have q : (fX6_keeps_g (fX6_fails S 0).2).1 = S.1 := by rw [s1]; rfl
                generalize fX6_keeps_g (fX6_fails S 0).2 = S2 at s1 s2 q ⊢
                obtain ⟨s', w1, w2, w3, w4, w5⟩ := sw_r S2 (K := K) (n := n) (m := m) (by rw [q]; exact h) hk ho hko hi1 hi2 (by rw [q]; exact f1) (by rw [q]; exact f2)
                have t := tk_swap h hk ho hko hi1 hi2 f1 f2 (s := s') (fun x hx => by rw [w4 x hx, q])
                obtain ⟨f3, f4⟩ := lt_r S2 (K := K) (n := n) (m := m) (by rw [q]; exact h) s' w3 w5 (row := swRow S.1 k o i1 i2) (by rw [q]; exact t)
                have hwt := swRow_wt h hk ho hko hi1 hi2 f1 f2 hmay1 hmay2
                obtain ⟨c1, c2⟩ := ct_r (sS0 (swRow S.1 k o i1 i2) (sS6 s' S2)) (K := K) (n := n) (m := m) hwt w3
                have ec : sf (fun i => sf (fun j => ck (sS0 (swRow S.1 k o i1 i2) (sS6 s' S2)).1 (seats (sS0 (swRow S.1 k o i1 i2) (sS6 s' S2))) i j) (i + 1) (m - (i + 1))) 0 m = sf (fun i => sf (fun j => ck (swRow S.1 k o i1 i2) (fun x => qp (swRow S.1 k o i1 i2) x 2) i j) (i + 1) (m - (i + 1))) 0 m :=
                  cp_cong hn (fun _ _ => rfl) (fun _ _ => rfl) (fun x hx => (t.seat hx).symm) w3
                rw [ec] at c1
                rw [w1, f3, c1, exch_c S.1 (by omega) (by omega) (by omega) (by omega) f1 f2, cp_c hwt]
                refine ⟨Or.inl ⟨_, _, s', k', 0, ch', n, m, Nat.le_trans (cp_le _ _ hm) (by omega), rfl, by rw [s1], hwt.mono (Nat.le_succ K), s3⟩, gIsSitter _ _, gIsSitter _ _, gk, go, go, m1g, gk, m2g, s2, w2, f4, c2, trivial⟩
              · rw [if_neg hmay2, if_pos rfl, if_pos rfl, if_pos rfl]
                refine ⟨Or.inr (Or.inr (Or.inr ⟨3, nI i1, rfl, ?_⟩)), gIsSitter _ _, gIsSitter _ _, gk, go, go, m1g, gk, m2g, gk, trivial⟩
                rw [fl0]; rfl
            · rw [if_neg hmay1, if_pos rfl, if_pos rfl, if_pos rfl]
              refine ⟨Or.inr (Or.inr (Or.inr ⟨3, nI i2, rfl, ?_⟩)), gIsSitter _ _, gIsSitter _ _, gk, go, go, m1g, go, trivial⟩
              rw [fl0]; rfl
    · rw [fX5_letSwap, fX6_swap, gX6_swap, e1, e2, e3, e4, if_neg one_ne, if_neg one_ne, if_neg one_ne, if_pos rfl, if_pos rfl, if_pos rfl]
      exact ⟨Or.inr (Or.inl ⟨rfl, by rw [fl1]⟩), gIsSitter _ _, gIsSitter _ _, trivial⟩
  · rw [fX5_letSwap, fX6_swap, gX6_swap, e1, e2, if_pos rfl, if_pos rfl, if_pos rfl]
    exact ⟨Or.inr (Or.inl ⟨rfl, by rw [fl1]⟩), gIsSitter _ _, trivial⟩
