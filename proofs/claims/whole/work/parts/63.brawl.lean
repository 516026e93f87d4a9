/-! Brawls -/
def inR (a e : Nat) (x : Int32) : Bool := decide (¬ x < nI a ∧ ¬ (nI e - 1) < x)
theorem lt_e {e v : Nat} (he : e ≤ 100000) (hv : v ≤ 100000) : (nI e - 1 < nI v) ↔ e ≤ v := by
  rw [Int32.lt_iff_toInt_lt, m1I he, nI_toInt (by omega)]; omega
theorem inR_m1 (a e : Nat) (ha : a ≤ 100000) : inR a e (-1) = false := by
  refine decide_eq_false (fun h => h.1 ?_)
  rw [Int32.lt_iff_toInt_lt, nI_toInt (by omega), show (-1 : Int32).toInt = -1 by decide]; omega
theorem inR_nI {a e i : Nat} (ha : a ≤ 100000) (he : e ≤ 100000) (hi : i ≤ 100000) : inR a e (nI i) = true ↔ a ≤ i ∧ i < e := by
  rw [inR, decide_eq_true_iff, lt_e he hi, nI_ltI (by omega) (by omega)]; omega
theorem in_r {a e : Nat} (x : Int32) : fX6_in x (nI a) (nI e - 1) = if inR a e x = true then 1 else 0 := by
  rw [fX6_in, inR]
  by_cases h1 : x < nI a
  · rw [if_pos h1, decide_eq_false (fun z => z.1 h1), if_neg Bool.false_ne_true]
  · rw [if_neg h1]
    by_cases h2 : nI e - 1 < x
    · rw [if_pos h2, decide_eq_false (fun z => z.2 h2), if_neg Bool.false_ne_true]
    · rw [if_neg h2, decide_eq_true ⟨h1, h2⟩, if_pos rfl]
theorem may_q {q : Nat → Int32} {k i : Nat} (hk : k < 12) (hi : i < 12) (hr : 0 ≤ (qp q k 0).toInt) : fX3_maySit (tvOf q) (nI k) (nI i) = if ¬ qp q k 0 = 0 ∨ qs q i 3 = 0 then 1 else 0 := by
  rw [fX3_maySit, rP q (w := 0) (y := 0) hk (by decide) rfl, rS q (w := 3) (y := 3) hi (by decide) rfl]
  by_cases h0 : qp q k 0 = 0
  · rw [h0, if_neg (by decide)]
    by_cases hb : qs q i 3 = 0
    · rw [if_pos hb, if_pos (Or.inr hb)]
    · rw [if_neg hb, if_neg (fun z => z.elim (fun z => z rfl) hb)]
  · have h1 : (0 : Int32) < qp q k 0 := by
      rw [Int32.lt_iff_toInt_lt, z0]
      have : (qp q k 0).toInt ≠ 0 := fun z => h0 (toI_eq (by rw [z, z0]))
      omega
    rw [if_pos h1, if_pos (Or.inl h0)]
theorem fr_r (S : SV) {m : Nat} (h1 : S.1 1 = nI m) (hm : m ≤ 12) (i : Nat) : ((fX6_isFree S (nI i) = 1 ∧ ∀ k, k < m → seats S k ≠ nI i) ∨ (fX6_isFree S (nI i) = 0 ∧ ∃ k, k < m ∧ seats S k = nI i)) ∧ gX6_isFree S (nI i) := by
  have hg : S.1 (1 : Int32).toNatClampNeg = nI m := by rw [c1]; exact h1
  have hf := fuel0 hg (by omega)
  have v1 : vp_in 1 114 := gHd (j := 1) rfl (by omega)
  have key := fd_loop (f := lX6_isFree_2 S (nI i)) (P := glX6_isFree_2 S (nI i)) nI (.inl (nI m)) (fun _ => .inr 0) (fun k => decide (seats S k = nI i)) m (fun k hk => by
    have hc := up_le hg (by omega) hk
    have ek : S.2.2.2.2.2.2.1 (nI k).toNatClampNeg = seats S k := by rw [nI_clamp (by omega)]
    refine ⟨?_, fun hp => ?_, fun hp => ?_⟩
    · rw [glX6_isFree_2, if_neg hc]; exact ⟨v1, vp_in_nI (by omega) (by omega), trivial⟩
    · have hne : ¬ seats S k = nI i := of_decide_eq_false hp
      rw [lX6_isFree_2, if_neg hc, ek, if_neg hne, nI_1]
    · have he : seats S k = nI i := of_decide_eq_true hp
      rw [lX6_isFree_2, if_neg hc, ek, if_pos he]) ⟨by rw [glX6_isFree_2, if_pos (at_le hg)]; exact ⟨v1, trivial⟩, by
    rw [lX6_isFree_2, if_pos (at_le hg)]⟩ m 0 _ (by omega) hf
  refine ⟨?_, ⟨_, key⟩, trivial⟩
  have key' : itv (.inl 0) (lX6_isFree_2 S (nI i)) ((fun v : Int32 => ((S.1 (1 : Int32).toNatClampNeg).toInt - v.toInt).toNat) 0 + 1) 0 = _ := lrun_itv key
  rw [fX6_isFree, key']
  cases hfd : fd (fun k => decide (seats S k = nI i)) 0 m with
  | none => exact Or.inl ⟨rfl, fun k hk => of_decide_eq_false (fd_none hfd k (Nat.zero_le _) (by omega))⟩
  | some k =>
    obtain ⟨-, h2, h3, -⟩ := fd_some hfd
    exact Or.inr ⟨rfl, k, by omega, of_decide_eq_true h3⟩
/-- the highest free stool: one step -/
def hst (q : Nat → Int32) (k : Nat) (best : Int32) (v : Nat) : Int32 := if qs q v 5 = -1 ∧ (¬ qp q k 0 = 0 ∨ qs q v 3 = 0) then (if best = -1 then nI v else if qs q v 0 ≤ qs q best.toNatClampNeg 0 then best else nI v) else best
def hsI (q : Nat → Int32) (a k : Nat) (best : Int32) (v : Nat) : Prop := best = -1 ∨ ∃ i, a ≤ i ∧ i < v ∧ best = nI i ∧ qs q i 5 = -1 ∧ (¬ qp q k 0 = 0 ∨ qs q i 3 = 0)
theorem hst_inv {q : Nat → Int32} {a k v : Nat} {best : Int32} (ha : a ≤ v) (h : hsI q a k best v) : hsI q a k (hst q k best v) (v + 1) := by
  have up : hsI q a k best (v + 1) := h.imp id (fun ⟨i, z1, z2, z3⟩ => ⟨i, z1, by omega, z3⟩)
  unfold hst
  split
  · rename_i c
    have new : hsI q a k (nI v) (v + 1) := Or.inr ⟨v, ha, by omega, rfl, c.1, c.2⟩
    split
    · exact new
    · split
      · exact up
      · exact new
  · exact up
theorem hf_c {n a e k : Nat} {q : Nat → Int32} (hn : q 0 = nI n) (h12 : n ≤ 12) (ha : a ≤ e) (he : e ≤ n) (hk : k < 12) (hr : 0 ≤ (qp q k 0).toInt) (hh : ∀ i, i < n → 1 ≤ (qs q i 0).toInt) : fX3_highestFree (tvOf q) (nI k) (nI a) (nI e - 1) = fo (hst q k) a (e - a) (-1) ∧ hsI q a k (fo (hst q k) a (e - a) (-1)) e := by
  have hg : (tvOf q).2.2.1 = nI n := hn
  have hf0 := fuelk (x := (tvOf q).2.2.1) (y := nI a) (n := n) (k := a) hg rfl (by omega) (by omega)
  have key := fo_itv (f := lX3_highestFree_6 (tvOf q) (nI k) (nI a) (nI e - 1)) ((-1, nI a) : Int32 × Int32) (fun (b : Int32) j => (b, nI j)) (fun b => (b, nI e)) (hst q k) (fun b v => a ≤ v ∧ hsI q a k b v) e (fun b j hj hI => ⟨by
    have hc1 : ¬ (nI e - 1) < nI j := by rw [lt_e (by omega) (by omega)]; omega
    have hc2 := up_le hg (by omega) (show j < n by omega)
    rw [lX3_highestFree_6, if_neg hc1, if_neg hc2, rS q (w := 5) (y := 5) (show j < 12 by omega) (by decide) rfl, may_q hk (show j < 12 by omega) hr, rS q (w := 0) (y := 0) (show j < 12 by omega) (by decide) rfl]
    unfold hst
    by_cases c1 : qs q j 5 = -1
    · rw [if_pos c1]
      by_cases c2 : ¬ qp q k 0 = 0 ∨ qs q j 3 = 0
      · have c12 : qs q j 5 = -1 ∧ (¬ qp q k 0 = 0 ∨ qs q j 3 = 0) := ⟨c1, c2⟩
        rw [if_pos c2, if_neg one_ne, if_pos c12]
        rcases hI.2 with hb | ⟨i, b1, b2, hb, -, -⟩
        · have : ¬ qs q j 0 ≤ fX3_ofStool (tvOf q) b 0 := by
            rw [hb, rS_none, Int32.le_iff_toInt_le, show (-1 : Int32).toInt = -1 by decide]
            have := hh j (by omega)
            omega
          rw [if_neg this, if_pos hb, nI_1]
        · rw [hb, rS q (w := 0) (y := 0) (show i < 12 by omega) (by decide) rfl, if_neg (nI_m1 (by omega)), nI_clamp (by omega), nI_1]
          by_cases c3 : qs q j 0 ≤ qs q i 0
          · rw [if_pos c3, if_pos c3]
          · rw [if_neg c3, if_neg c3]
      · rw [if_neg c2, if_pos rfl, if_neg (fun z => c2 z.2), nI_1]
    · rw [if_neg c1, if_neg (fun z => c1 z.1), nI_1], by omega, hst_inv hI.1 hI.2⟩) (fun b _ => by
    have hc1 : (nI e - 1) < nI e := by rw [lt_e (by omega) (by omega)]; omega
    rw [lX3_highestFree_6, if_pos hc1]) (e - a) a (-1) _ (by omega) (show e - a < ((tvOf q).2.2.1.toInt - (nI a).toInt).toNat + 1 by omega) ⟨Nat.le_refl _, Or.inl rfl⟩
  exact ⟨congrArg Prod.fst key.1, key.2.2⟩
theorem sf_r {n m a e k : Nat} {q : Nat → Int32} (S : SV) (hm1 : S.1 1 = nI m) (h12 : n ≤ 12) (hm : m ≤ 12) (ha : a ≤ e) (he : e ≤ n) (hk : k < m) (eS : ∀ i w, i < 12 → w < 5 → qs S.1 i w = qs q i w) (eP : ∀ w, w < 2 → qp S.1 k w = qp q k w) (ef : ∀ i, i < n → (qs q i 5 = -1 ↔ ∀ k, k < m → seats S k ≠ nI i)) : fX6_stoolFor S (nI k) (nI a) (nI e - 1) = fo (hst q k) a (e - a) (-1) ∧ gX6_stoolFor S (nI k) (nI a) (nI e - 1) := by
  have hf0 : e - a < ((nI e - 1).toInt + 1 - (nI a).toInt).toNat + 1 := by rw [m1I (by omega), nI_toInt (by omega)]; omega
  have key := fo_loop (f := lX6_stoolFor_6 S (nI k) (nI e - 1)) (P := glX6_stoolFor_6 S (nI k) (nI e - 1)) (fun (b : Int32) j => (b, nI j)) (fun b => (b, nI e)) (hst q k) (fun b v => a ≤ v ∧ hsI q a k b v) e (fun b j hj hI => by
    have hc1 : ¬ (nI e - 1) < nI j := by rw [lt_e (by omega) (by omega)]; omega
    obtain ⟨fr, gf⟩ := fr_r S hm1 hm j
    obtain ⟨my, gm⟩ := may_r S (n := n) (m := m) h12 hm hk (show j < n by omega)
    rw [eP 0 (by omega), eS j 3 (by omega) (by omega)] at my
    rw [glX6_stoolFor_6, lX6_stoolFor_6, if_neg hc1, if_neg hc1, my, rO S (w := 0) (y := 0) (show j < 12 by omega) (by decide) rfl, eS j 0 (by omega) (by omega)]
    have inv : a ≤ j + 1 ∧ hsI q a k (hst q k b j) (j + 1) := ⟨by omega, hst_inv hI.1 hI.2⟩
    rcases fr with ⟨fr, fr2⟩ | ⟨fr, fr2⟩
    · have c1 : qs q j 5 = -1 := (ef j (by omega)).mpr fr2
      rw [fr, if_neg one_ne, if_neg one_ne]
      by_cases c2 : ¬ qp q k 0 = 0 ∨ qs q j 3 = 0
      · have c12 : qs q j 5 = -1 ∧ (¬ qp q k 0 = 0 ∨ qs q j 3 = 0) := ⟨c1, c2⟩
        rw [if_pos c2, if_neg one_ne, if_neg one_ne]
        rcases hI.2 with hb | ⟨i, b1, b2, hb, -, -⟩
        · have hb0 : b < 0 := by rw [hb]; decide
          rw [if_pos hb0, if_pos hb0]
          refine ⟨⟨gf, gm, trivial⟩, ?_, inv⟩
          rw [hst, if_pos c12, if_pos hb, nI_1]
        · have hb0 : ¬ b < 0 := by rw [hb]; exact nI_pos (by omega)
          rw [if_neg hb0, if_neg hb0]
          have ob : fX6_of S b 0 = qs q i 0 := by rw [hb, rO S (w := 0) (y := 0) (show i < 12 by omega) (by decide) rfl, eS i 0 (by omega) (by omega)]
          have gob : gX6_of S b 0 := by rw [hb]; exact gO S (by omega) (by decide) rfl
          refine ⟨⟨gf, gm, gO S (by omega) (by decide) rfl, gob, trivial⟩, ?_, inv⟩
          have bm : ¬ b = -1 := by rw [hb]; exact nI_m1 (by omega)
          rw [hst, if_pos c12, if_neg bm, ob, nI_1]
          have eb : b.toNatClampNeg = i := by rw [hb]; exact nI_clamp (by omega)
          rw [eb]
          by_cases c3 : qs q j 0 ≤ qs q i 0
          · rw [if_pos c3, if_pos c3]
          · rw [if_neg c3, if_neg c3]
      · rw [if_neg c2, if_pos rfl, if_pos rfl]
        refine ⟨⟨gf, gm, trivial⟩, ?_, inv⟩
        rw [hst, if_neg (fun z => c2 z.2), nI_1]
    · have c1 : ¬ qs q j 5 = -1 := fun z => by
        obtain ⟨x, hx, z2⟩ := fr2
        exact (ef j (by omega)).mp z x hx z2
      rw [fr, if_pos rfl, if_pos rfl]
      refine ⟨⟨gf, trivial⟩, ?_, inv⟩
      rw [hst, if_neg (fun z => c1 z.1), nI_1]) (fun b _ => by
    have hc1 : (nI e - 1) < nI e := by rw [lt_e (by omega) (by omega)]; omega
    exact ⟨by rw [glX6_stoolFor_6, if_pos hc1]; trivial, by rw [lX6_stoolFor_6, if_pos hc1]⟩) (e - a) a (-1) _ (by omega) hf0 ⟨Nat.le_refl _, Or.inl rfl⟩
  exact ⟨congrArg Prod.fst (lrun_itv (d := ((-1, nI a) : Int32 × Int32)) key.1), ⟨_, key.1⟩, trivial⟩
/-- half-way through a brawl: the row q of the class, the seats s of the reference -/
def BR (g : Nat → Int32) (a e n m p : Nat) (q s : Nat → Int32) : Prop :=
  (∀ j, (∀ k, k < m → j ≠ 78 + (3 * k + 2)) → (∀ i, i < n → j ≠ 6 + (6 * i + 5)) → q j = g j) ∧
  (∀ k, k < m → (inR a e (qp g k 2) = true ∧ p ≤ cn g m k → s k = -1 ∧ qp q k 2 = qp g k 2) ∧
     (inR a e (qp g k 2) = false → s k = qp g k 2 ∧ qp q k 2 = qp g k 2) ∧
     (inR a e (qp g k 2) = true ∧ cn g m k < p → qp q k 2 = s k ∧ (s k = -1 ∨ ∃ i, i < n ∧ s k = nI i ∧ (¬ qp g k 0 = 0 ∨ qs g i 3 = 0)))) ∧
  (∀ i, i < n → (∀ k, k < m → s k = nI i → qs q i 5 = nI k) ∧ ((∀ k, k < m → s k ≠ nI i) → qs q i 5 = -1))
theorem BR.qS {g q s : Nat → Int32} {a e n m p : Nat} (h : BR g a e n m p q s) {i w : Nat} (hi : i < 12) (hw : w < 5) : qs q i w = qs g i w := h.1 _ (fun _ _ => by omega) (fun _ _ => by omega)
theorem BR.qP {g q s : Nat → Int32} {a e n m p : Nat} (h : BR g a e n m p q s) (hn : n ≤ 12) {k w : Nat} (hw : w < 2) : qp q k w = qp g k w := h.1 _ (fun _ _ => by omega) (fun _ _ => by omega)
theorem BR.hd {g q s : Nat → Int32} {a e n m p : Nat} (h : BR g a e n m p q s) {c : Nat} (hc : c < 6) : q c = g c := h.1 _ (fun _ _ => by omega) (fun _ _ => by omega)
theorem BR.free {g q s : Nat → Int32} {a e n m p : Nat} (hm : m ≤ 12) (h : BR g a e n m p q s) {i : Nat} (hi : i < n) : qs q i 5 = -1 ↔ ∀ k, k < m → s k ≠ nI i :=
  ⟨fun z k hk w => nI_m1 (a := k) (by omega) (((h.2.2 i hi).1 k hk w).symm.trans z), (h.2.2 i hi).2⟩
def tkRow (q : Nat → Int32) (k : Nat) (f : Int32) : Nat → Int32 := if f = -1 then upd q (78 + (3 * k + 2)) (-1) else upd (upd q (78 + (3 * k + 2)) f) (6 + (6 * f.toNatClampNeg + 5)) (nI k)
theorem BR.skip {g q s : Nat → Int32} {a e n m p : Nat} (h : BR g a e n m p q s) (hp : ∀ k, k < m → cn g m k = p → inR a e (qp g k 2) = false) : BR g a e n m (p + 1) q s := by
  refine ⟨h.1, fun k hk => ?_, h.2.2⟩
  obtain ⟨h1, h2, h3⟩ := h.2.1 k hk
  refine ⟨fun z => h1 ⟨z.1, by omega⟩, h2, fun z => ?_⟩
  by_cases hc : cn g m k = p
  · have := hp k hk hc
    rw [this] at z
    exact absurd z.1 Bool.false_ne_true
  · exact h3 ⟨z.1, by omega⟩
theorem BR.sit {g q s : Nat → Int32} {a e n m p : Nat} (hn : n ≤ 12) (hm : m ≤ 12) (he : e ≤ n) (h : BR g a e n m p q s) {k : Nat} (hk : k < m) (hp : cn g m k = p) (hr : inR a e (qp g k 2) = true) {f : Int32} (hf : hsI q a k f e) : BR g a e n m (p + 1) (tkRow q k f) (upd s k f) := by
  have sk : s k = -1 := ((h.2.1 k hk).1 ⟨hr, by omega⟩).1
  have others : ∀ x, x < m → x ≠ k → cn g m x ≠ p := fun x hx hxk z => hxk (cn_inj g hx hk (z.trans hp.symm))
  have us : ∀ x, upd s k f x = if x = k then f else s x := fun x => rfl
  rcases hf with hf | ⟨i, f1, f2, hf, f3, f4⟩
  · have et : tkRow q k f = upd q (78 + (3 * k + 2)) (-1) := by rw [tkRow, if_pos hf]
    rw [et]
    refine ⟨fun j z1 z2 => by rw [upd_ne _ _ (z1 k hk)]; exact h.1 j z1 z2, fun x hx => ?_, fun i hi => ⟨fun x hx z => ?_, fun z => ?_⟩⟩
    · rw [us]
      by_cases hxk : x = k
      · subst hxk
        rw [if_pos rfl]
        refine ⟨fun z => by omega, fun z => by rw [hr] at z; exact absurd z.symm Bool.false_ne_true, fun _ => ⟨?_, Or.inl hf⟩⟩
        rw [hf]; exact upd_same _ _ _
      · rw [if_neg hxk]
        have e2 : qp (upd q (78 + (3 * k + 2)) (-1)) x 2 = qp q x 2 := by rw [qp_upP _ _ (by omega) (by omega), if_neg (by omega)]
        rw [e2]
        obtain ⟨h1, h2, h3⟩ := h.2.1 x hx
        have := others x hx hxk
        exact ⟨fun z => h1 ⟨z.1, by omega⟩, h2, fun z => h3 ⟨z.1, by omega⟩⟩
    · rw [us] at z
      rw [qs_upP _ _ (by omega) (by omega)]
      by_cases hxk : x = k
      · rw [if_pos hxk, hf] at z; exact absurd z.symm (nI_m1 (by omega))
      · rw [if_neg hxk] at z; exact (h.2.2 i hi).1 x hx z
    · rw [qs_upP _ _ (by omega) (by omega)]
      refine (h.2.2 i hi).2 (fun x hx w => ?_)
      by_cases hxk : x = k
      · rw [hxk, sk] at w; exact nI_m1 (by omega) w.symm
      · exact z x hx (by rw [us, if_neg hxk]; exact w)
  · have fm : ¬ f = -1 := by rw [hf]; exact nI_m1 (by omega)
    have et : tkRow q k f = upd (upd q (78 + (3 * k + 2)) (nI i)) (6 + (6 * i + 5)) (nI k) := by rw [tkRow, if_neg fm, hf, nI_clamp (by omega)]
    have hfree := (h.free hm (show i < n by omega)).mp f3
    rw [et]
    refine ⟨fun j z1 z2 => by rw [upd_ne _ _ (z2 i (by omega)), upd_ne _ _ (z1 k hk)]; exact h.1 j z1 z2, fun x hx => ?_, fun i' hi' => ⟨fun x hx z => ?_, fun z => ?_⟩⟩
    · rw [us, qp_upS _ _ (by omega) (by omega), qp_upP _ _ (by omega) (by omega)]
      by_cases hxk : x = k
      · subst hxk
        rw [if_pos rfl, if_pos ⟨rfl, rfl⟩]
        refine ⟨fun z => by omega, fun z => by rw [hr] at z; exact absurd z.symm Bool.false_ne_true, fun _ => ⟨hf.symm, Or.inr ⟨i, by omega, hf, ?_⟩⟩⟩
        rw [h.qP hn (by omega), h.qS (by omega) (by omega)] at f4
        exact f4
      · rw [if_neg hxk, if_neg (fun z => hxk z.1)]
        obtain ⟨h1, h2, h3⟩ := h.2.1 x hx
        have := others x hx hxk
        exact ⟨fun z => h1 ⟨z.1, by omega⟩, h2, fun z => h3 ⟨z.1, by omega⟩⟩
    · rw [us] at z
      rw [qs_upS _ _ (by omega) (by omega), qs_upP _ _ (by omega) (by omega)]
      by_cases hxk : x = k
      · rw [if_pos hxk, hf] at z
        rw [if_pos ⟨(nI_inj (by omega) (by omega) z).symm, rfl⟩, hxk]
      · rw [if_neg hxk] at z
        have : i' ≠ i := fun w => hfree x hx (by rw [← w]; exact z)
        rw [if_neg (fun w => this w.1)]
        exact (h.2.2 i' hi').1 x hx z
    · rw [qs_upS _ _ (by omega) (by omega), qs_upP _ _ (by omega) (by omega)]
      have : i' ≠ i := fun w => z k hk (by rw [us, if_pos rfl, hf, w])
      rw [if_neg (fun w => this w.1)]
      refine (h.2.2 i' hi').2 (fun x hx w => ?_)
      by_cases hxk : x = k
      · rw [hxk, sk] at w; exact nI_m1 (by omega) w.symm
      · exact z x hx (by rw [us, if_neg hxk]; exact w)
/-- the stools from a to e freed -/
theorem BR.start {K n m a e : Nat} {g q s : Nat → Int32} (h : WT K n m g) (he : e ≤ n) (q1 : ∀ i, a ≤ i → i < e → q (6 + (6 * i + 5)) = -1) (q2 : ∀ j, (∀ i, a ≤ i → i < e → j ≠ 6 + (6 * i + 5)) → q j = g j) (hs : ∀ k, k < m → s k = if inR a e (qp g k 2) = true then -1 else qp g k 2) (ha : a ≤ e) : BR g a e n m 0 q s := by
  have hn := h.1.2.2.1
  have hm := h.1.2.2.2.1
  have eP : ∀ k w, qp q k w = qp g k w := fun k w => q2 _ (fun i _ _ => by omega)
  refine ⟨fun j _ z2 => q2 j (fun i _ hi => z2 i (by omega)), fun k hk => ⟨fun z => ⟨by rw [hs k hk, if_pos z.1], eP k 2⟩, fun z => ⟨by rw [hs k hk, if_neg (by rw [z]; exact Bool.false_ne_true)], eP k 2⟩, fun z => by omega⟩, fun i hi => ⟨fun k hk z => ?_, fun z => ?_⟩⟩
  · rw [hs k hk] at z
    by_cases c : inR a e (qp g k 2) = true
    · rw [if_pos c] at z; exact absurd z.symm (nI_m1 (by omega))
    · rw [if_neg c] at z
      rw [z, inR_nI (by omega) (by omega) (by omega)] at c
      show q (6 + (6 * i + 5)) = _
      rw [q2 _ (fun i' a1 a2 z => c ⟨by omega, by omega⟩)]
      exact h.whoOf hk hi z
  · by_cases c : a ≤ i ∧ i < e
    · exact q1 i c.1 c.2
    · show q (6 + (6 * i + 5)) = _
      rw [q2 _ (fun i' a1 a2 z => c ⟨by omega, by omega⟩)]
      rcases h.who hi with w | ⟨k, hk, w, w2⟩
      · exact w
      · exfalso
        refine z k hk ?_
        rw [hs k hk, if_neg (fun y => c (by rw [w2, inR_nI (by omega) (by omega) (by omega)] at y; exact y)), w2]
theorem BR.done {K n m a e : Nat} {g q s : Nat → Int32} (h : WT K n m g) (b : BR g a e n m m q s) : TK n m g s q ∧ SE n m s ∧ (∀ k o i, k < m → o < m → i < n → s k = nI i → s o = nI i → k = o) ∧ WT K n m q := by
  have hn := h.1.2.2.1
  have hm := h.1.2.2.2.1
  have seat : ∀ k, k < m → qp q k 2 = s k ∧ (s k = -1 ∨ ∃ i, i < n ∧ s k = nI i ∧ (qp g k 0 = 0 → qs g i 3 = 0)) := fun k hk => by
    obtain ⟨-, b2, b3⟩ := b.2.1 k hk
    cases hr : inR a e (qp g k 2) with
    | true =>
      obtain ⟨b4, b5⟩ := b3 ⟨hr, cn_lt g hk⟩
      exact ⟨b4, b5.imp id (fun ⟨i, z1, z2, z3⟩ => ⟨i, z1, z2, fun z => z3.resolve_left (fun y => y z)⟩)⟩
    | false =>
      obtain ⟨b4, b5⟩ := b2 hr
      refine ⟨b5.trans b4.symm, ?_⟩
      rw [b4]
      exact (h.sit hk).imp id (fun ⟨i, z1, z2, _, z4⟩ => ⟨i, z1, z2, z4⟩)
  have t : TK n m g s q := ⟨fun k hk => (seat k hk).1, fun k hk i hi z => (b.2.2 i hi).1 k hk z, fun i hi z => (b.2.2 i hi).2 z, fun j z1 z2 => b.1 j z1 z2⟩
  have se : SE n m s := fun k hk => (seat k hk).2.imp id (fun ⟨i, z1, z2, _⟩ => ⟨i, z1, z2⟩)
  refine ⟨t, se, fun k o i hk ho hi z1 z2 => nI_inj (by omega) (by omega) (((b.2.2 i hi).1 k hk z1).symm.trans ((b.2.2 i hi).1 o ho z2)), t.wt h se (fun k i hk hi z => ?_)⟩
  rcases (seat k hk).2 with w | ⟨i', hi', w, w2⟩
  · rw [w] at z; exact absurd z.symm (nI_m1 (by omega))
  · rw [w] at z
    rw [← nI_inj (by omega) (by omega) z]; exact w2
