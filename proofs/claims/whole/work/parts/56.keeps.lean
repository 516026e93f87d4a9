/-! Copies, and what is kept for undo -/
theorem cp_r (F G : Nat → Int32) {na nb a b : Nat} {x y : Int32} (hx : x = nI a) (hy : y = nI b) (ha : a + 114 ≤ na) (hb : b + 114 ≤ nb) (hna : na ≤ 10000) (hnb : nb ≤ 10000) :
    fX6_copies F na G nb x y = (fun j => if b ≤ j ∧ j < b + 114 then F (a + (j - b)) else G j) ∧ gX6_copies F na G nb x y := by
  subst hx; subst hy
  have hf : 114 < (((114 : Int32).toInt - (0 : Int32).toInt).toNat) + 1 := by decide
  obtain ⟨key, gk⟩ := fo_loop (f := lX6_copies_3 F na nb (nI a) (nI b)) (P := glX6_copies_3 F na nb (nI a) (nI b)) (fun (q : Nat → Int32) j => (q, nI j)) (fun q => (q, nI 114)) (fun q j => upd q (b + j) (F (a + j))) (fun q j => ∀ z, q z = if b ≤ z ∧ z < b + j then F (a + (z - b)) else G z) 114 (fun q j hj hI => by
    have hc : ¬ (114 : Int32) ≤ nI j := up_le (x := 114) (n := 114) rfl (by omega) hj
    refine ⟨?_, ?_, ?_⟩
    · rw [glX6_copies_3, if_neg hc]
      simp only [nI_add]
      exact ⟨vp_in_nI (by omega) (by omega), vp_in_nI (by omega) (by omega), trivial⟩
    · rw [lX6_copies_3, if_neg hc]
      simp only [nI_add, nI_1]
      rw [nI_clamp (by omega), nI_clamp (by omega)]
    · intro z
      show (if z = b + j then F (a + j) else q z) = _
      by_cases h : z = b + j
      · rw [if_pos h, if_pos (by omega), h]
        congr 1
        omega
      · rw [if_neg h, hI z]
        by_cases h2 : b ≤ z ∧ z < b + j
        · rw [if_pos h2, if_pos (by omega)]
        · rw [if_neg h2, if_neg (by omega)]) (fun q _ => by
    have hc : (114 : Int32) ≤ nI 114 := at_le rfl
    exact ⟨by rw [glX6_copies_3, if_pos hc]; trivial, by rw [lX6_copies_3, if_pos hc]⟩) 114 0 G _ (by omega) hf (fun z => by rw [if_neg (by omega)])
  refine ⟨?_, ⟨_, key⟩, trivial⟩
  rw [fX6_copies]
  refine (congrArg Prod.fst (lrun_itv (d := ((G, 0) : (Nat → Int32) × Int32)) key)).trans ?_
  funext z
  exact gk z
/-- the ring of the class against the rows of the reference -/
def HR (K : Nat) (Hs : HV) (G : Nat → TV) (kept : Nat → Int32) (changes : Int32) : Prop :=
  ∃ j c : Nat, j < 9 ∧ c ≤ 8 ∧ Hs = (nI j, nI c) ∧ changes = nI c ∧ ∀ k, k < c → ∃ n m q, WT K n m q ∧ G ((j + 9 - c + k) % 9) = tvOf q ∧ ∀ t, t < 114 → q t = kept (114 * k + t)
theorem HR.mono {K K' : Nat} {Hs : HV} {G : Nat → TV} {kept : Nat → Int32} {changes : Int32} (h : HR K Hs G kept changes) (hK : K ≤ K') : HR K' Hs G kept changes := by
  obtain ⟨j, c, h1, h2, h3, h4, h5⟩ := h
  exact ⟨j, c, h1, h2, h3, h4, fun k hk => by
    obtain ⟨n, m, q, a, b⟩ := h5 k hk
    exact ⟨n, m, q, a.mono hK, b⟩⟩
theorem HR.prep {K : Nat} {Hs : HV} {G : Nat → TV} {kept : Nat → Int32} {changes : Int32} (h : HR K Hs G kept changes) (T : TV) : HR K Hs (fX1_prepare Hs G T) kept changes := by
  obtain ⟨j, c, h1, h2, h3, h4, h5⟩ := h
  refine ⟨j, c, h1, h2, h3, h4, fun k hk => ?_⟩
  obtain ⟨n, m, q, a, b, d⟩ := h5 k hk
  refine ⟨n, m, q, a, ?_, d⟩
  have e : Hs.1.toNatClampNeg = j := by rw [h3]; exact nI_clamp (by omega)
  rw [fX1_prepare, e, if_neg (by omega)]
  exact b
/-- what keeps does: nothing in a text, else the row goes behind the rows kept -/
def KP (row : Nat → Int32) (S : SV) (kept' : Nat → Int32) (ch' : Int32) : Prop :=
  (¬ S.2.2.2.2.2.2.2.2.2.2.1 = 0 ∧ kept' = S.2.1 ∧ ch' = S.2.2.2.2.2.2.2.2.2.1) ∨
  (S.2.2.2.2.2.2.2.2.2.2.1 = 0 ∧ ∀ c : Nat, c ≤ 8 → S.2.2.2.2.2.2.2.2.2.1 = nI c → ch' = nI (min 8 (c + 1)) ∧ (∀ t, t < 114 → kept' (114 * (min 8 (c + 1) - 1) + t) = row t) ∧ (∀ k t, k < min 8 (c + 1) - 1 → t < 114 → kept' (114 * k + t) = S.2.1 (114 * (k + (if c = 8 then 1 else 0)) + t)))
theorem ring1 : ∀ j, j < 9 → ((nI j + 1) - (nI j + 1) / 9 * 9 : Int32) = nI ((j + 1) % 9) := by decide +kernel
theorem ring8 : ∀ j, j < 9 → ((nI j + 8) - (nI j + 8) / 9 * 9 : Int32) = nI ((j + 8) % 9) := by decide +kernel
theorem ringK : ∀ c, c ≤ 8 → (if nI c + 1 < 8 then nI c + 1 else (8 : Int32)) = nI (min 8 (c + 1)) := by decide +kernel
theorem HR.keep {K n m : Nat} {Hs : HV} {G : Nat → TV} {S : SV} {row kept' : Nat → Int32} {ch' : Int32} (h : HR K Hs G S.2.1 S.2.2.2.2.2.2.2.2.2.1) (hw : S.2.2.2.2.2.2.2.2.2.2.1 = 0) (hT : WT K n m row) (hk : KP row S kept' ch') : HR K (fX1_keep Hs) (fX1_prepare Hs G (tvOf row)) kept' ch' := by
  obtain ⟨j, c, h1, h2, h3, h4, h5⟩ := h
  rcases hk with ⟨a, -⟩ | ⟨-, hk⟩
  · exact absurd hw a
  · obtain ⟨k1, k2, k3⟩ := hk c h2 h4
    have e : Hs.1.toNatClampNeg = j := by rw [h3]; exact nI_clamp (by omega)
    refine ⟨(j + 1) % 9, min 8 (c + 1), by omega, by omega, ?_, k1, fun k hk => ?_⟩
    · rw [h3, fX1_keep]
      show ((nI j + 1) - (nI j + 1) / 9 * 9, if nI c + 1 < 8 then nI c + 1 else 8) = _
      rw [ring1 j h1, ringK c h2]
    · rw [fX1_prepare, e]
      by_cases hl : k = min 8 (c + 1) - 1
      · rw [if_pos (by omega)]
        exact ⟨n, m, row, hT, rfl, fun t ht => by rw [hl]; exact (k2 t ht).symm⟩
      · rw [if_neg (by omega)]
        obtain ⟨n', m', q, a, b, d⟩ := h5 (k + (if c = 8 then 1 else 0)) (by split <;> omega)
        refine ⟨n', m', q, a, ?_, fun t ht => ?_⟩
        · rw [← b]
          congr 1
          split <;> omega
        · rw [d t ht, k3 k t (by omega) ht]
theorem n114 {c : Nat} (hc : c ≤ 8) : (114 : Int32) * nI c = nI (114 * c) := by
  rw [show (114 : Int32) = nI 114 from rfl, nI_mul (by omega) (by omega) (by omega)]
theorem kg_r (S : SV) {c : Nat} (hc : c ≤ 8) (hch : S.2.2.2.2.2.2.2.2.2.1 = nI c) : ∃ kept' ch', fX6_keeps_g S = sS1 kept' (sS9 ch' (sS12 0 S)) ∧ gX6_keeps_g S ∧ KP S.1 S kept' ch' := by
  by_cases hw : S.2.2.2.2.2.2.2.2.2.2.1 = 0
  · by_cases h8 : c = 8
    · have h8' : S.2.2.2.2.2.2.2.2.2.1 = 8 := by rw [hch, h8]; rfl
      have hf : 798 < (((798 : Int32).toInt - (0 : Int32).toInt).toNat) + 1 := by decide
      obtain ⟨key, gk⟩ := fo_loop (f := lX6_keeps_g_24) (P := glX6_keeps_g_24) (fun (q : Nat → Int32) j => (sS1 q (sS12 0 S), nI j)) (fun q => (sS1 q (sS12 0 S), nI 798)) (fun q j => upd q j (q (j + 114))) (fun q j => ∀ z, q z = if z < j then S.2.1 (z + 114) else S.2.1 z) 798 (fun q j hj hI => by
        have hc : ¬ (798 : Int32) ≤ nI j := up_le (x := 798) (n := 798) rfl (by omega) hj
        have e : nI j + 114 = nI (j + 114) := nI_add j 114
        refine ⟨?_, ?_, ?_⟩
        · rw [glX6_keeps_g_24, if_neg hc]
          simp only [e]
          exact ⟨vp_in_nI (by omega) (by omega), vp_in_nI (by omega) (by omega), trivial⟩
        · rw [lX6_keeps_g_24, if_neg hc]
          simp only [e, nI_1]
          rw [nI_clamp (by omega), nI_clamp (by omega)]
          rfl
        · intro z
          show (if z = j then q (j + 114) else q z) = _
          by_cases h : z = j
          · rw [if_pos h, if_pos (by omega), hI, if_neg (by omega), h]
          · rw [if_neg h, hI z]
            by_cases h2 : z < j
            · rw [if_pos h2, if_pos (by omega)]
            · rw [if_neg h2, if_neg (by omega)]) (fun q _ => by
        have hc : (798 : Int32) ≤ nI 798 := at_le rfl
        exact ⟨by rw [glX6_keeps_g_24, if_pos hc]; trivial, by rw [lX6_keeps_g_24, if_pos hc]⟩) 798 0 S.2.1 _ (by omega) hf (fun z => by rw [if_neg (by omega)])
      generalize fo (fun q j => upd q j (q (j + 114))) 0 798 S.2.1 = q1 at key gk
      have w1 : itv ((sS12 0 S), 0) lX6_keeps_g_24 ((fun v : (SV × Int32) => ((798 : Int32).toInt - v.2.toInt).toNat) ((sS12 0 S), 0) + 1) ((sS12 0 S), 0) = (sS1 q1 (sS12 0 S), nI 798) := lrun_itv key
      obtain ⟨e1, e2⟩ := cp_r (F := S.1) (G := q1) (na := 114) (nb := 912) (a := 0) (b := 798) (x := 0) (y := 114 * ((sS1 q1 (sS12 0 S)).2.2.2.2.2.2.2.2.2.1 - 1)) rfl (by
        show 114 * (S.2.2.2.2.2.2.2.2.2.1 - 1) = _
        rw [h8']; decide) (by omega) (by omega) (by omega) (by omega)
      refine ⟨fun j => if 798 ≤ j ∧ j < 798 + 114 then S.1 (0 + (j - 798)) else q1 j, 8, ?_, ?_, Or.inr ⟨hw, fun c' hc' hch' => ?_⟩⟩
      · rw [fX6_keeps_g, if_pos hw, if_pos h8', w1]
        have e1' : fX6_copies (sS1 q1 (sS12 0 S), nI 798).1.1 114 (sS1 q1 (sS12 0 S), nI 798).1.2.1 912 0 (114 * ((sS1 q1 (sS12 0 S), nI 798).1.2.2.2.2.2.2.2.2.2.1 - 1)) = _ := e1
        rw [e1']
        have e8 : (sS1 q1 (sS12 0 S), nI 798).1.2.2.2.2.2.2.2.2.2.1 - 1 + 1 = 8 := by
          show S.2.2.2.2.2.2.2.2.2.1 - 1 + 1 = 8
          rw [h8']; decide
        rw [e8]
        rfl
      · rw [gX6_keeps_g, if_pos hw, if_pos h8', w1]
        exact ⟨⟨_, key⟩, e2, trivial⟩
      · have : c' = 8 := nI_inj (by omega) (by omega) (by rw [← hch', h8']; rfl)
        subst this
        refine ⟨rfl, fun t ht => ?_, fun k t hk ht => ?_⟩
        · show (if 798 ≤ 114 * (min 8 9 - 1) + t ∧ 114 * (min 8 9 - 1) + t < 798 + 114 then S.1 (0 + (114 * (min 8 9 - 1) + t - 798)) else _) = _
          rw [if_pos (by omega)]
          exact congrArg S.1 (by omega)
        · show (if 798 ≤ 114 * k + t ∧ 114 * k + t < 798 + 114 then _ else q1 (114 * k + t)) = _
          rw [if_neg (by omega), gk, if_pos (by omega), if_pos rfl]
          exact congrArg S.2.1 (by omega)
    · have h8' : ¬ S.2.2.2.2.2.2.2.2.2.1 = 8 := by
        rw [hch]; intro h
        exact h8 (nI_inj (by omega) (by omega) h)
      obtain ⟨e1, e2⟩ := cp_r (F := S.1) (G := S.2.1) (na := 114) (nb := 912) (a := 0) (b := 114 * c) (x := 0) (y := 114 * S.2.2.2.2.2.2.2.2.2.1) rfl (by rw [hch]; exact n114 hc) (by omega) (by omega) (by omega) (by omega)
      refine ⟨fun j => if 114 * c ≤ j ∧ j < 114 * c + 114 then S.1 (0 + (j - 114 * c)) else S.2.1 j, nI (c + 1), ?_, ?_, Or.inr ⟨hw, fun c' hc' hch' => ?_⟩⟩
      · rw [fX6_keeps_g, if_pos hw, if_neg h8', e1, hch, nI_1]
        rfl
      · rw [gX6_keeps_g, if_pos hw, if_neg h8']
        exact ⟨e2, trivial⟩
      · have : c' = c := nI_inj (by omega) (by omega) (by rw [← hch', hch])
        subst this
        have hm8 : min 8 (c' + 1) = c' + 1 := by omega
        refine ⟨by rw [hm8], fun t ht => ?_, fun k t hk ht => ?_⟩
        · show (if 114 * c' ≤ 114 * (min 8 (c' + 1) - 1) + t ∧ 114 * (min 8 (c' + 1) - 1) + t < 114 * c' + 114 then S.1 (0 + (114 * (min 8 (c' + 1) - 1) + t - 114 * c')) else _) = _
          rw [hm8, if_pos (by omega)]
          exact congrArg S.1 (by omega)
        · show (if 114 * c' ≤ 114 * k + t ∧ 114 * k + t < 114 * c' + 114 then _ else S.2.1 (114 * k + t)) = _
          rw [if_neg (by omega), if_neg h8]
          exact congrArg S.2.1 (by omega)
  · refine ⟨S.2.1, S.2.2.2.2.2.2.2.2.2.1, ?_, ?_, Or.inl ⟨hw, rfl, rfl⟩⟩
    · rw [fX6_keeps_g, if_neg hw]; rfl
    · rw [gX6_keeps_g, if_neg hw]; trivial
theorem kb_r (S : SV) {c : Nat} (hc : c ≤ 8) (hch : S.2.2.2.2.2.2.2.2.2.1 = nI c) : ∃ kept' ch', fX6_keeps_b S = sS1 kept' (sS9 ch' (sS12 0 S)) ∧ gX6_keeps_b S ∧ KP S.2.2.2.1 S kept' ch' := by
  by_cases hw : S.2.2.2.2.2.2.2.2.2.2.1 = 0
  · by_cases h8 : c = 8
    · have h8' : S.2.2.2.2.2.2.2.2.2.1 = 8 := by rw [hch, h8]; rfl
      have hf : 798 < (((798 : Int32).toInt - (0 : Int32).toInt).toNat) + 1 := by decide
      obtain ⟨key, gk⟩ := fo_loop (f := lX6_keeps_b_24) (P := glX6_keeps_b_24) (fun (q : Nat → Int32) j => (sS1 q (sS12 0 S), nI j)) (fun q => (sS1 q (sS12 0 S), nI 798)) (fun q j => upd q j (q (j + 114))) (fun q j => ∀ z, q z = if z < j then S.2.1 (z + 114) else S.2.1 z) 798 (fun q j hj hI => by
        have hc : ¬ (798 : Int32) ≤ nI j := up_le (x := 798) (n := 798) rfl (by omega) hj
        have e : nI j + 114 = nI (j + 114) := nI_add j 114
        refine ⟨?_, ?_, ?_⟩
        · rw [glX6_keeps_b_24, if_neg hc]
          simp only [e]
          exact ⟨vp_in_nI (by omega) (by omega), vp_in_nI (by omega) (by omega), trivial⟩
        · rw [lX6_keeps_b_24, if_neg hc]
          simp only [e, nI_1]
          rw [nI_clamp (by omega), nI_clamp (by omega)]
          rfl
        · intro z
          show (if z = j then q (j + 114) else q z) = _
          by_cases h : z = j
          · rw [if_pos h, if_pos (by omega), hI, if_neg (by omega), h]
          · rw [if_neg h, hI z]
            by_cases h2 : z < j
            · rw [if_pos h2, if_pos (by omega)]
            · rw [if_neg h2, if_neg (by omega)]) (fun q _ => by
        have hc : (798 : Int32) ≤ nI 798 := at_le rfl
        exact ⟨by rw [glX6_keeps_b_24, if_pos hc]; trivial, by rw [lX6_keeps_b_24, if_pos hc]⟩) 798 0 S.2.1 _ (by omega) hf (fun z => by rw [if_neg (by omega)])
      generalize fo (fun q j => upd q j (q (j + 114))) 0 798 S.2.1 = q1 at key gk
      have w1 : itv ((sS12 0 S), 0) lX6_keeps_b_24 ((fun v : (SV × Int32) => ((798 : Int32).toInt - v.2.toInt).toNat) ((sS12 0 S), 0) + 1) ((sS12 0 S), 0) = (sS1 q1 (sS12 0 S), nI 798) := lrun_itv key
      obtain ⟨e1, e2⟩ := cp_r (F := S.2.2.2.1) (G := q1) (na := 114) (nb := 912) (a := 0) (b := 798) (x := 0) (y := 114 * ((sS1 q1 (sS12 0 S)).2.2.2.2.2.2.2.2.2.1 - 1)) rfl (by
        show 114 * (S.2.2.2.2.2.2.2.2.2.1 - 1) = _
        rw [h8']; decide) (by omega) (by omega) (by omega) (by omega)
      refine ⟨fun j => if 798 ≤ j ∧ j < 798 + 114 then S.2.2.2.1 (0 + (j - 798)) else q1 j, 8, ?_, ?_, Or.inr ⟨hw, fun c' hc' hch' => ?_⟩⟩
      · rw [fX6_keeps_b, if_pos hw, if_pos h8', w1]
        have e1' : fX6_copies (sS1 q1 (sS12 0 S), nI 798).1.2.2.2.1 114 (sS1 q1 (sS12 0 S), nI 798).1.2.1 912 0 (114 * ((sS1 q1 (sS12 0 S), nI 798).1.2.2.2.2.2.2.2.2.2.1 - 1)) = _ := e1
        rw [e1']
        have e8 : (sS1 q1 (sS12 0 S), nI 798).1.2.2.2.2.2.2.2.2.2.1 - 1 + 1 = 8 := by
          show S.2.2.2.2.2.2.2.2.2.1 - 1 + 1 = 8
          rw [h8']; decide
        rw [e8]
        rfl
      · rw [gX6_keeps_b, if_pos hw, if_pos h8', w1]
        exact ⟨⟨_, key⟩, e2, trivial⟩
      · have : c' = 8 := nI_inj (by omega) (by omega) (by rw [← hch', h8']; rfl)
        subst this
        refine ⟨rfl, fun t ht => ?_, fun k t hk ht => ?_⟩
        · show (if 798 ≤ 114 * (min 8 9 - 1) + t ∧ 114 * (min 8 9 - 1) + t < 798 + 114 then S.2.2.2.1 (0 + (114 * (min 8 9 - 1) + t - 798)) else _) = _
          rw [if_pos (by omega)]
          exact congrArg S.2.2.2.1 (by omega)
        · show (if 798 ≤ 114 * k + t ∧ 114 * k + t < 798 + 114 then _ else q1 (114 * k + t)) = _
          rw [if_neg (by omega), gk, if_pos (by omega), if_pos rfl]
          exact congrArg S.2.1 (by omega)
    · have h8' : ¬ S.2.2.2.2.2.2.2.2.2.1 = 8 := by
        rw [hch]; intro h
        exact h8 (nI_inj (by omega) (by omega) h)
      obtain ⟨e1, e2⟩ := cp_r (F := S.2.2.2.1) (G := S.2.1) (na := 114) (nb := 912) (a := 0) (b := 114 * c) (x := 0) (y := 114 * S.2.2.2.2.2.2.2.2.2.1) rfl (by rw [hch]; exact n114 hc) (by omega) (by omega) (by omega) (by omega)
      refine ⟨fun j => if 114 * c ≤ j ∧ j < 114 * c + 114 then S.2.2.2.1 (0 + (j - 114 * c)) else S.2.1 j, nI (c + 1), ?_, ?_, Or.inr ⟨hw, fun c' hc' hch' => ?_⟩⟩
      · rw [fX6_keeps_b, if_pos hw, if_neg h8', e1, hch, nI_1]
        rfl
      · rw [gX6_keeps_b, if_pos hw, if_neg h8']
        exact ⟨e2, trivial⟩
      · have : c' = c := nI_inj (by omega) (by omega) (by rw [← hch', hch])
        subst this
        have hm8 : min 8 (c' + 1) = c' + 1 := by omega
        refine ⟨by rw [hm8], fun t ht => ?_, fun k t hk ht => ?_⟩
        · show (if 114 * c' ≤ 114 * (min 8 (c' + 1) - 1) + t ∧ 114 * (min 8 (c' + 1) - 1) + t < 114 * c' + 114 then S.2.2.2.1 (0 + (114 * (min 8 (c' + 1) - 1) + t - 114 * c')) else _) = _
          rw [hm8, if_pos (by omega)]
          exact congrArg S.2.2.2.1 (by omega)
        · show (if 114 * c' ≤ 114 * k + t ∧ 114 * k + t < 114 * c' + 114 then _ else S.2.1 (114 * k + t)) = _
          rw [if_neg (by omega), if_neg h8]
          exact congrArg S.2.1 (by omega)
  · refine ⟨S.2.1, S.2.2.2.2.2.2.2.2.2.1, ?_, ?_, Or.inl ⟨hw, rfl, rfl⟩⟩
    · rw [fX6_keeps_b, if_neg hw]; rfl
    · rw [gX6_keeps_b, if_neg hw]; trivial
