def fM_6 (S : CV) (T : TV) (Tr : TV) (Sn : TV) (Hs : HV) (G : (Nat → TV)) (Xt : XV) (Ln : LV) (Mo : SV) (O : (Nat → Int64)) (Oq : (Nat → UInt64)) (xs : Nat → Int32) (L : Nat) (x5 : Int32) : (SV × (Nat → Int64)) := (if (fL_sitterOf S T O (xs ((x5 + 1)).toNatClampNeg) (xs ((x5 + 2)).toNatClampNeg)).1 = 0 then ((fX6_sitterOf Mo (xs ((x5 + 1)).toNatClampNeg) (xs ((x5 + 2)).toNatClampNeg)).2, (fL_sitterOf S T O (xs ((x5 + 1)).toNatClampNeg) (xs ((x5 + 2)).toNatClampNeg)).2) else ((fX6_sitterOf Mo (xs ((x5 + 1)).toNatClampNeg) (xs ((x5 + 2)).toNatClampNeg)).2, (fL_sitterOf S T O (xs ((x5 + 1)).toNatClampNeg) (xs ((x5 + 2)).toNatClampNeg)).2))
def gM_6 (S : CV) (T : TV) (Tr : TV) (Sn : TV) (Hs : HV) (G : (Nat → TV)) (Xt : XV) (Ln : LV) (Mo : SV) (O : (Nat → Int64)) (Oq : (Nat → UInt64)) (xs : Nat → Int32) (L : Nat) (x5 : Int32) : Prop := ((vp_in (x5 + 1) L) ∧ (vp_in (x5 + 2) L) ∧ (gL_sitterOf S T O (xs ((x5 + 1)).toNatClampNeg) (xs ((x5 + 2)).toNatClampNeg)) ∧ (vp_in (x5 + 1) L) ∧ (vp_in (x5 + 2) L) ∧ (gX6_sitterOf Mo (xs ((x5 + 1)).toNatClampNeg) (xs ((x5 + 2)).toNatClampNeg)) ∧ ((fX6_thrown (fX6_sitterOf Mo (xs ((x5 + 1)).toNatClampNeg) (xs ((x5 + 2)).toNatClampNeg)).2) = (fL_sitterOf S T O (xs ((x5 + 1)).toNatClampNeg) (xs ((x5 + 2)).toNatClampNeg)).1) ∧ (if (fL_sitterOf S T O (xs ((x5 + 1)).toNatClampNeg) (xs ((x5 + 2)).toNatClampNeg)).1 = 0 then ((vp_in 0 1) ∧ ((lg_cmp ((fL_sitterOf S T O (xs ((x5 + 1)).toNatClampNeg) (xs ((x5 + 2)).toNatClampNeg)).2 (0 : Int32).toNatClampNeg) ((fX6_sitterOf Mo (xs ((x5 + 1)).toNatClampNeg) (xs ((x5 + 2)).toNatClampNeg)).1.toInt64)) = 0) ∧ True) else True))
set_option maxHeartbeats 8000000 in
set_option maxRecDepth 100000 in
theorem cM_6 {p : Program} {e : Env} {s : State} {m : MethodId} {below : List Frame} {meth : Method} {c : Code} {Q : State → Prop} (l : Launch) (D : va_G) (cI cC cT cJ cQ : ClassId) (b x ot ou ov oh ox oy ot1 ot2 ou1 ou2 ov1 ov2 rr ox1 ox2 oy1 mh m1 m2 m3 m4 m5 m6 m7 m8 o oq : Nat) (ra rb rc : Nat → Nat) (S : CV) (T : TV) (Tr : TV) (Sn : TV) (Hs : HV) (G : (Nat → TV)) (Xt : XV) (Ln : LV) (Mo : SV) (O : (Nat → Int64)) (Oq : (Nat → UInt64)) (xs : Nat → Int32) (L : Nat) (x5 : Int32) (hst : l.stackTraces = false) (hn : ∃ j : Nat, j < 9 ∧ Hs.1 = nI j) (hc : ∀ i, narrow .char (.int (Ln.1 i)) = .int (Ln.1 i)) (hx : p.tables.exec = Jvm.exec) (hb : c.code = cL_law) (hml : c.maxLocals = 9) (hown : s.vm.findClass RL = some m.cls) (hts : ∀ w ∈ wsL_law, w.before #[Value.ref b] s = true) (hK : va_K D vwCl (TY5 cI cC cT cJ cQ) s) (hX : va_X b L xs s s.heap) (hbl : b < s.heap.size) (hbA : ¬ (fun q : Nat => s.heap.size ≤ q) b) (hXE : xE (fun q : Nat => s.heap.size ≤ q) s) (hXN : xN s) (H : Heap) (locs : List Loc) (ls : Array Slot) (cells slots : Nat) (hcr : cells + 2 ≤ room_1.cells ∧ slots + 12 ≤ room_1.slots) (hP : va_P D vwCl (w5 x ot ou ov oh ox oy S ++ w3 cI ot ot1 ot2 T ++ w3 cI ou ou1 ou2 Tr ++ w3 cI ov ov1 ov2 Sn ++ w1 oh rr Hs ++ wR cI cT rr ra rb rc G ++ w4 cI cC ox ox1 ox2 Xt ++ w2 cC oy oy1 Ln ++ w6 cI cC mh m1 m2 m3 m4 m5 m6 m7 m8 Mo ++ [(o, .inl (cJ, 1, .inr (.inl O)))] ++ [(oq, .inl (cQ, 1, .inr (.inr (.inr (.inl Oq)))))]) H) (hD : va_D (fun q : Nat => s.heap.size ≤ q) (w5 x ot ou ov oh ox oy S ++ w3 cI ot ot1 ot2 T ++ w3 cI ou ou1 ou2 Tr ++ w3 cI ov ov1 ov2 Sn ++ w1 oh rr Hs ++ wR cI cT rr ra rb rc G ++ w4 cI cC ox ox1 ox2 Xt ++ w2 cC oy oy1 Ln ++ w6 cI cC mh m1 m2 m3 m4 m5 m6 m7 m8 Mo ++ [(o, .inl (cJ, 1, .inr (.inl O)))] ++ [(oq, .inl (cQ, 1, .inr (.inr (.inr (.inl Oq)))))])) (hS : va_S (fun q : Nat => s.heap.size ≤ q) s.heap H locs) (hl : lv_has ls 9 [(0, .ref b), (1, .ref x), (2, .ref mh), (3, .ref o), (4, .ref oq), (5, .int x5)]) (hg : gM_6 S T Tr Sn Hs G Xt Ln Mo O Oq xs L x5) (kb : ∀ z9 : (SV × (Nat → Int64)), z9 = fM_6 S T Tr Sn Hs G Xt Ln Mo O Oq xs L x5 → ∀ (H : Heap) (locs : List Loc) (ls : Array Slot), va_P D vwCl (w5 x ot ou ov oh ox oy S ++ w3 cI ot ot1 ot2 T ++ w3 cI ou ou1 ou2 Tr ++ w3 cI ov ov1 ov2 Sn ++ w1 oh rr Hs ++ wR cI cT rr ra rb rc G ++ w4 cI cC ox ox1 ox2 Xt ++ w2 cC oy oy1 Ln ++ w6 cI cC mh m1 m2 m3 m4 m5 m6 m7 m8 z9.1 ++ [(o, .inl (cJ, 1, .inr (.inl z9.2)))] ++ [(oq, .inl (cQ, 1, .inr (.inr (.inr (.inl Oq)))))]) H → va_D (fun q : Nat => s.heap.size ≤ q) (w5 x ot ou ov oh ox oy S ++ w3 cI ot ot1 ot2 T ++ w3 cI ou ou1 ou2 Tr ++ w3 cI ov ov1 ov2 Sn ++ w1 oh rr Hs ++ wR cI cT rr ra rb rc G ++ w4 cI cC ox ox1 ox2 Xt ++ w2 cC oy oy1 Ln ++ w6 cI cC mh m1 m2 m3 m4 m5 m6 m7 m8 z9.1 ++ [(o, .inl (cJ, 1, .inr (.inl z9.2)))] ++ [(oq, .inl (cQ, 1, .inr (.inr (.inr (.inl Oq)))))]) → va_S (fun q : Nat => s.heap.size ≤ q) s.heap H locs → lv_has ls 9 [(0, .ref b), (1, .ref x), (2, .ref mh), (3, .ref o), (4, .ref oq), (5, .int (x5 + 5))] → W p l e room_1 s m #[Value.ref b] below meth c H locs (cells + 2) (slots + 12) Q (F0 m 28 ls [])) :
    W p l e room_1 s m #[Value.ref b] below meth c H locs cells slots Q (F0 m 628 ls []) := by
  have hP : va_P D vwCl (w5 x ot ou ov oh ox oy S ++ w3 cI ot ot1 ot2 T ++ w3 cI ou ou1 ou2 Tr ++ w3 cI ov ov1 ov2 Sn ++ w1 oh rr Hs ++ wR cI cT rr ra rb rc G ++ w4 cI cC ox ox1 ox2 Xt ++ w2 cC oy oy1 Ln ++ w6 cI cC mh m1 m2 m3 m4 m5 m6 m7 m8 Mo ++ [(o, .inl (cJ, 1, .inr (.inl O)))] ++ [(oq, .inl (cQ, 1, .inr (.inr (.inr (.inl Oq)))))]) H := hP
  have hD : va_D (fun q : Nat => s.heap.size ≤ q) (w5 x ot ou ov oh ox oy S ++ w3 cI ot ot1 ot2 T ++ w3 cI ou ou1 ou2 Tr ++ w3 cI ov ov1 ov2 Sn ++ w1 oh rr Hs ++ wR cI cT rr ra rb rc G ++ w4 cI cC ox ox1 ox2 Xt ++ w2 cC oy oy1 Ln ++ w6 cI cC mh m1 m2 m3 m4 m5 m6 m7 m8 Mo ++ [(o, .inl (cJ, 1, .inr (.inl O)))] ++ [(oq, .inl (cQ, 1, .inr (.inr (.inr (.inl Oq)))))]) := hD
  have hK3 := hK.sub (tys' := TY cI cC cT) [0, 1, 2] rfl
  unfold gM_6 at hg
  refine lv_aload_n hx hb dL_law_628 rfl (lv_at hl 1 rfl) ?_
  refine lv_aload_n hx hb dL_law_629 rfl (lv_at hl 0 rfl) ?_
  refine lv_iload hx hb dL_law_630 (lv_at hl 5 rfl) ?_
  refine lv_iconst (v := 1) hx hb dL_law_632 (by decide) ?_
  refine lv_iadd hx hb dL_law_633 ?_
  obtain ⟨o1, hg⟩ := hg
  refine va_sld hx hb hX hbl hbA hS o1 dL_law_634 ?_
  refine lv_aload_n hx hb dL_law_635 rfl (lv_at hl 0 rfl) ?_
  refine lv_iload hx hb dL_law_636 (lv_at hl 5 rfl) ?_
  refine lv_iconst (v := 2) hx hb dL_law_638 (by decide) ?_
  refine lv_iadd hx hb dL_law_639 ?_
  obtain ⟨o2, hg⟩ := hg
  refine va_sld hx hb hX hbl hbA hS o2 dL_law_640 ?_
  refine lv_aload_n hx hb dL_law_641 rfl (lv_at hl 3 rfl) ?_
  obtain ⟨n1, en1⟩ : ∃ z9, z9 = (fL_sitterOf S T O (xs ((x5 + 1)).toNatClampNeg) (xs ((x5 + 2)).toNatClampNeg)) := ⟨_, rfl⟩
  try rw [← en1] at hg
  obtain ⟨o3, hg⟩ := hg
  have k9 := (kL_sitterOf l D cI cC cT cJ cQ x ot ou ov oh ox oy ot1 ot2 o S T O (xs ((x5 + 1)).toNatClampNeg) (xs ((x5 + 2)).toNatClampNeg) hst o3)
  rw [← en1] at k9
  refine fLq (As := [.ref x, .int (xs ((x5 + 1)).toNatClampNeg), .int (xs ((x5 + 2)).toNatClampNeg), .ref o]) (rest := []) ⟨hx, hb, hml, hown, hts⟩ k9 (vx_cwSW (hh := [(0, 10, 13, 28), (0, 10, 17, 13)]) 4 hts gL_law_L_sitterOf rfl rfl rfl (by decide +kernel) ⟨Nat.le_of_ble_eq_true rfl, Nat.le_of_ble_eq_true rfl⟩) hP hK hD hS hXE hXN (w3 cI ou ou1 ou2 Tr ++ w3 cI ov ov1 ov2 Sn ++ w1 oh rr Hs ++ wR cI cT rr ra rb rc G ++ w4 cI cC ox ox1 ox2 Xt ++ w2 cC oy oy1 Ln ++ w6 cI cC mh m1 m2 m3 m4 m5 m6 m7 m8 Mo ++ [(oq, .inl (cQ, 1, .inr (.inr (.inr (.inl Oq)))))] : va_W) (pmI (fun a => by simp only [cntW_app, cntW_nil] <;> omega)) (w5 x ot ou ov oh ox oy S ++ w3 cI ot ot1 ot2 T ++ w3 cI ou ou1 ou2 Tr ++ w3 cI ov ov1 ov2 Sn ++ w1 oh rr Hs ++ wR cI cT rr ra rb rc G ++ w4 cI cC ox ox1 ox2 Xt ++ w2 cC oy oy1 Ln ++ w6 cI cC mh m1 m2 m3 m4 m5 m6 m7 m8 Mo ++ [(o, .inl (cJ, 1, .inr (.inl n1.2)))] ++ [(oq, .inl (cQ, 1, .inr (.inr (.inr (.inl Oq)))))]) (pmI (fun a => by simp only [cntW_app, cntW_nil] <;> omega)) rfl rfl hl.1 rfl (Nat.le_of_ble_eq_true rfl) ⟨Nat.le_trans (Nat.add_le_add_left (by decide) _) hcr.1, Nat.le_trans (Nat.add_le_add_left (by decide) _) hcr.2⟩ dL_law_642 (fun H locs hP hD hS => ?_)
  refine lv_istore (lv' := [(6, .int n1.1), (0, .ref b), (1, .ref x), (2, .ref mh), (3, .ref o), (4, .ref oq), (5, .int x5)]) hx hb dL_law_645 hl (by decide) rfl (fun ls hl => ?_)
  refine lv_aload_n hx hb dL_law_647 rfl (lv_at hl 3 rfl) ?_
  refine lv_aload_n hx hb dL_law_648 rfl (lv_at hl 1 rfl) ?_
  refine lv_iload hx hb dL_law_649 (lv_at hl 6 rfl) ?_
  refine lv_iconst (v := 1) hx hb dL_law_651 (by decide) ?_
  refine lv_iadd hx hb dL_law_652 ?_
  obtain ⟨o4, hg⟩ := hg
  refine va_sld hx hb hX hbl hbA hS o4 dL_law_653 ?_
  refine lv_aload_n hx hb dL_law_654 rfl (lv_at hl 1 rfl) ?_
  refine lv_iload hx hb dL_law_655 (lv_at hl 6 rfl) ?_
  refine lv_iconst (v := 2) hx hb dL_law_657 (by decide) ?_
  refine lv_iadd hx hb dL_law_658 ?_
  obtain ⟨o5, hg⟩ := hg
  refine va_sld hx hb hX hbl hbA hS o5 dL_law_659 ?_
  obtain ⟨n2, en2⟩ : ∃ z9, z9 = (fX6_sitterOf Mo (xs ((x5 + 1)).toNatClampNeg) (xs ((x5 + 2)).toNatClampNeg)) := ⟨_, rfl⟩
  try rw [← en2] at hg
  obtain ⟨o6, hg⟩ := hg
  have k9 := (kX6_sitterOf l D cI cC cT mh m1 m2 m3 m4 m5 m6 m7 m8 Mo (xs ((x5 + 1)).toNatClampNeg) (xs ((x5 + 2)).toNatClampNeg) o6)
  rw [← en2] at k9
  refine fUq (As := [.int (xs ((x5 + 1)).toNatClampNeg), .int (xs ((x5 + 2)).toNatClampNeg)]) (rest := []) (st' := [.int n2.1]) ⟨hx, hb, hml, hown, hts⟩ k9 (cwV 2 hts gL_law_X6_sitterOf rfl rfl rfl (by decide +kernel) ⟨Nat.le_of_ble_eq_true rfl, Nat.le_of_ble_eq_true rfl⟩) hP hK3 hD hS (w5 x ot ou ov oh ox oy S ++ w3 cI ot ot1 ot2 T ++ w3 cI ou ou1 ou2 Tr ++ w3 cI ov ov1 ov2 Sn ++ w1 oh rr Hs ++ wR cI cT rr ra rb rc G ++ w4 cI cC ox ox1 ox2 Xt ++ w2 cC oy oy1 Ln ++ [(o, .inl (cJ, 1, .inr (.inl n1.2)))] ++ [(oq, .inl (cQ, 1, .inr (.inr (.inr (.inl Oq)))))] : va_W) (pmI (fun a => by simp only [cntW_app, cntW_nil] <;> omega)) (w5 x ot ou ov oh ox oy S ++ w3 cI ot ot1 ot2 T ++ w3 cI ou ou1 ou2 Tr ++ w3 cI ov ov1 ov2 Sn ++ w1 oh rr Hs ++ wR cI cT rr ra rb rc G ++ w4 cI cC ox ox1 ox2 Xt ++ w2 cC oy oy1 Ln ++ w6 cI cC mh m1 m2 m3 m4 m5 m6 m7 m8 n2.2 ++ [(o, .inl (cJ, 1, .inr (.inl n1.2)))] ++ [(oq, .inl (cQ, 1, .inr (.inr (.inr (.inl Oq)))))]) (pmI (fun a => by simp only [cntW_app, cntW_nil] <;> omega)) rfl 44 (ci := 7) rfl rfl rfl rfl hl.1 rfl rfl (Nat.le_of_ble_eq_true rfl) ⟨Nat.le_trans (Nat.add_le_add_left (by decide) _) hcr.1, Nat.le_trans (Nat.add_le_add_left (by decide) _) hcr.2⟩ dL_law_660 (fun H locs hP hD hS => ?_)
  refine lv_istore (lv' := [(7, .int n2.1), (6, .int n1.1), (0, .ref b), (1, .ref x), (2, .ref mh), (3, .ref o), (4, .ref oq), (5, .int x5)]) hx hb dL_law_663 hl (by decide) rfl (fun ls hl => ?_)
  refine lv_aload_n hx hb dL_law_665 rfl (lv_at hl 4 rfl) ?_
  refine fRq (As := []) (rest := []) (st' := [.int (fX6_thrown n2.2)]) ⟨hx, hb, hml, hown, hts⟩ (kX6_thrown l D cI cC cT mh m1 m2 m3 m4 m5 m6 m7 m8 n2.2) (cwV 0 hts gL_law_X6_thrown rfl rfl rfl (by decide +kernel) ⟨Nat.le_of_ble_eq_true rfl, Nat.le_of_ble_eq_true rfl⟩) hP hK3 (w5 x ot ou ov oh ox oy S ++ w3 cI ot ot1 ot2 T ++ w3 cI ou ou1 ou2 Tr ++ w3 cI ov ov1 ov2 Sn ++ w1 oh rr Hs ++ wR cI cT rr ra rb rc G ++ w4 cI cC ox ox1 ox2 Xt ++ w2 cC oy oy1 Ln ++ [(o, .inl (cJ, 1, .inr (.inl n1.2)))] ++ [(oq, .inl (cQ, 1, .inr (.inr (.inr (.inl Oq)))))] : va_W) (pmI (fun a => by simp only [cntW_app, cntW_nil] <;> omega)) 44 (ci := 7) rfl rfl rfl rfl hl.1 rfl rfl (Nat.le_of_ble_eq_true rfl) ⟨Nat.le_trans (Nat.add_le_add_left (by decide) _) hcr.1, Nat.le_trans (Nat.add_le_add_left (by decide) _) hcr.2⟩ dL_law_666 ?_
  refine lv_iload hx hb dL_law_669 (lv_at hl 1 rfl) ?_
  obtain ⟨o7, hg⟩ := hg
  refine lv_icmp_eq (tgt := 676) hx hb dL_law_671 (by decide) (fun c_671 => ?_) (fun c_671 => absurd o7 c_671)
  refine lv_iload hx hb dL_law_676 (lv_at hl 1 rfl) ?_
  refine lv_if_ne (tgt := 693) hx hb dL_law_678 (by decide) (fun c_678_1 => ?_) (fun c_678_1 => ?_)
  · rw [if_neg c_678_1] at hg
    refine lv_goto (tgt := 2110) hx hb dL_law_693 (by decide) ?_
    refine lv_iinc (v := (x5 + 5)) (lv' := [(5, .int (x5 + 5)), (7, .int n2.1), (6, .int n1.1), (0, .ref b), (1, .ref x), (2, .ref mh), (3, .ref o), (4, .ref oq)]) hx hb dL_law_2110 hl (k := 7) rfl rfl (by decide) rfl (fun ls hl => ?_)
    refine lv_goto (tgt := 28) hx hb dL_law_2113 (by decide) ?_
    have e9 : fM_6 S T Tr Sn Hs G Xt Ln Mo O Oq xs L x5 = (n2.2, n1.2) := by rw [fM_6, ← en1, ← en2, if_neg c_678_1]
    refine W.widen (k := cells + 2) (n := slots + 12) (by omega) (by omega) ?_
    exact kb (n2.2, n1.2) e9.symm H locs ls hP hD hS (lv_sub hl [3, 4, 5, 6, 7, 0] rfl)
  · rw [if_pos c_678_1] at hg
    refine lv_aload_n hx hb dL_law_681 rfl (lv_at hl 5 rfl) ?_
    refine lv_iconst (v := 0) hx hb dL_law_682 (by decide) ?_
    obtain ⟨o8, hg⟩ := hg
    refine va_lald hx hb hK hP 53 3 rfl rfl o8 dL_law_683 ?_
    refine lv_iload hx hb dL_law_684 (lv_at hl 0 rfl) ?_
    refine lv_i2l (v := (n2.1.toInt64)) hx hb dL_law_686 rfl ?_
    refine W.lcmp hx hb dL_law_687 ?_
    obtain ⟨o9, hg⟩ := hg
    refine lv_if_eq (tgt := 693) hx hb dL_law_688 (by decide) (fun c_688 => ?_) (fun c_688 => absurd o9 c_688)
    refine lv_goto (tgt := 2110) hx hb dL_law_693 (by decide) ?_
    refine lv_iinc (v := (x5 + 5)) (lv' := [(5, .int (x5 + 5)), (7, .int n2.1), (6, .int n1.1), (0, .ref b), (1, .ref x), (2, .ref mh), (3, .ref o), (4, .ref oq)]) hx hb dL_law_2110 hl (k := 7) rfl rfl (by decide) rfl (fun ls hl => ?_)
    refine lv_goto (tgt := 28) hx hb dL_law_2113 (by decide) ?_
    have e9 : fM_6 S T Tr Sn Hs G Xt Ln Mo O Oq xs L x5 = (n2.2, n1.2) := by rw [fM_6, ← en1, ← en2, if_pos c_678_1]
    refine W.widen (k := cells + 2) (n := slots + 12) (by omega) (by omega) ?_
    exact kb (n2.2, n1.2) e9.symm H locs ls hP hD hS (lv_sub hl [3, 4, 5, 6, 7, 0] rfl)
def fM_7 (S : CV) (T : TV) (Tr : TV) (Sn : TV) (Hs : HV) (G : (Nat → TV)) (Xt : XV) (Ln : LV) (Mo : SV) (O : (Nat → Int64)) (Oq : (Nat → UInt64)) (xs : Nat → Int32) (L : Nat) (x5 : Int32) : SV := (if (xs ((x5 + 1)).toNatClampNeg) = 0 then (fX6_clashes Mo 0).2 else (fX6_clashes Mo 1).2)
def gM_7 (S : CV) (T : TV) (Tr : TV) (Sn : TV) (Hs : HV) (G : (Nat → TV)) (Xt : XV) (Ln : LV) (Mo : SV) (O : (Nat → Int64)) (Oq : (Nat → UInt64)) (xs : Nat → Int32) (L : Nat) (x5 : Int32) : Prop := ((vp_in (x5 + 1) L) ∧ (if (xs ((x5 + 1)).toNatClampNeg) = 0 then ((vp_in (x5 + 1) L) ∧ (gX6_clashes Mo 0) ∧ ((fX5_clashes S T 0) = (fX6_clashes Mo 0).1) ∧ True) else ((vp_in (x5 + 1) L) ∧ (gX6_clashes Mo 1) ∧ ((fX5_clashes S T 1) = (fX6_clashes Mo 1).1) ∧ True)))
set_option maxHeartbeats 8000000 in
set_option maxRecDepth 100000 in
theorem cM_7 {p : Program} {e : Env} {s : State} {m : MethodId} {below : List Frame} {meth : Method} {c : Code} {Q : State → Prop} (l : Launch) (D : va_G) (cI cC cT cJ cQ : ClassId) (b x ot ou ov oh ox oy ot1 ot2 ou1 ou2 ov1 ov2 rr ox1 ox2 oy1 mh m1 m2 m3 m4 m5 m6 m7 m8 o oq : Nat) (ra rb rc : Nat → Nat) (S : CV) (T : TV) (Tr : TV) (Sn : TV) (Hs : HV) (G : (Nat → TV)) (Xt : XV) (Ln : LV) (Mo : SV) (O : (Nat → Int64)) (Oq : (Nat → UInt64)) (xs : Nat → Int32) (L : Nat) (x5 : Int32) (hst : l.stackTraces = false) (hn : ∃ j : Nat, j < 9 ∧ Hs.1 = nI j) (hc : ∀ i, narrow .char (.int (Ln.1 i)) = .int (Ln.1 i)) (hx : p.tables.exec = Jvm.exec) (hb : c.code = cL_law) (hml : c.maxLocals = 9) (hown : s.vm.findClass RL = some m.cls) (hts : ∀ w ∈ wsL_law, w.before #[Value.ref b] s = true) (hK : va_K D vwCl (TY5 cI cC cT cJ cQ) s) (hX : va_X b L xs s s.heap) (hbl : b < s.heap.size) (hbA : ¬ (fun q : Nat => s.heap.size ≤ q) b) (hXE : xE (fun q : Nat => s.heap.size ≤ q) s) (hXN : xN s) (H : Heap) (locs : List Loc) (ls : Array Slot) (cells slots : Nat) (hcr : cells + 2 ≤ room_1.cells ∧ slots + 12 ≤ room_1.slots) (hP : va_P D vwCl (w5 x ot ou ov oh ox oy S ++ w3 cI ot ot1 ot2 T ++ w3 cI ou ou1 ou2 Tr ++ w3 cI ov ov1 ov2 Sn ++ w1 oh rr Hs ++ wR cI cT rr ra rb rc G ++ w4 cI cC ox ox1 ox2 Xt ++ w2 cC oy oy1 Ln ++ w6 cI cC mh m1 m2 m3 m4 m5 m6 m7 m8 Mo ++ [(o, .inl (cJ, 1, .inr (.inl O)))] ++ [(oq, .inl (cQ, 1, .inr (.inr (.inr (.inl Oq)))))]) H) (hD : va_D (fun q : Nat => s.heap.size ≤ q) (w5 x ot ou ov oh ox oy S ++ w3 cI ot ot1 ot2 T ++ w3 cI ou ou1 ou2 Tr ++ w3 cI ov ov1 ov2 Sn ++ w1 oh rr Hs ++ wR cI cT rr ra rb rc G ++ w4 cI cC ox ox1 ox2 Xt ++ w2 cC oy oy1 Ln ++ w6 cI cC mh m1 m2 m3 m4 m5 m6 m7 m8 Mo ++ [(o, .inl (cJ, 1, .inr (.inl O)))] ++ [(oq, .inl (cQ, 1, .inr (.inr (.inr (.inl Oq)))))])) (hS : va_S (fun q : Nat => s.heap.size ≤ q) s.heap H locs) (hl : lv_has ls 9 [(0, .ref b), (1, .ref x), (2, .ref mh), (3, .ref o), (4, .ref oq), (5, .int x5)]) (hg : gM_7 S T Tr Sn Hs G Xt Ln Mo O Oq xs L x5) (kb : ∀ z9 : SV, z9 = fM_7 S T Tr Sn Hs G Xt Ln Mo O Oq xs L x5 → ∀ (H : Heap) (locs : List Loc) (ls : Array Slot), va_P D vwCl (w5 x ot ou ov oh ox oy S ++ w3 cI ot ot1 ot2 T ++ w3 cI ou ou1 ou2 Tr ++ w3 cI ov ov1 ov2 Sn ++ w1 oh rr Hs ++ wR cI cT rr ra rb rc G ++ w4 cI cC ox ox1 ox2 Xt ++ w2 cC oy oy1 Ln ++ w6 cI cC mh m1 m2 m3 m4 m5 m6 m7 m8 z9 ++ [(o, .inl (cJ, 1, .inr (.inl O)))] ++ [(oq, .inl (cQ, 1, .inr (.inr (.inr (.inl Oq)))))]) H → va_D (fun q : Nat => s.heap.size ≤ q) (w5 x ot ou ov oh ox oy S ++ w3 cI ot ot1 ot2 T ++ w3 cI ou ou1 ou2 Tr ++ w3 cI ov ov1 ov2 Sn ++ w1 oh rr Hs ++ wR cI cT rr ra rb rc G ++ w4 cI cC ox ox1 ox2 Xt ++ w2 cC oy oy1 Ln ++ w6 cI cC mh m1 m2 m3 m4 m5 m6 m7 m8 z9 ++ [(o, .inl (cJ, 1, .inr (.inl O)))] ++ [(oq, .inl (cQ, 1, .inr (.inr (.inr (.inl Oq)))))]) → va_S (fun q : Nat => s.heap.size ≤ q) s.heap H locs → lv_has ls 9 [(0, .ref b), (1, .ref x), (2, .ref mh), (3, .ref o), (4, .ref oq), (5, .int (x5 + 5))] → W p l e room_1 s m #[Value.ref b] below meth c H locs (cells + 2) (slots + 12) Q (F0 m 28 ls [])) :
    W p l e room_1 s m #[Value.ref b] below meth c H locs cells slots Q (F0 m 696 ls []) := by
  have hP : va_P D vwCl (w5 x ot ou ov oh ox oy S ++ w3 cI ot ot1 ot2 T ++ w3 cI ou ou1 ou2 Tr ++ w3 cI ov ov1 ov2 Sn ++ w1 oh rr Hs ++ wR cI cT rr ra rb rc G ++ w4 cI cC ox ox1 ox2 Xt ++ w2 cC oy oy1 Ln ++ w6 cI cC mh m1 m2 m3 m4 m5 m6 m7 m8 Mo ++ [(o, .inl (cJ, 1, .inr (.inl O)))] ++ [(oq, .inl (cQ, 1, .inr (.inr (.inr (.inl Oq)))))]) H := hP
  have hD : va_D (fun q : Nat => s.heap.size ≤ q) (w5 x ot ou ov oh ox oy S ++ w3 cI ot ot1 ot2 T ++ w3 cI ou ou1 ou2 Tr ++ w3 cI ov ov1 ov2 Sn ++ w1 oh rr Hs ++ wR cI cT rr ra rb rc G ++ w4 cI cC ox ox1 ox2 Xt ++ w2 cC oy oy1 Ln ++ w6 cI cC mh m1 m2 m3 m4 m5 m6 m7 m8 Mo ++ [(o, .inl (cJ, 1, .inr (.inl O)))] ++ [(oq, .inl (cQ, 1, .inr (.inr (.inr (.inl Oq)))))]) := hD
  have hK3 := hK.sub (tys' := TY cI cC cT) [0, 1, 2] rfl
  unfold gM_7 at hg
  refine lv_aload_n hx hb dL_law_696 rfl (lv_at hl 1 rfl) ?_
  refine lv_aload_n hx hb dL_law_697 rfl (lv_at hl 0 rfl) ?_
  refine lv_iload hx hb dL_law_698 (lv_at hl 5 rfl) ?_
  refine lv_iconst (v := 1) hx hb dL_law_700 (by decide) ?_
  refine lv_iadd hx hb dL_law_701 ?_
  obtain ⟨o1, hg⟩ := hg
  refine va_sld hx hb hX hbl hbA hS o1 dL_law_702 ?_
  refine lv_if_eq (tgt := 710) hx hb dL_law_703 (by decide) (fun c_703_1 => ?_) (fun c_703_1 => ?_)
  · rw [if_pos c_703_1] at hg
    refine lv_iconst (v := 0) hx hb dL_law_710 (by decide) ?_
    refine fRq (As := [.int 0]) (rest := []) (st' := [.int (fX5_clashes S T 0)]) ⟨hx, hb, hml, hown, hts⟩ (kX5_clashes l D cI cC cT x ot ou ov oh ox oy ot1 ot2 S T 0) (cwV 1 hts gL_law_X5_clashes rfl rfl rfl (by decide +kernel) ⟨Nat.le_of_ble_eq_true rfl, Nat.le_of_ble_eq_true rfl⟩) hP hK3 (w3 cI ou ou1 ou2 Tr ++ w3 cI ov ov1 ov2 Sn ++ w1 oh rr Hs ++ wR cI cT rr ra rb rc G ++ w4 cI cC ox ox1 ox2 Xt ++ w2 cC oy oy1 Ln ++ w6 cI cC mh m1 m2 m3 m4 m5 m6 m7 m8 Mo ++ [(o, .inl (cJ, 1, .inr (.inl O)))] ++ [(oq, .inl (cQ, 1, .inr (.inr (.inr (.inl Oq)))))] : va_W) (pmI (fun a => by simp only [cntW_app, cntW_nil] <;> omega)) 0 (ci := 6) rfl rfl rfl rfl hl.1 rfl rfl (Nat.le_of_ble_eq_true rfl) ⟨Nat.le_trans (Nat.le_add_right _ _) hcr.1, Nat.le_trans (Nat.le_add_right _ _) hcr.2⟩ dL_law_711 ?_
    refine lv_aload_n hx hb dL_law_714 rfl (lv_at hl 2 rfl) ?_
    refine lv_aload_n hx hb dL_law_715 rfl (lv_at hl 0 rfl) ?_
    refine lv_iload hx hb dL_law_716 (lv_at hl 5 rfl) ?_
    refine lv_iconst (v := 1) hx hb dL_law_718 (by decide) ?_
    refine lv_iadd hx hb dL_law_719 ?_
    obtain ⟨o2, hg⟩ := hg
    refine va_sld hx hb hX hbl hbA hS o2 dL_law_720 ?_
    refine lv_if_eq (tgt := 728) hx hb dL_law_721 (by decide) (fun c_721 => ?_) (fun c_721 => absurd c_703_1 c_721)
    refine lv_iconst (v := 0) hx hb dL_law_728 (by decide) ?_
    obtain ⟨n1, en1⟩ : ∃ z9, z9 = (fX6_clashes Mo 0) := ⟨_, rfl⟩
    try rw [← en1] at hg
    obtain ⟨o3, hg⟩ := hg
    have k9 := (kX6_clashes l D cI cC cT mh m1 m2 m3 m4 m5 m6 m7 m8 Mo 0 o3)
    rw [← en1] at k9
    refine fUq (As := [.int 0]) (rest := [.int (fX5_clashes S T 0)]) (st' := [.int n1.1, .int (fX5_clashes S T 0)]) ⟨hx, hb, hml, hown, hts⟩ k9 (cwV 1 hts gL_law_X6_clashes rfl rfl rfl (by decide +kernel) ⟨Nat.le_of_ble_eq_true rfl, Nat.le_of_ble_eq_true rfl⟩) hP hK3 hD hS (w5 x ot ou ov oh ox oy S ++ w3 cI ot ot1 ot2 T ++ w3 cI ou ou1 ou2 Tr ++ w3 cI ov ov1 ov2 Sn ++ w1 oh rr Hs ++ wR cI cT rr ra rb rc G ++ w4 cI cC ox ox1 ox2 Xt ++ w2 cC oy oy1 Ln ++ [(o, .inl (cJ, 1, .inr (.inl O)))] ++ [(oq, .inl (cQ, 1, .inr (.inr (.inr (.inl Oq)))))] : va_W) (pmI (fun a => by simp only [cntW_app, cntW_nil] <;> omega)) (w5 x ot ou ov oh ox oy S ++ w3 cI ot ot1 ot2 T ++ w3 cI ou ou1 ou2 Tr ++ w3 cI ov ov1 ov2 Sn ++ w1 oh rr Hs ++ wR cI cT rr ra rb rc G ++ w4 cI cC ox ox1 ox2 Xt ++ w2 cC oy oy1 Ln ++ w6 cI cC mh m1 m2 m3 m4 m5 m6 m7 m8 n1.2 ++ [(o, .inl (cJ, 1, .inr (.inl O)))] ++ [(oq, .inl (cQ, 1, .inr (.inr (.inr (.inl Oq)))))]) (pmI (fun a => by simp only [cntW_app, cntW_nil] <;> omega)) rfl 44 (ci := 7) rfl rfl rfl rfl hl.1 rfl rfl (Nat.le_of_ble_eq_true rfl) ⟨Nat.le_trans (Nat.le_add_right _ _) hcr.1, Nat.le_trans (Nat.le_add_right _ _) hcr.2⟩ dL_law_729 (fun H locs hP hD hS => ?_)
    obtain ⟨o4, hg⟩ := hg
    refine lv_icmp_eq (tgt := 2110) hx hb dL_law_732 (by decide) (fun c_732 => ?_) (fun c_732 => absurd o4 c_732)
    refine lv_iinc (v := (x5 + 5)) (lv' := [(5, .int (x5 + 5)), (0, .ref b), (1, .ref x), (2, .ref mh), (3, .ref o), (4, .ref oq)]) hx hb dL_law_2110 hl (k := 5) rfl rfl (by decide) rfl (fun ls hl => ?_)
    refine lv_goto (tgt := 28) hx hb dL_law_2113 (by decide) ?_
    have e9 : fM_7 S T Tr Sn Hs G Xt Ln Mo O Oq xs L x5 = n1.2 := by rw [fM_7, if_pos c_703_1, ← en1]
    refine W.widen (k := cells + 2) (n := slots + 12) (by omega) (by omega) ?_
    exact kb n1.2 e9.symm H locs ls hP hD hS (lv_sub hl [1, 2, 3, 4, 5, 0] rfl)
  · rw [if_neg c_703_1] at hg
    refine lv_iconst (v := 1) hx hb dL_law_706 (by decide) ?_
    refine lv_goto (tgt := 711) hx hb dL_law_707 (by decide) ?_
    refine fRq (As := [.int 1]) (rest := []) (st' := [.int (fX5_clashes S T 1)]) ⟨hx, hb, hml, hown, hts⟩ (kX5_clashes l D cI cC cT x ot ou ov oh ox oy ot1 ot2 S T 1) (cwV 1 hts gL_law_X5_clashes rfl rfl rfl (by decide +kernel) ⟨Nat.le_of_ble_eq_true rfl, Nat.le_of_ble_eq_true rfl⟩) hP hK3 (w3 cI ou ou1 ou2 Tr ++ w3 cI ov ov1 ov2 Sn ++ w1 oh rr Hs ++ wR cI cT rr ra rb rc G ++ w4 cI cC ox ox1 ox2 Xt ++ w2 cC oy oy1 Ln ++ w6 cI cC mh m1 m2 m3 m4 m5 m6 m7 m8 Mo ++ [(o, .inl (cJ, 1, .inr (.inl O)))] ++ [(oq, .inl (cQ, 1, .inr (.inr (.inr (.inl Oq)))))] : va_W) (pmI (fun a => by simp only [cntW_app, cntW_nil] <;> omega)) 0 (ci := 6) rfl rfl rfl rfl hl.1 rfl rfl (Nat.le_of_ble_eq_true rfl) ⟨Nat.le_trans (Nat.le_add_right _ _) hcr.1, Nat.le_trans (Nat.le_add_right _ _) hcr.2⟩ dL_law_711 ?_
    refine lv_aload_n hx hb dL_law_714 rfl (lv_at hl 2 rfl) ?_
    refine lv_aload_n hx hb dL_law_715 rfl (lv_at hl 0 rfl) ?_
    refine lv_iload hx hb dL_law_716 (lv_at hl 5 rfl) ?_
    refine lv_iconst (v := 1) hx hb dL_law_718 (by decide) ?_
    refine lv_iadd hx hb dL_law_719 ?_
    obtain ⟨o5, hg⟩ := hg
    refine va_sld hx hb hX hbl hbA hS o5 dL_law_720 ?_
    refine lv_if_eq (tgt := 728) hx hb dL_law_721 (by decide) (fun c_721 => absurd c_721 c_703_1) (fun c_721 => ?_)
    refine lv_iconst (v := 1) hx hb dL_law_724 (by decide) ?_
    refine lv_goto (tgt := 729) hx hb dL_law_725 (by decide) ?_
    obtain ⟨n2, en2⟩ : ∃ z9, z9 = (fX6_clashes Mo 1) := ⟨_, rfl⟩
    try rw [← en2] at hg
    obtain ⟨o6, hg⟩ := hg
    have k9 := (kX6_clashes l D cI cC cT mh m1 m2 m3 m4 m5 m6 m7 m8 Mo 1 o6)
    rw [← en2] at k9
    refine fUq (As := [.int 1]) (rest := [.int (fX5_clashes S T 1)]) (st' := [.int n2.1, .int (fX5_clashes S T 1)]) ⟨hx, hb, hml, hown, hts⟩ k9 (cwV 1 hts gL_law_X6_clashes rfl rfl rfl (by decide +kernel) ⟨Nat.le_of_ble_eq_true rfl, Nat.le_of_ble_eq_true rfl⟩) hP hK3 hD hS (w5 x ot ou ov oh ox oy S ++ w3 cI ot ot1 ot2 T ++ w3 cI ou ou1 ou2 Tr ++ w3 cI ov ov1 ov2 Sn ++ w1 oh rr Hs ++ wR cI cT rr ra rb rc G ++ w4 cI cC ox ox1 ox2 Xt ++ w2 cC oy oy1 Ln ++ [(o, .inl (cJ, 1, .inr (.inl O)))] ++ [(oq, .inl (cQ, 1, .inr (.inr (.inr (.inl Oq)))))] : va_W) (pmI (fun a => by simp only [cntW_app, cntW_nil] <;> omega)) (w5 x ot ou ov oh ox oy S ++ w3 cI ot ot1 ot2 T ++ w3 cI ou ou1 ou2 Tr ++ w3 cI ov ov1 ov2 Sn ++ w1 oh rr Hs ++ wR cI cT rr ra rb rc G ++ w4 cI cC ox ox1 ox2 Xt ++ w2 cC oy oy1 Ln ++ w6 cI cC mh m1 m2 m3 m4 m5 m6 m7 m8 n2.2 ++ [(o, .inl (cJ, 1, .inr (.inl O)))] ++ [(oq, .inl (cQ, 1, .inr (.inr (.inr (.inl Oq)))))]) (pmI (fun a => by simp only [cntW_app, cntW_nil] <;> omega)) rfl 44 (ci := 7) rfl rfl rfl rfl hl.1 rfl rfl (Nat.le_of_ble_eq_true rfl) ⟨Nat.le_trans (Nat.le_add_right _ _) hcr.1, Nat.le_trans (Nat.le_add_right _ _) hcr.2⟩ dL_law_729 (fun H locs hP hD hS => ?_)
    obtain ⟨o7, hg⟩ := hg
    refine lv_icmp_eq (tgt := 2110) hx hb dL_law_732 (by decide) (fun c_732 => ?_) (fun c_732 => absurd o7 c_732)
    refine lv_iinc (v := (x5 + 5)) (lv' := [(5, .int (x5 + 5)), (0, .ref b), (1, .ref x), (2, .ref mh), (3, .ref o), (4, .ref oq)]) hx hb dL_law_2110 hl (k := 5) rfl rfl (by decide) rfl (fun ls hl => ?_)
    refine lv_goto (tgt := 28) hx hb dL_law_2113 (by decide) ?_
    have e9 : fM_7 S T Tr Sn Hs G Xt Ln Mo O Oq xs L x5 = n2.2 := by rw [fM_7, if_neg c_703_1, ← en2]
    refine W.widen (k := cells + 2) (n := slots + 12) (by omega) (by omega) ?_
    exact kb n2.2 e9.symm H locs ls hP hD hS (lv_sub hl [1, 2, 3, 4, 5, 0] rfl)
def fM_8 (S : CV) (T : TV) (Tr : TV) (Sn : TV) (Hs : HV) (G : (Nat → TV)) (Xt : XV) (Ln : LV) (Mo : SV) (O : (Nat → Int64)) (Oq : (Nat → UInt64)) (xs : Nat → Int32) (L : Nat) (x5 : Int32) : (SV × (Nat → Int64)) := (if (fL_clash S T O (xs ((x5 + 1)).toNatClampNeg) (xs ((x5 + 2)).toNatClampNeg)).1 = 0 then (if (fX6_clash Mo (xs ((x5 + 1)).toNatClampNeg) (xs ((x5 + 2)).toNatClampNeg)).1 = 0 then ((fX6_clash Mo (xs ((x5 + 1)).toNatClampNeg) (xs ((x5 + 2)).toNatClampNeg)).2, (fL_clash S T O (xs ((x5 + 1)).toNatClampNeg) (xs ((x5 + 2)).toNatClampNeg)).2) else ((fX6_clash Mo (xs ((x5 + 1)).toNatClampNeg) (xs ((x5 + 2)).toNatClampNeg)).2, (fL_clash S T O (xs ((x5 + 1)).toNatClampNeg) (xs ((x5 + 2)).toNatClampNeg)).2)) else ((fX6_clash Mo (xs ((x5 + 1)).toNatClampNeg) (xs ((x5 + 2)).toNatClampNeg)).2, (fL_clash S T O (xs ((x5 + 1)).toNatClampNeg) (xs ((x5 + 2)).toNatClampNeg)).2))
def gM_8 (S : CV) (T : TV) (Tr : TV) (Sn : TV) (Hs : HV) (G : (Nat → TV)) (Xt : XV) (Ln : LV) (Mo : SV) (O : (Nat → Int64)) (Oq : (Nat → UInt64)) (xs : Nat → Int32) (L : Nat) (x5 : Int32) : Prop := ((vp_in (x5 + 1) L) ∧ (vp_in (x5 + 2) L) ∧ (gL_clash S T O (xs ((x5 + 1)).toNatClampNeg) (xs ((x5 + 2)).toNatClampNeg)) ∧ (vp_in (x5 + 1) L) ∧ (vp_in (x5 + 2) L) ∧ (gX6_clash Mo (xs ((x5 + 1)).toNatClampNeg) (xs ((x5 + 2)).toNatClampNeg)) ∧ ((fX6_thrown (fX6_clash Mo (xs ((x5 + 1)).toNatClampNeg) (xs ((x5 + 2)).toNatClampNeg)).2) = (fL_clash S T O (xs ((x5 + 1)).toNatClampNeg) (xs ((x5 + 2)).toNatClampNeg)).1) ∧ (if (fL_clash S T O (xs ((x5 + 1)).toNatClampNeg) (xs ((x5 + 2)).toNatClampNeg)).1 = 0 then ((vp_in 0 1) ∧ (if (fX6_clash Mo (xs ((x5 + 1)).toNatClampNeg) (xs ((x5 + 2)).toNatClampNeg)).1 = 0 then (((lg_cmp ((fL_clash S T O (xs ((x5 + 1)).toNatClampNeg) (xs ((x5 + 2)).toNatClampNeg)).2 (0 : Int32).toNatClampNeg) 0) = 0) ∧ True) else (((lg_cmp ((fL_clash S T O (xs ((x5 + 1)).toNatClampNeg) (xs ((x5 + 2)).toNatClampNeg)).2 (0 : Int32).toNatClampNeg) 1) = 0) ∧ True))) else True))
set_option maxHeartbeats 8000000 in
set_option maxRecDepth 100000 in
theorem cM_8 {p : Program} {e : Env} {s : State} {m : MethodId} {below : List Frame} {meth : Method} {c : Code} {Q : State → Prop} (l : Launch) (D : va_G) (cI cC cT cJ cQ : ClassId) (b x ot ou ov oh ox oy ot1 ot2 ou1 ou2 ov1 ov2 rr ox1 ox2 oy1 mh m1 m2 m3 m4 m5 m6 m7 m8 o oq : Nat) (ra rb rc : Nat → Nat) (S : CV) (T : TV) (Tr : TV) (Sn : TV) (Hs : HV) (G : (Nat → TV)) (Xt : XV) (Ln : LV) (Mo : SV) (O : (Nat → Int64)) (Oq : (Nat → UInt64)) (xs : Nat → Int32) (L : Nat) (x5 : Int32) (hst : l.stackTraces = false) (hn : ∃ j : Nat, j < 9 ∧ Hs.1 = nI j) (hc : ∀ i, narrow .char (.int (Ln.1 i)) = .int (Ln.1 i)) (hx : p.tables.exec = Jvm.exec) (hb : c.code = cL_law) (hml : c.maxLocals = 9) (hown : s.vm.findClass RL = some m.cls) (hts : ∀ w ∈ wsL_law, w.before #[Value.ref b] s = true) (hK : va_K D vwCl (TY5 cI cC cT cJ cQ) s) (hX : va_X b L xs s s.heap) (hbl : b < s.heap.size) (hbA : ¬ (fun q : Nat => s.heap.size ≤ q) b) (hXE : xE (fun q : Nat => s.heap.size ≤ q) s) (hXN : xN s) (H : Heap) (locs : List Loc) (ls : Array Slot) (cells slots : Nat) (hcr : cells + 2 ≤ room_1.cells ∧ slots + 12 ≤ room_1.slots) (hP : va_P D vwCl (w5 x ot ou ov oh ox oy S ++ w3 cI ot ot1 ot2 T ++ w3 cI ou ou1 ou2 Tr ++ w3 cI ov ov1 ov2 Sn ++ w1 oh rr Hs ++ wR cI cT rr ra rb rc G ++ w4 cI cC ox ox1 ox2 Xt ++ w2 cC oy oy1 Ln ++ w6 cI cC mh m1 m2 m3 m4 m5 m6 m7 m8 Mo ++ [(o, .inl (cJ, 1, .inr (.inl O)))] ++ [(oq, .inl (cQ, 1, .inr (.inr (.inr (.inl Oq)))))]) H) (hD : va_D (fun q : Nat => s.heap.size ≤ q) (w5 x ot ou ov oh ox oy S ++ w3 cI ot ot1 ot2 T ++ w3 cI ou ou1 ou2 Tr ++ w3 cI ov ov1 ov2 Sn ++ w1 oh rr Hs ++ wR cI cT rr ra rb rc G ++ w4 cI cC ox ox1 ox2 Xt ++ w2 cC oy oy1 Ln ++ w6 cI cC mh m1 m2 m3 m4 m5 m6 m7 m8 Mo ++ [(o, .inl (cJ, 1, .inr (.inl O)))] ++ [(oq, .inl (cQ, 1, .inr (.inr (.inr (.inl Oq)))))])) (hS : va_S (fun q : Nat => s.heap.size ≤ q) s.heap H locs) (hl : lv_has ls 9 [(0, .ref b), (1, .ref x), (2, .ref mh), (3, .ref o), (4, .ref oq), (5, .int x5)]) (hg : gM_8 S T Tr Sn Hs G Xt Ln Mo O Oq xs L x5) (kb : ∀ z9 : (SV × (Nat → Int64)), z9 = fM_8 S T Tr Sn Hs G Xt Ln Mo O Oq xs L x5 → ∀ (H : Heap) (locs : List Loc) (ls : Array Slot), va_P D vwCl (w5 x ot ou ov oh ox oy S ++ w3 cI ot ot1 ot2 T ++ w3 cI ou ou1 ou2 Tr ++ w3 cI ov ov1 ov2 Sn ++ w1 oh rr Hs ++ wR cI cT rr ra rb rc G ++ w4 cI cC ox ox1 ox2 Xt ++ w2 cC oy oy1 Ln ++ w6 cI cC mh m1 m2 m3 m4 m5 m6 m7 m8 z9.1 ++ [(o, .inl (cJ, 1, .inr (.inl z9.2)))] ++ [(oq, .inl (cQ, 1, .inr (.inr (.inr (.inl Oq)))))]) H → va_D (fun q : Nat => s.heap.size ≤ q) (w5 x ot ou ov oh ox oy S ++ w3 cI ot ot1 ot2 T ++ w3 cI ou ou1 ou2 Tr ++ w3 cI ov ov1 ov2 Sn ++ w1 oh rr Hs ++ wR cI cT rr ra rb rc G ++ w4 cI cC ox ox1 ox2 Xt ++ w2 cC oy oy1 Ln ++ w6 cI cC mh m1 m2 m3 m4 m5 m6 m7 m8 z9.1 ++ [(o, .inl (cJ, 1, .inr (.inl z9.2)))] ++ [(oq, .inl (cQ, 1, .inr (.inr (.inr (.inl Oq)))))]) → va_S (fun q : Nat => s.heap.size ≤ q) s.heap H locs → lv_has ls 9 [(0, .ref b), (1, .ref x), (2, .ref mh), (3, .ref o), (4, .ref oq), (5, .int (x5 + 5))] → W p l e room_1 s m #[Value.ref b] below meth c H locs (cells + 2) (slots + 12) Q (F0 m 28 ls [])) :
    W p l e room_1 s m #[Value.ref b] below meth c H locs cells slots Q (F0 m 737 ls []) := by
  have hP : va_P D vwCl (w5 x ot ou ov oh ox oy S ++ w3 cI ot ot1 ot2 T ++ w3 cI ou ou1 ou2 Tr ++ w3 cI ov ov1 ov2 Sn ++ w1 oh rr Hs ++ wR cI cT rr ra rb rc G ++ w4 cI cC ox ox1 ox2 Xt ++ w2 cC oy oy1 Ln ++ w6 cI cC mh m1 m2 m3 m4 m5 m6 m7 m8 Mo ++ [(o, .inl (cJ, 1, .inr (.inl O)))] ++ [(oq, .inl (cQ, 1, .inr (.inr (.inr (.inl Oq)))))]) H := hP
  have hD : va_D (fun q : Nat => s.heap.size ≤ q) (w5 x ot ou ov oh ox oy S ++ w3 cI ot ot1 ot2 T ++ w3 cI ou ou1 ou2 Tr ++ w3 cI ov ov1 ov2 Sn ++ w1 oh rr Hs ++ wR cI cT rr ra rb rc G ++ w4 cI cC ox ox1 ox2 Xt ++ w2 cC oy oy1 Ln ++ w6 cI cC mh m1 m2 m3 m4 m5 m6 m7 m8 Mo ++ [(o, .inl (cJ, 1, .inr (.inl O)))] ++ [(oq, .inl (cQ, 1, .inr (.inr (.inr (.inl Oq)))))]) := hD
  have hK3 := hK.sub (tys' := TY cI cC cT) [0, 1, 2] rfl
  unfold gM_8 at hg
  refine lv_aload_n hx hb dL_law_737 rfl (lv_at hl 1 rfl) ?_
  refine lv_aload_n hx hb dL_law_738 rfl (lv_at hl 0 rfl) ?_
  refine lv_iload hx hb dL_law_739 (lv_at hl 5 rfl) ?_
  refine lv_iconst (v := 1) hx hb dL_law_741 (by decide) ?_
  refine lv_iadd hx hb dL_law_742 ?_
  obtain ⟨o1, hg⟩ := hg
  refine va_sld hx hb hX hbl hbA hS o1 dL_law_743 ?_
  refine lv_aload_n hx hb dL_law_744 rfl (lv_at hl 0 rfl) ?_
  refine lv_iload hx hb dL_law_745 (lv_at hl 5 rfl) ?_
  refine lv_iconst (v := 2) hx hb dL_law_747 (by decide) ?_
  refine lv_iadd hx hb dL_law_748 ?_
  obtain ⟨o2, hg⟩ := hg
  refine va_sld hx hb hX hbl hbA hS o2 dL_law_749 ?_
  refine lv_aload_n hx hb dL_law_750 rfl (lv_at hl 3 rfl) ?_
  obtain ⟨n1, en1⟩ : ∃ z9, z9 = (fL_clash S T O (xs ((x5 + 1)).toNatClampNeg) (xs ((x5 + 2)).toNatClampNeg)) := ⟨_, rfl⟩
  try rw [← en1] at hg
  obtain ⟨o3, hg⟩ := hg
  have k9 := (kL_clash l D cI cC cT cJ cQ x ot ou ov oh ox oy ot1 ot2 o S T O (xs ((x5 + 1)).toNatClampNeg) (xs ((x5 + 2)).toNatClampNeg) hst o3)
  rw [← en1] at k9
  refine fLq (As := [.ref x, .int (xs ((x5 + 1)).toNatClampNeg), .int (xs ((x5 + 2)).toNatClampNeg), .ref o]) (rest := []) ⟨hx, hb, hml, hown, hts⟩ k9 (vx_cwSW (hh := [(0, 17, 20, 28)]) 4 hts gL_law_L_clash rfl rfl rfl (by decide +kernel) ⟨Nat.le_of_ble_eq_true rfl, Nat.le_of_ble_eq_true rfl⟩) hP hK hD hS hXE hXN (w3 cI ou ou1 ou2 Tr ++ w3 cI ov ov1 ov2 Sn ++ w1 oh rr Hs ++ wR cI cT rr ra rb rc G ++ w4 cI cC ox ox1 ox2 Xt ++ w2 cC oy oy1 Ln ++ w6 cI cC mh m1 m2 m3 m4 m5 m6 m7 m8 Mo ++ [(oq, .inl (cQ, 1, .inr (.inr (.inr (.inl Oq)))))] : va_W) (pmI (fun a => by simp only [cntW_app, cntW_nil] <;> omega)) (w5 x ot ou ov oh ox oy S ++ w3 cI ot ot1 ot2 T ++ w3 cI ou ou1 ou2 Tr ++ w3 cI ov ov1 ov2 Sn ++ w1 oh rr Hs ++ wR cI cT rr ra rb rc G ++ w4 cI cC ox ox1 ox2 Xt ++ w2 cC oy oy1 Ln ++ w6 cI cC mh m1 m2 m3 m4 m5 m6 m7 m8 Mo ++ [(o, .inl (cJ, 1, .inr (.inl n1.2)))] ++ [(oq, .inl (cQ, 1, .inr (.inr (.inr (.inl Oq)))))]) (pmI (fun a => by simp only [cntW_app, cntW_nil] <;> omega)) rfl rfl hl.1 rfl (Nat.le_of_ble_eq_true rfl) ⟨Nat.le_trans (Nat.add_le_add_left (by decide) _) hcr.1, Nat.le_trans (Nat.add_le_add_left (by decide) _) hcr.2⟩ dL_law_751 (fun H locs hP hD hS => ?_)
  refine lv_istore (lv' := [(6, .int n1.1), (0, .ref b), (1, .ref x), (2, .ref mh), (3, .ref o), (4, .ref oq), (5, .int x5)]) hx hb dL_law_754 hl (by decide) rfl (fun ls hl => ?_)
  refine lv_aload_n hx hb dL_law_756 rfl (lv_at hl 3 rfl) ?_
  refine lv_aload_n hx hb dL_law_757 rfl (lv_at hl 1 rfl) ?_
  refine lv_iload hx hb dL_law_758 (lv_at hl 6 rfl) ?_
  refine lv_iconst (v := 1) hx hb dL_law_760 (by decide) ?_
  refine lv_iadd hx hb dL_law_761 ?_
  obtain ⟨o4, hg⟩ := hg
  refine va_sld hx hb hX hbl hbA hS o4 dL_law_762 ?_
  refine lv_aload_n hx hb dL_law_763 rfl (lv_at hl 1 rfl) ?_
  refine lv_iload hx hb dL_law_764 (lv_at hl 6 rfl) ?_
  refine lv_iconst (v := 2) hx hb dL_law_766 (by decide) ?_
  refine lv_iadd hx hb dL_law_767 ?_
  obtain ⟨o5, hg⟩ := hg
  refine va_sld hx hb hX hbl hbA hS o5 dL_law_768 ?_
  obtain ⟨n2, en2⟩ : ∃ z9, z9 = (fX6_clash Mo (xs ((x5 + 1)).toNatClampNeg) (xs ((x5 + 2)).toNatClampNeg)) := ⟨_, rfl⟩
  try rw [← en2] at hg
  obtain ⟨o6, hg⟩ := hg
  have k9 := (kX6_clash l D cI cC cT mh m1 m2 m3 m4 m5 m6 m7 m8 Mo (xs ((x5 + 1)).toNatClampNeg) (xs ((x5 + 2)).toNatClampNeg) o6)
  rw [← en2] at k9
  refine fUq (As := [.int (xs ((x5 + 1)).toNatClampNeg), .int (xs ((x5 + 2)).toNatClampNeg)]) (rest := []) (st' := [.int n2.1]) ⟨hx, hb, hml, hown, hts⟩ k9 (cwV 2 hts gL_law_X6_clash rfl rfl rfl (by decide +kernel) ⟨Nat.le_of_ble_eq_true rfl, Nat.le_of_ble_eq_true rfl⟩) hP hK3 hD hS (w5 x ot ou ov oh ox oy S ++ w3 cI ot ot1 ot2 T ++ w3 cI ou ou1 ou2 Tr ++ w3 cI ov ov1 ov2 Sn ++ w1 oh rr Hs ++ wR cI cT rr ra rb rc G ++ w4 cI cC ox ox1 ox2 Xt ++ w2 cC oy oy1 Ln ++ [(o, .inl (cJ, 1, .inr (.inl n1.2)))] ++ [(oq, .inl (cQ, 1, .inr (.inr (.inr (.inl Oq)))))] : va_W) (pmI (fun a => by simp only [cntW_app, cntW_nil] <;> omega)) (w5 x ot ou ov oh ox oy S ++ w3 cI ot ot1 ot2 T ++ w3 cI ou ou1 ou2 Tr ++ w3 cI ov ov1 ov2 Sn ++ w1 oh rr Hs ++ wR cI cT rr ra rb rc G ++ w4 cI cC ox ox1 ox2 Xt ++ w2 cC oy oy1 Ln ++ w6 cI cC mh m1 m2 m3 m4 m5 m6 m7 m8 n2.2 ++ [(o, .inl (cJ, 1, .inr (.inl n1.2)))] ++ [(oq, .inl (cQ, 1, .inr (.inr (.inr (.inl Oq)))))]) (pmI (fun a => by simp only [cntW_app, cntW_nil] <;> omega)) rfl 44 (ci := 7) rfl rfl rfl rfl hl.1 rfl rfl (Nat.le_of_ble_eq_true rfl) ⟨Nat.le_trans (Nat.add_le_add_left (by decide) _) hcr.1, Nat.le_trans (Nat.add_le_add_left (by decide) _) hcr.2⟩ dL_law_769 (fun H locs hP hD hS => ?_)
  refine lv_istore (lv' := [(7, .int n2.1), (6, .int n1.1), (0, .ref b), (1, .ref x), (2, .ref mh), (3, .ref o), (4, .ref oq), (5, .int x5)]) hx hb dL_law_772 hl (by decide) rfl (fun ls hl => ?_)
  refine lv_aload_n hx hb dL_law_774 rfl (lv_at hl 4 rfl) ?_
  refine fRq (As := []) (rest := []) (st' := [.int (fX6_thrown n2.2)]) ⟨hx, hb, hml, hown, hts⟩ (kX6_thrown l D cI cC cT mh m1 m2 m3 m4 m5 m6 m7 m8 n2.2) (cwV 0 hts gL_law_X6_thrown rfl rfl rfl (by decide +kernel) ⟨Nat.le_of_ble_eq_true rfl, Nat.le_of_ble_eq_true rfl⟩) hP hK3 (w5 x ot ou ov oh ox oy S ++ w3 cI ot ot1 ot2 T ++ w3 cI ou ou1 ou2 Tr ++ w3 cI ov ov1 ov2 Sn ++ w1 oh rr Hs ++ wR cI cT rr ra rb rc G ++ w4 cI cC ox ox1 ox2 Xt ++ w2 cC oy oy1 Ln ++ [(o, .inl (cJ, 1, .inr (.inl n1.2)))] ++ [(oq, .inl (cQ, 1, .inr (.inr (.inr (.inl Oq)))))] : va_W) (pmI (fun a => by simp only [cntW_app, cntW_nil] <;> omega)) 44 (ci := 7) rfl rfl rfl rfl hl.1 rfl rfl (Nat.le_of_ble_eq_true rfl) ⟨Nat.le_trans (Nat.add_le_add_left (by decide) _) hcr.1, Nat.le_trans (Nat.add_le_add_left (by decide) _) hcr.2⟩ dL_law_775 ?_
  refine lv_iload hx hb dL_law_778 (lv_at hl 1 rfl) ?_
  obtain ⟨o7, hg⟩ := hg
  refine lv_icmp_eq (tgt := 785) hx hb dL_law_780 (by decide) (fun c_780 => ?_) (fun c_780 => absurd o7 c_780)
  refine lv_iload hx hb dL_law_785 (lv_at hl 1 rfl) ?_
  refine lv_if_ne (tgt := 809) hx hb dL_law_787 (by decide) (fun c_787_1 => ?_) (fun c_787_1 => ?_)
  · rw [if_neg c_787_1] at hg
    refine lv_goto (tgt := 2110) hx hb dL_law_809 (by decide) ?_
    refine lv_iinc (v := (x5 + 5)) (lv' := [(5, .int (x5 + 5)), (7, .int n2.1), (6, .int n1.1), (0, .ref b), (1, .ref x), (2, .ref mh), (3, .ref o), (4, .ref oq)]) hx hb dL_law_2110 hl (k := 7) rfl rfl (by decide) rfl (fun ls hl => ?_)
    refine lv_goto (tgt := 28) hx hb dL_law_2113 (by decide) ?_
    have e9 : fM_8 S T Tr Sn Hs G Xt Ln Mo O Oq xs L x5 = (n2.2, n1.2) := by rw [fM_8, ← en1, ← en2, if_neg c_787_1]
    refine W.widen (k := cells + 2) (n := slots + 12) (by omega) (by omega) ?_
    exact kb (n2.2, n1.2) e9.symm H locs ls hP hD hS (lv_sub hl [3, 4, 5, 6, 7, 0] rfl)
  · rw [if_pos c_787_1] at hg
    refine lv_aload_n hx hb dL_law_790 rfl (lv_at hl 5 rfl) ?_
    refine lv_iconst (v := 0) hx hb dL_law_791 (by decide) ?_
    obtain ⟨o8, hg⟩ := hg
    refine va_lald hx hb hK hP 53 3 rfl rfl o8 dL_law_792 ?_
    refine lv_iload hx hb dL_law_793 (lv_at hl 0 rfl) ?_
    refine lv_if_eq (tgt := 802) hx hb dL_law_795 (by decide) (fun c_795_2 => ?_) (fun c_795_2 => ?_)
    · rw [if_pos c_795_2] at hg
      refine lv_lconst (v := 0) hx hb dL_law_802 (by decide) ?_
      refine W.lcmp hx hb dL_law_803 ?_
      obtain ⟨o9, hg⟩ := hg
      refine lv_if_eq (tgt := 809) hx hb dL_law_804 (by decide) (fun c_804 => ?_) (fun c_804 => absurd o9 c_804)
      refine lv_goto (tgt := 2110) hx hb dL_law_809 (by decide) ?_
      refine lv_iinc (v := (x5 + 5)) (lv' := [(5, .int (x5 + 5)), (7, .int n2.1), (6, .int n1.1), (0, .ref b), (1, .ref x), (2, .ref mh), (3, .ref o), (4, .ref oq)]) hx hb dL_law_2110 hl (k := 7) rfl rfl (by decide) rfl (fun ls hl => ?_)
      refine lv_goto (tgt := 28) hx hb dL_law_2113 (by decide) ?_
      have e9 : fM_8 S T Tr Sn Hs G Xt Ln Mo O Oq xs L x5 = (n2.2, n1.2) := by rw [fM_8, ← en1, ← en2, if_pos c_787_1, if_pos c_795_2]
      refine W.widen (k := cells + 2) (n := slots + 12) (by omega) (by omega) ?_
      exact kb (n2.2, n1.2) e9.symm H locs ls hP hD hS (lv_sub hl [3, 4, 5, 6, 7, 0] rfl)
    · rw [if_neg c_795_2] at hg
      refine lv_lconst (v := 1) hx hb dL_law_798 (by decide) ?_
      refine lv_goto (tgt := 803) hx hb dL_law_799 (by decide) ?_
      refine W.lcmp hx hb dL_law_803 ?_
      obtain ⟨o10, hg⟩ := hg
      refine lv_if_eq (tgt := 809) hx hb dL_law_804 (by decide) (fun c_804 => ?_) (fun c_804 => absurd o10 c_804)
      refine lv_goto (tgt := 2110) hx hb dL_law_809 (by decide) ?_
      refine lv_iinc (v := (x5 + 5)) (lv' := [(5, .int (x5 + 5)), (7, .int n2.1), (6, .int n1.1), (0, .ref b), (1, .ref x), (2, .ref mh), (3, .ref o), (4, .ref oq)]) hx hb dL_law_2110 hl (k := 7) rfl rfl (by decide) rfl (fun ls hl => ?_)
      refine lv_goto (tgt := 28) hx hb dL_law_2113 (by decide) ?_
      have e9 : fM_8 S T Tr Sn Hs G Xt Ln Mo O Oq xs L x5 = (n2.2, n1.2) := by rw [fM_8, ← en1, ← en2, if_pos c_787_1, if_neg c_795_2]
      refine W.widen (k := cells + 2) (n := slots + 12) (by omega) (by omega) ?_
      exact kb (n2.2, n1.2) e9.symm H locs ls hP hD hS (lv_sub hl [3, 4, 5, 6, 7, 0] rfl)
def fM_9 (S : CV) (T : TV) (Tr : TV) (Sn : TV) (Hs : HV) (G : (Nat → TV)) (Xt : XV) (Ln : LV) (Mo : SV) (O : (Nat → Int64)) (Oq : (Nat → UInt64)) (xs : Nat → Int32) (L : Nat) (x5 : Int32) : (CV × TV × HV × (Nat → TV) × SV × (Nat → Int64)) := (if (fL_brawl S T Hs G O (xs ((x5 + 1)).toNatClampNeg) (xs ((x5 + 2)).toNatClampNeg)).1 = 0 then ((fL_brawl S T Hs G O (xs ((x5 + 1)).toNatClampNeg) (xs ((x5 + 2)).toNatClampNeg)).2.1, (fL_brawl S T Hs G O (xs ((x5 + 1)).toNatClampNeg) (xs ((x5 + 2)).toNatClampNeg)).2.2.1, (fL_brawl S T Hs G O (xs ((x5 + 1)).toNatClampNeg) (xs ((x5 + 2)).toNatClampNeg)).2.2.2.1, (fL_brawl S T Hs G O (xs ((x5 + 1)).toNatClampNeg) (xs ((x5 + 2)).toNatClampNeg)).2.2.2.2.1, (fX6_brawl Mo (xs ((x5 + 1)).toNatClampNeg) (xs ((x5 + 2)).toNatClampNeg)).2, (fL_brawl S T Hs G O (xs ((x5 + 1)).toNatClampNeg) (xs ((x5 + 2)).toNatClampNeg)).2.2.2.2.2) else ((fL_brawl S T Hs G O (xs ((x5 + 1)).toNatClampNeg) (xs ((x5 + 2)).toNatClampNeg)).2.1, (fL_brawl S T Hs G O (xs ((x5 + 1)).toNatClampNeg) (xs ((x5 + 2)).toNatClampNeg)).2.2.1, (fL_brawl S T Hs G O (xs ((x5 + 1)).toNatClampNeg) (xs ((x5 + 2)).toNatClampNeg)).2.2.2.1, (fL_brawl S T Hs G O (xs ((x5 + 1)).toNatClampNeg) (xs ((x5 + 2)).toNatClampNeg)).2.2.2.2.1, (fX6_brawl Mo (xs ((x5 + 1)).toNatClampNeg) (xs ((x5 + 2)).toNatClampNeg)).2, (fL_brawl S T Hs G O (xs ((x5 + 1)).toNatClampNeg) (xs ((x5 + 2)).toNatClampNeg)).2.2.2.2.2))
def gM_9 (S : CV) (T : TV) (Tr : TV) (Sn : TV) (Hs : HV) (G : (Nat → TV)) (Xt : XV) (Ln : LV) (Mo : SV) (O : (Nat → Int64)) (Oq : (Nat → UInt64)) (xs : Nat → Int32) (L : Nat) (x5 : Int32) : Prop := ((vp_in (x5 + 1) L) ∧ (vp_in (x5 + 2) L) ∧ (gL_brawl S T Hs G O (xs ((x5 + 1)).toNatClampNeg) (xs ((x5 + 2)).toNatClampNeg)) ∧ (vp_in (x5 + 1) L) ∧ (vp_in (x5 + 2) L) ∧ (gX6_brawl Mo (xs ((x5 + 1)).toNatClampNeg) (xs ((x5 + 2)).toNatClampNeg)) ∧ ((fX6_thrown (fX6_brawl Mo (xs ((x5 + 1)).toNatClampNeg) (xs ((x5 + 2)).toNatClampNeg)).2) = (fL_brawl S T Hs G O (xs ((x5 + 1)).toNatClampNeg) (xs ((x5 + 2)).toNatClampNeg)).1) ∧ (if (fL_brawl S T Hs G O (xs ((x5 + 1)).toNatClampNeg) (xs ((x5 + 2)).toNatClampNeg)).1 = 0 then ((vp_in 0 1) ∧ ((lg_cmp ((fL_brawl S T Hs G O (xs ((x5 + 1)).toNatClampNeg) (xs ((x5 + 2)).toNatClampNeg)).2.2.2.2.2 (0 : Int32).toNatClampNeg) ((fX6_brawl Mo (xs ((x5 + 1)).toNatClampNeg) (xs ((x5 + 2)).toNatClampNeg)).1.toInt64)) = 0) ∧ True) else True))
set_option maxHeartbeats 8000000 in
set_option maxRecDepth 100000 in
theorem cM_9 {p : Program} {e : Env} {s : State} {m : MethodId} {below : List Frame} {meth : Method} {c : Code} {Q : State → Prop} (l : Launch) (D : va_G) (cI cC cT cJ cQ : ClassId) (b x ot ou ov oh ox oy ot1 ot2 ou1 ou2 ov1 ov2 rr ox1 ox2 oy1 mh m1 m2 m3 m4 m5 m6 m7 m8 o oq : Nat) (ra rb rc : Nat → Nat) (S : CV) (T : TV) (Tr : TV) (Sn : TV) (Hs : HV) (G : (Nat → TV)) (Xt : XV) (Ln : LV) (Mo : SV) (O : (Nat → Int64)) (Oq : (Nat → UInt64)) (xs : Nat → Int32) (L : Nat) (x5 : Int32) (hst : l.stackTraces = false) (hn : ∃ j : Nat, j < 9 ∧ Hs.1 = nI j) (hc : ∀ i, narrow .char (.int (Ln.1 i)) = .int (Ln.1 i)) (hx : p.tables.exec = Jvm.exec) (hb : c.code = cL_law) (hml : c.maxLocals = 9) (hown : s.vm.findClass RL = some m.cls) (hts : ∀ w ∈ wsL_law, w.before #[Value.ref b] s = true) (hK : va_K D vwCl (TY5 cI cC cT cJ cQ) s) (hX : va_X b L xs s s.heap) (hbl : b < s.heap.size) (hbA : ¬ (fun q : Nat => s.heap.size ≤ q) b) (hXE : xE (fun q : Nat => s.heap.size ≤ q) s) (hXN : xN s) (H : Heap) (locs : List Loc) (ls : Array Slot) (cells slots : Nat) (hcr : cells + 2 ≤ room_1.cells ∧ slots + 12 ≤ room_1.slots) (hP : va_P D vwCl (w5 x ot ou ov oh ox oy S ++ w3 cI ot ot1 ot2 T ++ w3 cI ou ou1 ou2 Tr ++ w3 cI ov ov1 ov2 Sn ++ w1 oh rr Hs ++ wR cI cT rr ra rb rc G ++ w4 cI cC ox ox1 ox2 Xt ++ w2 cC oy oy1 Ln ++ w6 cI cC mh m1 m2 m3 m4 m5 m6 m7 m8 Mo ++ [(o, .inl (cJ, 1, .inr (.inl O)))] ++ [(oq, .inl (cQ, 1, .inr (.inr (.inr (.inl Oq)))))]) H) (hD : va_D (fun q : Nat => s.heap.size ≤ q) (w5 x ot ou ov oh ox oy S ++ w3 cI ot ot1 ot2 T ++ w3 cI ou ou1 ou2 Tr ++ w3 cI ov ov1 ov2 Sn ++ w1 oh rr Hs ++ wR cI cT rr ra rb rc G ++ w4 cI cC ox ox1 ox2 Xt ++ w2 cC oy oy1 Ln ++ w6 cI cC mh m1 m2 m3 m4 m5 m6 m7 m8 Mo ++ [(o, .inl (cJ, 1, .inr (.inl O)))] ++ [(oq, .inl (cQ, 1, .inr (.inr (.inr (.inl Oq)))))])) (hS : va_S (fun q : Nat => s.heap.size ≤ q) s.heap H locs) (hl : lv_has ls 9 [(0, .ref b), (1, .ref x), (2, .ref mh), (3, .ref o), (4, .ref oq), (5, .int x5)]) (hg : gM_9 S T Tr Sn Hs G Xt Ln Mo O Oq xs L x5) (kb : ∀ z9 : (CV × TV × HV × (Nat → TV) × SV × (Nat → Int64)), z9 = fM_9 S T Tr Sn Hs G Xt Ln Mo O Oq xs L x5 → ∀ (H : Heap) (locs : List Loc) (ls : Array Slot), va_P D vwCl (w5 x ot ou ov oh ox oy z9.1 ++ w3 cI ot ot1 ot2 z9.2.1 ++ w3 cI ou ou1 ou2 Tr ++ w3 cI ov ov1 ov2 Sn ++ w1 oh rr z9.2.2.1 ++ wR cI cT rr ra rb rc z9.2.2.2.1 ++ w4 cI cC ox ox1 ox2 Xt ++ w2 cC oy oy1 Ln ++ w6 cI cC mh m1 m2 m3 m4 m5 m6 m7 m8 z9.2.2.2.2.1 ++ [(o, .inl (cJ, 1, .inr (.inl z9.2.2.2.2.2)))] ++ [(oq, .inl (cQ, 1, .inr (.inr (.inr (.inl Oq)))))]) H → va_D (fun q : Nat => s.heap.size ≤ q) (w5 x ot ou ov oh ox oy z9.1 ++ w3 cI ot ot1 ot2 z9.2.1 ++ w3 cI ou ou1 ou2 Tr ++ w3 cI ov ov1 ov2 Sn ++ w1 oh rr z9.2.2.1 ++ wR cI cT rr ra rb rc z9.2.2.2.1 ++ w4 cI cC ox ox1 ox2 Xt ++ w2 cC oy oy1 Ln ++ w6 cI cC mh m1 m2 m3 m4 m5 m6 m7 m8 z9.2.2.2.2.1 ++ [(o, .inl (cJ, 1, .inr (.inl z9.2.2.2.2.2)))] ++ [(oq, .inl (cQ, 1, .inr (.inr (.inr (.inl Oq)))))]) → va_S (fun q : Nat => s.heap.size ≤ q) s.heap H locs → lv_has ls 9 [(0, .ref b), (1, .ref x), (2, .ref mh), (3, .ref o), (4, .ref oq), (5, .int (x5 + 5))] → W p l e room_1 s m #[Value.ref b] below meth c H locs (cells + 2) (slots + 12) Q (F0 m 28 ls [])) :
    W p l e room_1 s m #[Value.ref b] below meth c H locs cells slots Q (F0 m 812 ls []) := by
  have hP : va_P D vwCl (w5 x ot ou ov oh ox oy S ++ w3 cI ot ot1 ot2 T ++ w3 cI ou ou1 ou2 Tr ++ w3 cI ov ov1 ov2 Sn ++ w1 oh rr Hs ++ wR cI cT rr ra rb rc G ++ w4 cI cC ox ox1 ox2 Xt ++ w2 cC oy oy1 Ln ++ w6 cI cC mh m1 m2 m3 m4 m5 m6 m7 m8 Mo ++ [(o, .inl (cJ, 1, .inr (.inl O)))] ++ [(oq, .inl (cQ, 1, .inr (.inr (.inr (.inl Oq)))))]) H := hP
  have hD : va_D (fun q : Nat => s.heap.size ≤ q) (w5 x ot ou ov oh ox oy S ++ w3 cI ot ot1 ot2 T ++ w3 cI ou ou1 ou2 Tr ++ w3 cI ov ov1 ov2 Sn ++ w1 oh rr Hs ++ wR cI cT rr ra rb rc G ++ w4 cI cC ox ox1 ox2 Xt ++ w2 cC oy oy1 Ln ++ w6 cI cC mh m1 m2 m3 m4 m5 m6 m7 m8 Mo ++ [(o, .inl (cJ, 1, .inr (.inl O)))] ++ [(oq, .inl (cQ, 1, .inr (.inr (.inr (.inl Oq)))))]) := hD
  have hK3 := hK.sub (tys' := TY cI cC cT) [0, 1, 2] rfl
  unfold gM_9 at hg
  refine lv_aload_n hx hb dL_law_812 rfl (lv_at hl 1 rfl) ?_
  refine lv_aload_n hx hb dL_law_813 rfl (lv_at hl 0 rfl) ?_
  refine lv_iload hx hb dL_law_814 (lv_at hl 5 rfl) ?_
  refine lv_iconst (v := 1) hx hb dL_law_816 (by decide) ?_
  refine lv_iadd hx hb dL_law_817 ?_
  obtain ⟨o1, hg⟩ := hg
  refine va_sld hx hb hX hbl hbA hS o1 dL_law_818 ?_
  refine lv_aload_n hx hb dL_law_819 rfl (lv_at hl 0 rfl) ?_
  refine lv_iload hx hb dL_law_820 (lv_at hl 5 rfl) ?_
  refine lv_iconst (v := 2) hx hb dL_law_822 (by decide) ?_
  refine lv_iadd hx hb dL_law_823 ?_
  obtain ⟨o2, hg⟩ := hg
  refine va_sld hx hb hX hbl hbA hS o2 dL_law_824 ?_
  refine lv_aload_n hx hb dL_law_825 rfl (lv_at hl 3 rfl) ?_
  obtain ⟨n1, en1⟩ : ∃ z9, z9 = (fL_brawl S T Hs G O (xs ((x5 + 1)).toNatClampNeg) (xs ((x5 + 2)).toNatClampNeg)) := ⟨_, rfl⟩
  try rw [← en1] at hg
  obtain ⟨o3, hg⟩ := hg
  have k9 := (kL_brawl l D cI cC cT cJ cQ x ot ou ov oh ox oy ot1 ot2 rr o ra rb rc S T Hs G O (xs ((x5 + 1)).toNatClampNeg) (xs ((x5 + 2)).toNatClampNeg) hst hn o3)
  rw [← en1] at k9
  refine fLq (As := [.ref x, .int (xs ((x5 + 1)).toNatClampNeg), .int (xs ((x5 + 2)).toNatClampNeg), .ref o]) (rest := []) ⟨hx, hb, hml, hown, hts⟩ k9 (vx_cwSW (hh := [(0, 10, 13, 28), (0, 10, 17, 13), (0, 10, 21, 15)]) 4 hts gL_law_L_brawl rfl rfl rfl (by decide +kernel) ⟨Nat.le_of_ble_eq_true rfl, Nat.le_of_ble_eq_true rfl⟩) hP hK hD hS hXE hXN (w3 cI ou ou1 ou2 Tr ++ w3 cI ov ov1 ov2 Sn ++ w4 cI cC ox ox1 ox2 Xt ++ w2 cC oy oy1 Ln ++ w6 cI cC mh m1 m2 m3 m4 m5 m6 m7 m8 Mo ++ [(oq, .inl (cQ, 1, .inr (.inr (.inr (.inl Oq)))))] : va_W) (pmI (fun a => by simp only [cntW_app, cntW_nil] <;> omega)) (w5 x ot ou ov oh ox oy n1.2.1 ++ w3 cI ot ot1 ot2 n1.2.2.1 ++ w3 cI ou ou1 ou2 Tr ++ w3 cI ov ov1 ov2 Sn ++ w1 oh rr n1.2.2.2.1 ++ wR cI cT rr ra rb rc n1.2.2.2.2.1 ++ w4 cI cC ox ox1 ox2 Xt ++ w2 cC oy oy1 Ln ++ w6 cI cC mh m1 m2 m3 m4 m5 m6 m7 m8 Mo ++ [(o, .inl (cJ, 1, .inr (.inl n1.2.2.2.2.2)))] ++ [(oq, .inl (cQ, 1, .inr (.inr (.inr (.inl Oq)))))]) (pmI (fun a => by simp only [cntW_app, cntW_nil] <;> omega)) rfl rfl hl.1 rfl (Nat.le_of_ble_eq_true rfl) ⟨Nat.le_trans (Nat.add_le_add_left (by decide) _) hcr.1, Nat.le_trans (Nat.add_le_add_left (by decide) _) hcr.2⟩ dL_law_826 (fun H locs hP hD hS => ?_)
  refine lv_istore (lv' := [(6, .int n1.1), (0, .ref b), (1, .ref x), (2, .ref mh), (3, .ref o), (4, .ref oq), (5, .int x5)]) hx hb dL_law_829 hl (by decide) rfl (fun ls hl => ?_)
  refine lv_aload_n hx hb dL_law_831 rfl (lv_at hl 3 rfl) ?_
  refine lv_aload_n hx hb dL_law_832 rfl (lv_at hl 1 rfl) ?_
  refine lv_iload hx hb dL_law_833 (lv_at hl 6 rfl) ?_
  refine lv_iconst (v := 1) hx hb dL_law_835 (by decide) ?_
  refine lv_iadd hx hb dL_law_836 ?_
  obtain ⟨o4, hg⟩ := hg
  refine va_sld hx hb hX hbl hbA hS o4 dL_law_837 ?_
  refine lv_aload_n hx hb dL_law_838 rfl (lv_at hl 1 rfl) ?_
  refine lv_iload hx hb dL_law_839 (lv_at hl 6 rfl) ?_
  refine lv_iconst (v := 2) hx hb dL_law_841 (by decide) ?_
  refine lv_iadd hx hb dL_law_842 ?_
  obtain ⟨o5, hg⟩ := hg
  refine va_sld hx hb hX hbl hbA hS o5 dL_law_843 ?_
  obtain ⟨n2, en2⟩ : ∃ z9, z9 = (fX6_brawl Mo (xs ((x5 + 1)).toNatClampNeg) (xs ((x5 + 2)).toNatClampNeg)) := ⟨_, rfl⟩
  try rw [← en2] at hg
  obtain ⟨o6, hg⟩ := hg
  have k9 := (kX6_brawl l D cI cC cT mh m1 m2 m3 m4 m5 m6 m7 m8 Mo (xs ((x5 + 1)).toNatClampNeg) (xs ((x5 + 2)).toNatClampNeg) o6)
  rw [← en2] at k9
  refine fUq (As := [.int (xs ((x5 + 1)).toNatClampNeg), .int (xs ((x5 + 2)).toNatClampNeg)]) (rest := []) (st' := [.int n2.1]) ⟨hx, hb, hml, hown, hts⟩ k9 (cwV 2 hts gL_law_X6_brawl rfl rfl rfl (by decide +kernel) ⟨Nat.le_of_ble_eq_true rfl, Nat.le_of_ble_eq_true rfl⟩) hP hK3 hD hS (w5 x ot ou ov oh ox oy n1.2.1 ++ w3 cI ot ot1 ot2 n1.2.2.1 ++ w3 cI ou ou1 ou2 Tr ++ w3 cI ov ov1 ov2 Sn ++ w1 oh rr n1.2.2.2.1 ++ wR cI cT rr ra rb rc n1.2.2.2.2.1 ++ w4 cI cC ox ox1 ox2 Xt ++ w2 cC oy oy1 Ln ++ [(o, .inl (cJ, 1, .inr (.inl n1.2.2.2.2.2)))] ++ [(oq, .inl (cQ, 1, .inr (.inr (.inr (.inl Oq)))))] : va_W) (pmI (fun a => by simp only [cntW_app, cntW_nil] <;> omega)) (w5 x ot ou ov oh ox oy n1.2.1 ++ w3 cI ot ot1 ot2 n1.2.2.1 ++ w3 cI ou ou1 ou2 Tr ++ w3 cI ov ov1 ov2 Sn ++ w1 oh rr n1.2.2.2.1 ++ wR cI cT rr ra rb rc n1.2.2.2.2.1 ++ w4 cI cC ox ox1 ox2 Xt ++ w2 cC oy oy1 Ln ++ w6 cI cC mh m1 m2 m3 m4 m5 m6 m7 m8 n2.2 ++ [(o, .inl (cJ, 1, .inr (.inl n1.2.2.2.2.2)))] ++ [(oq, .inl (cQ, 1, .inr (.inr (.inr (.inl Oq)))))]) (pmI (fun a => by simp only [cntW_app, cntW_nil] <;> omega)) rfl 44 (ci := 7) rfl rfl rfl rfl hl.1 rfl rfl (Nat.le_of_ble_eq_true rfl) ⟨Nat.le_trans (Nat.add_le_add_left (by decide) _) hcr.1, Nat.le_trans (Nat.add_le_add_left (by decide) _) hcr.2⟩ dL_law_844 (fun H locs hP hD hS => ?_)
  refine lv_istore (lv' := [(7, .int n2.1), (6, .int n1.1), (0, .ref b), (1, .ref x), (2, .ref mh), (3, .ref o), (4, .ref oq), (5, .int x5)]) hx hb dL_law_847 hl (by decide) rfl (fun ls hl => ?_)
  refine lv_aload_n hx hb dL_law_849 rfl (lv_at hl 4 rfl) ?_
  refine fRq (As := []) (rest := []) (st' := [.int (fX6_thrown n2.2)]) ⟨hx, hb, hml, hown, hts⟩ (kX6_thrown l D cI cC cT mh m1 m2 m3 m4 m5 m6 m7 m8 n2.2) (cwV 0 hts gL_law_X6_thrown rfl rfl rfl (by decide +kernel) ⟨Nat.le_of_ble_eq_true rfl, Nat.le_of_ble_eq_true rfl⟩) hP hK3 (w5 x ot ou ov oh ox oy n1.2.1 ++ w3 cI ot ot1 ot2 n1.2.2.1 ++ w3 cI ou ou1 ou2 Tr ++ w3 cI ov ov1 ov2 Sn ++ w1 oh rr n1.2.2.2.1 ++ wR cI cT rr ra rb rc n1.2.2.2.2.1 ++ w4 cI cC ox ox1 ox2 Xt ++ w2 cC oy oy1 Ln ++ [(o, .inl (cJ, 1, .inr (.inl n1.2.2.2.2.2)))] ++ [(oq, .inl (cQ, 1, .inr (.inr (.inr (.inl Oq)))))] : va_W) (pmI (fun a => by simp only [cntW_app, cntW_nil] <;> omega)) 44 (ci := 7) rfl rfl rfl rfl hl.1 rfl rfl (Nat.le_of_ble_eq_true rfl) ⟨Nat.le_trans (Nat.add_le_add_left (by decide) _) hcr.1, Nat.le_trans (Nat.add_le_add_left (by decide) _) hcr.2⟩ dL_law_850 ?_
  refine lv_iload hx hb dL_law_853 (lv_at hl 1 rfl) ?_
  obtain ⟨o7, hg⟩ := hg
  refine lv_icmp_eq (tgt := 860) hx hb dL_law_855 (by decide) (fun c_855 => ?_) (fun c_855 => absurd o7 c_855)
  refine lv_iload hx hb dL_law_860 (lv_at hl 1 rfl) ?_
  refine lv_if_ne (tgt := 877) hx hb dL_law_862 (by decide) (fun c_862_1 => ?_) (fun c_862_1 => ?_)
  · rw [if_neg c_862_1] at hg
    refine lv_goto (tgt := 2110) hx hb dL_law_877 (by decide) ?_
    refine lv_iinc (v := (x5 + 5)) (lv' := [(5, .int (x5 + 5)), (7, .int n2.1), (6, .int n1.1), (0, .ref b), (1, .ref x), (2, .ref mh), (3, .ref o), (4, .ref oq)]) hx hb dL_law_2110 hl (k := 7) rfl rfl (by decide) rfl (fun ls hl => ?_)
    refine lv_goto (tgt := 28) hx hb dL_law_2113 (by decide) ?_
    have e9 : fM_9 S T Tr Sn Hs G Xt Ln Mo O Oq xs L x5 = (n1.2.1, n1.2.2.1, n1.2.2.2.1, n1.2.2.2.2.1, n2.2, n1.2.2.2.2.2) := by rw [fM_9, ← en1, ← en2, if_neg c_862_1]
    refine W.widen (k := cells + 2) (n := slots + 12) (by omega) (by omega) ?_
    exact kb (n1.2.1, n1.2.2.1, n1.2.2.2.1, n1.2.2.2.2.1, n2.2, n1.2.2.2.2.2) e9.symm H locs ls hP hD hS (lv_sub hl [3, 4, 5, 6, 7, 0] rfl)
  · rw [if_pos c_862_1] at hg
    refine lv_aload_n hx hb dL_law_865 rfl (lv_at hl 5 rfl) ?_
    refine lv_iconst (v := 0) hx hb dL_law_866 (by decide) ?_
    obtain ⟨o8, hg⟩ := hg
    refine va_lald hx hb hK hP 53 3 rfl rfl o8 dL_law_867 ?_
    refine lv_iload hx hb dL_law_868 (lv_at hl 0 rfl) ?_
    refine lv_i2l (v := (n2.1.toInt64)) hx hb dL_law_870 rfl ?_
    refine W.lcmp hx hb dL_law_871 ?_
    obtain ⟨o9, hg⟩ := hg
    refine lv_if_eq (tgt := 877) hx hb dL_law_872 (by decide) (fun c_872 => ?_) (fun c_872 => absurd o9 c_872)
    refine lv_goto (tgt := 2110) hx hb dL_law_877 (by decide) ?_
    refine lv_iinc (v := (x5 + 5)) (lv' := [(5, .int (x5 + 5)), (7, .int n2.1), (6, .int n1.1), (0, .ref b), (1, .ref x), (2, .ref mh), (3, .ref o), (4, .ref oq)]) hx hb dL_law_2110 hl (k := 7) rfl rfl (by decide) rfl (fun ls hl => ?_)
    refine lv_goto (tgt := 28) hx hb dL_law_2113 (by decide) ?_
    have e9 : fM_9 S T Tr Sn Hs G Xt Ln Mo O Oq xs L x5 = (n1.2.1, n1.2.2.1, n1.2.2.2.1, n1.2.2.2.2.1, n2.2, n1.2.2.2.2.2) := by rw [fM_9, ← en1, ← en2, if_pos c_862_1]
    refine W.widen (k := cells + 2) (n := slots + 12) (by omega) (by omega) ?_
    exact kb (n1.2.1, n1.2.2.1, n1.2.2.2.1, n1.2.2.2.2.1, n2.2, n1.2.2.2.2.2) e9.symm H locs ls hP hD hS (lv_sub hl [3, 4, 5, 6, 7, 0] rfl)
def fM_10 (S : CV) (T : TV) (Tr : TV) (Sn : TV) (Hs : HV) (G : (Nat → TV)) (Xt : XV) (Ln : LV) (Mo : SV) (O : (Nat → Int64)) (Oq : (Nat → UInt64)) (xs : Nat → Int32) (L : Nat) (x5 : Int32) : (TV × SV) := ((fX5_wouldMove S T Tr).2, (fX6_wouldMove Mo).2)
def gM_10 (S : CV) (T : TV) (Tr : TV) (Sn : TV) (Hs : HV) (G : (Nat → TV)) (Xt : XV) (Ln : LV) (Mo : SV) (O : (Nat → Int64)) (Oq : (Nat → UInt64)) (xs : Nat → Int32) (L : Nat) (x5 : Int32) : Prop := ((gX6_wouldMove Mo) ∧ ((fX5_wouldMove S T Tr).1 = (fX6_wouldMove Mo).1) ∧ True)
set_option maxHeartbeats 8000000 in
set_option maxRecDepth 100000 in
theorem cM_10 {p : Program} {e : Env} {s : State} {m : MethodId} {below : List Frame} {meth : Method} {c : Code} {Q : State → Prop} (l : Launch) (D : va_G) (cI cC cT cJ cQ : ClassId) (b x ot ou ov oh ox oy ot1 ot2 ou1 ou2 ov1 ov2 rr ox1 ox2 oy1 mh m1 m2 m3 m4 m5 m6 m7 m8 o oq : Nat) (ra rb rc : Nat → Nat) (S : CV) (T : TV) (Tr : TV) (Sn : TV) (Hs : HV) (G : (Nat → TV)) (Xt : XV) (Ln : LV) (Mo : SV) (O : (Nat → Int64)) (Oq : (Nat → UInt64)) (xs : Nat → Int32) (L : Nat) (x5 : Int32) (hst : l.stackTraces = false) (hn : ∃ j : Nat, j < 9 ∧ Hs.1 = nI j) (hc : ∀ i, narrow .char (.int (Ln.1 i)) = .int (Ln.1 i)) (hx : p.tables.exec = Jvm.exec) (hb : c.code = cL_law) (hml : c.maxLocals = 9) (hown : s.vm.findClass RL = some m.cls) (hts : ∀ w ∈ wsL_law, w.before #[Value.ref b] s = true) (hK : va_K D vwCl (TY5 cI cC cT cJ cQ) s) (hX : va_X b L xs s s.heap) (hbl : b < s.heap.size) (hbA : ¬ (fun q : Nat => s.heap.size ≤ q) b) (hXE : xE (fun q : Nat => s.heap.size ≤ q) s) (hXN : xN s) (H : Heap) (locs : List Loc) (ls : Array Slot) (cells slots : Nat) (hcr : cells + 2 ≤ room_1.cells ∧ slots + 12 ≤ room_1.slots) (hP : va_P D vwCl (w5 x ot ou ov oh ox oy S ++ w3 cI ot ot1 ot2 T ++ w3 cI ou ou1 ou2 Tr ++ w3 cI ov ov1 ov2 Sn ++ w1 oh rr Hs ++ wR cI cT rr ra rb rc G ++ w4 cI cC ox ox1 ox2 Xt ++ w2 cC oy oy1 Ln ++ w6 cI cC mh m1 m2 m3 m4 m5 m6 m7 m8 Mo ++ [(o, .inl (cJ, 1, .inr (.inl O)))] ++ [(oq, .inl (cQ, 1, .inr (.inr (.inr (.inl Oq)))))]) H) (hD : va_D (fun q : Nat => s.heap.size ≤ q) (w5 x ot ou ov oh ox oy S ++ w3 cI ot ot1 ot2 T ++ w3 cI ou ou1 ou2 Tr ++ w3 cI ov ov1 ov2 Sn ++ w1 oh rr Hs ++ wR cI cT rr ra rb rc G ++ w4 cI cC ox ox1 ox2 Xt ++ w2 cC oy oy1 Ln ++ w6 cI cC mh m1 m2 m3 m4 m5 m6 m7 m8 Mo ++ [(o, .inl (cJ, 1, .inr (.inl O)))] ++ [(oq, .inl (cQ, 1, .inr (.inr (.inr (.inl Oq)))))])) (hS : va_S (fun q : Nat => s.heap.size ≤ q) s.heap H locs) (hl : lv_has ls 9 [(0, .ref b), (1, .ref x), (2, .ref mh), (3, .ref o), (4, .ref oq), (5, .int x5)]) (hg : gM_10 S T Tr Sn Hs G Xt Ln Mo O Oq xs L x5) (kb : ∀ z9 : (TV × SV), z9 = fM_10 S T Tr Sn Hs G Xt Ln Mo O Oq xs L x5 → ∀ (H : Heap) (locs : List Loc) (ls : Array Slot), va_P D vwCl (w5 x ot ou ov oh ox oy S ++ w3 cI ot ot1 ot2 T ++ w3 cI ou ou1 ou2 z9.1 ++ w3 cI ov ov1 ov2 Sn ++ w1 oh rr Hs ++ wR cI cT rr ra rb rc G ++ w4 cI cC ox ox1 ox2 Xt ++ w2 cC oy oy1 Ln ++ w6 cI cC mh m1 m2 m3 m4 m5 m6 m7 m8 z9.2 ++ [(o, .inl (cJ, 1, .inr (.inl O)))] ++ [(oq, .inl (cQ, 1, .inr (.inr (.inr (.inl Oq)))))]) H → va_D (fun q : Nat => s.heap.size ≤ q) (w5 x ot ou ov oh ox oy S ++ w3 cI ot ot1 ot2 T ++ w3 cI ou ou1 ou2 z9.1 ++ w3 cI ov ov1 ov2 Sn ++ w1 oh rr Hs ++ wR cI cT rr ra rb rc G ++ w4 cI cC ox ox1 ox2 Xt ++ w2 cC oy oy1 Ln ++ w6 cI cC mh m1 m2 m3 m4 m5 m6 m7 m8 z9.2 ++ [(o, .inl (cJ, 1, .inr (.inl O)))] ++ [(oq, .inl (cQ, 1, .inr (.inr (.inr (.inl Oq)))))]) → va_S (fun q : Nat => s.heap.size ≤ q) s.heap H locs → lv_has ls 9 [(0, .ref b), (1, .ref x), (2, .ref mh), (3, .ref o), (4, .ref oq), (5, .int (x5 + 5))] → W p l e room_1 s m #[Value.ref b] below meth c H locs (cells + 2) (slots + 12) Q (F0 m 28 ls [])) :
    W p l e room_1 s m #[Value.ref b] below meth c H locs cells slots Q (F0 m 880 ls []) := by
  have hP : va_P D vwCl (w5 x ot ou ov oh ox oy S ++ w3 cI ot ot1 ot2 T ++ w3 cI ou ou1 ou2 Tr ++ w3 cI ov ov1 ov2 Sn ++ w1 oh rr Hs ++ wR cI cT rr ra rb rc G ++ w4 cI cC ox ox1 ox2 Xt ++ w2 cC oy oy1 Ln ++ w6 cI cC mh m1 m2 m3 m4 m5 m6 m7 m8 Mo ++ [(o, .inl (cJ, 1, .inr (.inl O)))] ++ [(oq, .inl (cQ, 1, .inr (.inr (.inr (.inl Oq)))))]) H := hP
  have hD : va_D (fun q : Nat => s.heap.size ≤ q) (w5 x ot ou ov oh ox oy S ++ w3 cI ot ot1 ot2 T ++ w3 cI ou ou1 ou2 Tr ++ w3 cI ov ov1 ov2 Sn ++ w1 oh rr Hs ++ wR cI cT rr ra rb rc G ++ w4 cI cC ox ox1 ox2 Xt ++ w2 cC oy oy1 Ln ++ w6 cI cC mh m1 m2 m3 m4 m5 m6 m7 m8 Mo ++ [(o, .inl (cJ, 1, .inr (.inl O)))] ++ [(oq, .inl (cQ, 1, .inr (.inr (.inr (.inl Oq)))))]) := hD
  have hK3 := hK.sub (tys' := TY cI cC cT) [0, 1, 2] rfl
  unfold gM_10 at hg
  refine lv_aload_n hx hb dL_law_880 rfl (lv_at hl 1 rfl) ?_
  obtain ⟨n1, en1⟩ : ∃ z9, z9 = (fX5_wouldMove S T Tr) := ⟨_, rfl⟩
  try rw [← en1] at hg
  have k9 := (kX5_wouldMove l D cI cC cT x ot ou ov oh ox oy ot1 ot2 ou1 ou2 S T Tr)
  rw [← en1] at k9
  refine fUq (As := []) (rest := []) (st' := [.int n1.1]) ⟨hx, hb, hml, hown, hts⟩ k9 (cwV 0 hts gL_law_X5_wouldMove rfl rfl rfl (by decide +kernel) ⟨Nat.le_of_ble_eq_true rfl, Nat.le_of_ble_eq_true rfl⟩) hP hK3 hD hS (w3 cI ov ov1 ov2 Sn ++ w1 oh rr Hs ++ wR cI cT rr ra rb rc G ++ w4 cI cC ox ox1 ox2 Xt ++ w2 cC oy oy1 Ln ++ w6 cI cC mh m1 m2 m3 m4 m5 m6 m7 m8 Mo ++ [(o, .inl (cJ, 1, .inr (.inl O)))] ++ [(oq, .inl (cQ, 1, .inr (.inr (.inr (.inl Oq)))))] : va_W) (pmI (fun a => by simp only [cntW_app, cntW_nil] <;> omega)) (w5 x ot ou ov oh ox oy S ++ w3 cI ot ot1 ot2 T ++ w3 cI ou ou1 ou2 n1.2 ++ w3 cI ov ov1 ov2 Sn ++ w1 oh rr Hs ++ wR cI cT rr ra rb rc G ++ w4 cI cC ox ox1 ox2 Xt ++ w2 cC oy oy1 Ln ++ w6 cI cC mh m1 m2 m3 m4 m5 m6 m7 m8 Mo ++ [(o, .inl (cJ, 1, .inr (.inl O)))] ++ [(oq, .inl (cQ, 1, .inr (.inr (.inr (.inl Oq)))))]) (pmI (fun a => by simp only [cntW_app, cntW_nil] <;> omega)) rfl 0 (ci := 6) rfl rfl rfl rfl hl.1 rfl rfl (Nat.le_of_ble_eq_true rfl) ⟨Nat.le_trans (Nat.le_add_right _ _) hcr.1, Nat.le_trans (Nat.le_add_right _ _) hcr.2⟩ dL_law_881 (fun H locs hP hD hS => ?_)
  refine lv_aload_n hx hb dL_law_884 rfl (lv_at hl 2 rfl) ?_
  obtain ⟨n2, en2⟩ : ∃ z9, z9 = (fX6_wouldMove Mo) := ⟨_, rfl⟩
  try rw [← en2] at hg
  obtain ⟨o1, hg⟩ := hg
  have k9 := (kX6_wouldMove l D cI cC cT mh m1 m2 m3 m4 m5 m6 m7 m8 Mo o1)
  rw [← en2] at k9
  refine fUq (As := []) (rest := [.int n1.1]) (st' := [.int n2.1, .int n1.1]) ⟨hx, hb, hml, hown, hts⟩ k9 (cwV 0 hts gL_law_X6_wouldMove rfl rfl rfl (by decide +kernel) ⟨Nat.le_of_ble_eq_true rfl, Nat.le_of_ble_eq_true rfl⟩) hP hK3 hD hS (w5 x ot ou ov oh ox oy S ++ w3 cI ot ot1 ot2 T ++ w3 cI ou ou1 ou2 n1.2 ++ w3 cI ov ov1 ov2 Sn ++ w1 oh rr Hs ++ wR cI cT rr ra rb rc G ++ w4 cI cC ox ox1 ox2 Xt ++ w2 cC oy oy1 Ln ++ [(o, .inl (cJ, 1, .inr (.inl O)))] ++ [(oq, .inl (cQ, 1, .inr (.inr (.inr (.inl Oq)))))] : va_W) (pmI (fun a => by simp only [cntW_app, cntW_nil] <;> omega)) (w5 x ot ou ov oh ox oy S ++ w3 cI ot ot1 ot2 T ++ w3 cI ou ou1 ou2 n1.2 ++ w3 cI ov ov1 ov2 Sn ++ w1 oh rr Hs ++ wR cI cT rr ra rb rc G ++ w4 cI cC ox ox1 ox2 Xt ++ w2 cC oy oy1 Ln ++ w6 cI cC mh m1 m2 m3 m4 m5 m6 m7 m8 n2.2 ++ [(o, .inl (cJ, 1, .inr (.inl O)))] ++ [(oq, .inl (cQ, 1, .inr (.inr (.inr (.inl Oq)))))]) (pmI (fun a => by simp only [cntW_app, cntW_nil] <;> omega)) rfl 44 (ci := 7) rfl rfl rfl rfl hl.1 rfl rfl (Nat.le_of_ble_eq_true rfl) ⟨Nat.le_trans (Nat.le_add_right _ _) hcr.1, Nat.le_trans (Nat.le_add_right _ _) hcr.2⟩ dL_law_885 (fun H locs hP hD hS => ?_)
  obtain ⟨o2, hg⟩ := hg
  refine lv_icmp_eq (tgt := 2110) hx hb dL_law_888 (by decide) (fun c_888 => ?_) (fun c_888 => absurd o2 c_888)
  refine lv_iinc (v := (x5 + 5)) (lv' := [(5, .int (x5 + 5)), (0, .ref b), (1, .ref x), (2, .ref mh), (3, .ref o), (4, .ref oq)]) hx hb dL_law_2110 hl (k := 5) rfl rfl (by decide) rfl (fun ls hl => ?_)
  refine lv_goto (tgt := 28) hx hb dL_law_2113 (by decide) ?_
  have e9 : fM_10 S T Tr Sn Hs G Xt Ln Mo O Oq xs L x5 = (n1.2, n2.2) := by rw [fM_10, ← en1, ← en2]
  refine W.widen (k := cells + 2) (n := slots + 12) (by omega) (by omega) ?_
  exact kb (n1.2, n2.2) e9.symm H locs ls hP hD hS (lv_sub hl [1, 2, 3, 4, 5, 0] rfl)
def fM_11 (S : CV) (T : TV) (Tr : TV) (Sn : TV) (Hs : HV) (G : (Nat → TV)) (Xt : XV) (Ln : LV) (Mo : SV) (O : (Nat → Int64)) (Oq : (Nat → UInt64)) (xs : Nat → Int32) (L : Nat) (x5 : Int32) : (CV × TV × HV × (Nat → TV) × SV × (Nat → Int64)) := (if (fL_swap S T Hs G O (xs ((x5 + 1)).toNatClampNeg) (xs ((x5 + 2)).toNatClampNeg)).1 = 0 then ((fL_swap S T Hs G O (xs ((x5 + 1)).toNatClampNeg) (xs ((x5 + 2)).toNatClampNeg)).2.1, (fL_swap S T Hs G O (xs ((x5 + 1)).toNatClampNeg) (xs ((x5 + 2)).toNatClampNeg)).2.2.1, (fL_swap S T Hs G O (xs ((x5 + 1)).toNatClampNeg) (xs ((x5 + 2)).toNatClampNeg)).2.2.2.1, (fL_swap S T Hs G O (xs ((x5 + 1)).toNatClampNeg) (xs ((x5 + 2)).toNatClampNeg)).2.2.2.2.1, (fX6_swap Mo (xs ((x5 + 1)).toNatClampNeg) (xs ((x5 + 2)).toNatClampNeg)).2, (fL_swap S T Hs G O (xs ((x5 + 1)).toNatClampNeg) (xs ((x5 + 2)).toNatClampNeg)).2.2.2.2.2) else ((fL_swap S T Hs G O (xs ((x5 + 1)).toNatClampNeg) (xs ((x5 + 2)).toNatClampNeg)).2.1, (fL_swap S T Hs G O (xs ((x5 + 1)).toNatClampNeg) (xs ((x5 + 2)).toNatClampNeg)).2.2.1, (fL_swap S T Hs G O (xs ((x5 + 1)).toNatClampNeg) (xs ((x5 + 2)).toNatClampNeg)).2.2.2.1, (fL_swap S T Hs G O (xs ((x5 + 1)).toNatClampNeg) (xs ((x5 + 2)).toNatClampNeg)).2.2.2.2.1, (fX6_swap Mo (xs ((x5 + 1)).toNatClampNeg) (xs ((x5 + 2)).toNatClampNeg)).2, (fL_swap S T Hs G O (xs ((x5 + 1)).toNatClampNeg) (xs ((x5 + 2)).toNatClampNeg)).2.2.2.2.2))
def gM_11 (S : CV) (T : TV) (Tr : TV) (Sn : TV) (Hs : HV) (G : (Nat → TV)) (Xt : XV) (Ln : LV) (Mo : SV) (O : (Nat → Int64)) (Oq : (Nat → UInt64)) (xs : Nat → Int32) (L : Nat) (x5 : Int32) : Prop := ((vp_in (x5 + 1) L) ∧ (vp_in (x5 + 2) L) ∧ (gL_swap S T Hs G O (xs ((x5 + 1)).toNatClampNeg) (xs ((x5 + 2)).toNatClampNeg)) ∧ (vp_in (x5 + 1) L) ∧ (vp_in (x5 + 2) L) ∧ (gX6_swap Mo (xs ((x5 + 1)).toNatClampNeg) (xs ((x5 + 2)).toNatClampNeg)) ∧ ((fX6_thrown (fX6_swap Mo (xs ((x5 + 1)).toNatClampNeg) (xs ((x5 + 2)).toNatClampNeg)).2) = (fL_swap S T Hs G O (xs ((x5 + 1)).toNatClampNeg) (xs ((x5 + 2)).toNatClampNeg)).1) ∧ (if (fL_swap S T Hs G O (xs ((x5 + 1)).toNatClampNeg) (xs ((x5 + 2)).toNatClampNeg)).1 = 0 then ((vp_in 0 1) ∧ ((lg_cmp ((fL_swap S T Hs G O (xs ((x5 + 1)).toNatClampNeg) (xs ((x5 + 2)).toNatClampNeg)).2.2.2.2.2 (0 : Int32).toNatClampNeg) ((fX6_swap Mo (xs ((x5 + 1)).toNatClampNeg) (xs ((x5 + 2)).toNatClampNeg)).1.toInt64)) = 0) ∧ True) else True))
set_option maxHeartbeats 8000000 in
set_option maxRecDepth 100000 in
theorem cM_11 {p : Program} {e : Env} {s : State} {m : MethodId} {below : List Frame} {meth : Method} {c : Code} {Q : State → Prop} (l : Launch) (D : va_G) (cI cC cT cJ cQ : ClassId) (b x ot ou ov oh ox oy ot1 ot2 ou1 ou2 ov1 ov2 rr ox1 ox2 oy1 mh m1 m2 m3 m4 m5 m6 m7 m8 o oq : Nat) (ra rb rc : Nat → Nat) (S : CV) (T : TV) (Tr : TV) (Sn : TV) (Hs : HV) (G : (Nat → TV)) (Xt : XV) (Ln : LV) (Mo : SV) (O : (Nat → Int64)) (Oq : (Nat → UInt64)) (xs : Nat → Int32) (L : Nat) (x5 : Int32) (hst : l.stackTraces = false) (hn : ∃ j : Nat, j < 9 ∧ Hs.1 = nI j) (hc : ∀ i, narrow .char (.int (Ln.1 i)) = .int (Ln.1 i)) (hx : p.tables.exec = Jvm.exec) (hb : c.code = cL_law) (hml : c.maxLocals = 9) (hown : s.vm.findClass RL = some m.cls) (hts : ∀ w ∈ wsL_law, w.before #[Value.ref b] s = true) (hK : va_K D vwCl (TY5 cI cC cT cJ cQ) s) (hX : va_X b L xs s s.heap) (hbl : b < s.heap.size) (hbA : ¬ (fun q : Nat => s.heap.size ≤ q) b) (hXE : xE (fun q : Nat => s.heap.size ≤ q) s) (hXN : xN s) (H : Heap) (locs : List Loc) (ls : Array Slot) (cells slots : Nat) (hcr : cells + 2 ≤ room_1.cells ∧ slots + 12 ≤ room_1.slots) (hP : va_P D vwCl (w5 x ot ou ov oh ox oy S ++ w3 cI ot ot1 ot2 T ++ w3 cI ou ou1 ou2 Tr ++ w3 cI ov ov1 ov2 Sn ++ w1 oh rr Hs ++ wR cI cT rr ra rb rc G ++ w4 cI cC ox ox1 ox2 Xt ++ w2 cC oy oy1 Ln ++ w6 cI cC mh m1 m2 m3 m4 m5 m6 m7 m8 Mo ++ [(o, .inl (cJ, 1, .inr (.inl O)))] ++ [(oq, .inl (cQ, 1, .inr (.inr (.inr (.inl Oq)))))]) H) (hD : va_D (fun q : Nat => s.heap.size ≤ q) (w5 x ot ou ov oh ox oy S ++ w3 cI ot ot1 ot2 T ++ w3 cI ou ou1 ou2 Tr ++ w3 cI ov ov1 ov2 Sn ++ w1 oh rr Hs ++ wR cI cT rr ra rb rc G ++ w4 cI cC ox ox1 ox2 Xt ++ w2 cC oy oy1 Ln ++ w6 cI cC mh m1 m2 m3 m4 m5 m6 m7 m8 Mo ++ [(o, .inl (cJ, 1, .inr (.inl O)))] ++ [(oq, .inl (cQ, 1, .inr (.inr (.inr (.inl Oq)))))])) (hS : va_S (fun q : Nat => s.heap.size ≤ q) s.heap H locs) (hl : lv_has ls 9 [(0, .ref b), (1, .ref x), (2, .ref mh), (3, .ref o), (4, .ref oq), (5, .int x5)]) (hg : gM_11 S T Tr Sn Hs G Xt Ln Mo O Oq xs L x5) (kb : ∀ z9 : (CV × TV × HV × (Nat → TV) × SV × (Nat → Int64)), z9 = fM_11 S T Tr Sn Hs G Xt Ln Mo O Oq xs L x5 → ∀ (H : Heap) (locs : List Loc) (ls : Array Slot), va_P D vwCl (w5 x ot ou ov oh ox oy z9.1 ++ w3 cI ot ot1 ot2 z9.2.1 ++ w3 cI ou ou1 ou2 Tr ++ w3 cI ov ov1 ov2 Sn ++ w1 oh rr z9.2.2.1 ++ wR cI cT rr ra rb rc z9.2.2.2.1 ++ w4 cI cC ox ox1 ox2 Xt ++ w2 cC oy oy1 Ln ++ w6 cI cC mh m1 m2 m3 m4 m5 m6 m7 m8 z9.2.2.2.2.1 ++ [(o, .inl (cJ, 1, .inr (.inl z9.2.2.2.2.2)))] ++ [(oq, .inl (cQ, 1, .inr (.inr (.inr (.inl Oq)))))]) H → va_D (fun q : Nat => s.heap.size ≤ q) (w5 x ot ou ov oh ox oy z9.1 ++ w3 cI ot ot1 ot2 z9.2.1 ++ w3 cI ou ou1 ou2 Tr ++ w3 cI ov ov1 ov2 Sn ++ w1 oh rr z9.2.2.1 ++ wR cI cT rr ra rb rc z9.2.2.2.1 ++ w4 cI cC ox ox1 ox2 Xt ++ w2 cC oy oy1 Ln ++ w6 cI cC mh m1 m2 m3 m4 m5 m6 m7 m8 z9.2.2.2.2.1 ++ [(o, .inl (cJ, 1, .inr (.inl z9.2.2.2.2.2)))] ++ [(oq, .inl (cQ, 1, .inr (.inr (.inr (.inl Oq)))))]) → va_S (fun q : Nat => s.heap.size ≤ q) s.heap H locs → lv_has ls 9 [(0, .ref b), (1, .ref x), (2, .ref mh), (3, .ref o), (4, .ref oq), (5, .int (x5 + 5))] → W p l e room_1 s m #[Value.ref b] below meth c H locs (cells + 2) (slots + 12) Q (F0 m 28 ls [])) :
    W p l e room_1 s m #[Value.ref b] below meth c H locs cells slots Q (F0 m 893 ls []) := by
  have hP : va_P D vwCl (w5 x ot ou ov oh ox oy S ++ w3 cI ot ot1 ot2 T ++ w3 cI ou ou1 ou2 Tr ++ w3 cI ov ov1 ov2 Sn ++ w1 oh rr Hs ++ wR cI cT rr ra rb rc G ++ w4 cI cC ox ox1 ox2 Xt ++ w2 cC oy oy1 Ln ++ w6 cI cC mh m1 m2 m3 m4 m5 m6 m7 m8 Mo ++ [(o, .inl (cJ, 1, .inr (.inl O)))] ++ [(oq, .inl (cQ, 1, .inr (.inr (.inr (.inl Oq)))))]) H := hP
  have hD : va_D (fun q : Nat => s.heap.size ≤ q) (w5 x ot ou ov oh ox oy S ++ w3 cI ot ot1 ot2 T ++ w3 cI ou ou1 ou2 Tr ++ w3 cI ov ov1 ov2 Sn ++ w1 oh rr Hs ++ wR cI cT rr ra rb rc G ++ w4 cI cC ox ox1 ox2 Xt ++ w2 cC oy oy1 Ln ++ w6 cI cC mh m1 m2 m3 m4 m5 m6 m7 m8 Mo ++ [(o, .inl (cJ, 1, .inr (.inl O)))] ++ [(oq, .inl (cQ, 1, .inr (.inr (.inr (.inl Oq)))))]) := hD
  have hK3 := hK.sub (tys' := TY cI cC cT) [0, 1, 2] rfl
  unfold gM_11 at hg
  refine lv_aload_n hx hb dL_law_893 rfl (lv_at hl 1 rfl) ?_
  refine lv_aload_n hx hb dL_law_894 rfl (lv_at hl 0 rfl) ?_
  refine lv_iload hx hb dL_law_895 (lv_at hl 5 rfl) ?_
  refine lv_iconst (v := 1) hx hb dL_law_897 (by decide) ?_
  refine lv_iadd hx hb dL_law_898 ?_
  obtain ⟨o1, hg⟩ := hg
  refine va_sld hx hb hX hbl hbA hS o1 dL_law_899 ?_
  refine lv_aload_n hx hb dL_law_900 rfl (lv_at hl 0 rfl) ?_
  refine lv_iload hx hb dL_law_901 (lv_at hl 5 rfl) ?_
  refine lv_iconst (v := 2) hx hb dL_law_903 (by decide) ?_
  refine lv_iadd hx hb dL_law_904 ?_
  obtain ⟨o2, hg⟩ := hg
  refine va_sld hx hb hX hbl hbA hS o2 dL_law_905 ?_
  refine lv_aload_n hx hb dL_law_906 rfl (lv_at hl 3 rfl) ?_
  obtain ⟨n1, en1⟩ : ∃ z9, z9 = (fL_swap S T Hs G O (xs ((x5 + 1)).toNatClampNeg) (xs ((x5 + 2)).toNatClampNeg)) := ⟨_, rfl⟩
  try rw [← en1] at hg
  obtain ⟨o3, hg⟩ := hg
  have k9 := (kL_swap l D cI cC cT cJ cQ x ot ou ov oh ox oy ot1 ot2 rr o ra rb rc S T Hs G O (xs ((x5 + 1)).toNatClampNeg) (xs ((x5 + 2)).toNatClampNeg) hst hn o3)
  rw [← en1] at k9
  refine fLq (As := [.ref x, .int (xs ((x5 + 1)).toNatClampNeg), .int (xs ((x5 + 2)).toNatClampNeg), .ref o]) (rest := []) ⟨hx, hb, hml, hown, hts⟩ k9 (vx_cwSW (hh := [(0, 10, 13, 28), (0, 10, 17, 13), (0, 10, 21, 15)]) 4 hts gL_law_L_swap rfl rfl rfl (by decide +kernel) ⟨Nat.le_of_ble_eq_true rfl, Nat.le_of_ble_eq_true rfl⟩) hP hK hD hS hXE hXN (w3 cI ou ou1 ou2 Tr ++ w3 cI ov ov1 ov2 Sn ++ w4 cI cC ox ox1 ox2 Xt ++ w2 cC oy oy1 Ln ++ w6 cI cC mh m1 m2 m3 m4 m5 m6 m7 m8 Mo ++ [(oq, .inl (cQ, 1, .inr (.inr (.inr (.inl Oq)))))] : va_W) (pmI (fun a => by simp only [cntW_app, cntW_nil] <;> omega)) (w5 x ot ou ov oh ox oy n1.2.1 ++ w3 cI ot ot1 ot2 n1.2.2.1 ++ w3 cI ou ou1 ou2 Tr ++ w3 cI ov ov1 ov2 Sn ++ w1 oh rr n1.2.2.2.1 ++ wR cI cT rr ra rb rc n1.2.2.2.2.1 ++ w4 cI cC ox ox1 ox2 Xt ++ w2 cC oy oy1 Ln ++ w6 cI cC mh m1 m2 m3 m4 m5 m6 m7 m8 Mo ++ [(o, .inl (cJ, 1, .inr (.inl n1.2.2.2.2.2)))] ++ [(oq, .inl (cQ, 1, .inr (.inr (.inr (.inl Oq)))))]) (pmI (fun a => by simp only [cntW_app, cntW_nil] <;> omega)) rfl rfl hl.1 rfl (Nat.le_of_ble_eq_true rfl) ⟨Nat.le_trans (Nat.add_le_add_left (by decide) _) hcr.1, Nat.le_trans (Nat.add_le_add_left (by decide) _) hcr.2⟩ dL_law_907 (fun H locs hP hD hS => ?_)
  refine lv_istore (lv' := [(6, .int n1.1), (0, .ref b), (1, .ref x), (2, .ref mh), (3, .ref o), (4, .ref oq), (5, .int x5)]) hx hb dL_law_910 hl (by decide) rfl (fun ls hl => ?_)
  refine lv_aload_n hx hb dL_law_912 rfl (lv_at hl 3 rfl) ?_
  refine lv_aload_n hx hb dL_law_913 rfl (lv_at hl 1 rfl) ?_
  refine lv_iload hx hb dL_law_914 (lv_at hl 6 rfl) ?_
  refine lv_iconst (v := 1) hx hb dL_law_916 (by decide) ?_
  refine lv_iadd hx hb dL_law_917 ?_
  obtain ⟨o4, hg⟩ := hg
  refine va_sld hx hb hX hbl hbA hS o4 dL_law_918 ?_
  refine lv_aload_n hx hb dL_law_919 rfl (lv_at hl 1 rfl) ?_
  refine lv_iload hx hb dL_law_920 (lv_at hl 6 rfl) ?_
  refine lv_iconst (v := 2) hx hb dL_law_922 (by decide) ?_
  refine lv_iadd hx hb dL_law_923 ?_
  obtain ⟨o5, hg⟩ := hg
  refine va_sld hx hb hX hbl hbA hS o5 dL_law_924 ?_
  obtain ⟨n2, en2⟩ : ∃ z9, z9 = (fX6_swap Mo (xs ((x5 + 1)).toNatClampNeg) (xs ((x5 + 2)).toNatClampNeg)) := ⟨_, rfl⟩
  try rw [← en2] at hg
  obtain ⟨o6, hg⟩ := hg
  have k9 := (kX6_swap l D cI cC cT mh m1 m2 m3 m4 m5 m6 m7 m8 Mo (xs ((x5 + 1)).toNatClampNeg) (xs ((x5 + 2)).toNatClampNeg) o6)
  rw [← en2] at k9
  refine fUq (As := [.int (xs ((x5 + 1)).toNatClampNeg), .int (xs ((x5 + 2)).toNatClampNeg)]) (rest := []) (st' := [.int n2.1]) ⟨hx, hb, hml, hown, hts⟩ k9 (cwV 2 hts gL_law_X6_swap rfl rfl rfl (by decide +kernel) ⟨Nat.le_of_ble_eq_true rfl, Nat.le_of_ble_eq_true rfl⟩) hP hK3 hD hS (w5 x ot ou ov oh ox oy n1.2.1 ++ w3 cI ot ot1 ot2 n1.2.2.1 ++ w3 cI ou ou1 ou2 Tr ++ w3 cI ov ov1 ov2 Sn ++ w1 oh rr n1.2.2.2.1 ++ wR cI cT rr ra rb rc n1.2.2.2.2.1 ++ w4 cI cC ox ox1 ox2 Xt ++ w2 cC oy oy1 Ln ++ [(o, .inl (cJ, 1, .inr (.inl n1.2.2.2.2.2)))] ++ [(oq, .inl (cQ, 1, .inr (.inr (.inr (.inl Oq)))))] : va_W) (pmI (fun a => by simp only [cntW_app, cntW_nil] <;> omega)) (w5 x ot ou ov oh ox oy n1.2.1 ++ w3 cI ot ot1 ot2 n1.2.2.1 ++ w3 cI ou ou1 ou2 Tr ++ w3 cI ov ov1 ov2 Sn ++ w1 oh rr n1.2.2.2.1 ++ wR cI cT rr ra rb rc n1.2.2.2.2.1 ++ w4 cI cC ox ox1 ox2 Xt ++ w2 cC oy oy1 Ln ++ w6 cI cC mh m1 m2 m3 m4 m5 m6 m7 m8 n2.2 ++ [(o, .inl (cJ, 1, .inr (.inl n1.2.2.2.2.2)))] ++ [(oq, .inl (cQ, 1, .inr (.inr (.inr (.inl Oq)))))]) (pmI (fun a => by simp only [cntW_app, cntW_nil] <;> omega)) rfl 44 (ci := 7) rfl rfl rfl rfl hl.1 rfl rfl (Nat.le_of_ble_eq_true rfl) ⟨Nat.le_trans (Nat.add_le_add_left (by decide) _) hcr.1, Nat.le_trans (Nat.add_le_add_left (by decide) _) hcr.2⟩ dL_law_925 (fun H locs hP hD hS => ?_)
  refine lv_istore (lv' := [(7, .int n2.1), (6, .int n1.1), (0, .ref b), (1, .ref x), (2, .ref mh), (3, .ref o), (4, .ref oq), (5, .int x5)]) hx hb dL_law_928 hl (by decide) rfl (fun ls hl => ?_)
  refine lv_aload_n hx hb dL_law_930 rfl (lv_at hl 4 rfl) ?_
  refine fRq (As := []) (rest := []) (st' := [.int (fX6_thrown n2.2)]) ⟨hx, hb, hml, hown, hts⟩ (kX6_thrown l D cI cC cT mh m1 m2 m3 m4 m5 m6 m7 m8 n2.2) (cwV 0 hts gL_law_X6_thrown rfl rfl rfl (by decide +kernel) ⟨Nat.le_of_ble_eq_true rfl, Nat.le_of_ble_eq_true rfl⟩) hP hK3 (w5 x ot ou ov oh ox oy n1.2.1 ++ w3 cI ot ot1 ot2 n1.2.2.1 ++ w3 cI ou ou1 ou2 Tr ++ w3 cI ov ov1 ov2 Sn ++ w1 oh rr n1.2.2.2.1 ++ wR cI cT rr ra rb rc n1.2.2.2.2.1 ++ w4 cI cC ox ox1 ox2 Xt ++ w2 cC oy oy1 Ln ++ [(o, .inl (cJ, 1, .inr (.inl n1.2.2.2.2.2)))] ++ [(oq, .inl (cQ, 1, .inr (.inr (.inr (.inl Oq)))))] : va_W) (pmI (fun a => by simp only [cntW_app, cntW_nil] <;> omega)) 44 (ci := 7) rfl rfl rfl rfl hl.1 rfl rfl (Nat.le_of_ble_eq_true rfl) ⟨Nat.le_trans (Nat.add_le_add_left (by decide) _) hcr.1, Nat.le_trans (Nat.add_le_add_left (by decide) _) hcr.2⟩ dL_law_931 ?_
  refine lv_iload hx hb dL_law_934 (lv_at hl 1 rfl) ?_
  obtain ⟨o7, hg⟩ := hg
  refine lv_icmp_eq (tgt := 941) hx hb dL_law_936 (by decide) (fun c_936 => ?_) (fun c_936 => absurd o7 c_936)
  refine lv_iload hx hb dL_law_941 (lv_at hl 1 rfl) ?_
  refine lv_if_ne (tgt := 958) hx hb dL_law_943 (by decide) (fun c_943_1 => ?_) (fun c_943_1 => ?_)
  · rw [if_neg c_943_1] at hg
    refine lv_goto (tgt := 2110) hx hb dL_law_958 (by decide) ?_
    refine lv_iinc (v := (x5 + 5)) (lv' := [(5, .int (x5 + 5)), (7, .int n2.1), (6, .int n1.1), (0, .ref b), (1, .ref x), (2, .ref mh), (3, .ref o), (4, .ref oq)]) hx hb dL_law_2110 hl (k := 7) rfl rfl (by decide) rfl (fun ls hl => ?_)
    refine lv_goto (tgt := 28) hx hb dL_law_2113 (by decide) ?_
    have e9 : fM_11 S T Tr Sn Hs G Xt Ln Mo O Oq xs L x5 = (n1.2.1, n1.2.2.1, n1.2.2.2.1, n1.2.2.2.2.1, n2.2, n1.2.2.2.2.2) := by rw [fM_11, ← en1, ← en2, if_neg c_943_1]
    refine W.widen (k := cells + 2) (n := slots + 12) (by omega) (by omega) ?_
    exact kb (n1.2.1, n1.2.2.1, n1.2.2.2.1, n1.2.2.2.2.1, n2.2, n1.2.2.2.2.2) e9.symm H locs ls hP hD hS (lv_sub hl [3, 4, 5, 6, 7, 0] rfl)
  · rw [if_pos c_943_1] at hg
    refine lv_aload_n hx hb dL_law_946 rfl (lv_at hl 5 rfl) ?_
    refine lv_iconst (v := 0) hx hb dL_law_947 (by decide) ?_
    obtain ⟨o8, hg⟩ := hg
    refine va_lald hx hb hK hP 53 3 rfl rfl o8 dL_law_948 ?_
    refine lv_iload hx hb dL_law_949 (lv_at hl 0 rfl) ?_
    refine lv_i2l (v := (n2.1.toInt64)) hx hb dL_law_951 rfl ?_
    refine W.lcmp hx hb dL_law_952 ?_
    obtain ⟨o9, hg⟩ := hg
    refine lv_if_eq (tgt := 958) hx hb dL_law_953 (by decide) (fun c_953 => ?_) (fun c_953 => absurd o9 c_953)
    refine lv_goto (tgt := 2110) hx hb dL_law_958 (by decide) ?_
    refine lv_iinc (v := (x5 + 5)) (lv' := [(5, .int (x5 + 5)), (7, .int n2.1), (6, .int n1.1), (0, .ref b), (1, .ref x), (2, .ref mh), (3, .ref o), (4, .ref oq)]) hx hb dL_law_2110 hl (k := 7) rfl rfl (by decide) rfl (fun ls hl => ?_)
    refine lv_goto (tgt := 28) hx hb dL_law_2113 (by decide) ?_
    have e9 : fM_11 S T Tr Sn Hs G Xt Ln Mo O Oq xs L x5 = (n1.2.1, n1.2.2.1, n1.2.2.2.1, n1.2.2.2.2.1, n2.2, n1.2.2.2.2.2) := by rw [fM_11, ← en1, ← en2, if_pos c_943_1]
    refine W.widen (k := cells + 2) (n := slots + 12) (by omega) (by omega) ?_
    exact kb (n1.2.1, n1.2.2.1, n1.2.2.2.1, n1.2.2.2.2.1, n2.2, n1.2.2.2.2.2) e9.symm H locs ls hP hD hS (lv_sub hl [3, 4, 5, 6, 7, 0] rfl)
