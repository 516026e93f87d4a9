def fM_24 (S : CV) (T : TV) (Tr : TV) (Sn : TV) (Hs : HV) (G : (Nat → TV)) (Xt : XV) (Ln : LV) (Mo : SV) (O : (Nat → Int64)) (Oq : (Nat → UInt64)) (xs : Nat → Int32) (L : Nat) (x5 : Int32) : (LV × SV × (Nat → Int64)) := (if (fL_stoolLine S T Ln O (xs ((x5 + 1)).toNatClampNeg)).1 = 0 then ((fL_stoolLine S T Ln O (xs ((x5 + 1)).toNatClampNeg)).2.1, (fX6_stoolLine Mo (xs ((x5 + 1)).toNatClampNeg)).2, (fL_stoolLine S T Ln O (xs ((x5 + 1)).toNatClampNeg)).2.2) else ((fL_stoolLine S T Ln O (xs ((x5 + 1)).toNatClampNeg)).2.1, (fX6_stoolLine Mo (xs ((x5 + 1)).toNatClampNeg)).2, (fL_stoolLine S T Ln O (xs ((x5 + 1)).toNatClampNeg)).2.2))
def gM_24 (S : CV) (T : TV) (Tr : TV) (Sn : TV) (Hs : HV) (G : (Nat → TV)) (Xt : XV) (Ln : LV) (Mo : SV) (O : (Nat → Int64)) (Oq : (Nat → UInt64)) (xs : Nat → Int32) (L : Nat) (x5 : Int32) : Prop := ((vp_in (x5 + 1) L) ∧ (gL_stoolLine S T Ln O (xs ((x5 + 1)).toNatClampNeg)) ∧ (vp_in (x5 + 1) L) ∧ (gX6_stoolLine Mo (xs ((x5 + 1)).toNatClampNeg)) ∧ ((fX6_thrown (fX6_stoolLine Mo (xs ((x5 + 1)).toNatClampNeg)).2) = (fL_stoolLine S T Ln O (xs ((x5 + 1)).toNatClampNeg)).1) ∧ (if (fL_stoolLine S T Ln O (xs ((x5 + 1)).toNatClampNeg)).1 = 0 then ((vp_in 0 1) ∧ ((lg_cmp ((fL_stoolLine S T Ln O (xs ((x5 + 1)).toNatClampNeg)).2.2 (0 : Int32).toNatClampNeg) ((fX6_stoolLine Mo (xs ((x5 + 1)).toNatClampNeg)).1.toInt64)) = 0) ∧ True) else True))
set_option maxHeartbeats 8000000 in
set_option maxRecDepth 100000 in
theorem cM_24 {p : Program} {e : Env} {s : State} {m : MethodId} {below : List Frame} {meth : Method} {c : Code} {Q : State → Prop} (l : Launch) (D : va_G) (cI cC cT cJ cQ : ClassId) (b x ot ou ov oh ox oy ot1 ot2 ou1 ou2 ov1 ov2 rr ox1 ox2 oy1 mh m1 m2 m3 m4 m5 m6 m7 m8 o oq : Nat) (ra rb rc : Nat → Nat) (S : CV) (T : TV) (Tr : TV) (Sn : TV) (Hs : HV) (G : (Nat → TV)) (Xt : XV) (Ln : LV) (Mo : SV) (O : (Nat → Int64)) (Oq : (Nat → UInt64)) (xs : Nat → Int32) (L : Nat) (x5 : Int32) (hst : l.stackTraces = false) (hn : ∃ j : Nat, j < 9 ∧ Hs.1 = nI j) (hc : ∀ i, narrow .char (.int (Ln.1 i)) = .int (Ln.1 i)) (hx : p.tables.exec = Jvm.exec) (hb : c.code = cL_law) (hml : c.maxLocals = 9) (hown : s.vm.findClass RL = some m.cls) (hts : ∀ w ∈ wsL_law, w.before #[Value.ref b] s = true) (hK : va_K D vwCl (TY5 cI cC cT cJ cQ) s) (hX : va_X b L xs s s.heap) (hbl : b < s.heap.size) (hbA : ¬ (fun q : Nat => s.heap.size ≤ q) b) (hXE : xE (fun q : Nat => s.heap.size ≤ q) s) (hXN : xN s) (H : Heap) (locs : List Loc) (ls : Array Slot) (cells slots : Nat) (hcr : cells + 2 ≤ room_1.cells ∧ slots + 12 ≤ room_1.slots) (hP : va_P D vwCl (w5 x ot ou ov oh ox oy S ++ w3 cI ot ot1 ot2 T ++ w3 cI ou ou1 ou2 Tr ++ w3 cI ov ov1 ov2 Sn ++ w1 oh rr Hs ++ wR cI cT rr ra rb rc G ++ w4 cI cC ox ox1 ox2 Xt ++ w2 cC oy oy1 Ln ++ w6 cI cC mh m1 m2 m3 m4 m5 m6 m7 m8 Mo ++ [(o, .inl (cJ, 1, .inr (.inl O)))] ++ [(oq, .inl (cQ, 1, .inr (.inr (.inr (.inl Oq)))))]) H) (hD : va_D (fun q : Nat => s.heap.size ≤ q) (w5 x ot ou ov oh ox oy S ++ w3 cI ot ot1 ot2 T ++ w3 cI ou ou1 ou2 Tr ++ w3 cI ov ov1 ov2 Sn ++ w1 oh rr Hs ++ wR cI cT rr ra rb rc G ++ w4 cI cC ox ox1 ox2 Xt ++ w2 cC oy oy1 Ln ++ w6 cI cC mh m1 m2 m3 m4 m5 m6 m7 m8 Mo ++ [(o, .inl (cJ, 1, .inr (.inl O)))] ++ [(oq, .inl (cQ, 1, .inr (.inr (.inr (.inl Oq)))))])) (hS : va_S (fun q : Nat => s.heap.size ≤ q) s.heap H locs) (hl : lv_has ls 9 [(0, .ref b), (1, .ref x), (2, .ref mh), (3, .ref o), (4, .ref oq), (5, .int x5)]) (hg : gM_24 S T Tr Sn Hs G Xt Ln Mo O Oq xs L x5) (kb : ∀ z9 : (LV × SV × (Nat → Int64)), z9 = fM_24 S T Tr Sn Hs G Xt Ln Mo O Oq xs L x5 → ∀ (H : Heap) (locs : List Loc) (ls : Array Slot), va_P D vwCl (w5 x ot ou ov oh ox oy S ++ w3 cI ot ot1 ot2 T ++ w3 cI ou ou1 ou2 Tr ++ w3 cI ov ov1 ov2 Sn ++ w1 oh rr Hs ++ wR cI cT rr ra rb rc G ++ w4 cI cC ox ox1 ox2 Xt ++ w2 cC oy oy1 z9.1 ++ w6 cI cC mh m1 m2 m3 m4 m5 m6 m7 m8 z9.2.1 ++ [(o, .inl (cJ, 1, .inr (.inl z9.2.2)))] ++ [(oq, .inl (cQ, 1, .inr (.inr (.inr (.inl Oq)))))]) H → va_D (fun q : Nat => s.heap.size ≤ q) (w5 x ot ou ov oh ox oy S ++ w3 cI ot ot1 ot2 T ++ w3 cI ou ou1 ou2 Tr ++ w3 cI ov ov1 ov2 Sn ++ w1 oh rr Hs ++ wR cI cT rr ra rb rc G ++ w4 cI cC ox ox1 ox2 Xt ++ w2 cC oy oy1 z9.1 ++ w6 cI cC mh m1 m2 m3 m4 m5 m6 m7 m8 z9.2.1 ++ [(o, .inl (cJ, 1, .inr (.inl z9.2.2)))] ++ [(oq, .inl (cQ, 1, .inr (.inr (.inr (.inl Oq)))))]) → va_S (fun q : Nat => s.heap.size ≤ q) s.heap H locs → lv_has ls 9 [(0, .ref b), (1, .ref x), (2, .ref mh), (3, .ref o), (4, .ref oq), (5, .int (x5 + 5))] → W p l e room_1 s m #[Value.ref b] below meth c H locs (cells + 2) (slots + 12) Q (F0 m 28 ls [])) :
    W p l e room_1 s m #[Value.ref b] below meth c H locs cells slots Q (F0 m 1576 ls []) := by
  have hP : va_P D vwCl (w5 x ot ou ov oh ox oy S ++ w3 cI ot ot1 ot2 T ++ w3 cI ou ou1 ou2 Tr ++ w3 cI ov ov1 ov2 Sn ++ w1 oh rr Hs ++ wR cI cT rr ra rb rc G ++ w4 cI cC ox ox1 ox2 Xt ++ w2 cC oy oy1 Ln ++ w6 cI cC mh m1 m2 m3 m4 m5 m6 m7 m8 Mo ++ [(o, .inl (cJ, 1, .inr (.inl O)))] ++ [(oq, .inl (cQ, 1, .inr (.inr (.inr (.inl Oq)))))]) H := hP
  have hD : va_D (fun q : Nat => s.heap.size ≤ q) (w5 x ot ou ov oh ox oy S ++ w3 cI ot ot1 ot2 T ++ w3 cI ou ou1 ou2 Tr ++ w3 cI ov ov1 ov2 Sn ++ w1 oh rr Hs ++ wR cI cT rr ra rb rc G ++ w4 cI cC ox ox1 ox2 Xt ++ w2 cC oy oy1 Ln ++ w6 cI cC mh m1 m2 m3 m4 m5 m6 m7 m8 Mo ++ [(o, .inl (cJ, 1, .inr (.inl O)))] ++ [(oq, .inl (cQ, 1, .inr (.inr (.inr (.inl Oq)))))]) := hD
  have hK3 := hK.sub (tys' := TY cI cC cT) [0, 1, 2] rfl
  unfold gM_24 at hg
  refine lv_aload_n hx hb dL_law_1576 rfl (lv_at hl 1 rfl) ?_
  refine lv_aload_n hx hb dL_law_1577 rfl (lv_at hl 0 rfl) ?_
  refine lv_iload hx hb dL_law_1578 (lv_at hl 5 rfl) ?_
  refine lv_iconst (v := 1) hx hb dL_law_1580 (by decide) ?_
  refine lv_iadd hx hb dL_law_1581 ?_
  obtain ⟨o1, hg⟩ := hg
  refine va_sld hx hb hX hbl hbA hS o1 dL_law_1582 ?_
  refine lv_aload_n hx hb dL_law_1583 rfl (lv_at hl 3 rfl) ?_
  obtain ⟨n1, en1⟩ : ∃ z9, z9 = (fL_stoolLine S T Ln O (xs ((x5 + 1)).toNatClampNeg)) := ⟨_, rfl⟩
  try rw [← en1] at hg
  obtain ⟨o2, hg⟩ := hg
  have k9 := (kL_stoolLine l D cI cC cT cJ cQ x ot ou ov oh ox oy ot1 ot2 oy1 o S T Ln O (xs ((x5 + 1)).toNatClampNeg) hst o2)
  rw [← en1] at k9
  refine fLq (As := [.ref x, .int (xs ((x5 + 1)).toNatClampNeg), .ref o]) (rest := []) ⟨hx, hb, hml, hown, hts⟩ k9 (vx_cwSW (hh := [(0, 9, 12, 28)]) 3 hts gL_law_L_stoolLine rfl rfl rfl (by decide +kernel) ⟨Nat.le_of_ble_eq_true rfl, Nat.le_of_ble_eq_true rfl⟩) hP hK hD hS hXE hXN (w3 cI ou ou1 ou2 Tr ++ w3 cI ov ov1 ov2 Sn ++ w1 oh rr Hs ++ wR cI cT rr ra rb rc G ++ w4 cI cC ox ox1 ox2 Xt ++ w6 cI cC mh m1 m2 m3 m4 m5 m6 m7 m8 Mo ++ [(oq, .inl (cQ, 1, .inr (.inr (.inr (.inl Oq)))))] : va_W) (pmI (fun a => by simp only [cntW_app, cntW_nil] <;> omega)) (w5 x ot ou ov oh ox oy S ++ w3 cI ot ot1 ot2 T ++ w3 cI ou ou1 ou2 Tr ++ w3 cI ov ov1 ov2 Sn ++ w1 oh rr Hs ++ wR cI cT rr ra rb rc G ++ w4 cI cC ox ox1 ox2 Xt ++ w2 cC oy oy1 n1.2.1 ++ w6 cI cC mh m1 m2 m3 m4 m5 m6 m7 m8 Mo ++ [(o, .inl (cJ, 1, .inr (.inl n1.2.2)))] ++ [(oq, .inl (cQ, 1, .inr (.inr (.inr (.inl Oq)))))]) (pmI (fun a => by simp only [cntW_app, cntW_nil] <;> omega)) rfl rfl hl.1 rfl (Nat.le_of_ble_eq_true rfl) ⟨Nat.le_trans (Nat.add_le_add_left (by decide) _) hcr.1, Nat.le_trans (Nat.add_le_add_left (by decide) _) hcr.2⟩ dL_law_1584 (fun H locs hP hD hS => ?_)
  refine lv_istore (lv' := [(6, .int n1.1), (0, .ref b), (1, .ref x), (2, .ref mh), (3, .ref o), (4, .ref oq), (5, .int x5)]) hx hb dL_law_1587 hl (by decide) rfl (fun ls hl => ?_)
  refine lv_aload_n hx hb dL_law_1589 rfl (lv_at hl 3 rfl) ?_
  refine lv_aload_n hx hb dL_law_1590 rfl (lv_at hl 1 rfl) ?_
  refine lv_iload hx hb dL_law_1591 (lv_at hl 6 rfl) ?_
  refine lv_iconst (v := 1) hx hb dL_law_1593 (by decide) ?_
  refine lv_iadd hx hb dL_law_1594 ?_
  obtain ⟨o3, hg⟩ := hg
  refine va_sld hx hb hX hbl hbA hS o3 dL_law_1595 ?_
  obtain ⟨n2, en2⟩ : ∃ z9, z9 = (fX6_stoolLine Mo (xs ((x5 + 1)).toNatClampNeg)) := ⟨_, rfl⟩
  try rw [← en2] at hg
  obtain ⟨o4, hg⟩ := hg
  have k9 := (kX6_stoolLine l D cI cC cT mh m1 m2 m3 m4 m5 m6 m7 m8 Mo (xs ((x5 + 1)).toNatClampNeg) o4)
  rw [← en2] at k9
  refine fUq (As := [.int (xs ((x5 + 1)).toNatClampNeg)]) (rest := []) (st' := [.int n2.1]) ⟨hx, hb, hml, hown, hts⟩ k9 (cwV 1 hts gL_law_X6_stoolLine rfl rfl rfl (by decide +kernel) ⟨Nat.le_of_ble_eq_true rfl, Nat.le_of_ble_eq_true rfl⟩) hP hK3 hD hS (w5 x ot ou ov oh ox oy S ++ w3 cI ot ot1 ot2 T ++ w3 cI ou ou1 ou2 Tr ++ w3 cI ov ov1 ov2 Sn ++ w1 oh rr Hs ++ wR cI cT rr ra rb rc G ++ w4 cI cC ox ox1 ox2 Xt ++ w2 cC oy oy1 n1.2.1 ++ [(o, .inl (cJ, 1, .inr (.inl n1.2.2)))] ++ [(oq, .inl (cQ, 1, .inr (.inr (.inr (.inl Oq)))))] : va_W) (pmI (fun a => by simp only [cntW_app, cntW_nil] <;> omega)) (w5 x ot ou ov oh ox oy S ++ w3 cI ot ot1 ot2 T ++ w3 cI ou ou1 ou2 Tr ++ w3 cI ov ov1 ov2 Sn ++ w1 oh rr Hs ++ wR cI cT rr ra rb rc G ++ w4 cI cC ox ox1 ox2 Xt ++ w2 cC oy oy1 n1.2.1 ++ w6 cI cC mh m1 m2 m3 m4 m5 m6 m7 m8 n2.2 ++ [(o, .inl (cJ, 1, .inr (.inl n1.2.2)))] ++ [(oq, .inl (cQ, 1, .inr (.inr (.inr (.inl Oq)))))]) (pmI (fun a => by simp only [cntW_app, cntW_nil] <;> omega)) rfl 44 (ci := 7) rfl rfl rfl rfl hl.1 rfl rfl (Nat.le_of_ble_eq_true rfl) ⟨Nat.le_trans (Nat.add_le_add_left (by decide) _) hcr.1, Nat.le_trans (Nat.add_le_add_left (by decide) _) hcr.2⟩ dL_law_1596 (fun H locs hP hD hS => ?_)
  refine lv_istore (lv' := [(7, .int n2.1), (6, .int n1.1), (0, .ref b), (1, .ref x), (2, .ref mh), (3, .ref o), (4, .ref oq), (5, .int x5)]) hx hb dL_law_1599 hl (by decide) rfl (fun ls hl => ?_)
  refine lv_aload_n hx hb dL_law_1601 rfl (lv_at hl 4 rfl) ?_
  refine fRq (As := []) (rest := []) (st' := [.int (fX6_thrown n2.2)]) ⟨hx, hb, hml, hown, hts⟩ (kX6_thrown l D cI cC cT mh m1 m2 m3 m4 m5 m6 m7 m8 n2.2) (cwV 0 hts gL_law_X6_thrown rfl rfl rfl (by decide +kernel) ⟨Nat.le_of_ble_eq_true rfl, Nat.le_of_ble_eq_true rfl⟩) hP hK3 (w5 x ot ou ov oh ox oy S ++ w3 cI ot ot1 ot2 T ++ w3 cI ou ou1 ou2 Tr ++ w3 cI ov ov1 ov2 Sn ++ w1 oh rr Hs ++ wR cI cT rr ra rb rc G ++ w4 cI cC ox ox1 ox2 Xt ++ w2 cC oy oy1 n1.2.1 ++ [(o, .inl (cJ, 1, .inr (.inl n1.2.2)))] ++ [(oq, .inl (cQ, 1, .inr (.inr (.inr (.inl Oq)))))] : va_W) (pmI (fun a => by simp only [cntW_app, cntW_nil] <;> omega)) 44 (ci := 7) rfl rfl rfl rfl hl.1 rfl rfl (Nat.le_of_ble_eq_true rfl) ⟨Nat.le_trans (Nat.add_le_add_left (by decide) _) hcr.1, Nat.le_trans (Nat.add_le_add_left (by decide) _) hcr.2⟩ dL_law_1602 ?_
  refine lv_iload hx hb dL_law_1605 (lv_at hl 1 rfl) ?_
  obtain ⟨o5, hg⟩ := hg
  refine lv_icmp_eq (tgt := 1612) hx hb dL_law_1607 (by decide) (fun c_1607 => ?_) (fun c_1607 => absurd o5 c_1607)
  refine lv_iload hx hb dL_law_1612 (lv_at hl 1 rfl) ?_
  refine lv_if_ne (tgt := 1629) hx hb dL_law_1614 (by decide) (fun c_1614_1 => ?_) (fun c_1614_1 => ?_)
  · rw [if_neg c_1614_1] at hg
    refine lv_goto (tgt := 2110) hx hb dL_law_1629 (by decide) ?_
    refine lv_iinc (v := (x5 + 5)) (lv' := [(5, .int (x5 + 5)), (7, .int n2.1), (6, .int n1.1), (0, .ref b), (1, .ref x), (2, .ref mh), (3, .ref o), (4, .ref oq)]) hx hb dL_law_2110 hl (k := 7) rfl rfl (by decide) rfl (fun ls hl => ?_)
    refine lv_goto (tgt := 28) hx hb dL_law_2113 (by decide) ?_
    have e9 : fM_24 S T Tr Sn Hs G Xt Ln Mo O Oq xs L x5 = (n1.2.1, n2.2, n1.2.2) := by rw [fM_24, ← en1, ← en2, if_neg c_1614_1]
    refine W.widen (k := cells + 2) (n := slots + 12) (by omega) (by omega) ?_
    exact kb (n1.2.1, n2.2, n1.2.2) e9.symm H locs ls hP hD hS (lv_sub hl [3, 4, 5, 6, 7, 0] rfl)
  · rw [if_pos c_1614_1] at hg
    refine lv_aload_n hx hb dL_law_1617 rfl (lv_at hl 5 rfl) ?_
    refine lv_iconst (v := 0) hx hb dL_law_1618 (by decide) ?_
    obtain ⟨o6, hg⟩ := hg
    refine va_lald hx hb hK hP 53 3 rfl rfl o6 dL_law_1619 ?_
    refine lv_iload hx hb dL_law_1620 (lv_at hl 0 rfl) ?_
    refine lv_i2l (v := (n2.1.toInt64)) hx hb dL_law_1622 rfl ?_
    refine W.lcmp hx hb dL_law_1623 ?_
    obtain ⟨o7, hg⟩ := hg
    refine lv_if_eq (tgt := 1629) hx hb dL_law_1624 (by decide) (fun c_1624 => ?_) (fun c_1624 => absurd o7 c_1624)
    refine lv_goto (tgt := 2110) hx hb dL_law_1629 (by decide) ?_
    refine lv_iinc (v := (x5 + 5)) (lv' := [(5, .int (x5 + 5)), (7, .int n2.1), (6, .int n1.1), (0, .ref b), (1, .ref x), (2, .ref mh), (3, .ref o), (4, .ref oq)]) hx hb dL_law_2110 hl (k := 7) rfl rfl (by decide) rfl (fun ls hl => ?_)
    refine lv_goto (tgt := 28) hx hb dL_law_2113 (by decide) ?_
    have e9 : fM_24 S T Tr Sn Hs G Xt Ln Mo O Oq xs L x5 = (n1.2.1, n2.2, n1.2.2) := by rw [fM_24, ← en1, ← en2, if_pos c_1614_1]
    refine W.widen (k := cells + 2) (n := slots + 12) (by omega) (by omega) ?_
    exact kb (n1.2.1, n2.2, n1.2.2) e9.symm H locs ls hP hD hS (lv_sub hl [3, 4, 5, 6, 7, 0] rfl)
def fM_25 (S : CV) (T : TV) (Tr : TV) (Sn : TV) (Hs : HV) (G : (Nat → TV)) (Xt : XV) (Ln : LV) (Mo : SV) (O : (Nat → Int64)) (Oq : (Nat → UInt64)) (xs : Nat → Int32) (L : Nat) (x5 : Int32) : (SV × (Nat → Int64)) := (if (fL_character S Ln O (xs ((x5 + 1)).toNatClampNeg)).1 = 0 then ((fX6_character Mo (xs ((x5 + 1)).toNatClampNeg)).2, (fL_character S Ln O (xs ((x5 + 1)).toNatClampNeg)).2) else ((fX6_character Mo (xs ((x5 + 1)).toNatClampNeg)).2, (fL_character S Ln O (xs ((x5 + 1)).toNatClampNeg)).2))
def gM_25 (S : CV) (T : TV) (Tr : TV) (Sn : TV) (Hs : HV) (G : (Nat → TV)) (Xt : XV) (Ln : LV) (Mo : SV) (O : (Nat → Int64)) (Oq : (Nat → UInt64)) (xs : Nat → Int32) (L : Nat) (x5 : Int32) : Prop := ((vp_in (x5 + 1) L) ∧ (gL_character S Ln O (xs ((x5 + 1)).toNatClampNeg)) ∧ (vp_in (x5 + 1) L) ∧ (gX6_character Mo (xs ((x5 + 1)).toNatClampNeg)) ∧ ((fX6_thrown (fX6_character Mo (xs ((x5 + 1)).toNatClampNeg)).2) = (fL_character S Ln O (xs ((x5 + 1)).toNatClampNeg)).1) ∧ (if (fL_character S Ln O (xs ((x5 + 1)).toNatClampNeg)).1 = 0 then ((vp_in 0 1) ∧ ((lg_cmp ((fL_character S Ln O (xs ((x5 + 1)).toNatClampNeg)).2 (0 : Int32).toNatClampNeg) ((fX6_character Mo (xs ((x5 + 1)).toNatClampNeg)).1.toInt64)) = 0) ∧ True) else True))
set_option maxHeartbeats 8000000 in
set_option maxRecDepth 100000 in
theorem cM_25 {p : Program} {e : Env} {s : State} {m : MethodId} {below : List Frame} {meth : Method} {c : Code} {Q : State → Prop} (l : Launch) (D : va_G) (cI cC cT cJ cQ : ClassId) (b x ot ou ov oh ox oy ot1 ot2 ou1 ou2 ov1 ov2 rr ox1 ox2 oy1 mh m1 m2 m3 m4 m5 m6 m7 m8 o oq : Nat) (ra rb rc : Nat → Nat) (S : CV) (T : TV) (Tr : TV) (Sn : TV) (Hs : HV) (G : (Nat → TV)) (Xt : XV) (Ln : LV) (Mo : SV) (O : (Nat → Int64)) (Oq : (Nat → UInt64)) (xs : Nat → Int32) (L : Nat) (x5 : Int32) (hst : l.stackTraces = false) (hn : ∃ j : Nat, j < 9 ∧ Hs.1 = nI j) (hc : ∀ i, narrow .char (.int (Ln.1 i)) = .int (Ln.1 i)) (hx : p.tables.exec = Jvm.exec) (hb : c.code = cL_law) (hml : c.maxLocals = 9) (hown : s.vm.findClass RL = some m.cls) (hts : ∀ w ∈ wsL_law, w.before #[Value.ref b] s = true) (hK : va_K D vwCl (TY5 cI cC cT cJ cQ) s) (hX : va_X b L xs s s.heap) (hbl : b < s.heap.size) (hbA : ¬ (fun q : Nat => s.heap.size ≤ q) b) (hXE : xE (fun q : Nat => s.heap.size ≤ q) s) (hXN : xN s) (H : Heap) (locs : List Loc) (ls : Array Slot) (cells slots : Nat) (hcr : cells + 2 ≤ room_1.cells ∧ slots + 12 ≤ room_1.slots) (hP : va_P D vwCl (w5 x ot ou ov oh ox oy S ++ w3 cI ot ot1 ot2 T ++ w3 cI ou ou1 ou2 Tr ++ w3 cI ov ov1 ov2 Sn ++ w1 oh rr Hs ++ wR cI cT rr ra rb rc G ++ w4 cI cC ox ox1 ox2 Xt ++ w2 cC oy oy1 Ln ++ w6 cI cC mh m1 m2 m3 m4 m5 m6 m7 m8 Mo ++ [(o, .inl (cJ, 1, .inr (.inl O)))] ++ [(oq, .inl (cQ, 1, .inr (.inr (.inr (.inl Oq)))))]) H) (hD : va_D (fun q : Nat => s.heap.size ≤ q) (w5 x ot ou ov oh ox oy S ++ w3 cI ot ot1 ot2 T ++ w3 cI ou ou1 ou2 Tr ++ w3 cI ov ov1 ov2 Sn ++ w1 oh rr Hs ++ wR cI cT rr ra rb rc G ++ w4 cI cC ox ox1 ox2 Xt ++ w2 cC oy oy1 Ln ++ w6 cI cC mh m1 m2 m3 m4 m5 m6 m7 m8 Mo ++ [(o, .inl (cJ, 1, .inr (.inl O)))] ++ [(oq, .inl (cQ, 1, .inr (.inr (.inr (.inl Oq)))))])) (hS : va_S (fun q : Nat => s.heap.size ≤ q) s.heap H locs) (hl : lv_has ls 9 [(0, .ref b), (1, .ref x), (2, .ref mh), (3, .ref o), (4, .ref oq), (5, .int x5)]) (hg : gM_25 S T Tr Sn Hs G Xt Ln Mo O Oq xs L x5) (kb : ∀ z9 : (SV × (Nat → Int64)), z9 = fM_25 S T Tr Sn Hs G Xt Ln Mo O Oq xs L x5 → ∀ (H : Heap) (locs : List Loc) (ls : Array Slot), va_P D vwCl (w5 x ot ou ov oh ox oy S ++ w3 cI ot ot1 ot2 T ++ w3 cI ou ou1 ou2 Tr ++ w3 cI ov ov1 ov2 Sn ++ w1 oh rr Hs ++ wR cI cT rr ra rb rc G ++ w4 cI cC ox ox1 ox2 Xt ++ w2 cC oy oy1 Ln ++ w6 cI cC mh m1 m2 m3 m4 m5 m6 m7 m8 z9.1 ++ [(o, .inl (cJ, 1, .inr (.inl z9.2)))] ++ [(oq, .inl (cQ, 1, .inr (.inr (.inr (.inl Oq)))))]) H → va_D (fun q : Nat => s.heap.size ≤ q) (w5 x ot ou ov oh ox oy S ++ w3 cI ot ot1 ot2 T ++ w3 cI ou ou1 ou2 Tr ++ w3 cI ov ov1 ov2 Sn ++ w1 oh rr Hs ++ wR cI cT rr ra rb rc G ++ w4 cI cC ox ox1 ox2 Xt ++ w2 cC oy oy1 Ln ++ w6 cI cC mh m1 m2 m3 m4 m5 m6 m7 m8 z9.1 ++ [(o, .inl (cJ, 1, .inr (.inl z9.2)))] ++ [(oq, .inl (cQ, 1, .inr (.inr (.inr (.inl Oq)))))]) → va_S (fun q : Nat => s.heap.size ≤ q) s.heap H locs → lv_has ls 9 [(0, .ref b), (1, .ref x), (2, .ref mh), (3, .ref o), (4, .ref oq), (5, .int (x5 + 5))] → W p l e room_1 s m #[Value.ref b] below meth c H locs (cells + 2) (slots + 12) Q (F0 m 28 ls [])) :
    W p l e room_1 s m #[Value.ref b] below meth c H locs cells slots Q (F0 m 1632 ls []) := by
  have hP : va_P D vwCl (w5 x ot ou ov oh ox oy S ++ w3 cI ot ot1 ot2 T ++ w3 cI ou ou1 ou2 Tr ++ w3 cI ov ov1 ov2 Sn ++ w1 oh rr Hs ++ wR cI cT rr ra rb rc G ++ w4 cI cC ox ox1 ox2 Xt ++ w2 cC oy oy1 Ln ++ w6 cI cC mh m1 m2 m3 m4 m5 m6 m7 m8 Mo ++ [(o, .inl (cJ, 1, .inr (.inl O)))] ++ [(oq, .inl (cQ, 1, .inr (.inr (.inr (.inl Oq)))))]) H := hP
  have hD : va_D (fun q : Nat => s.heap.size ≤ q) (w5 x ot ou ov oh ox oy S ++ w3 cI ot ot1 ot2 T ++ w3 cI ou ou1 ou2 Tr ++ w3 cI ov ov1 ov2 Sn ++ w1 oh rr Hs ++ wR cI cT rr ra rb rc G ++ w4 cI cC ox ox1 ox2 Xt ++ w2 cC oy oy1 Ln ++ w6 cI cC mh m1 m2 m3 m4 m5 m6 m7 m8 Mo ++ [(o, .inl (cJ, 1, .inr (.inl O)))] ++ [(oq, .inl (cQ, 1, .inr (.inr (.inr (.inl Oq)))))]) := hD
  have hK3 := hK.sub (tys' := TY cI cC cT) [0, 1, 2] rfl
  unfold gM_25 at hg
  refine lv_aload_n hx hb dL_law_1632 rfl (lv_at hl 1 rfl) ?_
  refine lv_aload_n hx hb dL_law_1633 rfl (lv_at hl 0 rfl) ?_
  refine lv_iload hx hb dL_law_1634 (lv_at hl 5 rfl) ?_
  refine lv_iconst (v := 1) hx hb dL_law_1636 (by decide) ?_
  refine lv_iadd hx hb dL_law_1637 ?_
  obtain ⟨o1, hg⟩ := hg
  refine va_sld hx hb hX hbl hbA hS o1 dL_law_1638 ?_
  refine lv_aload_n hx hb dL_law_1639 rfl (lv_at hl 3 rfl) ?_
  obtain ⟨n1, en1⟩ : ∃ z9, z9 = (fL_character S Ln O (xs ((x5 + 1)).toNatClampNeg)) := ⟨_, rfl⟩
  try rw [← en1] at hg
  obtain ⟨o2, hg⟩ := hg
  have k9 := (kL_character l D cI cC cT cJ cQ x ot ou ov oh ox oy oy1 o S Ln O (xs ((x5 + 1)).toNatClampNeg) hst hc o2)
  rw [← en1] at k9
  refine fLq (As := [.ref x, .int (xs ((x5 + 1)).toNatClampNeg), .ref o]) (rest := []) ⟨hx, hb, hml, hown, hts⟩ k9 (vx_cwSW (hh := [(0, 9, 12, 28)]) 3 hts gL_law_L_character rfl rfl rfl (by decide +kernel) ⟨Nat.le_of_ble_eq_true rfl, Nat.le_of_ble_eq_true rfl⟩) hP hK hD hS hXE hXN (w3 cI ot ot1 ot2 T ++ w3 cI ou ou1 ou2 Tr ++ w3 cI ov ov1 ov2 Sn ++ w1 oh rr Hs ++ wR cI cT rr ra rb rc G ++ w4 cI cC ox ox1 ox2 Xt ++ w6 cI cC mh m1 m2 m3 m4 m5 m6 m7 m8 Mo ++ [(oq, .inl (cQ, 1, .inr (.inr (.inr (.inl Oq)))))] : va_W) (pmI (fun a => by simp only [cntW_app, cntW_nil] <;> omega)) (w5 x ot ou ov oh ox oy S ++ w3 cI ot ot1 ot2 T ++ w3 cI ou ou1 ou2 Tr ++ w3 cI ov ov1 ov2 Sn ++ w1 oh rr Hs ++ wR cI cT rr ra rb rc G ++ w4 cI cC ox ox1 ox2 Xt ++ w2 cC oy oy1 Ln ++ w6 cI cC mh m1 m2 m3 m4 m5 m6 m7 m8 Mo ++ [(o, .inl (cJ, 1, .inr (.inl n1.2)))] ++ [(oq, .inl (cQ, 1, .inr (.inr (.inr (.inl Oq)))))]) (pmI (fun a => by simp only [cntW_app, cntW_nil] <;> omega)) rfl rfl hl.1 rfl (Nat.le_of_ble_eq_true rfl) ⟨Nat.le_trans (Nat.add_le_add_left (by decide) _) hcr.1, Nat.le_trans (Nat.add_le_add_left (by decide) _) hcr.2⟩ dL_law_1640 (fun H locs hP hD hS => ?_)
  refine lv_istore (lv' := [(6, .int n1.1), (0, .ref b), (1, .ref x), (2, .ref mh), (3, .ref o), (4, .ref oq), (5, .int x5)]) hx hb dL_law_1643 hl (by decide) rfl (fun ls hl => ?_)
  refine lv_aload_n hx hb dL_law_1645 rfl (lv_at hl 3 rfl) ?_
  refine lv_aload_n hx hb dL_law_1646 rfl (lv_at hl 1 rfl) ?_
  refine lv_iload hx hb dL_law_1647 (lv_at hl 6 rfl) ?_
  refine lv_iconst (v := 1) hx hb dL_law_1649 (by decide) ?_
  refine lv_iadd hx hb dL_law_1650 ?_
  obtain ⟨o3, hg⟩ := hg
  refine va_sld hx hb hX hbl hbA hS o3 dL_law_1651 ?_
  obtain ⟨n2, en2⟩ : ∃ z9, z9 = (fX6_character Mo (xs ((x5 + 1)).toNatClampNeg)) := ⟨_, rfl⟩
  try rw [← en2] at hg
  obtain ⟨o4, hg⟩ := hg
  have k9 := (kX6_character l D cI cC cT mh m1 m2 m3 m4 m5 m6 m7 m8 Mo (xs ((x5 + 1)).toNatClampNeg) o4)
  rw [← en2] at k9
  refine fUq (As := [.int (xs ((x5 + 1)).toNatClampNeg)]) (rest := []) (st' := [.int n2.1]) ⟨hx, hb, hml, hown, hts⟩ k9 (cwV 1 hts gL_law_X6_character rfl rfl rfl (by decide +kernel) ⟨Nat.le_of_ble_eq_true rfl, Nat.le_of_ble_eq_true rfl⟩) hP hK3 hD hS (w5 x ot ou ov oh ox oy S ++ w3 cI ot ot1 ot2 T ++ w3 cI ou ou1 ou2 Tr ++ w3 cI ov ov1 ov2 Sn ++ w1 oh rr Hs ++ wR cI cT rr ra rb rc G ++ w4 cI cC ox ox1 ox2 Xt ++ w2 cC oy oy1 Ln ++ [(o, .inl (cJ, 1, .inr (.inl n1.2)))] ++ [(oq, .inl (cQ, 1, .inr (.inr (.inr (.inl Oq)))))] : va_W) (pmI (fun a => by simp only [cntW_app, cntW_nil] <;> omega)) (w5 x ot ou ov oh ox oy S ++ w3 cI ot ot1 ot2 T ++ w3 cI ou ou1 ou2 Tr ++ w3 cI ov ov1 ov2 Sn ++ w1 oh rr Hs ++ wR cI cT rr ra rb rc G ++ w4 cI cC ox ox1 ox2 Xt ++ w2 cC oy oy1 Ln ++ w6 cI cC mh m1 m2 m3 m4 m5 m6 m7 m8 n2.2 ++ [(o, .inl (cJ, 1, .inr (.inl n1.2)))] ++ [(oq, .inl (cQ, 1, .inr (.inr (.inr (.inl Oq)))))]) (pmI (fun a => by simp only [cntW_app, cntW_nil] <;> omega)) rfl 44 (ci := 7) rfl rfl rfl rfl hl.1 rfl rfl (Nat.le_of_ble_eq_true rfl) ⟨Nat.le_trans (Nat.add_le_add_left (by decide) _) hcr.1, Nat.le_trans (Nat.add_le_add_left (by decide) _) hcr.2⟩ dL_law_1652 (fun H locs hP hD hS => ?_)
  refine lv_istore (lv' := [(7, .int n2.1), (6, .int n1.1), (0, .ref b), (1, .ref x), (2, .ref mh), (3, .ref o), (4, .ref oq), (5, .int x5)]) hx hb dL_law_1655 hl (by decide) rfl (fun ls hl => ?_)
  refine lv_aload_n hx hb dL_law_1657 rfl (lv_at hl 4 rfl) ?_
  refine fRq (As := []) (rest := []) (st' := [.int (fX6_thrown n2.2)]) ⟨hx, hb, hml, hown, hts⟩ (kX6_thrown l D cI cC cT mh m1 m2 m3 m4 m5 m6 m7 m8 n2.2) (cwV 0 hts gL_law_X6_thrown rfl rfl rfl (by decide +kernel) ⟨Nat.le_of_ble_eq_true rfl, Nat.le_of_ble_eq_true rfl⟩) hP hK3 (w5 x ot ou ov oh ox oy S ++ w3 cI ot ot1 ot2 T ++ w3 cI ou ou1 ou2 Tr ++ w3 cI ov ov1 ov2 Sn ++ w1 oh rr Hs ++ wR cI cT rr ra rb rc G ++ w4 cI cC ox ox1 ox2 Xt ++ w2 cC oy oy1 Ln ++ [(o, .inl (cJ, 1, .inr (.inl n1.2)))] ++ [(oq, .inl (cQ, 1, .inr (.inr (.inr (.inl Oq)))))] : va_W) (pmI (fun a => by simp only [cntW_app, cntW_nil] <;> omega)) 44 (ci := 7) rfl rfl rfl rfl hl.1 rfl rfl (Nat.le_of_ble_eq_true rfl) ⟨Nat.le_trans (Nat.add_le_add_left (by decide) _) hcr.1, Nat.le_trans (Nat.add_le_add_left (by decide) _) hcr.2⟩ dL_law_1658 ?_
  refine lv_iload hx hb dL_law_1661 (lv_at hl 1 rfl) ?_
  obtain ⟨o5, hg⟩ := hg
  refine lv_icmp_eq (tgt := 1668) hx hb dL_law_1663 (by decide) (fun c_1663 => ?_) (fun c_1663 => absurd o5 c_1663)
  refine lv_iload hx hb dL_law_1668 (lv_at hl 1 rfl) ?_
  refine lv_if_ne (tgt := 1685) hx hb dL_law_1670 (by decide) (fun c_1670_1 => ?_) (fun c_1670_1 => ?_)
  · rw [if_neg c_1670_1] at hg
    refine lv_goto (tgt := 2110) hx hb dL_law_1685 (by decide) ?_
    refine lv_iinc (v := (x5 + 5)) (lv' := [(5, .int (x5 + 5)), (7, .int n2.1), (6, .int n1.1), (0, .ref b), (1, .ref x), (2, .ref mh), (3, .ref o), (4, .ref oq)]) hx hb dL_law_2110 hl (k := 7) rfl rfl (by decide) rfl (fun ls hl => ?_)
    refine lv_goto (tgt := 28) hx hb dL_law_2113 (by decide) ?_
    have e9 : fM_25 S T Tr Sn Hs G Xt Ln Mo O Oq xs L x5 = (n2.2, n1.2) := by rw [fM_25, ← en1, ← en2, if_neg c_1670_1]
    refine W.widen (k := cells + 2) (n := slots + 12) (by omega) (by omega) ?_
    exact kb (n2.2, n1.2) e9.symm H locs ls hP hD hS (lv_sub hl [3, 4, 5, 6, 7, 0] rfl)
  · rw [if_pos c_1670_1] at hg
    refine lv_aload_n hx hb dL_law_1673 rfl (lv_at hl 5 rfl) ?_
    refine lv_iconst (v := 0) hx hb dL_law_1674 (by decide) ?_
    obtain ⟨o6, hg⟩ := hg
    refine va_lald hx hb hK hP 53 3 rfl rfl o6 dL_law_1675 ?_
    refine lv_iload hx hb dL_law_1676 (lv_at hl 0 rfl) ?_
    refine lv_i2l (v := (n2.1.toInt64)) hx hb dL_law_1678 rfl ?_
    refine W.lcmp hx hb dL_law_1679 ?_
    obtain ⟨o7, hg⟩ := hg
    refine lv_if_eq (tgt := 1685) hx hb dL_law_1680 (by decide) (fun c_1680 => ?_) (fun c_1680 => absurd o7 c_1680)
    refine lv_goto (tgt := 2110) hx hb dL_law_1685 (by decide) ?_
    refine lv_iinc (v := (x5 + 5)) (lv' := [(5, .int (x5 + 5)), (7, .int n2.1), (6, .int n1.1), (0, .ref b), (1, .ref x), (2, .ref mh), (3, .ref o), (4, .ref oq)]) hx hb dL_law_2110 hl (k := 7) rfl rfl (by decide) rfl (fun ls hl => ?_)
    refine lv_goto (tgt := 28) hx hb dL_law_2113 (by decide) ?_
    have e9 : fM_25 S T Tr Sn Hs G Xt Ln Mo O Oq xs L x5 = (n2.2, n1.2) := by rw [fM_25, ← en1, ← en2, if_pos c_1670_1]
    refine W.widen (k := cells + 2) (n := slots + 12) (by omega) (by omega) ?_
    exact kb (n2.2, n1.2) e9.symm H locs ls hP hD hS (lv_sub hl [3, 4, 5, 6, 7, 0] rfl)
def fM_26 (S : CV) (T : TV) (Tr : TV) (Sn : TV) (Hs : HV) (G : (Nat → TV)) (Xt : XV) (Ln : LV) (Mo : SV) (O : (Nat → Int64)) (Oq : (Nat → UInt64)) (xs : Nat → Int32) (L : Nat) (x5 : Int32) : (XV × SV × (Nat → Int64)) := (if (fL_append S Xt O ((xs ((x5 + 1)).toNatClampNeg).toUInt32 % 65536).toInt32).1 = 0 then ((fL_append S Xt O ((xs ((x5 + 1)).toNatClampNeg).toUInt32 % 65536).toInt32).2.1, (fX6_append Mo ((xs ((x5 + 1)).toNatClampNeg).toUInt32 % 65536).toInt32).2, (fL_append S Xt O ((xs ((x5 + 1)).toNatClampNeg).toUInt32 % 65536).toInt32).2.2) else ((fL_append S Xt O ((xs ((x5 + 1)).toNatClampNeg).toUInt32 % 65536).toInt32).2.1, (fX6_append Mo ((xs ((x5 + 1)).toNatClampNeg).toUInt32 % 65536).toInt32).2, (fL_append S Xt O ((xs ((x5 + 1)).toNatClampNeg).toUInt32 % 65536).toInt32).2.2))
def gM_26 (S : CV) (T : TV) (Tr : TV) (Sn : TV) (Hs : HV) (G : (Nat → TV)) (Xt : XV) (Ln : LV) (Mo : SV) (O : (Nat → Int64)) (Oq : (Nat → UInt64)) (xs : Nat → Int32) (L : Nat) (x5 : Int32) : Prop := ((vp_in (x5 + 1) L) ∧ (gL_append S Xt O ((xs ((x5 + 1)).toNatClampNeg).toUInt32 % 65536).toInt32) ∧ (vp_in (x5 + 1) L) ∧ (gX6_append Mo ((xs ((x5 + 1)).toNatClampNeg).toUInt32 % 65536).toInt32) ∧ ((fX6_thrown (fX6_append Mo ((xs ((x5 + 1)).toNatClampNeg).toUInt32 % 65536).toInt32).2) = (fL_append S Xt O ((xs ((x5 + 1)).toNatClampNeg).toUInt32 % 65536).toInt32).1) ∧ (if (fL_append S Xt O ((xs ((x5 + 1)).toNatClampNeg).toUInt32 % 65536).toInt32).1 = 0 then ((vp_in 0 1) ∧ ((lg_cmp ((fL_append S Xt O ((xs ((x5 + 1)).toNatClampNeg).toUInt32 % 65536).toInt32).2.2 (0 : Int32).toNatClampNeg) ((fX6_append Mo ((xs ((x5 + 1)).toNatClampNeg).toUInt32 % 65536).toInt32).1.toInt64)) = 0) ∧ True) else True))
set_option maxHeartbeats 8000000 in
set_option maxRecDepth 100000 in
theorem cM_26 {p : Program} {e : Env} {s : State} {m : MethodId} {below : List Frame} {meth : Method} {c : Code} {Q : State → Prop} (l : Launch) (D : va_G) (cI cC cT cJ cQ : ClassId) (b x ot ou ov oh ox oy ot1 ot2 ou1 ou2 ov1 ov2 rr ox1 ox2 oy1 mh m1 m2 m3 m4 m5 m6 m7 m8 o oq : Nat) (ra rb rc : Nat → Nat) (S : CV) (T : TV) (Tr : TV) (Sn : TV) (Hs : HV) (G : (Nat → TV)) (Xt : XV) (Ln : LV) (Mo : SV) (O : (Nat → Int64)) (Oq : (Nat → UInt64)) (xs : Nat → Int32) (L : Nat) (x5 : Int32) (hst : l.stackTraces = false) (hn : ∃ j : Nat, j < 9 ∧ Hs.1 = nI j) (hc : ∀ i, narrow .char (.int (Ln.1 i)) = .int (Ln.1 i)) (hx : p.tables.exec = Jvm.exec) (hb : c.code = cL_law) (hml : c.maxLocals = 9) (hown : s.vm.findClass RL = some m.cls) (hts : ∀ w ∈ wsL_law, w.before #[Value.ref b] s = true) (hK : va_K D vwCl (TY5 cI cC cT cJ cQ) s) (hX : va_X b L xs s s.heap) (hbl : b < s.heap.size) (hbA : ¬ (fun q : Nat => s.heap.size ≤ q) b) (hXE : xE (fun q : Nat => s.heap.size ≤ q) s) (hXN : xN s) (H : Heap) (locs : List Loc) (ls : Array Slot) (cells slots : Nat) (hcr : cells + 2 ≤ room_1.cells ∧ slots + 12 ≤ room_1.slots) (hP : va_P D vwCl (w5 x ot ou ov oh ox oy S ++ w3 cI ot ot1 ot2 T ++ w3 cI ou ou1 ou2 Tr ++ w3 cI ov ov1 ov2 Sn ++ w1 oh rr Hs ++ wR cI cT rr ra rb rc G ++ w4 cI cC ox ox1 ox2 Xt ++ w2 cC oy oy1 Ln ++ w6 cI cC mh m1 m2 m3 m4 m5 m6 m7 m8 Mo ++ [(o, .inl (cJ, 1, .inr (.inl O)))] ++ [(oq, .inl (cQ, 1, .inr (.inr (.inr (.inl Oq)))))]) H) (hD : va_D (fun q : Nat => s.heap.size ≤ q) (w5 x ot ou ov oh ox oy S ++ w3 cI ot ot1 ot2 T ++ w3 cI ou ou1 ou2 Tr ++ w3 cI ov ov1 ov2 Sn ++ w1 oh rr Hs ++ wR cI cT rr ra rb rc G ++ w4 cI cC ox ox1 ox2 Xt ++ w2 cC oy oy1 Ln ++ w6 cI cC mh m1 m2 m3 m4 m5 m6 m7 m8 Mo ++ [(o, .inl (cJ, 1, .inr (.inl O)))] ++ [(oq, .inl (cQ, 1, .inr (.inr (.inr (.inl Oq)))))])) (hS : va_S (fun q : Nat => s.heap.size ≤ q) s.heap H locs) (hl : lv_has ls 9 [(0, .ref b), (1, .ref x), (2, .ref mh), (3, .ref o), (4, .ref oq), (5, .int x5)]) (hg : gM_26 S T Tr Sn Hs G Xt Ln Mo O Oq xs L x5) (kb : ∀ z9 : (XV × SV × (Nat → Int64)), z9 = fM_26 S T Tr Sn Hs G Xt Ln Mo O Oq xs L x5 → ∀ (H : Heap) (locs : List Loc) (ls : Array Slot), va_P D vwCl (w5 x ot ou ov oh ox oy S ++ w3 cI ot ot1 ot2 T ++ w3 cI ou ou1 ou2 Tr ++ w3 cI ov ov1 ov2 Sn ++ w1 oh rr Hs ++ wR cI cT rr ra rb rc G ++ w4 cI cC ox ox1 ox2 z9.1 ++ w2 cC oy oy1 Ln ++ w6 cI cC mh m1 m2 m3 m4 m5 m6 m7 m8 z9.2.1 ++ [(o, .inl (cJ, 1, .inr (.inl z9.2.2)))] ++ [(oq, .inl (cQ, 1, .inr (.inr (.inr (.inl Oq)))))]) H → va_D (fun q : Nat => s.heap.size ≤ q) (w5 x ot ou ov oh ox oy S ++ w3 cI ot ot1 ot2 T ++ w3 cI ou ou1 ou2 Tr ++ w3 cI ov ov1 ov2 Sn ++ w1 oh rr Hs ++ wR cI cT rr ra rb rc G ++ w4 cI cC ox ox1 ox2 z9.1 ++ w2 cC oy oy1 Ln ++ w6 cI cC mh m1 m2 m3 m4 m5 m6 m7 m8 z9.2.1 ++ [(o, .inl (cJ, 1, .inr (.inl z9.2.2)))] ++ [(oq, .inl (cQ, 1, .inr (.inr (.inr (.inl Oq)))))]) → va_S (fun q : Nat => s.heap.size ≤ q) s.heap H locs → lv_has ls 9 [(0, .ref b), (1, .ref x), (2, .ref mh), (3, .ref o), (4, .ref oq), (5, .int (x5 + 5))] → W p l e room_1 s m #[Value.ref b] below meth c H locs (cells + 2) (slots + 12) Q (F0 m 28 ls [])) :
    W p l e room_1 s m #[Value.ref b] below meth c H locs cells slots Q (F0 m 1688 ls []) := by
  have hP : va_P D vwCl (w5 x ot ou ov oh ox oy S ++ w3 cI ot ot1 ot2 T ++ w3 cI ou ou1 ou2 Tr ++ w3 cI ov ov1 ov2 Sn ++ w1 oh rr Hs ++ wR cI cT rr ra rb rc G ++ w4 cI cC ox ox1 ox2 Xt ++ w2 cC oy oy1 Ln ++ w6 cI cC mh m1 m2 m3 m4 m5 m6 m7 m8 Mo ++ [(o, .inl (cJ, 1, .inr (.inl O)))] ++ [(oq, .inl (cQ, 1, .inr (.inr (.inr (.inl Oq)))))]) H := hP
  have hD : va_D (fun q : Nat => s.heap.size ≤ q) (w5 x ot ou ov oh ox oy S ++ w3 cI ot ot1 ot2 T ++ w3 cI ou ou1 ou2 Tr ++ w3 cI ov ov1 ov2 Sn ++ w1 oh rr Hs ++ wR cI cT rr ra rb rc G ++ w4 cI cC ox ox1 ox2 Xt ++ w2 cC oy oy1 Ln ++ w6 cI cC mh m1 m2 m3 m4 m5 m6 m7 m8 Mo ++ [(o, .inl (cJ, 1, .inr (.inl O)))] ++ [(oq, .inl (cQ, 1, .inr (.inr (.inr (.inl Oq)))))]) := hD
  have hK3 := hK.sub (tys' := TY cI cC cT) [0, 1, 2] rfl
  unfold gM_26 at hg
  refine lv_aload_n hx hb dL_law_1688 rfl (lv_at hl 1 rfl) ?_
  refine lv_aload_n hx hb dL_law_1689 rfl (lv_at hl 0 rfl) ?_
  refine lv_iload hx hb dL_law_1690 (lv_at hl 5 rfl) ?_
  refine lv_iconst (v := 1) hx hb dL_law_1692 (by decide) ?_
  refine lv_iadd hx hb dL_law_1693 ?_
  obtain ⟨o1, hg⟩ := hg
  refine va_sld hx hb hX hbl hbA hS o1 dL_law_1694 ?_
  refine lv_i2c (v := ((xs ((x5 + 1)).toNatClampNeg).toUInt32 % 65536).toInt32) hx hb dL_law_1695 rfl ?_
  refine lv_aload_n hx hb dL_law_1696 rfl (lv_at hl 3 rfl) ?_
  obtain ⟨n1, en1⟩ : ∃ z9, z9 = (fL_append S Xt O ((xs ((x5 + 1)).toNatClampNeg).toUInt32 % 65536).toInt32) := ⟨_, rfl⟩
  try rw [← en1] at hg
  obtain ⟨o2, hg⟩ := hg
  have k9 := (kL_append l D cI cC cT cJ cQ x ot ou ov oh ox oy ox1 ox2 o S Xt O ((xs ((x5 + 1)).toNatClampNeg).toUInt32 % 65536).toInt32 hst o2)
  rw [← en1] at k9
  refine fLq (As := [.ref x, .int ((xs ((x5 + 1)).toNatClampNeg).toUInt32 % 65536).toInt32, .ref o]) (rest := []) ⟨hx, hb, hml, hown, hts⟩ k9 (vx_cwSW (hh := [(0, 9, 12, 91)]) 3 hts gL_law_L_append rfl rfl rfl (by decide +kernel) ⟨Nat.le_of_ble_eq_true rfl, Nat.le_of_ble_eq_true rfl⟩) hP hK hD hS hXE hXN (w3 cI ot ot1 ot2 T ++ w3 cI ou ou1 ou2 Tr ++ w3 cI ov ov1 ov2 Sn ++ w1 oh rr Hs ++ wR cI cT rr ra rb rc G ++ w2 cC oy oy1 Ln ++ w6 cI cC mh m1 m2 m3 m4 m5 m6 m7 m8 Mo ++ [(oq, .inl (cQ, 1, .inr (.inr (.inr (.inl Oq)))))] : va_W) (pmI (fun a => by simp only [cntW_app, cntW_nil] <;> omega)) (w5 x ot ou ov oh ox oy S ++ w3 cI ot ot1 ot2 T ++ w3 cI ou ou1 ou2 Tr ++ w3 cI ov ov1 ov2 Sn ++ w1 oh rr Hs ++ wR cI cT rr ra rb rc G ++ w4 cI cC ox ox1 ox2 n1.2.1 ++ w2 cC oy oy1 Ln ++ w6 cI cC mh m1 m2 m3 m4 m5 m6 m7 m8 Mo ++ [(o, .inl (cJ, 1, .inr (.inl n1.2.2)))] ++ [(oq, .inl (cQ, 1, .inr (.inr (.inr (.inl Oq)))))]) (pmI (fun a => by simp only [cntW_app, cntW_nil] <;> omega)) rfl rfl hl.1 rfl (Nat.le_of_ble_eq_true rfl) ⟨Nat.le_trans (Nat.add_le_add_left (by decide) _) hcr.1, Nat.le_trans (Nat.add_le_add_left (by decide) _) hcr.2⟩ dL_law_1697 (fun H locs hP hD hS => ?_)
  refine lv_istore (lv' := [(6, .int n1.1), (0, .ref b), (1, .ref x), (2, .ref mh), (3, .ref o), (4, .ref oq), (5, .int x5)]) hx hb dL_law_1700 hl (by decide) rfl (fun ls hl => ?_)
  refine lv_aload_n hx hb dL_law_1702 rfl (lv_at hl 3 rfl) ?_
  refine lv_aload_n hx hb dL_law_1703 rfl (lv_at hl 1 rfl) ?_
  refine lv_iload hx hb dL_law_1704 (lv_at hl 6 rfl) ?_
  refine lv_iconst (v := 1) hx hb dL_law_1706 (by decide) ?_
  refine lv_iadd hx hb dL_law_1707 ?_
  obtain ⟨o3, hg⟩ := hg
  refine va_sld hx hb hX hbl hbA hS o3 dL_law_1708 ?_
  refine lv_i2c (v := ((xs ((x5 + 1)).toNatClampNeg).toUInt32 % 65536).toInt32) hx hb dL_law_1709 rfl ?_
  obtain ⟨n2, en2⟩ : ∃ z9, z9 = (fX6_append Mo ((xs ((x5 + 1)).toNatClampNeg).toUInt32 % 65536).toInt32) := ⟨_, rfl⟩
  try rw [← en2] at hg
  obtain ⟨o4, hg⟩ := hg
  have k9 := (kX6_append l D cI cC cT mh m1 m2 m3 m4 m5 m6 m7 m8 Mo ((xs ((x5 + 1)).toNatClampNeg).toUInt32 % 65536).toInt32 o4)
  rw [← en2] at k9
  refine fUq (As := [.int ((xs ((x5 + 1)).toNatClampNeg).toUInt32 % 65536).toInt32]) (rest := []) (st' := [.int n2.1]) ⟨hx, hb, hml, hown, hts⟩ k9 (cwV 1 hts gL_law_X6_append rfl rfl rfl (by decide +kernel) ⟨Nat.le_of_ble_eq_true rfl, Nat.le_of_ble_eq_true rfl⟩) hP hK3 hD hS (w5 x ot ou ov oh ox oy S ++ w3 cI ot ot1 ot2 T ++ w3 cI ou ou1 ou2 Tr ++ w3 cI ov ov1 ov2 Sn ++ w1 oh rr Hs ++ wR cI cT rr ra rb rc G ++ w4 cI cC ox ox1 ox2 n1.2.1 ++ w2 cC oy oy1 Ln ++ [(o, .inl (cJ, 1, .inr (.inl n1.2.2)))] ++ [(oq, .inl (cQ, 1, .inr (.inr (.inr (.inl Oq)))))] : va_W) (pmI (fun a => by simp only [cntW_app, cntW_nil] <;> omega)) (w5 x ot ou ov oh ox oy S ++ w3 cI ot ot1 ot2 T ++ w3 cI ou ou1 ou2 Tr ++ w3 cI ov ov1 ov2 Sn ++ w1 oh rr Hs ++ wR cI cT rr ra rb rc G ++ w4 cI cC ox ox1 ox2 n1.2.1 ++ w2 cC oy oy1 Ln ++ w6 cI cC mh m1 m2 m3 m4 m5 m6 m7 m8 n2.2 ++ [(o, .inl (cJ, 1, .inr (.inl n1.2.2)))] ++ [(oq, .inl (cQ, 1, .inr (.inr (.inr (.inl Oq)))))]) (pmI (fun a => by simp only [cntW_app, cntW_nil] <;> omega)) rfl 44 (ci := 7) rfl rfl rfl rfl hl.1 rfl rfl (Nat.le_of_ble_eq_true rfl) ⟨Nat.le_trans (Nat.add_le_add_left (by decide) _) hcr.1, Nat.le_trans (Nat.add_le_add_left (by decide) _) hcr.2⟩ dL_law_1710 (fun H locs hP hD hS => ?_)
  refine lv_istore (lv' := [(7, .int n2.1), (6, .int n1.1), (0, .ref b), (1, .ref x), (2, .ref mh), (3, .ref o), (4, .ref oq), (5, .int x5)]) hx hb dL_law_1713 hl (by decide) rfl (fun ls hl => ?_)
  refine lv_aload_n hx hb dL_law_1715 rfl (lv_at hl 4 rfl) ?_
  refine fRq (As := []) (rest := []) (st' := [.int (fX6_thrown n2.2)]) ⟨hx, hb, hml, hown, hts⟩ (kX6_thrown l D cI cC cT mh m1 m2 m3 m4 m5 m6 m7 m8 n2.2) (cwV 0 hts gL_law_X6_thrown rfl rfl rfl (by decide +kernel) ⟨Nat.le_of_ble_eq_true rfl, Nat.le_of_ble_eq_true rfl⟩) hP hK3 (w5 x ot ou ov oh ox oy S ++ w3 cI ot ot1 ot2 T ++ w3 cI ou ou1 ou2 Tr ++ w3 cI ov ov1 ov2 Sn ++ w1 oh rr Hs ++ wR cI cT rr ra rb rc G ++ w4 cI cC ox ox1 ox2 n1.2.1 ++ w2 cC oy oy1 Ln ++ [(o, .inl (cJ, 1, .inr (.inl n1.2.2)))] ++ [(oq, .inl (cQ, 1, .inr (.inr (.inr (.inl Oq)))))] : va_W) (pmI (fun a => by simp only [cntW_app, cntW_nil] <;> omega)) 44 (ci := 7) rfl rfl rfl rfl hl.1 rfl rfl (Nat.le_of_ble_eq_true rfl) ⟨Nat.le_trans (Nat.add_le_add_left (by decide) _) hcr.1, Nat.le_trans (Nat.add_le_add_left (by decide) _) hcr.2⟩ dL_law_1716 ?_
  refine lv_iload hx hb dL_law_1719 (lv_at hl 1 rfl) ?_
  obtain ⟨o5, hg⟩ := hg
  refine lv_icmp_eq (tgt := 1726) hx hb dL_law_1721 (by decide) (fun c_1721 => ?_) (fun c_1721 => absurd o5 c_1721)
  refine lv_iload hx hb dL_law_1726 (lv_at hl 1 rfl) ?_
  refine lv_if_ne (tgt := 1743) hx hb dL_law_1728 (by decide) (fun c_1728_1 => ?_) (fun c_1728_1 => ?_)
  · rw [if_neg c_1728_1] at hg
    refine lv_goto (tgt := 2110) hx hb dL_law_1743 (by decide) ?_
    refine lv_iinc (v := (x5 + 5)) (lv' := [(5, .int (x5 + 5)), (7, .int n2.1), (6, .int n1.1), (0, .ref b), (1, .ref x), (2, .ref mh), (3, .ref o), (4, .ref oq)]) hx hb dL_law_2110 hl (k := 7) rfl rfl (by decide) rfl (fun ls hl => ?_)
    refine lv_goto (tgt := 28) hx hb dL_law_2113 (by decide) ?_
    have e9 : fM_26 S T Tr Sn Hs G Xt Ln Mo O Oq xs L x5 = (n1.2.1, n2.2, n1.2.2) := by rw [fM_26, ← en1, ← en2, if_neg c_1728_1]
    refine W.widen (k := cells + 2) (n := slots + 12) (by omega) (by omega) ?_
    exact kb (n1.2.1, n2.2, n1.2.2) e9.symm H locs ls hP hD hS (lv_sub hl [3, 4, 5, 6, 7, 0] rfl)
  · rw [if_pos c_1728_1] at hg
    refine lv_aload_n hx hb dL_law_1731 rfl (lv_at hl 5 rfl) ?_
    refine lv_iconst (v := 0) hx hb dL_law_1732 (by decide) ?_
    obtain ⟨o6, hg⟩ := hg
    refine va_lald hx hb hK hP 53 3 rfl rfl o6 dL_law_1733 ?_
    refine lv_iload hx hb dL_law_1734 (lv_at hl 0 rfl) ?_
    refine lv_i2l (v := (n2.1.toInt64)) hx hb dL_law_1736 rfl ?_
    refine W.lcmp hx hb dL_law_1737 ?_
    obtain ⟨o7, hg⟩ := hg
    refine lv_if_eq (tgt := 1743) hx hb dL_law_1738 (by decide) (fun c_1738 => ?_) (fun c_1738 => absurd o7 c_1738)
    refine lv_goto (tgt := 2110) hx hb dL_law_1743 (by decide) ?_
    refine lv_iinc (v := (x5 + 5)) (lv' := [(5, .int (x5 + 5)), (7, .int n2.1), (6, .int n1.1), (0, .ref b), (1, .ref x), (2, .ref mh), (3, .ref o), (4, .ref oq)]) hx hb dL_law_2110 hl (k := 7) rfl rfl (by decide) rfl (fun ls hl => ?_)
    refine lv_goto (tgt := 28) hx hb dL_law_2113 (by decide) ?_
    have e9 : fM_26 S T Tr Sn Hs G Xt Ln Mo O Oq xs L x5 = (n1.2.1, n2.2, n1.2.2) := by rw [fM_26, ← en1, ← en2, if_pos c_1728_1]
    refine W.widen (k := cells + 2) (n := slots + 12) (by omega) (by omega) ?_
    exact kb (n1.2.1, n2.2, n1.2.2) e9.symm H locs ls hP hD hS (lv_sub hl [3, 4, 5, 6, 7, 0] rfl)
def fM_27 (S : CV) (T : TV) (Tr : TV) (Sn : TV) (Hs : HV) (G : (Nat → TV)) (Xt : XV) (Ln : LV) (Mo : SV) (O : (Nat → Int64)) (Oq : (Nat → UInt64)) (xs : Nat → Int32) (L : Nat) (x5 : Int32) : (CV × TV × HV × (Nat → TV) × XV × SV × (Nat → Int64)) := (if (fL_run S T Hs G Xt O).1 = 0 then ((fL_run S T Hs G Xt O).2.1, (fL_run S T Hs G Xt O).2.2.1, (fL_run S T Hs G Xt O).2.2.2.1, (fL_run S T Hs G Xt O).2.2.2.2.1, (fL_run S T Hs G Xt O).2.2.2.2.2.1, (fX6_run Mo).2, (fL_run S T Hs G Xt O).2.2.2.2.2.2) else ((fL_run S T Hs G Xt O).2.1, (fL_run S T Hs G Xt O).2.2.1, (fL_run S T Hs G Xt O).2.2.2.1, (fL_run S T Hs G Xt O).2.2.2.2.1, (fL_run S T Hs G Xt O).2.2.2.2.2.1, (fX6_run Mo).2, (fL_run S T Hs G Xt O).2.2.2.2.2.2))
def gM_27 (S : CV) (T : TV) (Tr : TV) (Sn : TV) (Hs : HV) (G : (Nat → TV)) (Xt : XV) (Ln : LV) (Mo : SV) (O : (Nat → Int64)) (Oq : (Nat → UInt64)) (xs : Nat → Int32) (L : Nat) (x5 : Int32) : Prop := ((gL_run S T Hs G Xt O) ∧ (gX6_run Mo) ∧ ((fX6_thrown (fX6_run Mo).2) = (fL_run S T Hs G Xt O).1) ∧ (if (fL_run S T Hs G Xt O).1 = 0 then ((vp_in 0 1) ∧ ((lg_cmp ((fL_run S T Hs G Xt O).2.2.2.2.2.2 (0 : Int32).toNatClampNeg) ((fX6_run Mo).1.toInt64)) = 0) ∧ True) else True))
set_option maxHeartbeats 8000000 in
set_option maxRecDepth 100000 in
theorem cM_27 {p : Program} {e : Env} {s : State} {m : MethodId} {below : List Frame} {meth : Method} {c : Code} {Q : State → Prop} (l : Launch) (D : va_G) (cI cC cT cJ cQ : ClassId) (b x ot ou ov oh ox oy ot1 ot2 ou1 ou2 ov1 ov2 rr ox1 ox2 oy1 mh m1 m2 m3 m4 m5 m6 m7 m8 o oq : Nat) (ra rb rc : Nat → Nat) (S : CV) (T : TV) (Tr : TV) (Sn : TV) (Hs : HV) (G : (Nat → TV)) (Xt : XV) (Ln : LV) (Mo : SV) (O : (Nat → Int64)) (Oq : (Nat → UInt64)) (xs : Nat → Int32) (L : Nat) (x5 : Int32) (hst : l.stackTraces = false) (hn : ∃ j : Nat, j < 9 ∧ Hs.1 = nI j) (hc : ∀ i, narrow .char (.int (Ln.1 i)) = .int (Ln.1 i)) (hx : p.tables.exec = Jvm.exec) (hb : c.code = cL_law) (hml : c.maxLocals = 9) (hown : s.vm.findClass RL = some m.cls) (hts : ∀ w ∈ wsL_law, w.before #[Value.ref b] s = true) (hK : va_K D vwCl (TY5 cI cC cT cJ cQ) s) (hX : va_X b L xs s s.heap) (hbl : b < s.heap.size) (hbA : ¬ (fun q : Nat => s.heap.size ≤ q) b) (hXE : xE (fun q : Nat => s.heap.size ≤ q) s) (hXN : xN s) (H : Heap) (locs : List Loc) (ls : Array Slot) (cells slots : Nat) (hcr : cells + 2 ≤ room_1.cells ∧ slots + 12 ≤ room_1.slots) (hP : va_P D vwCl (w5 x ot ou ov oh ox oy S ++ w3 cI ot ot1 ot2 T ++ w3 cI ou ou1 ou2 Tr ++ w3 cI ov ov1 ov2 Sn ++ w1 oh rr Hs ++ wR cI cT rr ra rb rc G ++ w4 cI cC ox ox1 ox2 Xt ++ w2 cC oy oy1 Ln ++ w6 cI cC mh m1 m2 m3 m4 m5 m6 m7 m8 Mo ++ [(o, .inl (cJ, 1, .inr (.inl O)))] ++ [(oq, .inl (cQ, 1, .inr (.inr (.inr (.inl Oq)))))]) H) (hD : va_D (fun q : Nat => s.heap.size ≤ q) (w5 x ot ou ov oh ox oy S ++ w3 cI ot ot1 ot2 T ++ w3 cI ou ou1 ou2 Tr ++ w3 cI ov ov1 ov2 Sn ++ w1 oh rr Hs ++ wR cI cT rr ra rb rc G ++ w4 cI cC ox ox1 ox2 Xt ++ w2 cC oy oy1 Ln ++ w6 cI cC mh m1 m2 m3 m4 m5 m6 m7 m8 Mo ++ [(o, .inl (cJ, 1, .inr (.inl O)))] ++ [(oq, .inl (cQ, 1, .inr (.inr (.inr (.inl Oq)))))])) (hS : va_S (fun q : Nat => s.heap.size ≤ q) s.heap H locs) (hl : lv_has ls 9 [(0, .ref b), (1, .ref x), (2, .ref mh), (3, .ref o), (4, .ref oq), (5, .int x5)]) (hg : gM_27 S T Tr Sn Hs G Xt Ln Mo O Oq xs L x5) (kb : ∀ z9 : (CV × TV × HV × (Nat → TV) × XV × SV × (Nat → Int64)), z9 = fM_27 S T Tr Sn Hs G Xt Ln Mo O Oq xs L x5 → ∀ (H : Heap) (locs : List Loc) (ls : Array Slot), va_P D vwCl (w5 x ot ou ov oh ox oy z9.1 ++ w3 cI ot ot1 ot2 z9.2.1 ++ w3 cI ou ou1 ou2 Tr ++ w3 cI ov ov1 ov2 Sn ++ w1 oh rr z9.2.2.1 ++ wR cI cT rr ra rb rc z9.2.2.2.1 ++ w4 cI cC ox ox1 ox2 z9.2.2.2.2.1 ++ w2 cC oy oy1 Ln ++ w6 cI cC mh m1 m2 m3 m4 m5 m6 m7 m8 z9.2.2.2.2.2.1 ++ [(o, .inl (cJ, 1, .inr (.inl z9.2.2.2.2.2.2)))] ++ [(oq, .inl (cQ, 1, .inr (.inr (.inr (.inl Oq)))))]) H → va_D (fun q : Nat => s.heap.size ≤ q) (w5 x ot ou ov oh ox oy z9.1 ++ w3 cI ot ot1 ot2 z9.2.1 ++ w3 cI ou ou1 ou2 Tr ++ w3 cI ov ov1 ov2 Sn ++ w1 oh rr z9.2.2.1 ++ wR cI cT rr ra rb rc z9.2.2.2.1 ++ w4 cI cC ox ox1 ox2 z9.2.2.2.2.1 ++ w2 cC oy oy1 Ln ++ w6 cI cC mh m1 m2 m3 m4 m5 m6 m7 m8 z9.2.2.2.2.2.1 ++ [(o, .inl (cJ, 1, .inr (.inl z9.2.2.2.2.2.2)))] ++ [(oq, .inl (cQ, 1, .inr (.inr (.inr (.inl Oq)))))]) → va_S (fun q : Nat => s.heap.size ≤ q) s.heap H locs → lv_has ls 9 [(0, .ref b), (1, .ref x), (2, .ref mh), (3, .ref o), (4, .ref oq), (5, .int (x5 + 5))] → W p l e room_1 s m #[Value.ref b] below meth c H locs (cells + 2) (slots + 12) Q (F0 m 28 ls [])) :
    W p l e room_1 s m #[Value.ref b] below meth c H locs cells slots Q (F0 m 1746 ls []) := by
  have hP : va_P D vwCl (w5 x ot ou ov oh ox oy S ++ w3 cI ot ot1 ot2 T ++ w3 cI ou ou1 ou2 Tr ++ w3 cI ov ov1 ov2 Sn ++ w1 oh rr Hs ++ wR cI cT rr ra rb rc G ++ w4 cI cC ox ox1 ox2 Xt ++ w2 cC oy oy1 Ln ++ w6 cI cC mh m1 m2 m3 m4 m5 m6 m7 m8 Mo ++ [(o, .inl (cJ, 1, .inr (.inl O)))] ++ [(oq, .inl (cQ, 1, .inr (.inr (.inr (.inl Oq)))))]) H := hP
  have hD : va_D (fun q : Nat => s.heap.size ≤ q) (w5 x ot ou ov oh ox oy S ++ w3 cI ot ot1 ot2 T ++ w3 cI ou ou1 ou2 Tr ++ w3 cI ov ov1 ov2 Sn ++ w1 oh rr Hs ++ wR cI cT rr ra rb rc G ++ w4 cI cC ox ox1 ox2 Xt ++ w2 cC oy oy1 Ln ++ w6 cI cC mh m1 m2 m3 m4 m5 m6 m7 m8 Mo ++ [(o, .inl (cJ, 1, .inr (.inl O)))] ++ [(oq, .inl (cQ, 1, .inr (.inr (.inr (.inl Oq)))))]) := hD
  have hK3 := hK.sub (tys' := TY cI cC cT) [0, 1, 2] rfl
  unfold gM_27 at hg
  refine lv_aload_n hx hb dL_law_1746 rfl (lv_at hl 1 rfl) ?_
  refine lv_aload_n hx hb dL_law_1747 rfl (lv_at hl 3 rfl) ?_
  obtain ⟨n1, en1⟩ : ∃ z9, z9 = (fL_run S T Hs G Xt O) := ⟨_, rfl⟩
  try rw [← en1] at hg
  obtain ⟨o1, hg⟩ := hg
  have k9 := (kL_run l D cI cC cT cJ cQ x ot ou ov oh ox oy ot1 ot2 rr ox1 ox2 o ra rb rc S T Hs G Xt O hst hn o1)
  rw [← en1] at k9
  refine fLq (As := [.ref x, .ref o]) (rest := []) ⟨hx, hb, hml, hown, hts⟩ k9 (vx_cwSW (hh := [(0, 8, 11, 13), (0, 8, 14, 15)]) 2 hts gL_law_L_run rfl rfl rfl (by decide +kernel) ⟨Nat.le_of_ble_eq_true rfl, Nat.le_of_ble_eq_true rfl⟩) hP hK hD hS hXE hXN (w3 cI ou ou1 ou2 Tr ++ w3 cI ov ov1 ov2 Sn ++ w2 cC oy oy1 Ln ++ w6 cI cC mh m1 m2 m3 m4 m5 m6 m7 m8 Mo ++ [(oq, .inl (cQ, 1, .inr (.inr (.inr (.inl Oq)))))] : va_W) (pmI (fun a => by simp only [cntW_app, cntW_nil] <;> omega)) (w5 x ot ou ov oh ox oy n1.2.1 ++ w3 cI ot ot1 ot2 n1.2.2.1 ++ w3 cI ou ou1 ou2 Tr ++ w3 cI ov ov1 ov2 Sn ++ w1 oh rr n1.2.2.2.1 ++ wR cI cT rr ra rb rc n1.2.2.2.2.1 ++ w4 cI cC ox ox1 ox2 n1.2.2.2.2.2.1 ++ w2 cC oy oy1 Ln ++ w6 cI cC mh m1 m2 m3 m4 m5 m6 m7 m8 Mo ++ [(o, .inl (cJ, 1, .inr (.inl n1.2.2.2.2.2.2)))] ++ [(oq, .inl (cQ, 1, .inr (.inr (.inr (.inl Oq)))))]) (pmI (fun a => by simp only [cntW_app, cntW_nil] <;> omega)) rfl rfl hl.1 rfl (Nat.le_of_ble_eq_true rfl) ⟨Nat.le_trans (Nat.add_le_add_left (by decide) _) hcr.1, Nat.le_trans (Nat.add_le_add_left (by decide) _) hcr.2⟩ dL_law_1748 (fun H locs hP hD hS => ?_)
  refine lv_istore (lv' := [(6, .int n1.1), (0, .ref b), (1, .ref x), (2, .ref mh), (3, .ref o), (4, .ref oq), (5, .int x5)]) hx hb dL_law_1751 hl (by decide) rfl (fun ls hl => ?_)
  refine lv_aload_n hx hb dL_law_1753 rfl (lv_at hl 3 rfl) ?_
  obtain ⟨n2, en2⟩ : ∃ z9, z9 = (fX6_run Mo) := ⟨_, rfl⟩
  try rw [← en2] at hg
  obtain ⟨o2, hg⟩ := hg
  have k9 := (kX6_run l D cI cC cT mh m1 m2 m3 m4 m5 m6 m7 m8 Mo o2)
  rw [← en2] at k9
  refine fUq (As := []) (rest := []) (st' := [.int n2.1]) ⟨hx, hb, hml, hown, hts⟩ k9 (cwV 0 hts gL_law_X6_run rfl rfl rfl (by decide +kernel) ⟨Nat.le_of_ble_eq_true rfl, Nat.le_of_ble_eq_true rfl⟩) hP hK3 hD hS (w5 x ot ou ov oh ox oy n1.2.1 ++ w3 cI ot ot1 ot2 n1.2.2.1 ++ w3 cI ou ou1 ou2 Tr ++ w3 cI ov ov1 ov2 Sn ++ w1 oh rr n1.2.2.2.1 ++ wR cI cT rr ra rb rc n1.2.2.2.2.1 ++ w4 cI cC ox ox1 ox2 n1.2.2.2.2.2.1 ++ w2 cC oy oy1 Ln ++ [(o, .inl (cJ, 1, .inr (.inl n1.2.2.2.2.2.2)))] ++ [(oq, .inl (cQ, 1, .inr (.inr (.inr (.inl Oq)))))] : va_W) (pmI (fun a => by simp only [cntW_app, cntW_nil] <;> omega)) (w5 x ot ou ov oh ox oy n1.2.1 ++ w3 cI ot ot1 ot2 n1.2.2.1 ++ w3 cI ou ou1 ou2 Tr ++ w3 cI ov ov1 ov2 Sn ++ w1 oh rr n1.2.2.2.1 ++ wR cI cT rr ra rb rc n1.2.2.2.2.1 ++ w4 cI cC ox ox1 ox2 n1.2.2.2.2.2.1 ++ w2 cC oy oy1 Ln ++ w6 cI cC mh m1 m2 m3 m4 m5 m6 m7 m8 n2.2 ++ [(o, .inl (cJ, 1, .inr (.inl n1.2.2.2.2.2.2)))] ++ [(oq, .inl (cQ, 1, .inr (.inr (.inr (.inl Oq)))))]) (pmI (fun a => by simp only [cntW_app, cntW_nil] <;> omega)) rfl 44 (ci := 7) rfl rfl rfl rfl hl.1 rfl rfl (Nat.le_of_ble_eq_true rfl) ⟨Nat.le_trans (Nat.add_le_add_left (by decide) _) hcr.1, Nat.le_trans (Nat.add_le_add_left (by decide) _) hcr.2⟩ dL_law_1754 (fun H locs hP hD hS => ?_)
  refine lv_istore (lv' := [(7, .int n2.1), (6, .int n1.1), (0, .ref b), (1, .ref x), (2, .ref mh), (3, .ref o), (4, .ref oq), (5, .int x5)]) hx hb dL_law_1757 hl (by decide) rfl (fun ls hl => ?_)
  refine lv_aload_n hx hb dL_law_1759 rfl (lv_at hl 4 rfl) ?_
  refine fRq (As := []) (rest := []) (st' := [.int (fX6_thrown n2.2)]) ⟨hx, hb, hml, hown, hts⟩ (kX6_thrown l D cI cC cT mh m1 m2 m3 m4 m5 m6 m7 m8 n2.2) (cwV 0 hts gL_law_X6_thrown rfl rfl rfl (by decide +kernel) ⟨Nat.le_of_ble_eq_true rfl, Nat.le_of_ble_eq_true rfl⟩) hP hK3 (w5 x ot ou ov oh ox oy n1.2.1 ++ w3 cI ot ot1 ot2 n1.2.2.1 ++ w3 cI ou ou1 ou2 Tr ++ w3 cI ov ov1 ov2 Sn ++ w1 oh rr n1.2.2.2.1 ++ wR cI cT rr ra rb rc n1.2.2.2.2.1 ++ w4 cI cC ox ox1 ox2 n1.2.2.2.2.2.1 ++ w2 cC oy oy1 Ln ++ [(o, .inl (cJ, 1, .inr (.inl n1.2.2.2.2.2.2)))] ++ [(oq, .inl (cQ, 1, .inr (.inr (.inr (.inl Oq)))))] : va_W) (pmI (fun a => by simp only [cntW_app, cntW_nil] <;> omega)) 44 (ci := 7) rfl rfl rfl rfl hl.1 rfl rfl (Nat.le_of_ble_eq_true rfl) ⟨Nat.le_trans (Nat.add_le_add_left (by decide) _) hcr.1, Nat.le_trans (Nat.add_le_add_left (by decide) _) hcr.2⟩ dL_law_1760 ?_
  refine lv_iload hx hb dL_law_1763 (lv_at hl 1 rfl) ?_
  obtain ⟨o3, hg⟩ := hg
  refine lv_icmp_eq (tgt := 1770) hx hb dL_law_1765 (by decide) (fun c_1765 => ?_) (fun c_1765 => absurd o3 c_1765)
  refine lv_iload hx hb dL_law_1770 (lv_at hl 1 rfl) ?_
  refine lv_if_ne (tgt := 1787) hx hb dL_law_1772 (by decide) (fun c_1772_1 => ?_) (fun c_1772_1 => ?_)
  · rw [if_neg c_1772_1] at hg
    refine lv_goto (tgt := 2110) hx hb dL_law_1787 (by decide) ?_
    refine lv_iinc (v := (x5 + 5)) (lv' := [(5, .int (x5 + 5)), (7, .int n2.1), (6, .int n1.1), (0, .ref b), (1, .ref x), (2, .ref mh), (3, .ref o), (4, .ref oq)]) hx hb dL_law_2110 hl (k := 7) rfl rfl (by decide) rfl (fun ls hl => ?_)
    refine lv_goto (tgt := 28) hx hb dL_law_2113 (by decide) ?_
    have e9 : fM_27 S T Tr Sn Hs G Xt Ln Mo O Oq xs L x5 = (n1.2.1, n1.2.2.1, n1.2.2.2.1, n1.2.2.2.2.1, n1.2.2.2.2.2.1, n2.2, n1.2.2.2.2.2.2) := by rw [fM_27, ← en1, ← en2, if_neg c_1772_1]
    refine W.widen (k := cells + 2) (n := slots + 12) (by omega) (by omega) ?_
    exact kb (n1.2.1, n1.2.2.1, n1.2.2.2.1, n1.2.2.2.2.1, n1.2.2.2.2.2.1, n2.2, n1.2.2.2.2.2.2) e9.symm H locs ls hP hD hS (lv_sub hl [3, 4, 5, 6, 7, 0] rfl)
  · rw [if_pos c_1772_1] at hg
    refine lv_aload_n hx hb dL_law_1775 rfl (lv_at hl 5 rfl) ?_
    refine lv_iconst (v := 0) hx hb dL_law_1776 (by decide) ?_
    obtain ⟨o4, hg⟩ := hg
    refine va_lald hx hb hK hP 53 3 rfl rfl o4 dL_law_1777 ?_
    refine lv_iload hx hb dL_law_1778 (lv_at hl 0 rfl) ?_
    refine lv_i2l (v := (n2.1.toInt64)) hx hb dL_law_1780 rfl ?_
    refine W.lcmp hx hb dL_law_1781 ?_
    obtain ⟨o5, hg⟩ := hg
    refine lv_if_eq (tgt := 1787) hx hb dL_law_1782 (by decide) (fun c_1782 => ?_) (fun c_1782 => absurd o5 c_1782)
    refine lv_goto (tgt := 2110) hx hb dL_law_1787 (by decide) ?_
    refine lv_iinc (v := (x5 + 5)) (lv' := [(5, .int (x5 + 5)), (7, .int n2.1), (6, .int n1.1), (0, .ref b), (1, .ref x), (2, .ref mh), (3, .ref o), (4, .ref oq)]) hx hb dL_law_2110 hl (k := 7) rfl rfl (by decide) rfl (fun ls hl => ?_)
    refine lv_goto (tgt := 28) hx hb dL_law_2113 (by decide) ?_
    have e9 : fM_27 S T Tr Sn Hs G Xt Ln Mo O Oq xs L x5 = (n1.2.1, n1.2.2.1, n1.2.2.2.1, n1.2.2.2.2.1, n1.2.2.2.2.2.1, n2.2, n1.2.2.2.2.2.2) := by rw [fM_27, ← en1, ← en2, if_pos c_1772_1]
    refine W.widen (k := cells + 2) (n := slots + 12) (by omega) (by omega) ?_
    exact kb (n1.2.1, n1.2.2.1, n1.2.2.2.1, n1.2.2.2.2.1, n1.2.2.2.2.2.1, n2.2, n1.2.2.2.2.2.2) e9.symm H locs ls hP hD hS (lv_sub hl [3, 4, 5, 6, 7, 0] rfl)
def fM_28 (S : CV) (T : TV) (Tr : TV) (Sn : TV) (Hs : HV) (G : (Nat → TV)) (Xt : XV) (Ln : LV) (Mo : SV) (O : (Nat → Int64)) (Oq : (Nat → UInt64)) (xs : Nat → Int32) (L : Nat) (x5 : Int32) : SV := (fX6_errorPosition Mo).2
def gM_28 (S : CV) (T : TV) (Tr : TV) (Sn : TV) (Hs : HV) (G : (Nat → TV)) (Xt : XV) (Ln : LV) (Mo : SV) (O : (Nat → Int64)) (Oq : (Nat → UInt64)) (xs : Nat → Int32) (L : Nat) (x5 : Int32) : Prop := (((fX5_errorPosition S) = (fX6_errorPosition Mo).1) ∧ True)
set_option maxHeartbeats 8000000 in
set_option maxRecDepth 100000 in
theorem cM_28 {p : Program} {e : Env} {s : State} {m : MethodId} {below : List Frame} {meth : Method} {c : Code} {Q : State → Prop} (l : Launch) (D : va_G) (cI cC cT cJ cQ : ClassId) (b x ot ou ov oh ox oy ot1 ot2 ou1 ou2 ov1 ov2 rr ox1 ox2 oy1 mh m1 m2 m3 m4 m5 m6 m7 m8 o oq : Nat) (ra rb rc : Nat → Nat) (S : CV) (T : TV) (Tr : TV) (Sn : TV) (Hs : HV) (G : (Nat → TV)) (Xt : XV) (Ln : LV) (Mo : SV) (O : (Nat → Int64)) (Oq : (Nat → UInt64)) (xs : Nat → Int32) (L : Nat) (x5 : Int32) (hst : l.stackTraces = false) (hn : ∃ j : Nat, j < 9 ∧ Hs.1 = nI j) (hc : ∀ i, narrow .char (.int (Ln.1 i)) = .int (Ln.1 i)) (hx : p.tables.exec = Jvm.exec) (hb : c.code = cL_law) (hml : c.maxLocals = 9) (hown : s.vm.findClass RL = some m.cls) (hts : ∀ w ∈ wsL_law, w.before #[Value.ref b] s = true) (hK : va_K D vwCl (TY5 cI cC cT cJ cQ) s) (hX : va_X b L xs s s.heap) (hbl : b < s.heap.size) (hbA : ¬ (fun q : Nat => s.heap.size ≤ q) b) (hXE : xE (fun q : Nat => s.heap.size ≤ q) s) (hXN : xN s) (H : Heap) (locs : List Loc) (ls : Array Slot) (cells slots : Nat) (hcr : cells + 2 ≤ room_1.cells ∧ slots + 12 ≤ room_1.slots) (hP : va_P D vwCl (w5 x ot ou ov oh ox oy S ++ w3 cI ot ot1 ot2 T ++ w3 cI ou ou1 ou2 Tr ++ w3 cI ov ov1 ov2 Sn ++ w1 oh rr Hs ++ wR cI cT rr ra rb rc G ++ w4 cI cC ox ox1 ox2 Xt ++ w2 cC oy oy1 Ln ++ w6 cI cC mh m1 m2 m3 m4 m5 m6 m7 m8 Mo ++ [(o, .inl (cJ, 1, .inr (.inl O)))] ++ [(oq, .inl (cQ, 1, .inr (.inr (.inr (.inl Oq)))))]) H) (hD : va_D (fun q : Nat => s.heap.size ≤ q) (w5 x ot ou ov oh ox oy S ++ w3 cI ot ot1 ot2 T ++ w3 cI ou ou1 ou2 Tr ++ w3 cI ov ov1 ov2 Sn ++ w1 oh rr Hs ++ wR cI cT rr ra rb rc G ++ w4 cI cC ox ox1 ox2 Xt ++ w2 cC oy oy1 Ln ++ w6 cI cC mh m1 m2 m3 m4 m5 m6 m7 m8 Mo ++ [(o, .inl (cJ, 1, .inr (.inl O)))] ++ [(oq, .inl (cQ, 1, .inr (.inr (.inr (.inl Oq)))))])) (hS : va_S (fun q : Nat => s.heap.size ≤ q) s.heap H locs) (hl : lv_has ls 9 [(0, .ref b), (1, .ref x), (2, .ref mh), (3, .ref o), (4, .ref oq), (5, .int x5)]) (hg : gM_28 S T Tr Sn Hs G Xt Ln Mo O Oq xs L x5) (kb : ∀ z9 : SV, z9 = fM_28 S T Tr Sn Hs G Xt Ln Mo O Oq xs L x5 → ∀ (H : Heap) (locs : List Loc) (ls : Array Slot), va_P D vwCl (w5 x ot ou ov oh ox oy S ++ w3 cI ot ot1 ot2 T ++ w3 cI ou ou1 ou2 Tr ++ w3 cI ov ov1 ov2 Sn ++ w1 oh rr Hs ++ wR cI cT rr ra rb rc G ++ w4 cI cC ox ox1 ox2 Xt ++ w2 cC oy oy1 Ln ++ w6 cI cC mh m1 m2 m3 m4 m5 m6 m7 m8 z9 ++ [(o, .inl (cJ, 1, .inr (.inl O)))] ++ [(oq, .inl (cQ, 1, .inr (.inr (.inr (.inl Oq)))))]) H → va_D (fun q : Nat => s.heap.size ≤ q) (w5 x ot ou ov oh ox oy S ++ w3 cI ot ot1 ot2 T ++ w3 cI ou ou1 ou2 Tr ++ w3 cI ov ov1 ov2 Sn ++ w1 oh rr Hs ++ wR cI cT rr ra rb rc G ++ w4 cI cC ox ox1 ox2 Xt ++ w2 cC oy oy1 Ln ++ w6 cI cC mh m1 m2 m3 m4 m5 m6 m7 m8 z9 ++ [(o, .inl (cJ, 1, .inr (.inl O)))] ++ [(oq, .inl (cQ, 1, .inr (.inr (.inr (.inl Oq)))))]) → va_S (fun q : Nat => s.heap.size ≤ q) s.heap H locs → lv_has ls 9 [(0, .ref b), (1, .ref x), (2, .ref mh), (3, .ref o), (4, .ref oq), (5, .int (x5 + 5))] → W p l e room_1 s m #[Value.ref b] below meth c H locs (cells + 2) (slots + 12) Q (F0 m 28 ls [])) :
    W p l e room_1 s m #[Value.ref b] below meth c H locs cells slots Q (F0 m 1790 ls []) := by
  have hP : va_P D vwCl (w5 x ot ou ov oh ox oy S ++ w3 cI ot ot1 ot2 T ++ w3 cI ou ou1 ou2 Tr ++ w3 cI ov ov1 ov2 Sn ++ w1 oh rr Hs ++ wR cI cT rr ra rb rc G ++ w4 cI cC ox ox1 ox2 Xt ++ w2 cC oy oy1 Ln ++ w6 cI cC mh m1 m2 m3 m4 m5 m6 m7 m8 Mo ++ [(o, .inl (cJ, 1, .inr (.inl O)))] ++ [(oq, .inl (cQ, 1, .inr (.inr (.inr (.inl Oq)))))]) H := hP
  have hD : va_D (fun q : Nat => s.heap.size ≤ q) (w5 x ot ou ov oh ox oy S ++ w3 cI ot ot1 ot2 T ++ w3 cI ou ou1 ou2 Tr ++ w3 cI ov ov1 ov2 Sn ++ w1 oh rr Hs ++ wR cI cT rr ra rb rc G ++ w4 cI cC ox ox1 ox2 Xt ++ w2 cC oy oy1 Ln ++ w6 cI cC mh m1 m2 m3 m4 m5 m6 m7 m8 Mo ++ [(o, .inl (cJ, 1, .inr (.inl O)))] ++ [(oq, .inl (cQ, 1, .inr (.inr (.inr (.inl Oq)))))]) := hD
  have hK3 := hK.sub (tys' := TY cI cC cT) [0, 1, 2] rfl
  unfold gM_28 at hg
  refine lv_aload_n hx hb dL_law_1790 rfl (lv_at hl 1 rfl) ?_
  refine fRq (As := []) (rest := []) (st' := [.int (fX5_errorPosition S)]) ⟨hx, hb, hml, hown, hts⟩ (kX5_errorPosition l D cI cC cT x ot ou ov oh ox oy S) (cwV 0 hts gL_law_X5_errorPosition rfl rfl rfl (by decide +kernel) ⟨Nat.le_of_ble_eq_true rfl, Nat.le_of_ble_eq_true rfl⟩) hP hK3 (w3 cI ot ot1 ot2 T ++ w3 cI ou ou1 ou2 Tr ++ w3 cI ov ov1 ov2 Sn ++ w1 oh rr Hs ++ wR cI cT rr ra rb rc G ++ w4 cI cC ox ox1 ox2 Xt ++ w2 cC oy oy1 Ln ++ w6 cI cC mh m1 m2 m3 m4 m5 m6 m7 m8 Mo ++ [(o, .inl (cJ, 1, .inr (.inl O)))] ++ [(oq, .inl (cQ, 1, .inr (.inr (.inr (.inl Oq)))))] : va_W) (pmI (fun a => by simp only [cntW_app, cntW_nil] <;> omega)) 0 (ci := 6) rfl rfl rfl rfl hl.1 rfl rfl (Nat.le_of_ble_eq_true rfl) ⟨Nat.le_trans (Nat.le_add_right _ _) hcr.1, Nat.le_trans (Nat.le_add_right _ _) hcr.2⟩ dL_law_1791 ?_
  refine lv_aload_n hx hb dL_law_1794 rfl (lv_at hl 2 rfl) ?_
  obtain ⟨n1, en1⟩ : ∃ z9, z9 = (fX6_errorPosition Mo) := ⟨_, rfl⟩
  try rw [← en1] at hg
  have k9 := (kX6_errorPosition l D cI cC cT mh m1 m2 m3 m4 m5 m6 m7 m8 Mo)
  rw [← en1] at k9
  refine fUq (As := []) (rest := [.int (fX5_errorPosition S)]) (st' := [.int n1.1, .int (fX5_errorPosition S)]) ⟨hx, hb, hml, hown, hts⟩ k9 (cwV 0 hts gL_law_X6_errorPosition rfl rfl rfl (by decide +kernel) ⟨Nat.le_of_ble_eq_true rfl, Nat.le_of_ble_eq_true rfl⟩) hP hK3 hD hS (w5 x ot ou ov oh ox oy S ++ w3 cI ot ot1 ot2 T ++ w3 cI ou ou1 ou2 Tr ++ w3 cI ov ov1 ov2 Sn ++ w1 oh rr Hs ++ wR cI cT rr ra rb rc G ++ w4 cI cC ox ox1 ox2 Xt ++ w2 cC oy oy1 Ln ++ [(o, .inl (cJ, 1, .inr (.inl O)))] ++ [(oq, .inl (cQ, 1, .inr (.inr (.inr (.inl Oq)))))] : va_W) (pmI (fun a => by simp only [cntW_app, cntW_nil] <;> omega)) (w5 x ot ou ov oh ox oy S ++ w3 cI ot ot1 ot2 T ++ w3 cI ou ou1 ou2 Tr ++ w3 cI ov ov1 ov2 Sn ++ w1 oh rr Hs ++ wR cI cT rr ra rb rc G ++ w4 cI cC ox ox1 ox2 Xt ++ w2 cC oy oy1 Ln ++ w6 cI cC mh m1 m2 m3 m4 m5 m6 m7 m8 n1.2 ++ [(o, .inl (cJ, 1, .inr (.inl O)))] ++ [(oq, .inl (cQ, 1, .inr (.inr (.inr (.inl Oq)))))]) (pmI (fun a => by simp only [cntW_app, cntW_nil] <;> omega)) rfl 44 (ci := 7) rfl rfl rfl rfl hl.1 rfl rfl (Nat.le_of_ble_eq_true rfl) ⟨Nat.le_trans (Nat.le_add_right _ _) hcr.1, Nat.le_trans (Nat.le_add_right _ _) hcr.2⟩ dL_law_1795 (fun H locs hP hD hS => ?_)
  obtain ⟨o1, hg⟩ := hg
  refine lv_icmp_eq (tgt := 2110) hx hb dL_law_1798 (by decide) (fun c_1798 => ?_) (fun c_1798 => absurd o1 c_1798)
  refine lv_iinc (v := (x5 + 5)) (lv' := [(5, .int (x5 + 5)), (0, .ref b), (1, .ref x), (2, .ref mh), (3, .ref o), (4, .ref oq)]) hx hb dL_law_2110 hl (k := 5) rfl rfl (by decide) rfl (fun ls hl => ?_)
  refine lv_goto (tgt := 28) hx hb dL_law_2113 (by decide) ?_
  have e9 : fM_28 S T Tr Sn Hs G Xt Ln Mo O Oq xs L x5 = n1.2 := by rw [fM_28, ← en1]
  refine W.widen (k := cells + 2) (n := slots + 12) (by omega) (by omega) ?_
  exact kb n1.2 e9.symm H locs ls hP hD hS (lv_sub hl [1, 2, 3, 4, 5, 0] rfl)
def fM_29 (S : CV) (T : TV) (Tr : TV) (Sn : TV) (Hs : HV) (G : (Nat → TV)) (Xt : XV) (Ln : LV) (Mo : SV) (O : (Nat → Int64)) (Oq : (Nat → UInt64)) (xs : Nat → Int32) (L : Nat) (x5 : Int32) : (SV × (Nat → Int64)) := (if (xs ((x5 + 1)).toNatClampNeg) = 0 then (if (fL_refusal S O 0).1 = 0 then ((fX6_refusal Mo 0).2, (fL_refusal S O 0).2) else ((fX6_refusal Mo 0).2, (fL_refusal S O 0).2)) else (if (fL_refusal S O 1).1 = 0 then ((fX6_refusal Mo 1).2, (fL_refusal S O 1).2) else ((fX6_refusal Mo 1).2, (fL_refusal S O 1).2)))
def gM_29 (S : CV) (T : TV) (Tr : TV) (Sn : TV) (Hs : HV) (G : (Nat → TV)) (Xt : XV) (Ln : LV) (Mo : SV) (O : (Nat → Int64)) (Oq : (Nat → UInt64)) (xs : Nat → Int32) (L : Nat) (x5 : Int32) : Prop := ((vp_in (x5 + 1) L) ∧ (if (xs ((x5 + 1)).toNatClampNeg) = 0 then ((gL_refusal S O 0) ∧ (vp_in (x5 + 1) L) ∧ ((fX6_thrown (fX6_refusal Mo 0).2) = (fL_refusal S O 0).1) ∧ (if (fL_refusal S O 0).1 = 0 then ((vp_in 0 1) ∧ ((lg_cmp ((fL_refusal S O 0).2 (0 : Int32).toNatClampNeg) ((fX6_refusal Mo 0).1.toInt64)) = 0) ∧ True) else True)) else ((gL_refusal S O 1) ∧ (vp_in (x5 + 1) L) ∧ ((fX6_thrown (fX6_refusal Mo 1).2) = (fL_refusal S O 1).1) ∧ (if (fL_refusal S O 1).1 = 0 then ((vp_in 0 1) ∧ ((lg_cmp ((fL_refusal S O 1).2 (0 : Int32).toNatClampNeg) ((fX6_refusal Mo 1).1.toInt64)) = 0) ∧ True) else True))))
set_option maxHeartbeats 8000000 in
set_option maxRecDepth 100000 in
theorem cM_29 {p : Program} {e : Env} {s : State} {m : MethodId} {below : List Frame} {meth : Method} {c : Code} {Q : State → Prop} (l : Launch) (D : va_G) (cI cC cT cJ cQ : ClassId) (b x ot ou ov oh ox oy ot1 ot2 ou1 ou2 ov1 ov2 rr ox1 ox2 oy1 mh m1 m2 m3 m4 m5 m6 m7 m8 o oq : Nat) (ra rb rc : Nat → Nat) (S : CV) (T : TV) (Tr : TV) (Sn : TV) (Hs : HV) (G : (Nat → TV)) (Xt : XV) (Ln : LV) (Mo : SV) (O : (Nat → Int64)) (Oq : (Nat → UInt64)) (xs : Nat → Int32) (L : Nat) (x5 : Int32) (hst : l.stackTraces = false) (hn : ∃ j : Nat, j < 9 ∧ Hs.1 = nI j) (hc : ∀ i, narrow .char (.int (Ln.1 i)) = .int (Ln.1 i)) (hx : p.tables.exec = Jvm.exec) (hb : c.code = cL_law) (hml : c.maxLocals = 9) (hown : s.vm.findClass RL = some m.cls) (hts : ∀ w ∈ wsL_law, w.before #[Value.ref b] s = true) (hK : va_K D vwCl (TY5 cI cC cT cJ cQ) s) (hX : va_X b L xs s s.heap) (hbl : b < s.heap.size) (hbA : ¬ (fun q : Nat => s.heap.size ≤ q) b) (hXE : xE (fun q : Nat => s.heap.size ≤ q) s) (hXN : xN s) (H : Heap) (locs : List Loc) (ls : Array Slot) (cells slots : Nat) (hcr : cells + 2 ≤ room_1.cells ∧ slots + 12 ≤ room_1.slots) (hP : va_P D vwCl (w5 x ot ou ov oh ox oy S ++ w3 cI ot ot1 ot2 T ++ w3 cI ou ou1 ou2 Tr ++ w3 cI ov ov1 ov2 Sn ++ w1 oh rr Hs ++ wR cI cT rr ra rb rc G ++ w4 cI cC ox ox1 ox2 Xt ++ w2 cC oy oy1 Ln ++ w6 cI cC mh m1 m2 m3 m4 m5 m6 m7 m8 Mo ++ [(o, .inl (cJ, 1, .inr (.inl O)))] ++ [(oq, .inl (cQ, 1, .inr (.inr (.inr (.inl Oq)))))]) H) (hD : va_D (fun q : Nat => s.heap.size ≤ q) (w5 x ot ou ov oh ox oy S ++ w3 cI ot ot1 ot2 T ++ w3 cI ou ou1 ou2 Tr ++ w3 cI ov ov1 ov2 Sn ++ w1 oh rr Hs ++ wR cI cT rr ra rb rc G ++ w4 cI cC ox ox1 ox2 Xt ++ w2 cC oy oy1 Ln ++ w6 cI cC mh m1 m2 m3 m4 m5 m6 m7 m8 Mo ++ [(o, .inl (cJ, 1, .inr (.inl O)))] ++ [(oq, .inl (cQ, 1, .inr (.inr (.inr (.inl Oq)))))])) (hS : va_S (fun q : Nat => s.heap.size ≤ q) s.heap H locs) (hl : lv_has ls 9 [(0, .ref b), (1, .ref x), (2, .ref mh), (3, .ref o), (4, .ref oq), (5, .int x5)]) (hg : gM_29 S T Tr Sn Hs G Xt Ln Mo O Oq xs L x5) (kb : ∀ z9 : (SV × (Nat → Int64)), z9 = fM_29 S T Tr Sn Hs G Xt Ln Mo O Oq xs L x5 → ∀ (H : Heap) (locs : List Loc) (ls : Array Slot), va_P D vwCl (w5 x ot ou ov oh ox oy S ++ w3 cI ot ot1 ot2 T ++ w3 cI ou ou1 ou2 Tr ++ w3 cI ov ov1 ov2 Sn ++ w1 oh rr Hs ++ wR cI cT rr ra rb rc G ++ w4 cI cC ox ox1 ox2 Xt ++ w2 cC oy oy1 Ln ++ w6 cI cC mh m1 m2 m3 m4 m5 m6 m7 m8 z9.1 ++ [(o, .inl (cJ, 1, .inr (.inl z9.2)))] ++ [(oq, .inl (cQ, 1, .inr (.inr (.inr (.inl Oq)))))]) H → va_D (fun q : Nat => s.heap.size ≤ q) (w5 x ot ou ov oh ox oy S ++ w3 cI ot ot1 ot2 T ++ w3 cI ou ou1 ou2 Tr ++ w3 cI ov ov1 ov2 Sn ++ w1 oh rr Hs ++ wR cI cT rr ra rb rc G ++ w4 cI cC ox ox1 ox2 Xt ++ w2 cC oy oy1 Ln ++ w6 cI cC mh m1 m2 m3 m4 m5 m6 m7 m8 z9.1 ++ [(o, .inl (cJ, 1, .inr (.inl z9.2)))] ++ [(oq, .inl (cQ, 1, .inr (.inr (.inr (.inl Oq)))))]) → va_S (fun q : Nat => s.heap.size ≤ q) s.heap H locs → lv_has ls 9 [(0, .ref b), (1, .ref x), (2, .ref mh), (3, .ref o), (4, .ref oq), (5, .int (x5 + 5))] → W p l e room_1 s m #[Value.ref b] below meth c H locs (cells + 2) (slots + 12) Q (F0 m 28 ls [])) :
    W p l e room_1 s m #[Value.ref b] below meth c H locs cells slots Q (F0 m 1803 ls []) := by
  have hP : va_P D vwCl (w5 x ot ou ov oh ox oy S ++ w3 cI ot ot1 ot2 T ++ w3 cI ou ou1 ou2 Tr ++ w3 cI ov ov1 ov2 Sn ++ w1 oh rr Hs ++ wR cI cT rr ra rb rc G ++ w4 cI cC ox ox1 ox2 Xt ++ w2 cC oy oy1 Ln ++ w6 cI cC mh m1 m2 m3 m4 m5 m6 m7 m8 Mo ++ [(o, .inl (cJ, 1, .inr (.inl O)))] ++ [(oq, .inl (cQ, 1, .inr (.inr (.inr (.inl Oq)))))]) H := hP
  have hD : va_D (fun q : Nat => s.heap.size ≤ q) (w5 x ot ou ov oh ox oy S ++ w3 cI ot ot1 ot2 T ++ w3 cI ou ou1 ou2 Tr ++ w3 cI ov ov1 ov2 Sn ++ w1 oh rr Hs ++ wR cI cT rr ra rb rc G ++ w4 cI cC ox ox1 ox2 Xt ++ w2 cC oy oy1 Ln ++ w6 cI cC mh m1 m2 m3 m4 m5 m6 m7 m8 Mo ++ [(o, .inl (cJ, 1, .inr (.inl O)))] ++ [(oq, .inl (cQ, 1, .inr (.inr (.inr (.inl Oq)))))]) := hD
  have hK3 := hK.sub (tys' := TY cI cC cT) [0, 1, 2] rfl
  unfold gM_29 at hg
  refine lv_aload_n hx hb dL_law_1803 rfl (lv_at hl 1 rfl) ?_
  refine lv_aload_n hx hb dL_law_1804 rfl (lv_at hl 0 rfl) ?_
  refine lv_iload hx hb dL_law_1805 (lv_at hl 5 rfl) ?_
  refine lv_iconst (v := 1) hx hb dL_law_1807 (by decide) ?_
  refine lv_iadd hx hb dL_law_1808 ?_
  obtain ⟨o1, hg⟩ := hg
  refine va_sld hx hb hX hbl hbA hS o1 dL_law_1809 ?_
  refine lv_if_eq (tgt := 1817) hx hb dL_law_1810 (by decide) (fun c_1810_1 => ?_) (fun c_1810_1 => ?_)
  · rw [if_pos c_1810_1] at hg
    refine lv_iconst (v := 0) hx hb dL_law_1817 (by decide) ?_
    refine lv_aload_n hx hb dL_law_1818 rfl (lv_at hl 3 rfl) ?_
    obtain ⟨n1, en1⟩ : ∃ z9, z9 = (fL_refusal S O 0) := ⟨_, rfl⟩
    try rw [← en1] at hg
    obtain ⟨o2, hg⟩ := hg
    have k9 := (kL_refusal l D cI cC cT cJ cQ x ot ou ov oh ox oy o S O 0 hst o2)
    rw [← en1] at k9
    refine fLq (As := [.ref x, .int 0, .ref o]) (rest := []) ⟨hx, hb, hml, hown, hts⟩ k9 (vx_cwSW (hh := [(0, 9, 12, 53)]) 3 hts gL_law_L_refusal rfl rfl rfl (by decide +kernel) ⟨Nat.le_of_ble_eq_true rfl, Nat.le_of_ble_eq_true rfl⟩) hP hK hD hS hXE hXN (w3 cI ot ot1 ot2 T ++ w3 cI ou ou1 ou2 Tr ++ w3 cI ov ov1 ov2 Sn ++ w1 oh rr Hs ++ wR cI cT rr ra rb rc G ++ w4 cI cC ox ox1 ox2 Xt ++ w2 cC oy oy1 Ln ++ w6 cI cC mh m1 m2 m3 m4 m5 m6 m7 m8 Mo ++ [(oq, .inl (cQ, 1, .inr (.inr (.inr (.inl Oq)))))] : va_W) (pmI (fun a => by simp only [cntW_app, cntW_nil] <;> omega)) (w5 x ot ou ov oh ox oy S ++ w3 cI ot ot1 ot2 T ++ w3 cI ou ou1 ou2 Tr ++ w3 cI ov ov1 ov2 Sn ++ w1 oh rr Hs ++ wR cI cT rr ra rb rc G ++ w4 cI cC ox ox1 ox2 Xt ++ w2 cC oy oy1 Ln ++ w6 cI cC mh m1 m2 m3 m4 m5 m6 m7 m8 Mo ++ [(o, .inl (cJ, 1, .inr (.inl n1.2)))] ++ [(oq, .inl (cQ, 1, .inr (.inr (.inr (.inl Oq)))))]) (pmI (fun a => by simp only [cntW_app, cntW_nil] <;> omega)) rfl rfl hl.1 rfl (Nat.le_of_ble_eq_true rfl) ⟨Nat.le_trans (Nat.add_le_add_left (by decide) _) hcr.1, Nat.le_trans (Nat.add_le_add_left (by decide) _) hcr.2⟩ dL_law_1819 (fun H locs hP hD hS => ?_)
    refine lv_istore (lv' := [(6, .int n1.1), (0, .ref b), (1, .ref x), (2, .ref mh), (3, .ref o), (4, .ref oq), (5, .int x5)]) hx hb dL_law_1822 hl (by decide) rfl (fun ls hl => ?_)
    refine lv_aload_n hx hb dL_law_1824 rfl (lv_at hl 3 rfl) ?_
    refine lv_aload_n hx hb dL_law_1825 rfl (lv_at hl 1 rfl) ?_
    refine lv_iload hx hb dL_law_1826 (lv_at hl 6 rfl) ?_
    refine lv_iconst (v := 1) hx hb dL_law_1828 (by decide) ?_
    refine lv_iadd hx hb dL_law_1829 ?_
    obtain ⟨o3, hg⟩ := hg
    refine va_sld hx hb hX hbl hbA hS o3 dL_law_1830 ?_
    refine lv_if_eq (tgt := 1838) hx hb dL_law_1831 (by decide) (fun c_1831 => ?_) (fun c_1831 => absurd c_1810_1 c_1831)
    refine lv_iconst (v := 0) hx hb dL_law_1838 (by decide) ?_
    obtain ⟨n2, en2⟩ : ∃ z9, z9 = (fX6_refusal Mo 0) := ⟨_, rfl⟩
    try rw [← en2] at hg
    have k9 := (kX6_refusal l D cI cC cT mh m1 m2 m3 m4 m5 m6 m7 m8 Mo 0)
    rw [← en2] at k9
    refine fUq (As := [.int 0]) (rest := []) (st' := [.int n2.1]) ⟨hx, hb, hml, hown, hts⟩ k9 (cwV 1 hts gL_law_X6_refusal rfl rfl rfl (by decide +kernel) ⟨Nat.le_of_ble_eq_true rfl, Nat.le_of_ble_eq_true rfl⟩) hP hK3 hD hS (w5 x ot ou ov oh ox oy S ++ w3 cI ot ot1 ot2 T ++ w3 cI ou ou1 ou2 Tr ++ w3 cI ov ov1 ov2 Sn ++ w1 oh rr Hs ++ wR cI cT rr ra rb rc G ++ w4 cI cC ox ox1 ox2 Xt ++ w2 cC oy oy1 Ln ++ [(o, .inl (cJ, 1, .inr (.inl n1.2)))] ++ [(oq, .inl (cQ, 1, .inr (.inr (.inr (.inl Oq)))))] : va_W) (pmI (fun a => by simp only [cntW_app, cntW_nil] <;> omega)) (w5 x ot ou ov oh ox oy S ++ w3 cI ot ot1 ot2 T ++ w3 cI ou ou1 ou2 Tr ++ w3 cI ov ov1 ov2 Sn ++ w1 oh rr Hs ++ wR cI cT rr ra rb rc G ++ w4 cI cC ox ox1 ox2 Xt ++ w2 cC oy oy1 Ln ++ w6 cI cC mh m1 m2 m3 m4 m5 m6 m7 m8 n2.2 ++ [(o, .inl (cJ, 1, .inr (.inl n1.2)))] ++ [(oq, .inl (cQ, 1, .inr (.inr (.inr (.inl Oq)))))]) (pmI (fun a => by simp only [cntW_app, cntW_nil] <;> omega)) rfl 44 (ci := 7) rfl rfl rfl rfl hl.1 rfl rfl (Nat.le_of_ble_eq_true rfl) ⟨Nat.le_trans (Nat.add_le_add_left (by decide) _) hcr.1, Nat.le_trans (Nat.add_le_add_left (by decide) _) hcr.2⟩ dL_law_1839 (fun H locs hP hD hS => ?_)
    refine lv_istore (lv' := [(7, .int n2.1), (6, .int n1.1), (0, .ref b), (1, .ref x), (2, .ref mh), (3, .ref o), (4, .ref oq), (5, .int x5)]) hx hb dL_law_1842 hl (by decide) rfl (fun ls hl => ?_)
    refine lv_aload_n hx hb dL_law_1844 rfl (lv_at hl 4 rfl) ?_
    refine fRq (As := []) (rest := []) (st' := [.int (fX6_thrown n2.2)]) ⟨hx, hb, hml, hown, hts⟩ (kX6_thrown l D cI cC cT mh m1 m2 m3 m4 m5 m6 m7 m8 n2.2) (cwV 0 hts gL_law_X6_thrown rfl rfl rfl (by decide +kernel) ⟨Nat.le_of_ble_eq_true rfl, Nat.le_of_ble_eq_true rfl⟩) hP hK3 (w5 x ot ou ov oh ox oy S ++ w3 cI ot ot1 ot2 T ++ w3 cI ou ou1 ou2 Tr ++ w3 cI ov ov1 ov2 Sn ++ w1 oh rr Hs ++ wR cI cT rr ra rb rc G ++ w4 cI cC ox ox1 ox2 Xt ++ w2 cC oy oy1 Ln ++ [(o, .inl (cJ, 1, .inr (.inl n1.2)))] ++ [(oq, .inl (cQ, 1, .inr (.inr (.inr (.inl Oq)))))] : va_W) (pmI (fun a => by simp only [cntW_app, cntW_nil] <;> omega)) 44 (ci := 7) rfl rfl rfl rfl hl.1 rfl rfl (Nat.le_of_ble_eq_true rfl) ⟨Nat.le_trans (Nat.add_le_add_left (by decide) _) hcr.1, Nat.le_trans (Nat.add_le_add_left (by decide) _) hcr.2⟩ dL_law_1845 ?_
    refine lv_iload hx hb dL_law_1848 (lv_at hl 1 rfl) ?_
    obtain ⟨o4, hg⟩ := hg
    refine lv_icmp_eq (tgt := 1855) hx hb dL_law_1850 (by decide) (fun c_1850 => ?_) (fun c_1850 => absurd o4 c_1850)
    refine lv_iload hx hb dL_law_1855 (lv_at hl 1 rfl) ?_
    refine lv_if_ne (tgt := 1872) hx hb dL_law_1857 (by decide) (fun c_1857_2 => ?_) (fun c_1857_2 => ?_)
    · rw [if_neg c_1857_2] at hg
      refine lv_goto (tgt := 2110) hx hb dL_law_1872 (by decide) ?_
      refine lv_iinc (v := (x5 + 5)) (lv' := [(5, .int (x5 + 5)), (7, .int n2.1), (6, .int n1.1), (0, .ref b), (1, .ref x), (2, .ref mh), (3, .ref o), (4, .ref oq)]) hx hb dL_law_2110 hl (k := 7) rfl rfl (by decide) rfl (fun ls hl => ?_)
      refine lv_goto (tgt := 28) hx hb dL_law_2113 (by decide) ?_
      have e9 : fM_29 S T Tr Sn Hs G Xt Ln Mo O Oq xs L x5 = (n2.2, n1.2) := by rw [fM_29, if_pos c_1810_1, ← en1, ← en2, if_neg c_1857_2]
      refine W.widen (k := cells + 2) (n := slots + 12) (by omega) (by omega) ?_
      exact kb (n2.2, n1.2) e9.symm H locs ls hP hD hS (lv_sub hl [3, 4, 5, 6, 7, 0] rfl)
    · rw [if_pos c_1857_2] at hg
      refine lv_aload_n hx hb dL_law_1860 rfl (lv_at hl 5 rfl) ?_
      refine lv_iconst (v := 0) hx hb dL_law_1861 (by decide) ?_
      obtain ⟨o5, hg⟩ := hg
      refine va_lald hx hb hK hP 53 3 rfl rfl o5 dL_law_1862 ?_
      refine lv_iload hx hb dL_law_1863 (lv_at hl 0 rfl) ?_
      refine lv_i2l (v := (n2.1.toInt64)) hx hb dL_law_1865 rfl ?_
      refine W.lcmp hx hb dL_law_1866 ?_
      obtain ⟨o6, hg⟩ := hg
      refine lv_if_eq (tgt := 1872) hx hb dL_law_1867 (by decide) (fun c_1867 => ?_) (fun c_1867 => absurd o6 c_1867)
      refine lv_goto (tgt := 2110) hx hb dL_law_1872 (by decide) ?_
      refine lv_iinc (v := (x5 + 5)) (lv' := [(5, .int (x5 + 5)), (7, .int n2.1), (6, .int n1.1), (0, .ref b), (1, .ref x), (2, .ref mh), (3, .ref o), (4, .ref oq)]) hx hb dL_law_2110 hl (k := 7) rfl rfl (by decide) rfl (fun ls hl => ?_)
      refine lv_goto (tgt := 28) hx hb dL_law_2113 (by decide) ?_
      have e9 : fM_29 S T Tr Sn Hs G Xt Ln Mo O Oq xs L x5 = (n2.2, n1.2) := by rw [fM_29, if_pos c_1810_1, ← en1, ← en2, if_pos c_1857_2]
      refine W.widen (k := cells + 2) (n := slots + 12) (by omega) (by omega) ?_
      exact kb (n2.2, n1.2) e9.symm H locs ls hP hD hS (lv_sub hl [3, 4, 5, 6, 7, 0] rfl)
  · rw [if_neg c_1810_1] at hg
    refine lv_iconst (v := 1) hx hb dL_law_1813 (by decide) ?_
    refine lv_goto (tgt := 1818) hx hb dL_law_1814 (by decide) ?_
    refine lv_aload_n hx hb dL_law_1818 rfl (lv_at hl 3 rfl) ?_
    obtain ⟨n3, en3⟩ : ∃ z9, z9 = (fL_refusal S O 1) := ⟨_, rfl⟩
    try rw [← en3] at hg
    obtain ⟨o7, hg⟩ := hg
    have k9 := (kL_refusal l D cI cC cT cJ cQ x ot ou ov oh ox oy o S O 1 hst o7)
    rw [← en3] at k9
    refine fLq (As := [.ref x, .int 1, .ref o]) (rest := []) ⟨hx, hb, hml, hown, hts⟩ k9 (vx_cwSW (hh := [(0, 9, 12, 53)]) 3 hts gL_law_L_refusal rfl rfl rfl (by decide +kernel) ⟨Nat.le_of_ble_eq_true rfl, Nat.le_of_ble_eq_true rfl⟩) hP hK hD hS hXE hXN (w3 cI ot ot1 ot2 T ++ w3 cI ou ou1 ou2 Tr ++ w3 cI ov ov1 ov2 Sn ++ w1 oh rr Hs ++ wR cI cT rr ra rb rc G ++ w4 cI cC ox ox1 ox2 Xt ++ w2 cC oy oy1 Ln ++ w6 cI cC mh m1 m2 m3 m4 m5 m6 m7 m8 Mo ++ [(oq, .inl (cQ, 1, .inr (.inr (.inr (.inl Oq)))))] : va_W) (pmI (fun a => by simp only [cntW_app, cntW_nil] <;> omega)) (w5 x ot ou ov oh ox oy S ++ w3 cI ot ot1 ot2 T ++ w3 cI ou ou1 ou2 Tr ++ w3 cI ov ov1 ov2 Sn ++ w1 oh rr Hs ++ wR cI cT rr ra rb rc G ++ w4 cI cC ox ox1 ox2 Xt ++ w2 cC oy oy1 Ln ++ w6 cI cC mh m1 m2 m3 m4 m5 m6 m7 m8 Mo ++ [(o, .inl (cJ, 1, .inr (.inl n3.2)))] ++ [(oq, .inl (cQ, 1, .inr (.inr (.inr (.inl Oq)))))]) (pmI (fun a => by simp only [cntW_app, cntW_nil] <;> omega)) rfl rfl hl.1 rfl (Nat.le_of_ble_eq_true rfl) ⟨Nat.le_trans (Nat.add_le_add_left (by decide) _) hcr.1, Nat.le_trans (Nat.add_le_add_left (by decide) _) hcr.2⟩ dL_law_1819 (fun H locs hP hD hS => ?_)
    refine lv_istore (lv' := [(6, .int n3.1), (0, .ref b), (1, .ref x), (2, .ref mh), (3, .ref o), (4, .ref oq), (5, .int x5)]) hx hb dL_law_1822 hl (by decide) rfl (fun ls hl => ?_)
    refine lv_aload_n hx hb dL_law_1824 rfl (lv_at hl 3 rfl) ?_
    refine lv_aload_n hx hb dL_law_1825 rfl (lv_at hl 1 rfl) ?_
    refine lv_iload hx hb dL_law_1826 (lv_at hl 6 rfl) ?_
    refine lv_iconst (v := 1) hx hb dL_law_1828 (by decide) ?_
    refine lv_iadd hx hb dL_law_1829 ?_
    obtain ⟨o8, hg⟩ := hg
    refine va_sld hx hb hX hbl hbA hS o8 dL_law_1830 ?_
    refine lv_if_eq (tgt := 1838) hx hb dL_law_1831 (by decide) (fun c_1831 => absurd c_1831 c_1810_1) (fun c_1831 => ?_)
    refine lv_iconst (v := 1) hx hb dL_law_1834 (by decide) ?_
    refine lv_goto (tgt := 1839) hx hb dL_law_1835 (by decide) ?_
    obtain ⟨n4, en4⟩ : ∃ z9, z9 = (fX6_refusal Mo 1) := ⟨_, rfl⟩
    try rw [← en4] at hg
    have k9 := (kX6_refusal l D cI cC cT mh m1 m2 m3 m4 m5 m6 m7 m8 Mo 1)
    rw [← en4] at k9
    refine fUq (As := [.int 1]) (rest := []) (st' := [.int n4.1]) ⟨hx, hb, hml, hown, hts⟩ k9 (cwV 1 hts gL_law_X6_refusal rfl rfl rfl (by decide +kernel) ⟨Nat.le_of_ble_eq_true rfl, Nat.le_of_ble_eq_true rfl⟩) hP hK3 hD hS (w5 x ot ou ov oh ox oy S ++ w3 cI ot ot1 ot2 T ++ w3 cI ou ou1 ou2 Tr ++ w3 cI ov ov1 ov2 Sn ++ w1 oh rr Hs ++ wR cI cT rr ra rb rc G ++ w4 cI cC ox ox1 ox2 Xt ++ w2 cC oy oy1 Ln ++ [(o, .inl (cJ, 1, .inr (.inl n3.2)))] ++ [(oq, .inl (cQ, 1, .inr (.inr (.inr (.inl Oq)))))] : va_W) (pmI (fun a => by simp only [cntW_app, cntW_nil] <;> omega)) (w5 x ot ou ov oh ox oy S ++ w3 cI ot ot1 ot2 T ++ w3 cI ou ou1 ou2 Tr ++ w3 cI ov ov1 ov2 Sn ++ w1 oh rr Hs ++ wR cI cT rr ra rb rc G ++ w4 cI cC ox ox1 ox2 Xt ++ w2 cC oy oy1 Ln ++ w6 cI cC mh m1 m2 m3 m4 m5 m6 m7 m8 n4.2 ++ [(o, .inl (cJ, 1, .inr (.inl n3.2)))] ++ [(oq, .inl (cQ, 1, .inr (.inr (.inr (.inl Oq)))))]) (pmI (fun a => by simp only [cntW_app, cntW_nil] <;> omega)) rfl 44 (ci := 7) rfl rfl rfl rfl hl.1 rfl rfl (Nat.le_of_ble_eq_true rfl) ⟨Nat.le_trans (Nat.add_le_add_left (by decide) _) hcr.1, Nat.le_trans (Nat.add_le_add_left (by decide) _) hcr.2⟩ dL_law_1839 (fun H locs hP hD hS => ?_)
    refine lv_istore (lv' := [(7, .int n4.1), (6, .int n3.1), (0, .ref b), (1, .ref x), (2, .ref mh), (3, .ref o), (4, .ref oq), (5, .int x5)]) hx hb dL_law_1842 hl (by decide) rfl (fun ls hl => ?_)
    refine lv_aload_n hx hb dL_law_1844 rfl (lv_at hl 4 rfl) ?_
    refine fRq (As := []) (rest := []) (st' := [.int (fX6_thrown n4.2)]) ⟨hx, hb, hml, hown, hts⟩ (kX6_thrown l D cI cC cT mh m1 m2 m3 m4 m5 m6 m7 m8 n4.2) (cwV 0 hts gL_law_X6_thrown rfl rfl rfl (by decide +kernel) ⟨Nat.le_of_ble_eq_true rfl, Nat.le_of_ble_eq_true rfl⟩) hP hK3 (w5 x ot ou ov oh ox oy S ++ w3 cI ot ot1 ot2 T ++ w3 cI ou ou1 ou2 Tr ++ w3 cI ov ov1 ov2 Sn ++ w1 oh rr Hs ++ wR cI cT rr ra rb rc G ++ w4 cI cC ox ox1 ox2 Xt ++ w2 cC oy oy1 Ln ++ [(o, .inl (cJ, 1, .inr (.inl n3.2)))] ++ [(oq, .inl (cQ, 1, .inr (.inr (.inr (.inl Oq)))))] : va_W) (pmI (fun a => by simp only [cntW_app, cntW_nil] <;> omega)) 44 (ci := 7) rfl rfl rfl rfl hl.1 rfl rfl (Nat.le_of_ble_eq_true rfl) ⟨Nat.le_trans (Nat.add_le_add_left (by decide) _) hcr.1, Nat.le_trans (Nat.add_le_add_left (by decide) _) hcr.2⟩ dL_law_1845 ?_
    refine lv_iload hx hb dL_law_1848 (lv_at hl 1 rfl) ?_
    obtain ⟨o9, hg⟩ := hg
    refine lv_icmp_eq (tgt := 1855) hx hb dL_law_1850 (by decide) (fun c_1850 => ?_) (fun c_1850 => absurd o9 c_1850)
    refine lv_iload hx hb dL_law_1855 (lv_at hl 1 rfl) ?_
    refine lv_if_ne (tgt := 1872) hx hb dL_law_1857 (by decide) (fun c_1857_3 => ?_) (fun c_1857_3 => ?_)
    · rw [if_neg c_1857_3] at hg
      refine lv_goto (tgt := 2110) hx hb dL_law_1872 (by decide) ?_
      refine lv_iinc (v := (x5 + 5)) (lv' := [(5, .int (x5 + 5)), (7, .int n4.1), (6, .int n3.1), (0, .ref b), (1, .ref x), (2, .ref mh), (3, .ref o), (4, .ref oq)]) hx hb dL_law_2110 hl (k := 7) rfl rfl (by decide) rfl (fun ls hl => ?_)
      refine lv_goto (tgt := 28) hx hb dL_law_2113 (by decide) ?_
      have e9 : fM_29 S T Tr Sn Hs G Xt Ln Mo O Oq xs L x5 = (n4.2, n3.2) := by rw [fM_29, if_neg c_1810_1, ← en3, ← en4, if_neg c_1857_3]
      refine W.widen (k := cells + 2) (n := slots + 12) (by omega) (by omega) ?_
      exact kb (n4.2, n3.2) e9.symm H locs ls hP hD hS (lv_sub hl [3, 4, 5, 6, 7, 0] rfl)
    · rw [if_pos c_1857_3] at hg
      refine lv_aload_n hx hb dL_law_1860 rfl (lv_at hl 5 rfl) ?_
      refine lv_iconst (v := 0) hx hb dL_law_1861 (by decide) ?_
      obtain ⟨o10, hg⟩ := hg
      refine va_lald hx hb hK hP 53 3 rfl rfl o10 dL_law_1862 ?_
      refine lv_iload hx hb dL_law_1863 (lv_at hl 0 rfl) ?_
      refine lv_i2l (v := (n4.1.toInt64)) hx hb dL_law_1865 rfl ?_
      refine W.lcmp hx hb dL_law_1866 ?_
      obtain ⟨o11, hg⟩ := hg
      refine lv_if_eq (tgt := 1872) hx hb dL_law_1867 (by decide) (fun c_1867 => ?_) (fun c_1867 => absurd o11 c_1867)
      refine lv_goto (tgt := 2110) hx hb dL_law_1872 (by decide) ?_
      refine lv_iinc (v := (x5 + 5)) (lv' := [(5, .int (x5 + 5)), (7, .int n4.1), (6, .int n3.1), (0, .ref b), (1, .ref x), (2, .ref mh), (3, .ref o), (4, .ref oq)]) hx hb dL_law_2110 hl (k := 7) rfl rfl (by decide) rfl (fun ls hl => ?_)
      refine lv_goto (tgt := 28) hx hb dL_law_2113 (by decide) ?_
      have e9 : fM_29 S T Tr Sn Hs G Xt Ln Mo O Oq xs L x5 = (n4.2, n3.2) := by rw [fM_29, if_neg c_1810_1, ← en3, ← en4, if_pos c_1857_3]
      refine W.widen (k := cells + 2) (n := slots + 12) (by omega) (by omega) ?_
      exact kb (n4.2, n3.2) e9.symm H locs ls hP hD hS (lv_sub hl [3, 4, 5, 6, 7, 0] rfl)
