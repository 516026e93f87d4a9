def lX5_bestPair_39 (S : CV) (T : TV) (Tr : TV) (v : (TV × Int32 × Int32 × Int32)) (n1 : TV) (w : (TV × Int32 × Int32 × Int32)) : (TV × Int32 × Int32 × Int32) ⊕ ((TV × Int32 × Int32 × Int32)) := (if T.2.2.2.1 ≤ w.2.2.2 then (.inr (w.1, w.2.1, w.2.2.1, w.2.2.2)) else (if (fX3_canExchange T v.2.2.2 w.2.2.2) = 0 then (.inl (w.1, w.2.1, w.2.2.1, (w.2.2.2 + 1))) else (if w.2.1 ≤ (fX3_clashesByPairs (fX3_exchange w.1 v.2.2.2 w.2.2.2)) then (.inl ((fX3_exchange (fX3_exchange w.1 v.2.2.2 w.2.2.2) v.2.2.2 w.2.2.2), w.2.1, w.2.2.1, (w.2.2.2 + 1))) else (.inl ((fX3_exchange (fX3_exchange w.1 v.2.2.2 w.2.2.2) v.2.2.2 w.2.2.2), (fX3_clashesByPairs (fX3_exchange w.1 v.2.2.2 w.2.2.2)), ((v.2.2.2 * 12) + w.2.2.2), (w.2.2.2 + 1))))))
theorem tlX5_bestPair_39 (S : CV) (T : TV) (Tr : TV) (v : (TV × Int32 × Int32 × Int32)) (n1 : TV) : ∀ (a b : (TV × Int32 × Int32 × Int32)), (fun w : (TV × Int32 × Int32 × Int32) => True) a → lX5_bestPair_39 S T Tr v n1 a = .inl b → (fun w : (TV × Int32 × Int32 × Int32) => True) b ∧ (fun w : (TV × Int32 × Int32 × Int32) => (T.2.2.2.1.toInt - w.2.2.2.toInt).toNat) b < (fun w : (TV × Int32 × Int32 × Int32) => (T.2.2.2.1.toInt - w.2.2.2.toInt).toNat) a := by
  intro a b h0 h
  unfold lX5_bestPair_39 at h
  repeat' split at h
  all_goals first | (cases h; done) | (cases h; exact ⟨trivial, rk_ge (by assumption)⟩) | (cases h; exact ⟨trivial, rk_gt (by assumption)⟩)
def lX5_bestPair_23 (S : CV) (T : TV) (Tr : TV) (n1 : TV) (v : (TV × Int32 × Int32 × Int32)) : (TV × Int32 × Int32 × Int32) ⊕ ((TV × Int32 × Int32 × Int32)) := (if T.2.2.2.1 ≤ v.2.2.2 then (.inr (v.1, v.2.1, v.2.2.1, v.2.2.2)) else (.inl ((itv (v.1, v.2.1, v.2.2.1, (v.2.2.2 + 1)) (lX5_bestPair_39 S T Tr v n1) ((fun w : (TV × Int32 × Int32 × Int32) => (T.2.2.2.1.toInt - w.2.2.2.toInt).toNat) (v.1, v.2.1, v.2.2.1, (v.2.2.2 + 1)) + 1) (v.1, v.2.1, v.2.2.1, (v.2.2.2 + 1))).1, (itv (v.1, v.2.1, v.2.2.1, (v.2.2.2 + 1)) (lX5_bestPair_39 S T Tr v n1) ((fun w : (TV × Int32 × Int32 × Int32) => (T.2.2.2.1.toInt - w.2.2.2.toInt).toNat) (v.1, v.2.1, v.2.2.1, (v.2.2.2 + 1)) + 1) (v.1, v.2.1, v.2.2.1, (v.2.2.2 + 1))).2.1, (itv (v.1, v.2.1, v.2.2.1, (v.2.2.2 + 1)) (lX5_bestPair_39 S T Tr v n1) ((fun w : (TV × Int32 × Int32 × Int32) => (T.2.2.2.1.toInt - w.2.2.2.toInt).toNat) (v.1, v.2.1, v.2.2.1, (v.2.2.2 + 1)) + 1) (v.1, v.2.1, v.2.2.1, (v.2.2.2 + 1))).2.2.1, (v.2.2.2 + 1))))
theorem tlX5_bestPair_23 (S : CV) (T : TV) (Tr : TV) (n1 : TV) : ∀ (a b : (TV × Int32 × Int32 × Int32)), (fun v : (TV × Int32 × Int32 × Int32) => True) a → lX5_bestPair_23 S T Tr n1 a = .inl b → (fun v : (TV × Int32 × Int32 × Int32) => True) b ∧ (fun v : (TV × Int32 × Int32 × Int32) => (T.2.2.2.1.toInt - v.2.2.2.toInt).toNat) b < (fun v : (TV × Int32 × Int32 × Int32) => (T.2.2.2.1.toInt - v.2.2.2.toInt).toNat) a := by
  intro a b h0 h
  unfold lX5_bestPair_23 at h
  repeat' split at h
  all_goals first | (cases h; done) | (cases h; exact ⟨trivial, rk_ge (by assumption)⟩) | (cases h; exact ⟨trivial, rk_gt (by assumption)⟩)
def fX5_bestPair (S : CV) (T : TV) (Tr : TV)  : (Int32 × TV) := ((itv ((fX3_copy Tr T), (fX3_clashesByPairs T), (-1), 0) (lX5_bestPair_23 S T Tr (fX3_copy Tr T)) ((fun v : (TV × Int32 × Int32 × Int32) => (T.2.2.2.1.toInt - v.2.2.2.toInt).toNat) ((fX3_copy Tr T), (fX3_clashesByPairs T), (-1), 0) + 1) ((fX3_copy Tr T), (fX3_clashesByPairs T), (-1), 0)).2.2.1, (itv ((fX3_copy Tr T), (fX3_clashesByPairs T), (-1), 0) (lX5_bestPair_23 S T Tr (fX3_copy Tr T)) ((fun v : (TV × Int32 × Int32 × Int32) => (T.2.2.2.1.toInt - v.2.2.2.toInt).toNat) ((fX3_copy Tr T), (fX3_clashesByPairs T), (-1), 0) + 1) ((fX3_copy Tr T), (fX3_clashesByPairs T), (-1), 0)).1)
abbrev rmX5_bestPair : Room := { frames := 4, cells := 0, slots := 0, locals := 90 }
set_option maxHeartbeats 4000000 in
set_option maxRecDepth 100000 in
theorem kX5_bestPair (l : Launch) (D : va_G) (cI cC cT : ClassId) (x ot ou ov oh ox oy ot1 ot2 ou1 ou2 : Nat) (S : CV) (T : TV) (Tr : TV)   : mU l D (TY cI cC cT) yX5_bestPair wsX5_bestPair rmX5_bestPair [.ref x] (w5 x ot ou ov oh ox oy S ++ w3 cI ot ot1 ot2 T ++ w3 cI ou ou1 ou2 Tr) (some (.int (fX5_bestPair S T Tr).1)) (w5 x ot ou ov oh ox oy S ++ w3 cI ot ot1 ot2 T ++ w3 cI ou ou1 ou2 (fX5_bestPair S T Tr).2) := by
  refine mU.ofW (cc := cX5_bestPair) (maxL := 6) (ret := (some .int)) (by decide) rfl (Nat.le_of_ble_eq_true rfl) ?_
  intro p e s m args below meth c Q ls A hx hb hml hr hlk hts hown hP hK hD hS hl hQ
  have hown : s.vm.findClass RX5 = some m.cls := hown
  have hP : va_P D vwCl [(x, .inr (6, [.ref ot, .ref ou, .ref ov, .ref oh, .ref ox, .ref oy, .int S.1, .int S.2.1, .int S.2.2.1, .int S.2.2.2])), (ot, .inr (4, [.ref ot1, .ref ot2, .int T.2.2.1, .int T.2.2.2.1, .int T.2.2.2.2.1, .int T.2.2.2.2.2.1, .int T.2.2.2.2.2.2.1, .int T.2.2.2.2.2.2.2])), (ot1, .inl (cI, 72, .inl T.1)), (ot2, .inl (cI, 36, .inl T.2.1)), (ou, .inr (4, [.ref ou1, .ref ou2, .int Tr.2.2.1, .int Tr.2.2.2.1, .int Tr.2.2.2.2.1, .int Tr.2.2.2.2.2.1, .int Tr.2.2.2.2.2.2.1, .int Tr.2.2.2.2.2.2.2])), (ou1, .inl (cI, 72, .inl Tr.1)), (ou2, .inl (cI, 36, .inl Tr.2.1))] s.heap := hP
  have hD : va_D A [(x, .inr (6, [.ref ot, .ref ou, .ref ov, .ref oh, .ref ox, .ref oy, .int S.1, .int S.2.1, .int S.2.2.1, .int S.2.2.2])), (ot, .inr (4, [.ref ot1, .ref ot2, .int T.2.2.1, .int T.2.2.2.1, .int T.2.2.2.2.1, .int T.2.2.2.2.2.1, .int T.2.2.2.2.2.2.1, .int T.2.2.2.2.2.2.2])), (ot1, .inl (cI, 72, .inl T.1)), (ot2, .inl (cI, 36, .inl T.2.1)), (ou, .inr (4, [.ref ou1, .ref ou2, .int Tr.2.2.1, .int Tr.2.2.2.1, .int Tr.2.2.2.2.1, .int Tr.2.2.2.2.2.1, .int Tr.2.2.2.2.2.2.1, .int Tr.2.2.2.2.2.2.2])), (ou1, .inl (cI, 72, .inl Tr.1)), (ou2, .inl (cI, 36, .inl Tr.2.1))] := hD
  have hl : lv_has ls 6 [(0, .ref x)] := hl
  have q0 := hts (Cond.fieldLink RX5 10 "TavernStools" "tavern" "LTavernStools$Tavern;") (by decide +kernel)
  have q1 : ∀ w ∈ u_ws RX5 TX5 10, w ∈ wsX5_bestPair := by decide +kernel
  have q2 := hts (Cond.fieldLink RX5 16 "TavernStools" "trial" "LTavernStools$Tavern;") (by decide +kernel)
  have q3 := hts (Cond.fieldLink RX5 249 "TavernStools$Tavern" "sitters" "I") (by decide +kernel)
  have q4 : ∀ w ∈ u_ws RX3 TX3 8, w ∈ wsX5_bestPair := by decide +kernel
  generalize hHe : s.heap = H at hP ⊢
  have hS : va_S A s.heap H [] := hHe ▸ hS
  generalize hLe : ([] : List Loc) = locs at hS ⊢
  refine lv_aload_n hx hb dX5_bestPair_0 rfl (lv_at hl 0 rfl) ?_
  refine va_get (D := D) (ci := 6) (v := .ref ot) (C := RX5) (T := TX5) (N := 10) hx hb hts q1 hown hK hP 0 rfl rfl 0 (by decide) q0 (fun _ h9 => h9) rfl dX5_bestPair_1 ?_
  refine fRV (As := []) (rest := []) (st' := [.int (fX3_clashesByPairs T)]) ⟨hx, hb, hml, hown, hts⟩ (kX3_clashesByPairs l D cI cC cT ot ot1 ot2 T) (cwV 0 hts gX5_bestPair_X3_clashesByPairs rfl rfl rfl (by decide +kernel) ⟨Nat.le_of_ble_eq_true rfl, Nat.le_of_ble_eq_true rfl⟩) hP hK [1, 2, 3] rfl 1 (ci := 4) rfl rfl rfl rfl hl.1 rfl rfl (Nat.le_of_ble_eq_true rfl) ⟨Nat.zero_le _, Nat.zero_le _⟩ dX5_bestPair_4 ?_
  refine lv_istore_n (lv' := [(1, .int (fX3_clashesByPairs T)), (0, .ref x)]) hx hb dX5_bestPair_7 rfl hl (by decide) rfl (fun ls hl => ?_)
  refine lv_iconst (v := (-1)) hx hb dX5_bestPair_8 (by decide) ?_
  refine lv_istore_n (lv' := [(2, .int (-1)), (1, .int (fX3_clashesByPairs T)), (0, .ref x)]) hx hb dX5_bestPair_9 rfl hl (by decide) rfl (fun ls hl => ?_)
  refine lv_aload_n hx hb dX5_bestPair_10 rfl (lv_at hl 2 rfl) ?_
  refine va_get (D := D) (ci := 6) (v := .ref ou) (C := RX5) (T := TX5) (N := 10) hx hb hts q1 hown hK hP 0 rfl rfl 1 (by decide) q2 (fun _ h9 => h9) rfl dX5_bestPair_11 ?_
  refine lv_aload_n hx hb dX5_bestPair_14 rfl (lv_at hl 2 rfl) ?_
  refine va_get (D := D) (ci := 6) (v := .ref ot) (C := RX5) (T := TX5) (N := 10) hx hb hts q1 hown hK hP 0 rfl rfl 0 (by decide) q0 (fun _ h9 => h9) rfl dX5_bestPair_15 ?_
  obtain ⟨n1, en1⟩ : ∃ z9, z9 = (fX3_copy Tr T) := ⟨_, rfl⟩
  have k9 := (kX3_copy l D cI cC cT ou ou1 ou2 ot ot1 ot2 Tr T)
  rw [← en1] at k9
  refine fUV (As := [.ref ot]) (rest := []) (st' := []) ⟨hx, hb, hml, hown, hts⟩ k9 (cwV 1 hts gX5_bestPair_X3_copy rfl rfl rfl (by decide +kernel) ⟨Nat.le_of_ble_eq_true rfl, Nat.le_of_ble_eq_true rfl⟩) hP hK hD hS [4, 5, 6, 1, 2, 3] rfl rfl (by decide) rfl [(x, .inr (6, [.ref ot, .ref ou, .ref ov, .ref oh, .ref ox, .ref oy, .int S.1, .int S.2.1, .int S.2.2.1, .int S.2.2.2])), (ot, .inr (4, [.ref ot1, .ref ot2, .int T.2.2.1, .int T.2.2.2.1, .int T.2.2.2.2.1, .int T.2.2.2.2.2.1, .int T.2.2.2.2.2.2.1, .int T.2.2.2.2.2.2.2])), (ot1, .inl (cI, 72, .inl T.1)), (ot2, .inl (cI, 36, .inl T.2.1)), (ou, .inr (4, [.ref ou1, .ref ou2, .int n1.2.2.1, .int n1.2.2.2.1, .int n1.2.2.2.2.1, .int n1.2.2.2.2.2.1, .int n1.2.2.2.2.2.2.1, .int n1.2.2.2.2.2.2.2])), (ou1, .inl (cI, 72, .inl n1.1)), (ou2, .inl (cI, 36, .inl n1.2.1))] rfl rfl 4 (ci := 4) rfl rfl rfl rfl hl.1 rfl rfl (Nat.le_of_ble_eq_true rfl) ⟨Nat.zero_le _, Nat.zero_le _⟩ dX5_bestPair_18 (fun H locs hP hD hS => ?_)
  refine lv_iconst (v := 0) hx hb dX5_bestPair_21 (by decide) ?_
  refine lv_istore_n (lv' := [(3, .int 0), (2, .int (-1)), (1, .int (fX3_clashesByPairs T)), (0, .ref x)]) hx hb dX5_bestPair_22 rfl hl (by decide) rfl (fun ls hl => ?_)
  have hE_23 : itr (lX5_bestPair_23 S T Tr n1) ((fun v : (TV × Int32 × Int32 × Int32) => (T.2.2.2.1.toInt - v.2.2.2.toInt).toNat) (n1, (fX3_clashesByPairs T), (-1), 0) + 1) (n1, (fX3_clashesByPairs T), (-1), 0) = .inr (itv (n1, (fX3_clashesByPairs T), (-1), 0) (lX5_bestPair_23 S T Tr n1) ((fun v : (TV × Int32 × Int32 × Int32) => (T.2.2.2.1.toInt - v.2.2.2.toInt).toNat) (n1, (fX3_clashesByPairs T), (-1), 0) + 1) (n1, (fX3_clashesByPairs T), (-1), 0)) := by
    exact itv_ends (itr_ends (lX5_bestPair_23 S T Tr n1) (fun v : (TV × Int32 × Int32 × Int32) => True) (fun v : (TV × Int32 × Int32 × Int32) => (T.2.2.2.1.toInt - v.2.2.2.toInt).toNat) (tlX5_bestPair_23 S T Tr n1) _ _ trivial (Nat.lt_succ_self _))
  refine loopW (lX5_bestPair_23 S T Tr n1) (fun v : (TV × Int32 × Int32 × Int32) => True) (fun v : (TV × Int32 × Int32 × Int32) => ∀ (H : Heap) (locs : List Loc) ls, va_P D vwCl [(x, .inr (6, [.ref ot, .ref ou, .ref ov, .ref oh, .ref ox, .ref oy, .int S.1, .int S.2.1, .int S.2.2.1, .int S.2.2.2])), (ot, .inr (4, [.ref ot1, .ref ot2, .int T.2.2.1, .int T.2.2.2.1, .int T.2.2.2.2.1, .int T.2.2.2.2.2.1, .int T.2.2.2.2.2.2.1, .int T.2.2.2.2.2.2.2])), (ot1, .inl (cI, 72, .inl T.1)), (ot2, .inl (cI, 36, .inl T.2.1)), (ou, .inr (4, [.ref ou1, .ref ou2, .int v.1.2.2.1, .int v.1.2.2.2.1, .int v.1.2.2.2.2.1, .int v.1.2.2.2.2.2.1, .int v.1.2.2.2.2.2.2.1, .int v.1.2.2.2.2.2.2.2])), (ou1, .inl (cI, 72, .inl v.1.1)), (ou2, .inl (cI, 36, .inl v.1.2.1))] H → va_D A [(x, .inr (6, [.ref ot, .ref ou, .ref ov, .ref oh, .ref ox, .ref oy, .int S.1, .int S.2.1, .int S.2.2.1, .int S.2.2.2])), (ot, .inr (4, [.ref ot1, .ref ot2, .int T.2.2.1, .int T.2.2.2.1, .int T.2.2.2.2.1, .int T.2.2.2.2.2.1, .int T.2.2.2.2.2.2.1, .int T.2.2.2.2.2.2.2])), (ot1, .inl (cI, 72, .inl T.1)), (ot2, .inl (cI, 36, .inl T.2.1)), (ou, .inr (4, [.ref ou1, .ref ou2, .int v.1.2.2.1, .int v.1.2.2.2.1, .int v.1.2.2.2.2.1, .int v.1.2.2.2.2.2.1, .int v.1.2.2.2.2.2.2.1, .int v.1.2.2.2.2.2.2.2])), (ou1, .inl (cI, 72, .inl v.1.1)), (ou2, .inl (cI, 36, .inl v.1.2.1))] → va_S A s.heap H locs → lv_has ls 6 [(0, .ref x), (1, .int v.2.1), (2, .int v.2.2.1), (3, .int v.2.2.2)] → W p l e rmX5_bestPair s m args below meth c H locs 0 0 Q (F0 m 23 ls [])) (fun r9 : (TV × Int32 × Int32 × Int32) => ∀ (H : Heap) (locs : List Loc) ls, va_P D vwCl [(x, .inr (6, [.ref ot, .ref ou, .ref ov, .ref oh, .ref ox, .ref oy, .int S.1, .int S.2.1, .int S.2.2.1, .int S.2.2.2])), (ot, .inr (4, [.ref ot1, .ref ot2, .int T.2.2.1, .int T.2.2.2.1, .int T.2.2.2.2.1, .int T.2.2.2.2.2.1, .int T.2.2.2.2.2.2.1, .int T.2.2.2.2.2.2.2])), (ot1, .inl (cI, 72, .inl T.1)), (ot2, .inl (cI, 36, .inl T.2.1)), (ou, .inr (4, [.ref ou1, .ref ou2, .int r9.1.2.2.1, .int r9.1.2.2.2.1, .int r9.1.2.2.2.2.1, .int r9.1.2.2.2.2.2.1, .int r9.1.2.2.2.2.2.2.1, .int r9.1.2.2.2.2.2.2.2])), (ou1, .inl (cI, 72, .inl r9.1.1)), (ou2, .inl (cI, 36, .inl r9.1.2.1))] H → va_D A [(x, .inr (6, [.ref ot, .ref ou, .ref ov, .ref oh, .ref ox, .ref oy, .int S.1, .int S.2.1, .int S.2.2.1, .int S.2.2.2])), (ot, .inr (4, [.ref ot1, .ref ot2, .int T.2.2.1, .int T.2.2.2.1, .int T.2.2.2.2.1, .int T.2.2.2.2.2.1, .int T.2.2.2.2.2.2.1, .int T.2.2.2.2.2.2.2])), (ot1, .inl (cI, 72, .inl T.1)), (ot2, .inl (cI, 36, .inl T.2.1)), (ou, .inr (4, [.ref ou1, .ref ou2, .int r9.1.2.2.1, .int r9.1.2.2.2.1, .int r9.1.2.2.2.2.1, .int r9.1.2.2.2.2.2.1, .int r9.1.2.2.2.2.2.2.1, .int r9.1.2.2.2.2.2.2.2])), (ou1, .inl (cI, 72, .inl r9.1.1)), (ou2, .inl (cI, 36, .inl r9.1.2.1))] → va_S A s.heap H locs → lv_has ls 6 [(0, .ref x), (1, .int r9.2.1), (2, .int r9.2.2.1), (3, .int r9.2.2.2)] → W p l e rmX5_bestPair s m args below meth c H locs 0 0 Q (F0 m 122 ls [])) ?_ (fun _ _ _ _ => trivial) _ (n1, (fX3_clashesByPairs T), (-1), 0) (itv (n1, (fX3_clashesByPairs T), (-1), 0) (lX5_bestPair_23 S T Tr n1) ((fun v : (TV × Int32 × Int32 × Int32) => (T.2.2.2.1.toInt - v.2.2.2.toInt).toNat) (n1, (fX3_clashesByPairs T), (-1), 0) + 1) (n1, (fX3_clashesByPairs T), (-1), 0)) trivial hE_23 ?_ _ _ ls hP hD hS (lv_sub hl [3, 2, 1, 0] rfl)
  · intro v _ kb kx H locs ls hP hD hS hl
    refine lv_iload_n hx hb dX5_bestPair_23 rfl (lv_at hl 3 rfl) ?_
    refine lv_aload_n hx hb dX5_bestPair_24 rfl (lv_at hl 0 rfl) ?_
    refine va_get (D := D) (ci := 6) (v := .ref ot) (C := RX5) (T := TX5) (N := 10) hx hb hts q1 hown hK hP 0 rfl rfl 0 (by decide) q0 (fun _ h9 => h9) rfl dX5_bestPair_25 ?_
    refine va_get (D := D) (ci := 4) (v := .int T.2.2.2.1) (C := RX3) (T := TX3) (N := 8) hx hb hts q4 hown hK hP 1 rfl rfl 3 (by decide) q3 (fun _ h9 => h9) rfl dX5_bestPair_28 ?_
    refine lv_icmp_ge (tgt := 122) hx hb dX5_bestPair_31 (by decide) (fun c_31 => ?_) (fun c_31 => ?_)
    · exact kx (v.1, v.2.1, v.2.2.1, v.2.2.2) (by rw [lX5_bestPair_23, if_pos c_31]) H locs ls hP hD hS (lv_sub hl [0, 1, 2, 3] rfl)
    · refine lv_iload_n hx hb dX5_bestPair_34 rfl (lv_at hl 3 rfl) ?_
      refine lv_iconst (v := 1) hx hb dX5_bestPair_35 (by decide) ?_
      refine lv_iadd hx hb dX5_bestPair_36 ?_
      refine lv_istore (lv' := [(4, .int (v.2.2.2 + 1)), (0, .ref x), (1, .int v.2.1), (2, .int v.2.2.1), (3, .int v.2.2.2)]) hx hb dX5_bestPair_37 hl (by decide) rfl (fun ls hl => ?_)
      have hE_39_1 : itr (lX5_bestPair_39 S T Tr v n1) ((fun w : (TV × Int32 × Int32 × Int32) => (T.2.2.2.1.toInt - w.2.2.2.toInt).toNat) (v.1, v.2.1, v.2.2.1, (v.2.2.2 + 1)) + 1) (v.1, v.2.1, v.2.2.1, (v.2.2.2 + 1)) = .inr (itv (v.1, v.2.1, v.2.2.1, (v.2.2.2 + 1)) (lX5_bestPair_39 S T Tr v n1) ((fun w : (TV × Int32 × Int32 × Int32) => (T.2.2.2.1.toInt - w.2.2.2.toInt).toNat) (v.1, v.2.1, v.2.2.1, (v.2.2.2 + 1)) + 1) (v.1, v.2.1, v.2.2.1, (v.2.2.2 + 1))) := by
        exact itv_ends (itr_ends (lX5_bestPair_39 S T Tr v n1) (fun w : (TV × Int32 × Int32 × Int32) => True) (fun w : (TV × Int32 × Int32 × Int32) => (T.2.2.2.1.toInt - w.2.2.2.toInt).toNat) (tlX5_bestPair_39 S T Tr v n1) _ _ trivial (Nat.lt_succ_self _))
      refine loopW (lX5_bestPair_39 S T Tr v n1) (fun w : (TV × Int32 × Int32 × Int32) => True) (fun w : (TV × Int32 × Int32 × Int32) => ∀ (H : Heap) (locs : List Loc) ls, va_P D vwCl [(x, .inr (6, [.ref ot, .ref ou, .ref ov, .ref oh, .ref ox, .ref oy, .int S.1, .int S.2.1, .int S.2.2.1, .int S.2.2.2])), (ot, .inr (4, [.ref ot1, .ref ot2, .int T.2.2.1, .int T.2.2.2.1, .int T.2.2.2.2.1, .int T.2.2.2.2.2.1, .int T.2.2.2.2.2.2.1, .int T.2.2.2.2.2.2.2])), (ot1, .inl (cI, 72, .inl T.1)), (ot2, .inl (cI, 36, .inl T.2.1)), (ou, .inr (4, [.ref ou1, .ref ou2, .int w.1.2.2.1, .int w.1.2.2.2.1, .int w.1.2.2.2.2.1, .int w.1.2.2.2.2.2.1, .int w.1.2.2.2.2.2.2.1, .int w.1.2.2.2.2.2.2.2])), (ou1, .inl (cI, 72, .inl w.1.1)), (ou2, .inl (cI, 36, .inl w.1.2.1))] H → va_D A [(x, .inr (6, [.ref ot, .ref ou, .ref ov, .ref oh, .ref ox, .ref oy, .int S.1, .int S.2.1, .int S.2.2.1, .int S.2.2.2])), (ot, .inr (4, [.ref ot1, .ref ot2, .int T.2.2.1, .int T.2.2.2.1, .int T.2.2.2.2.1, .int T.2.2.2.2.2.1, .int T.2.2.2.2.2.2.1, .int T.2.2.2.2.2.2.2])), (ot1, .inl (cI, 72, .inl T.1)), (ot2, .inl (cI, 36, .inl T.2.1)), (ou, .inr (4, [.ref ou1, .ref ou2, .int w.1.2.2.1, .int w.1.2.2.2.1, .int w.1.2.2.2.2.1, .int w.1.2.2.2.2.2.1, .int w.1.2.2.2.2.2.2.1, .int w.1.2.2.2.2.2.2.2])), (ou1, .inl (cI, 72, .inl w.1.1)), (ou2, .inl (cI, 36, .inl w.1.2.1))] → va_S A s.heap H locs → lv_has ls 6 [(0, .ref x), (1, .int w.2.1), (2, .int w.2.2.1), (3, .int v.2.2.2), (4, .int w.2.2.2)] → W p l e rmX5_bestPair s m args below meth c H locs 0 0 Q (F0 m 39 ls [])) (fun r9 : (TV × Int32 × Int32 × Int32) => ∀ (H : Heap) (locs : List Loc) ls, va_P D vwCl [(x, .inr (6, [.ref ot, .ref ou, .ref ov, .ref oh, .ref ox, .ref oy, .int S.1, .int S.2.1, .int S.2.2.1, .int S.2.2.2])), (ot, .inr (4, [.ref ot1, .ref ot2, .int T.2.2.1, .int T.2.2.2.1, .int T.2.2.2.2.1, .int T.2.2.2.2.2.1, .int T.2.2.2.2.2.2.1, .int T.2.2.2.2.2.2.2])), (ot1, .inl (cI, 72, .inl T.1)), (ot2, .inl (cI, 36, .inl T.2.1)), (ou, .inr (4, [.ref ou1, .ref ou2, .int r9.1.2.2.1, .int r9.1.2.2.2.1, .int r9.1.2.2.2.2.1, .int r9.1.2.2.2.2.2.1, .int r9.1.2.2.2.2.2.2.1, .int r9.1.2.2.2.2.2.2.2])), (ou1, .inl (cI, 72, .inl r9.1.1)), (ou2, .inl (cI, 36, .inl r9.1.2.1))] H → va_D A [(x, .inr (6, [.ref ot, .ref ou, .ref ov, .ref oh, .ref ox, .ref oy, .int S.1, .int S.2.1, .int S.2.2.1, .int S.2.2.2])), (ot, .inr (4, [.ref ot1, .ref ot2, .int T.2.2.1, .int T.2.2.2.1, .int T.2.2.2.2.1, .int T.2.2.2.2.2.1, .int T.2.2.2.2.2.2.1, .int T.2.2.2.2.2.2.2])), (ot1, .inl (cI, 72, .inl T.1)), (ot2, .inl (cI, 36, .inl T.2.1)), (ou, .inr (4, [.ref ou1, .ref ou2, .int r9.1.2.2.1, .int r9.1.2.2.2.1, .int r9.1.2.2.2.2.1, .int r9.1.2.2.2.2.2.1, .int r9.1.2.2.2.2.2.2.1, .int r9.1.2.2.2.2.2.2.2])), (ou1, .inl (cI, 72, .inl r9.1.1)), (ou2, .inl (cI, 36, .inl r9.1.2.1))] → va_S A s.heap H locs → lv_has ls 6 [(0, .ref x), (1, .int r9.2.1), (2, .int r9.2.2.1), (3, .int v.2.2.2), (4, .int r9.2.2.2)] → W p l e rmX5_bestPair s m args below meth c H locs 0 0 Q (F0 m 116 ls [])) ?_ (fun _ _ _ _ => trivial) _ (v.1, v.2.1, v.2.2.1, (v.2.2.2 + 1)) (itv (v.1, v.2.1, v.2.2.1, (v.2.2.2 + 1)) (lX5_bestPair_39 S T Tr v n1) ((fun w : (TV × Int32 × Int32 × Int32) => (T.2.2.2.1.toInt - w.2.2.2.toInt).toNat) (v.1, v.2.1, v.2.2.1, (v.2.2.2 + 1)) + 1) (v.1, v.2.1, v.2.2.1, (v.2.2.2 + 1))) trivial hE_39_1 ?_ _ _ ls hP hD hS (lv_sub hl [1, 2, 3, 4, 0] rfl)
      · intro w _ kb kx H locs ls hP hD hS hl
        refine lv_iload hx hb dX5_bestPair_39 (lv_at hl 4 rfl) ?_
        refine lv_aload_n hx hb dX5_bestPair_41 rfl (lv_at hl 0 rfl) ?_
        refine va_get (D := D) (ci := 6) (v := .ref ot) (C := RX5) (T := TX5) (N := 10) hx hb hts q1 hown hK hP 0 rfl rfl 0 (by decide) q0 (fun _ h9 => h9) rfl dX5_bestPair_42 ?_
        refine va_get (D := D) (ci := 4) (v := .int T.2.2.2.1) (C := RX3) (T := TX3) (N := 8) hx hb hts q4 hown hK hP 1 rfl rfl 3 (by decide) q3 (fun _ h9 => h9) rfl dX5_bestPair_45 ?_
        refine lv_icmp_ge (tgt := 116) hx hb dX5_bestPair_48 (by decide) (fun c_48 => ?_) (fun c_48 => ?_)
        · exact kx (w.1, w.2.1, w.2.2.1, w.2.2.2) (by rw [lX5_bestPair_39, if_pos c_48]) H locs ls hP hD hS (lv_sub hl [0, 1, 2, 3, 4] rfl)
        · refine lv_aload_n hx hb dX5_bestPair_51 rfl (lv_at hl 0 rfl) ?_
          refine va_get (D := D) (ci := 6) (v := .ref ot) (C := RX5) (T := TX5) (N := 10) hx hb hts q1 hown hK hP 0 rfl rfl 0 (by decide) q0 (fun _ h9 => h9) rfl dX5_bestPair_52 ?_
          refine lv_iload_n hx hb dX5_bestPair_55 rfl (lv_at hl 3 rfl) ?_
          refine lv_iload hx hb dX5_bestPair_56 (lv_at hl 4 rfl) ?_
          refine fRV (As := [.int v.2.2.2, .int w.2.2.2]) (rest := []) (st' := [.int (fX3_canExchange T v.2.2.2 w.2.2.2)]) ⟨hx, hb, hml, hown, hts⟩ (kX3_canExchange l D cI cC cT ot ot1 ot2 T v.2.2.2 w.2.2.2) (cwV 2 hts gX5_bestPair_X3_canExchange rfl rfl rfl (by decide +kernel) ⟨Nat.le_of_ble_eq_true rfl, Nat.le_of_ble_eq_true rfl⟩) hP hK [1, 2, 3] rfl 1 (ci := 4) rfl rfl rfl rfl hl.1 rfl rfl (Nat.le_of_ble_eq_true rfl) ⟨Nat.zero_le _, Nat.zero_le _⟩ dX5_bestPair_58 ?_
          refine lv_if_eq (tgt := 110) hx hb dX5_bestPair_61 (by decide) (fun c_61 => ?_) (fun c_61 => ?_)
          · refine lv_iinc (v := (w.2.2.2 + 1)) (lv' := [(4, .int (w.2.2.2 + 1)), (0, .ref x), (1, .int w.2.1), (2, .int w.2.2.1), (3, .int v.2.2.2)]) hx hb dX5_bestPair_110 hl (k := 4) rfl rfl (by decide) rfl (fun ls hl => ?_)
            refine lv_goto (tgt := 39) hx hb dX5_bestPair_113 (by decide) ?_
            exact kb (w.1, w.2.1, w.2.2.1, (w.2.2.2 + 1)) (by rw [lX5_bestPair_39, if_neg c_48, if_pos c_61]) H locs ls hP hD hS (lv_sub hl [1, 2, 3, 4, 0] rfl)
          · refine lv_aload_n hx hb dX5_bestPair_64 rfl (lv_at hl 0 rfl) ?_
            refine va_get (D := D) (ci := 6) (v := .ref ou) (C := RX5) (T := TX5) (N := 10) hx hb hts q1 hown hK hP 0 rfl rfl 1 (by decide) q2 (fun _ h9 => h9) rfl dX5_bestPair_65 ?_
            refine lv_iload_n hx hb dX5_bestPair_68 rfl (lv_at hl 3 rfl) ?_
            refine lv_iload hx hb dX5_bestPair_69 (lv_at hl 4 rfl) ?_
            obtain ⟨n2, en2⟩ : ∃ z9, z9 = (fX3_exchange w.1 v.2.2.2 w.2.2.2) := ⟨_, rfl⟩
            have k9 := (kX3_exchange l D cI cC cT ou ou1 ou2 w.1 v.2.2.2 w.2.2.2)
            rw [← en2] at k9
            refine fUV (As := [.int v.2.2.2, .int w.2.2.2]) (rest := []) (st' := []) ⟨hx, hb, hml, hown, hts⟩ k9 (cwV 2 hts gX5_bestPair_X3_exchange rfl rfl rfl (by decide +kernel) ⟨Nat.le_of_ble_eq_true rfl, Nat.le_of_ble_eq_true rfl⟩) hP hK hD hS [4, 5, 6] rfl rfl (by decide) rfl [(x, .inr (6, [.ref ot, .ref ou, .ref ov, .ref oh, .ref ox, .ref oy, .int S.1, .int S.2.1, .int S.2.2.1, .int S.2.2.2])), (ot, .inr (4, [.ref ot1, .ref ot2, .int T.2.2.1, .int T.2.2.2.1, .int T.2.2.2.2.1, .int T.2.2.2.2.2.1, .int T.2.2.2.2.2.2.1, .int T.2.2.2.2.2.2.2])), (ot1, .inl (cI, 72, .inl T.1)), (ot2, .inl (cI, 36, .inl T.2.1)), (ou, .inr (4, [.ref ou1, .ref ou2, .int n2.2.2.1, .int n2.2.2.2.1, .int n2.2.2.2.2.1, .int n2.2.2.2.2.2.1, .int n2.2.2.2.2.2.2.1, .int n2.2.2.2.2.2.2.2])), (ou1, .inl (cI, 72, .inl n2.1)), (ou2, .inl (cI, 36, .inl n2.2.1))] rfl rfl 4 (ci := 4) rfl rfl rfl rfl hl.1 rfl rfl (Nat.le_of_ble_eq_true rfl) ⟨Nat.zero_le _, Nat.zero_le _⟩ dX5_bestPair_71 (fun H locs hP hD hS => ?_)
            refine lv_aload_n hx hb dX5_bestPair_74 rfl (lv_at hl 0 rfl) ?_
            refine va_get (D := D) (ci := 6) (v := .ref ou) (C := RX5) (T := TX5) (N := 10) hx hb hts q1 hown hK hP 0 rfl rfl 1 (by decide) q2 (fun _ h9 => h9) rfl dX5_bestPair_75 ?_
            refine fRV (As := []) (rest := []) (st' := [.int (fX3_clashesByPairs n2)]) ⟨hx, hb, hml, hown, hts⟩ (kX3_clashesByPairs l D cI cC cT ou ou1 ou2 n2) (cwV 0 hts gX5_bestPair_X3_clashesByPairs rfl rfl rfl (by decide +kernel) ⟨Nat.le_of_ble_eq_true rfl, Nat.le_of_ble_eq_true rfl⟩) hP hK [4, 5, 6] rfl 4 (ci := 4) rfl rfl rfl rfl hl.1 rfl rfl (Nat.le_of_ble_eq_true rfl) ⟨Nat.zero_le _, Nat.zero_le _⟩ dX5_bestPair_78 ?_
            refine lv_istore (lv' := [(5, .int (fX3_clashesByPairs n2)), (0, .ref x), (1, .int w.2.1), (2, .int w.2.2.1), (3, .int v.2.2.2), (4, .int w.2.2.2)]) hx hb dX5_bestPair_81 hl (by decide) rfl (fun ls hl => ?_)
            refine lv_aload_n hx hb dX5_bestPair_83 rfl (lv_at hl 1 rfl) ?_
            refine va_get (D := D) (ci := 6) (v := .ref ou) (C := RX5) (T := TX5) (N := 10) hx hb hts q1 hown hK hP 0 rfl rfl 1 (by decide) q2 (fun _ h9 => h9) rfl dX5_bestPair_84 ?_
            refine lv_iload_n hx hb dX5_bestPair_87 rfl (lv_at hl 4 rfl) ?_
            refine lv_iload hx hb dX5_bestPair_88 (lv_at hl 5 rfl) ?_
            obtain ⟨n3, en3⟩ : ∃ z9, z9 = (fX3_exchange n2 v.2.2.2 w.2.2.2) := ⟨_, rfl⟩
            have k9 := (kX3_exchange l D cI cC cT ou ou1 ou2 n2 v.2.2.2 w.2.2.2)
            rw [← en3] at k9
            refine fUV (As := [.int v.2.2.2, .int w.2.2.2]) (rest := []) (st' := []) ⟨hx, hb, hml, hown, hts⟩ k9 (cwV 2 hts gX5_bestPair_X3_exchange rfl rfl rfl (by decide +kernel) ⟨Nat.le_of_ble_eq_true rfl, Nat.le_of_ble_eq_true rfl⟩) hP hK hD hS [4, 5, 6] rfl rfl (by decide) rfl [(x, .inr (6, [.ref ot, .ref ou, .ref ov, .ref oh, .ref ox, .ref oy, .int S.1, .int S.2.1, .int S.2.2.1, .int S.2.2.2])), (ot, .inr (4, [.ref ot1, .ref ot2, .int T.2.2.1, .int T.2.2.2.1, .int T.2.2.2.2.1, .int T.2.2.2.2.2.1, .int T.2.2.2.2.2.2.1, .int T.2.2.2.2.2.2.2])), (ot1, .inl (cI, 72, .inl T.1)), (ot2, .inl (cI, 36, .inl T.2.1)), (ou, .inr (4, [.ref ou1, .ref ou2, .int n3.2.2.1, .int n3.2.2.2.1, .int n3.2.2.2.2.1, .int n3.2.2.2.2.2.1, .int n3.2.2.2.2.2.2.1, .int n3.2.2.2.2.2.2.2])), (ou1, .inl (cI, 72, .inl n3.1)), (ou2, .inl (cI, 36, .inl n3.2.1))] rfl rfl 4 (ci := 4) rfl rfl rfl rfl hl.1 rfl rfl (Nat.le_of_ble_eq_true rfl) ⟨Nat.zero_le _, Nat.zero_le _⟩ dX5_bestPair_90 (fun H locs hP hD hS => ?_)
            refine lv_iload hx hb dX5_bestPair_93 (lv_at hl 0 rfl) ?_
            refine lv_iload_n hx hb dX5_bestPair_95 rfl (lv_at hl 2 rfl) ?_
            refine lv_icmp_ge (tgt := 110) hx hb dX5_bestPair_96 (by decide) (fun c_96 => ?_) (fun c_96 => ?_)
            · refine lv_iinc (v := (w.2.2.2 + 1)) (lv' := [(4, .int (w.2.2.2 + 1)), (5, .int (fX3_clashesByPairs n2)), (0, .ref x), (1, .int w.2.1), (2, .int w.2.2.1), (3, .int v.2.2.2)]) hx hb dX5_bestPair_110 hl (k := 5) rfl rfl (by decide) rfl (fun ls hl => ?_)
              refine lv_goto (tgt := 39) hx hb dX5_bestPair_113 (by decide) ?_
              exact kb (n3, w.2.1, w.2.2.1, (w.2.2.2 + 1)) (by rw [lX5_bestPair_39, if_neg c_48, if_neg c_61, ← en2, ← en3, if_pos c_96]) H locs ls hP hD hS (lv_sub hl [2, 3, 4, 5, 0] rfl)
            · refine lv_iload hx hb dX5_bestPair_99 (lv_at hl 0 rfl) ?_
              refine lv_istore_n (lv' := [(1, .int (fX3_clashesByPairs n2)), (5, .int (fX3_clashesByPairs n2)), (0, .ref x), (2, .int w.2.2.1), (3, .int v.2.2.2), (4, .int w.2.2.2)]) hx hb dX5_bestPair_101 rfl hl (by decide) rfl (fun ls hl => ?_)
              refine lv_iload_n hx hb dX5_bestPair_102 rfl (lv_at hl 4 rfl) ?_
              refine lv_bipush (v := 12) hx hb dX5_bestPair_103 (by decide) ?_
              refine lv_imul hx hb dX5_bestPair_105 ?_
              refine lv_iload hx hb dX5_bestPair_106 (lv_at hl 5 rfl) ?_
              refine lv_iadd hx hb dX5_bestPair_108 ?_
              refine lv_istore_n (lv' := [(2, .int ((v.2.2.2 * 12) + w.2.2.2)), (1, .int (fX3_clashesByPairs n2)), (5, .int (fX3_clashesByPairs n2)), (0, .ref x), (3, .int v.2.2.2), (4, .int w.2.2.2)]) hx hb dX5_bestPair_109 rfl hl (by decide) rfl (fun ls hl => ?_)
              refine lv_iinc (v := (w.2.2.2 + 1)) (lv' := [(4, .int (w.2.2.2 + 1)), (2, .int ((v.2.2.2 * 12) + w.2.2.2)), (1, .int (fX3_clashesByPairs n2)), (5, .int (fX3_clashesByPairs n2)), (0, .ref x), (3, .int v.2.2.2)]) hx hb dX5_bestPair_110 hl (k := 5) rfl rfl (by decide) rfl (fun ls hl => ?_)
              refine lv_goto (tgt := 39) hx hb dX5_bestPair_113 (by decide) ?_
              exact kb (n3, (fX3_clashesByPairs n2), ((v.2.2.2 * 12) + w.2.2.2), (w.2.2.2 + 1)) (by rw [lX5_bestPair_39, if_neg c_48, if_neg c_61, ← en2, ← en3, if_neg c_96]) H locs ls hP hD hS (lv_sub hl [4, 2, 1, 5, 0] rfl)
      · intro H locs ls hP hD hS hl
        refine lv_iinc (v := (v.2.2.2 + 1)) (lv' := [(3, .int (v.2.2.2 + 1)), (0, .ref x), (1, .int (itv (v.1, v.2.1, v.2.2.1, (v.2.2.2 + 1)) (lX5_bestPair_39 S T Tr v n1) ((fun w : (TV × Int32 × Int32 × Int32) => (T.2.2.2.1.toInt - w.2.2.2.toInt).toNat) (v.1, v.2.1, v.2.2.1, (v.2.2.2 + 1)) + 1) (v.1, v.2.1, v.2.2.1, (v.2.2.2 + 1))).2.1), (2, .int (itv (v.1, v.2.1, v.2.2.1, (v.2.2.2 + 1)) (lX5_bestPair_39 S T Tr v n1) ((fun w : (TV × Int32 × Int32 × Int32) => (T.2.2.2.1.toInt - w.2.2.2.toInt).toNat) (v.1, v.2.1, v.2.2.1, (v.2.2.2 + 1)) + 1) (v.1, v.2.1, v.2.2.1, (v.2.2.2 + 1))).2.2.1), (4, .int (itv (v.1, v.2.1, v.2.2.1, (v.2.2.2 + 1)) (lX5_bestPair_39 S T Tr v n1) ((fun w : (TV × Int32 × Int32 × Int32) => (T.2.2.2.1.toInt - w.2.2.2.toInt).toNat) (v.1, v.2.1, v.2.2.1, (v.2.2.2 + 1)) + 1) (v.1, v.2.1, v.2.2.1, (v.2.2.2 + 1))).2.2.2)]) hx hb dX5_bestPair_116 hl (k := 3) rfl rfl (by decide) rfl (fun ls hl => ?_)
        refine lv_goto (tgt := 23) hx hb dX5_bestPair_119 (by decide) ?_
        exact kb ((itv (v.1, v.2.1, v.2.2.1, (v.2.2.2 + 1)) (lX5_bestPair_39 S T Tr v n1) ((fun w : (TV × Int32 × Int32 × Int32) => (T.2.2.2.1.toInt - w.2.2.2.toInt).toNat) (v.1, v.2.1, v.2.2.1, (v.2.2.2 + 1)) + 1) (v.1, v.2.1, v.2.2.1, (v.2.2.2 + 1))).1, (itv (v.1, v.2.1, v.2.2.1, (v.2.2.2 + 1)) (lX5_bestPair_39 S T Tr v n1) ((fun w : (TV × Int32 × Int32 × Int32) => (T.2.2.2.1.toInt - w.2.2.2.toInt).toNat) (v.1, v.2.1, v.2.2.1, (v.2.2.2 + 1)) + 1) (v.1, v.2.1, v.2.2.1, (v.2.2.2 + 1))).2.1, (itv (v.1, v.2.1, v.2.2.1, (v.2.2.2 + 1)) (lX5_bestPair_39 S T Tr v n1) ((fun w : (TV × Int32 × Int32 × Int32) => (T.2.2.2.1.toInt - w.2.2.2.toInt).toNat) (v.1, v.2.1, v.2.2.1, (v.2.2.2 + 1)) + 1) (v.1, v.2.1, v.2.2.1, (v.2.2.2 + 1))).2.2.1, (v.2.2.2 + 1)) (by rw [lX5_bestPair_23, if_neg c_31]) H locs ls hP hD hS (lv_sub hl [1, 2, 3, 0] rfl)
  · intro H locs ls hP hD hS hl
    refine lv_iload_n hx hb dX5_bestPair_122 rfl (lv_at hl 2 rfl) ?_
    have e9 : fX5_bestPair S T Tr = ((itv (n1, (fX3_clashesByPairs T), (-1), 0) (lX5_bestPair_23 S T Tr n1) ((fun v : (TV × Int32 × Int32 × Int32) => (T.2.2.2.1.toInt - v.2.2.2.toInt).toNat) (n1, (fX3_clashesByPairs T), (-1), 0) + 1) (n1, (fX3_clashesByPairs T), (-1), 0)).2.2.1, (itv (n1, (fX3_clashesByPairs T), (-1), 0) (lX5_bestPair_23 S T Tr n1) ((fun v : (TV × Int32 × Int32 × Int32) => (T.2.2.2.1.toInt - v.2.2.2.toInt).toNat) (n1, (fX3_clashesByPairs T), (-1), 0) + 1) (n1, (fX3_clashesByPairs T), (-1), 0)).1) := by rw [fX5_bestPair, ← en1]
    exact rUi hx hb hr hlk hQ hP hS (by rw [e9]) (congrArg (fun z9 : (Int32 × TV) => w5 x ot ou ov oh ox oy S ++ w3 cI ot ot1 ot2 T ++ w3 cI ou ou1 ou2 z9.2) e9).symm rfl dX5_bestPair_123
def lX5_line_9 (S : CV) (T : TV) (Ln : LV) (n1 : LV) (v : (LV × Int32)) : (LV × Int32) ⊕ ((LV × Int32)) := (if T.2.2.1 ≤ v.2 then (.inr (v.1, v.2)) else (.inl ((fX5_writeSeat S T v.1 v.2), (v.2 + 1))))
theorem tlX5_line_9 (S : CV) (T : TV) (Ln : LV) (n1 : LV) : ∀ (a b : (LV × Int32)), (fun v : (LV × Int32) => True) a → lX5_line_9 S T Ln n1 a = .inl b → (fun v : (LV × Int32) => True) b ∧ (fun v : (LV × Int32) => (T.2.2.1.toInt - v.2.toInt).toNat) b < (fun v : (LV × Int32) => (T.2.2.1.toInt - v.2.toInt).toNat) a := by
  intro a b h0 h
  unfold lX5_line_9 at h
  repeat' split at h
  all_goals first | (cases h; done) | (cases h; exact ⟨trivial, rk_ge (by assumption)⟩) | (cases h; exact ⟨trivial, rk_gt (by assumption)⟩)
def fX5_line (S : CV) (T : TV) (Ln : LV)  : (Int32 × LV) := ((itv ((fX2_clear Ln), 0) (lX5_line_9 S T Ln (fX2_clear Ln)) ((fun v : (LV × Int32) => (T.2.2.1.toInt - v.2.toInt).toNat) ((fX2_clear Ln), 0) + 1) ((fX2_clear Ln), 0)).1.2, (itv ((fX2_clear Ln), 0) (lX5_line_9 S T Ln (fX2_clear Ln)) ((fun v : (LV × Int32) => (T.2.2.1.toInt - v.2.toInt).toNat) ((fX2_clear Ln), 0) + 1) ((fX2_clear Ln), 0)).1)
abbrev rmX5_line : Room := { frames := 2, cells := 0, slots := 0, locals := 45 }
set_option maxHeartbeats 4000000 in
set_option maxRecDepth 100000 in
theorem kX5_line (l : Launch) (D : va_G) (cI cC cT : ClassId) (x ot ou ov oh ox oy ot1 ot2 oy1 : Nat) (S : CV) (T : TV) (Ln : LV)   : mU l D (TY cI cC cT) yX5_line wsX5_line rmX5_line [.ref x] (w5 x ot ou ov oh ox oy S ++ w3 cI ot ot1 ot2 T ++ w2 cC oy oy1 Ln) (some (.int (fX5_line S T Ln).1)) (w5 x ot ou ov oh ox oy S ++ w3 cI ot ot1 ot2 T ++ w2 cC oy oy1 (fX5_line S T Ln).2) := by
  refine mU.ofW (cc := cX5_line) (maxL := 2) (ret := (some .int)) (by decide) rfl (Nat.le_of_ble_eq_true rfl) ?_
  intro p e s m args below meth c Q ls A hx hb hml hr hlk hts hown hP hK hD hS hl hQ
  have hown : s.vm.findClass RX5 = some m.cls := hown
  have hP : va_P D vwCl [(x, .inr (6, [.ref ot, .ref ou, .ref ov, .ref oh, .ref ox, .ref oy, .int S.1, .int S.2.1, .int S.2.2.1, .int S.2.2.2])), (ot, .inr (4, [.ref ot1, .ref ot2, .int T.2.2.1, .int T.2.2.2.1, .int T.2.2.2.2.1, .int T.2.2.2.2.2.1, .int T.2.2.2.2.2.2.1, .int T.2.2.2.2.2.2.2])), (ot1, .inl (cI, 72, .inl T.1)), (ot2, .inl (cI, 36, .inl T.2.1)), (oy, .inr (3, [.ref oy1, .int Ln.2])), (oy1, .inl (cC, 600, .inl Ln.1))] s.heap := hP
  have hD : va_D A [(x, .inr (6, [.ref ot, .ref ou, .ref ov, .ref oh, .ref ox, .ref oy, .int S.1, .int S.2.1, .int S.2.2.1, .int S.2.2.2])), (ot, .inr (4, [.ref ot1, .ref ot2, .int T.2.2.1, .int T.2.2.2.1, .int T.2.2.2.2.1, .int T.2.2.2.2.2.1, .int T.2.2.2.2.2.2.1, .int T.2.2.2.2.2.2.2])), (ot1, .inl (cI, 72, .inl T.1)), (ot2, .inl (cI, 36, .inl T.2.1)), (oy, .inr (3, [.ref oy1, .int Ln.2])), (oy1, .inl (cC, 600, .inl Ln.1))] := hD
  have hl : lv_has ls 2 [(0, .ref x)] := hl
  have q0 := hts (Cond.fieldLink RX5 39 "TavernStools" "written" "LTavernStools$Line;") (by decide +kernel)
  have q1 : ∀ w ∈ u_ws RX5 TX5 10, w ∈ wsX5_line := by decide +kernel
  have q2 := hts (Cond.fieldLink RX5 10 "TavernStools" "tavern" "LTavernStools$Tavern;") (by decide +kernel)
  have q3 := hts (Cond.fieldLink RX5 124 "TavernStools$Tavern" "stools" "I") (by decide +kernel)
  have q4 : ∀ w ∈ u_ws RX3 TX3 8, w ∈ wsX5_line := by decide +kernel
  have q5 := hts (Cond.fieldLink RX5 189 "TavernStools$Line" "length" "I") (by decide +kernel)
  have q6 : ∀ w ∈ u_ws RX2 TX2 2, w ∈ wsX5_line := by decide +kernel
  generalize hHe : s.heap = H at hP ⊢
  have hS : va_S A s.heap H [] := hHe ▸ hS
  generalize hLe : ([] : List Loc) = locs at hS ⊢
  refine lv_aload_n hx hb dX5_line_0 rfl (lv_at hl 0 rfl) ?_
  refine va_get (D := D) (ci := 6) (v := .ref oy) (C := RX5) (T := TX5) (N := 10) hx hb hts q1 hown hK hP 0 rfl rfl 5 (by decide) q0 (fun _ h9 => h9) rfl dX5_line_1 ?_
  obtain ⟨n1, en1⟩ : ∃ z9, z9 = (fX2_clear Ln) := ⟨_, rfl⟩
  have k9 := (kX2_clear l D cI cC cT oy oy1 Ln)
  rw [← en1] at k9
  refine fUV (As := []) (rest := []) (st' := []) ⟨hx, hb, hml, hown, hts⟩ k9 (cwV 0 hts gX5_line_X2_clear rfl rfl rfl (by decide +kernel) ⟨Nat.le_of_ble_eq_true rfl, Nat.le_of_ble_eq_true rfl⟩) hP hK hD hS [4, 5] rfl rfl (by decide) rfl [(x, .inr (6, [.ref ot, .ref ou, .ref ov, .ref oh, .ref ox, .ref oy, .int S.1, .int S.2.1, .int S.2.2.1, .int S.2.2.2])), (ot, .inr (4, [.ref ot1, .ref ot2, .int T.2.2.1, .int T.2.2.2.1, .int T.2.2.2.2.1, .int T.2.2.2.2.2.1, .int T.2.2.2.2.2.2.1, .int T.2.2.2.2.2.2.2])), (ot1, .inl (cI, 72, .inl T.1)), (ot2, .inl (cI, 36, .inl T.2.1)), (oy, .inr (3, [.ref oy1, .int n1.2])), (oy1, .inl (cC, 600, .inl n1.1))] rfl rfl 4 (ci := 3) rfl rfl rfl rfl hl.1 rfl rfl (Nat.le_of_ble_eq_true rfl) ⟨Nat.zero_le _, Nat.zero_le _⟩ dX5_line_4 (fun H locs hP hD hS => ?_)
  refine lv_iconst (v := 0) hx hb dX5_line_7 (by decide) ?_
  refine lv_istore_n (lv' := [(1, .int 0), (0, .ref x)]) hx hb dX5_line_8 rfl hl (by decide) rfl (fun ls hl => ?_)
  have hE_9 : itr (lX5_line_9 S T Ln n1) ((fun v : (LV × Int32) => (T.2.2.1.toInt - v.2.toInt).toNat) (n1, 0) + 1) (n1, 0) = .inr (itv (n1, 0) (lX5_line_9 S T Ln n1) ((fun v : (LV × Int32) => (T.2.2.1.toInt - v.2.toInt).toNat) (n1, 0) + 1) (n1, 0)) := by
    exact itv_ends (itr_ends (lX5_line_9 S T Ln n1) (fun v : (LV × Int32) => True) (fun v : (LV × Int32) => (T.2.2.1.toInt - v.2.toInt).toNat) (tlX5_line_9 S T Ln n1) _ _ trivial (Nat.lt_succ_self _))
  refine loopW (lX5_line_9 S T Ln n1) (fun v : (LV × Int32) => True) (fun v : (LV × Int32) => ∀ (H : Heap) (locs : List Loc) ls, va_P D vwCl [(x, .inr (6, [.ref ot, .ref ou, .ref ov, .ref oh, .ref ox, .ref oy, .int S.1, .int S.2.1, .int S.2.2.1, .int S.2.2.2])), (ot, .inr (4, [.ref ot1, .ref ot2, .int T.2.2.1, .int T.2.2.2.1, .int T.2.2.2.2.1, .int T.2.2.2.2.2.1, .int T.2.2.2.2.2.2.1, .int T.2.2.2.2.2.2.2])), (ot1, .inl (cI, 72, .inl T.1)), (ot2, .inl (cI, 36, .inl T.2.1)), (oy, .inr (3, [.ref oy1, .int v.1.2])), (oy1, .inl (cC, 600, .inl v.1.1))] H → va_D A [(x, .inr (6, [.ref ot, .ref ou, .ref ov, .ref oh, .ref ox, .ref oy, .int S.1, .int S.2.1, .int S.2.2.1, .int S.2.2.2])), (ot, .inr (4, [.ref ot1, .ref ot2, .int T.2.2.1, .int T.2.2.2.1, .int T.2.2.2.2.1, .int T.2.2.2.2.2.1, .int T.2.2.2.2.2.2.1, .int T.2.2.2.2.2.2.2])), (ot1, .inl (cI, 72, .inl T.1)), (ot2, .inl (cI, 36, .inl T.2.1)), (oy, .inr (3, [.ref oy1, .int v.1.2])), (oy1, .inl (cC, 600, .inl v.1.1))] → va_S A s.heap H locs → lv_has ls 2 [(0, .ref x), (1, .int v.2)] → W p l e rmX5_line s m args below meth c H locs 0 0 Q (F0 m 9 ls [])) (fun r9 : (LV × Int32) => ∀ (H : Heap) (locs : List Loc) ls, va_P D vwCl [(x, .inr (6, [.ref ot, .ref ou, .ref ov, .ref oh, .ref ox, .ref oy, .int S.1, .int S.2.1, .int S.2.2.1, .int S.2.2.2])), (ot, .inr (4, [.ref ot1, .ref ot2, .int T.2.2.1, .int T.2.2.2.1, .int T.2.2.2.2.1, .int T.2.2.2.2.2.1, .int T.2.2.2.2.2.2.1, .int T.2.2.2.2.2.2.2])), (ot1, .inl (cI, 72, .inl T.1)), (ot2, .inl (cI, 36, .inl T.2.1)), (oy, .inr (3, [.ref oy1, .int r9.1.2])), (oy1, .inl (cC, 600, .inl r9.1.1))] H → va_D A [(x, .inr (6, [.ref ot, .ref ou, .ref ov, .ref oh, .ref ox, .ref oy, .int S.1, .int S.2.1, .int S.2.2.1, .int S.2.2.2])), (ot, .inr (4, [.ref ot1, .ref ot2, .int T.2.2.1, .int T.2.2.2.1, .int T.2.2.2.2.1, .int T.2.2.2.2.2.1, .int T.2.2.2.2.2.2.1, .int T.2.2.2.2.2.2.2])), (ot1, .inl (cI, 72, .inl T.1)), (ot2, .inl (cI, 36, .inl T.2.1)), (oy, .inr (3, [.ref oy1, .int r9.1.2])), (oy1, .inl (cC, 600, .inl r9.1.1))] → va_S A s.heap H locs → lv_has ls 2 [(0, .ref x), (1, .int r9.2)] → W p l e rmX5_line s m args below meth c H locs 0 0 Q (F0 m 31 ls [])) ?_ (fun _ _ _ _ => trivial) _ (n1, 0) (itv (n1, 0) (lX5_line_9 S T Ln n1) ((fun v : (LV × Int32) => (T.2.2.1.toInt - v.2.toInt).toNat) (n1, 0) + 1) (n1, 0)) trivial hE_9 ?_ _ _ ls hP hD hS (lv_sub hl [1, 0] rfl)
  · intro v _ kb kx H locs ls hP hD hS hl
    refine lv_iload_n hx hb dX5_line_9 rfl (lv_at hl 1 rfl) ?_
    refine lv_aload_n hx hb dX5_line_10 rfl (lv_at hl 0 rfl) ?_
    refine va_get (D := D) (ci := 6) (v := .ref ot) (C := RX5) (T := TX5) (N := 10) hx hb hts q1 hown hK hP 0 rfl rfl 0 (by decide) q2 (fun _ h9 => h9) rfl dX5_line_11 ?_
    refine va_get (D := D) (ci := 4) (v := .int T.2.2.1) (C := RX3) (T := TX3) (N := 8) hx hb hts q4 hown hK hP 1 rfl rfl 2 (by decide) q3 (fun _ h9 => h9) rfl dX5_line_14 ?_
    refine lv_icmp_ge (tgt := 31) hx hb dX5_line_17 (by decide) (fun c_17 => ?_) (fun c_17 => ?_)
    · exact kx (v.1, v.2) (by rw [lX5_line_9, if_pos c_17]) H locs ls hP hD hS (lv_sub hl [0, 1] rfl)
    · refine lv_aload_n hx hb dX5_line_20 rfl (lv_at hl 0 rfl) ?_
      refine lv_iload_n hx hb dX5_line_21 rfl (lv_at hl 1 rfl) ?_
      obtain ⟨n2, en2⟩ : ∃ z9, z9 = (fX5_writeSeat S T v.1 v.2) := ⟨_, rfl⟩
      have k9 := (kX5_writeSeat l D cI cC cT x ot ou ov oh ox oy ot1 ot2 oy1 S T v.1 v.2)
      rw [← en2] at k9
      refine fUVp (As := [.int v.2]) (rest := []) (st' := []) ⟨hx, hb, hml, hown, hts⟩ k9 (cwV 1 hts gX5_line_X5_writeSeat rfl rfl rfl (by decide +kernel) ⟨Nat.le_of_ble_eq_true rfl, Nat.le_of_ble_eq_true rfl⟩) hP hK hD hS [] rfl [(x, .inr (6, [.ref ot, .ref ou, .ref ov, .ref oh, .ref ox, .ref oy, .int S.1, .int S.2.1, .int S.2.2.1, .int S.2.2.2])), (ot, .inr (4, [.ref ot1, .ref ot2, .int T.2.2.1, .int T.2.2.2.1, .int T.2.2.2.2.1, .int T.2.2.2.2.2.1, .int T.2.2.2.2.2.2.1, .int T.2.2.2.2.2.2.2])), (ot1, .inl (cI, 72, .inl T.1)), (ot2, .inl (cI, 36, .inl T.2.1)), (oy, .inr (3, [.ref oy1, .int n2.2])), (oy1, .inl (cC, 600, .inl n2.1))] rfl rfl 0 (ci := 6) rfl rfl rfl rfl hl.1 rfl rfl (Nat.le_of_ble_eq_true rfl) ⟨Nat.zero_le _, Nat.zero_le _⟩ dX5_line_22 (fun H locs hP hD hS => ?_)
      refine lv_iinc (v := (v.2 + 1)) (lv' := [(1, .int (v.2 + 1)), (0, .ref x)]) hx hb dX5_line_25 hl (k := 1) rfl rfl (by decide) rfl (fun ls hl => ?_)
      refine lv_goto (tgt := 9) hx hb dX5_line_28 (by decide) ?_
      exact kb (n2, (v.2 + 1)) (by rw [lX5_line_9, if_neg c_17, ← en2]) H locs ls hP hD hS (lv_sub hl [1, 0] rfl)
  · intro H locs ls hP hD hS hl
    refine lv_aload_n hx hb dX5_line_31 rfl (lv_at hl 0 rfl) ?_
    refine va_get (D := D) (ci := 6) (v := .ref oy) (C := RX5) (T := TX5) (N := 10) hx hb hts q1 hown hK hP 0 rfl rfl 5 (by decide) q0 (fun _ h9 => h9) rfl dX5_line_32 ?_
    refine va_get (D := D) (ci := 3) (v := .int (itv (n1, 0) (lX5_line_9 S T Ln n1) ((fun v : (LV × Int32) => (T.2.2.1.toInt - v.2.toInt).toNat) (n1, 0) + 1) (n1, 0)).1.2) (C := RX2) (T := TX2) (N := 2) hx hb hts q6 hown hK hP 4 rfl rfl 1 (by decide) q5 (fun _ h9 => h9) rfl dX5_line_35 ?_
    have e9 : fX5_line S T Ln = ((itv (n1, 0) (lX5_line_9 S T Ln n1) ((fun v : (LV × Int32) => (T.2.2.1.toInt - v.2.toInt).toNat) (n1, 0) + 1) (n1, 0)).1.2, (itv (n1, 0) (lX5_line_9 S T Ln n1) ((fun v : (LV × Int32) => (T.2.2.1.toInt - v.2.toInt).toNat) (n1, 0) + 1) (n1, 0)).1) := by rw [fX5_line, ← en1]
    exact rUi hx hb hr hlk hQ hP hS (by rw [e9]) (congrArg (fun z9 : (Int32 × LV) => w5 x ot ou ov oh ox oy S ++ w3 cI ot ot1 ot2 T ++ w2 cC oy oy1 z9.2) e9).symm rfl dX5_line_38
def fX5_isWell (S : CV) (T : TV)  : Int32 := (if (fX3_clashesByPairs T) = (fX3_clashesByStools T) then (if (fX3_stoolsAreWell T) = 0 then 0 else (if (fX3_sittersAreWell T) = 0 then 0 else (if (T.2.2.2.2.1 + (fX3_sumOfStools T 4)) = (6 + T.2.2.2.2.2.2.2) then 1 else 0))) else 0)
abbrev rmX5_isWell : Room := { frames := 4, cells := 0, slots := 0, locals := 90 }
set_option maxHeartbeats 4000000 in
set_option maxRecDepth 100000 in
theorem kX5_isWell (l : Launch) (D : va_G) (cI cC cT : ClassId) (x ot ou ov oh ox oy ot1 ot2 : Nat) (S : CV) (T : TV)   : mR l D (TY cI cC cT) yX5_isWell wsX5_isWell rmX5_isWell [.ref x] (w5 x ot ou ov oh ox oy S ++ w3 cI ot ot1 ot2 T) (some (.int (fX5_isWell S T))) := by
  refine mR.ofW (cc := cX5_isWell) (maxL := 1) (ret := (some .boolean)) (by decide) rfl (Nat.le_of_ble_eq_true rfl) ?_
  intro p e s m args below meth c Q ls hx hb hml hr hlk hts hown hP hK hl hQ
  have hown : s.vm.findClass RX5 = some m.cls := hown
  have hP : va_P D vwCl [(x, .inr (6, [.ref ot, .ref ou, .ref ov, .ref oh, .ref ox, .ref oy, .int S.1, .int S.2.1, .int S.2.2.1, .int S.2.2.2])), (ot, .inr (4, [.ref ot1, .ref ot2, .int T.2.2.1, .int T.2.2.2.1, .int T.2.2.2.2.1, .int T.2.2.2.2.2.1, .int T.2.2.2.2.2.2.1, .int T.2.2.2.2.2.2.2])), (ot1, .inl (cI, 72, .inl T.1)), (ot2, .inl (cI, 36, .inl T.2.1))] s.heap := hP
  have hl : lv_has ls 1 [(0, .ref x)] := hl
  have q0 := hts (Cond.fieldLink RX5 10 "TavernStools" "tavern" "LTavernStools$Tavern;") (by decide +kernel)
  have q1 : ∀ w ∈ u_ws RX5 TX5 10, w ∈ wsX5_isWell := by decide +kernel
  have q2 := hts (Cond.fieldLink RX5 258 "TavernStools$Tavern" "purse" "I") (by decide +kernel)
  have q3 : ∀ w ∈ u_ws RX3 TX3 8, w ∈ wsX5_isWell := by decide +kernel
  have q4 := hts (Cond.fieldLink RX5 267 "TavernStools$Tavern" "brought" "I") (by decide +kernel)
  refine lv_aload_n hx hb dX5_isWell_0 rfl (lv_at hl 0 rfl) ?_
  refine va_get (D := D) (ci := 6) (v := .ref ot) (C := RX5) (T := TX5) (N := 10) hx hb hts q1 hown hK hP 0 rfl rfl 0 (by decide) q0 (fun _ h9 => h9) rfl dX5_isWell_1 ?_
  refine fRV (As := []) (rest := []) (st' := [.int (fX3_clashesByPairs T)]) ⟨hx, hb, hml, hown, hts⟩ (kX3_clashesByPairs l D cI cC cT ot ot1 ot2 T) (cwV 0 hts gX5_isWell_X3_clashesByPairs rfl rfl rfl (by decide +kernel) ⟨Nat.le_of_ble_eq_true rfl, Nat.le_of_ble_eq_true rfl⟩) hP hK [1, 2, 3] rfl 1 (ci := 4) rfl rfl rfl rfl hl.1 rfl rfl (Nat.le_of_ble_eq_true rfl) ⟨Nat.zero_le _, Nat.zero_le _⟩ dX5_isWell_4 ?_
  refine lv_aload_n hx hb dX5_isWell_7 rfl (lv_at hl 0 rfl) ?_
  refine va_get (D := D) (ci := 6) (v := .ref ot) (C := RX5) (T := TX5) (N := 10) hx hb hts q1 hown hK hP 0 rfl rfl 0 (by decide) q0 (fun _ h9 => h9) rfl dX5_isWell_8 ?_
  refine fRV (As := []) (rest := [.int (fX3_clashesByPairs T)]) (st' := [.int (fX3_clashesByStools T), .int (fX3_clashesByPairs T)]) ⟨hx, hb, hml, hown, hts⟩ (kX3_clashesByStools l D cI cC cT ot ot1 ot2 T) (cwV 0 hts gX5_isWell_X3_clashesByStools rfl rfl rfl (by decide +kernel) ⟨Nat.le_of_ble_eq_true rfl, Nat.le_of_ble_eq_true rfl⟩) hP hK [1, 2, 3] rfl 1 (ci := 4) rfl rfl rfl rfl hl.1 rfl rfl (Nat.le_of_ble_eq_true rfl) ⟨Nat.zero_le _, Nat.zero_le _⟩ dX5_isWell_11 ?_
  refine lv_icmp_ne (tgt := 70) hx hb dX5_isWell_14 (by decide) (fun c_14 => ?_) (fun c_14 => ?_)
  · refine lv_iconst (v := 0) hx hb dX5_isWell_70 (by decide) ?_
    exact rRi hx hb hr hlk hQ (by rw [fX5_isWell, if_neg c_14]) rfl dX5_isWell_71
  · refine lv_aload_n hx hb dX5_isWell_17 rfl (lv_at hl 0 rfl) ?_
    refine va_get (D := D) (ci := 6) (v := .ref ot) (C := RX5) (T := TX5) (N := 10) hx hb hts q1 hown hK hP 0 rfl rfl 0 (by decide) q0 (fun _ h9 => h9) rfl dX5_isWell_18 ?_
    refine fRV (As := []) (rest := []) (st' := [.int (fX3_stoolsAreWell T)]) ⟨hx, hb, hml, hown, hts⟩ (kX3_stoolsAreWell l D cI cC cT ot ot1 ot2 T) (cwV 0 hts gX5_isWell_X3_stoolsAreWell rfl rfl rfl (by decide +kernel) ⟨Nat.le_of_ble_eq_true rfl, Nat.le_of_ble_eq_true rfl⟩) hP hK [1, 2, 3] rfl 1 (ci := 4) rfl rfl rfl rfl hl.1 rfl rfl (Nat.le_of_ble_eq_true rfl) ⟨Nat.zero_le _, Nat.zero_le _⟩ dX5_isWell_21 ?_
    refine lv_if_eq (tgt := 70) hx hb dX5_isWell_24 (by decide) (fun c_24 => ?_) (fun c_24 => ?_)
    · refine lv_iconst (v := 0) hx hb dX5_isWell_70 (by decide) ?_
      exact rRi hx hb hr hlk hQ (by rw [fX5_isWell, if_pos c_14, if_pos c_24]) rfl dX5_isWell_71
    · refine lv_aload_n hx hb dX5_isWell_27 rfl (lv_at hl 0 rfl) ?_
      refine va_get (D := D) (ci := 6) (v := .ref ot) (C := RX5) (T := TX5) (N := 10) hx hb hts q1 hown hK hP 0 rfl rfl 0 (by decide) q0 (fun _ h9 => h9) rfl dX5_isWell_28 ?_
      refine fRV (As := []) (rest := []) (st' := [.int (fX3_sittersAreWell T)]) ⟨hx, hb, hml, hown, hts⟩ (kX3_sittersAreWell l D cI cC cT ot ot1 ot2 T) (cwV 0 hts gX5_isWell_X3_sittersAreWell rfl rfl rfl (by decide +kernel) ⟨Nat.le_of_ble_eq_true rfl, Nat.le_of_ble_eq_true rfl⟩) hP hK [1, 2, 3] rfl 1 (ci := 4) rfl rfl rfl rfl hl.1 rfl rfl (Nat.le_of_ble_eq_true rfl) ⟨Nat.zero_le _, Nat.zero_le _⟩ dX5_isWell_31 ?_
      refine lv_if_eq (tgt := 70) hx hb dX5_isWell_34 (by decide) (fun c_34 => ?_) (fun c_34 => ?_)
      · refine lv_iconst (v := 0) hx hb dX5_isWell_70 (by decide) ?_
        exact rRi hx hb hr hlk hQ (by rw [fX5_isWell, if_pos c_14, if_neg c_24, if_pos c_34]) rfl dX5_isWell_71
      · refine lv_aload_n hx hb dX5_isWell_37 rfl (lv_at hl 0 rfl) ?_
        refine va_get (D := D) (ci := 6) (v := .ref ot) (C := RX5) (T := TX5) (N := 10) hx hb hts q1 hown hK hP 0 rfl rfl 0 (by decide) q0 (fun _ h9 => h9) rfl dX5_isWell_38 ?_
        refine va_get (D := D) (ci := 4) (v := .int T.2.2.2.2.1) (C := RX3) (T := TX3) (N := 8) hx hb hts q3 hown hK hP 1 rfl rfl 4 (by decide) q2 (fun _ h9 => h9) rfl dX5_isWell_41 ?_
        refine lv_aload_n hx hb dX5_isWell_44 rfl (lv_at hl 0 rfl) ?_
        refine va_get (D := D) (ci := 6) (v := .ref ot) (C := RX5) (T := TX5) (N := 10) hx hb hts q1 hown hK hP 0 rfl rfl 0 (by decide) q0 (fun _ h9 => h9) rfl dX5_isWell_45 ?_
        refine lv_iconst (v := 4) hx hb dX5_isWell_48 (by decide) ?_
        refine fRV (As := [.int 4]) (rest := [.int T.2.2.2.2.1]) (st' := [.int (fX3_sumOfStools T 4), .int T.2.2.2.2.1]) ⟨hx, hb, hml, hown, hts⟩ (kX3_sumOfStools l D cI cC cT ot ot1 ot2 T 4) (cwV 1 hts gX5_isWell_X3_sumOfStools rfl rfl rfl (by decide +kernel) ⟨Nat.le_of_ble_eq_true rfl, Nat.le_of_ble_eq_true rfl⟩) hP hK [1, 2, 3] rfl 1 (ci := 4) rfl rfl rfl rfl hl.1 rfl rfl (Nat.le_of_ble_eq_true rfl) ⟨Nat.zero_le _, Nat.zero_le _⟩ dX5_isWell_49 ?_
        refine lv_iadd hx hb dX5_isWell_52 ?_
        refine lv_bipush (v := 6) hx hb dX5_isWell_53 (by decide) ?_
        refine lv_aload_n hx hb dX5_isWell_55 rfl (lv_at hl 0 rfl) ?_
        refine va_get (D := D) (ci := 6) (v := .ref ot) (C := RX5) (T := TX5) (N := 10) hx hb hts q1 hown hK hP 0 rfl rfl 0 (by decide) q0 (fun _ h9 => h9) rfl dX5_isWell_56 ?_
        refine va_get (D := D) (ci := 4) (v := .int T.2.2.2.2.2.2.2) (C := RX3) (T := TX3) (N := 8) hx hb hts q3 hown hK hP 1 rfl rfl 7 (by decide) q4 (fun _ h9 => h9) rfl dX5_isWell_59 ?_
        refine lv_iadd hx hb dX5_isWell_62 ?_
        refine lv_icmp_ne (tgt := 70) hx hb dX5_isWell_63 (by decide) (fun c_63 => ?_) (fun c_63 => ?_)
        · refine lv_iconst (v := 0) hx hb dX5_isWell_70 (by decide) ?_
          exact rRi hx hb hr hlk hQ (by rw [fX5_isWell, if_pos c_14, if_neg c_24, if_neg c_34, if_neg c_63]) rfl dX5_isWell_71
        · refine lv_iconst (v := 1) hx hb dX5_isWell_66 (by decide) ?_
          refine lv_goto (tgt := 71) hx hb dX5_isWell_67 (by decide) ?_
          exact rRi hx hb hr hlk hQ (by rw [fX5_isWell, if_pos c_14, if_neg c_24, if_neg c_34, if_pos c_63]) rfl dX5_isWell_71
theorem zX5_isWell (S : CV) (T : TV)  : (fX5_isWell S T) = 0 ∨ (fX5_isWell S T) = 1 := by
  unfold fX5_isWell
  repeat' split
  all_goals first | exact Or.inl rfl | exact Or.inr rfl
def fX5_noiseBits (S : CV) (T : TV)  : Int32 := (fX0_toBits (fX3_noiseOfAll T))
abbrev rmX5_noiseBits : Room := { frames := 4, cells := 0, slots := 0, locals := 89 }
set_option maxHeartbeats 4000000 in
set_option maxRecDepth 100000 in
theorem kX5_noiseBits (l : Launch) (D : va_G) (cI cC cT : ClassId) (x ot ou ov oh ox oy ot1 ot2 : Nat) (S : CV) (T : TV)   : mR l D (TY cI cC cT) yX5_noiseBits wsX5_noiseBits rmX5_noiseBits [.ref x] (w5 x ot ou ov oh ox oy S ++ w3 cI ot ot1 ot2 T) (some (.int (fX5_noiseBits S T))) := by
  refine mR.ofW (cc := cX5_noiseBits) (maxL := 1) (ret := (some .int)) (by decide) rfl (Nat.le_of_ble_eq_true rfl) ?_
  intro p e s m args below meth c Q ls hx hb hml hr hlk hts hown hP hK hl hQ
  have hown : s.vm.findClass RX5 = some m.cls := hown
  have hP : va_P D vwCl [(x, .inr (6, [.ref ot, .ref ou, .ref ov, .ref oh, .ref ox, .ref oy, .int S.1, .int S.2.1, .int S.2.2.1, .int S.2.2.2])), (ot, .inr (4, [.ref ot1, .ref ot2, .int T.2.2.1, .int T.2.2.2.1, .int T.2.2.2.2.1, .int T.2.2.2.2.2.1, .int T.2.2.2.2.2.2.1, .int T.2.2.2.2.2.2.2])), (ot1, .inl (cI, 72, .inl T.1)), (ot2, .inl (cI, 36, .inl T.2.1))] s.heap := hP
  have hl : lv_has ls 1 [(0, .ref x)] := hl
  have q0 := hts (Cond.fieldLink RX5 10 "TavernStools" "tavern" "LTavernStools$Tavern;") (by decide +kernel)
  have q1 : ∀ w ∈ u_ws RX5 TX5 10, w ∈ wsX5_noiseBits := by decide +kernel
  refine lv_aload_n hx hb dX5_noiseBits_0 rfl (lv_at hl 0 rfl) ?_
  refine va_get (D := D) (ci := 6) (v := .ref ot) (C := RX5) (T := TX5) (N := 10) hx hb hts q1 hown hK hP 0 rfl rfl 0 (by decide) q0 (fun _ h9 => h9) rfl dX5_noiseBits_1 ?_
  refine fRV (As := []) (rest := []) (st' := [.float (fX3_noiseOfAll T)]) ⟨hx, hb, hml, hown, hts⟩ (kX3_noiseOfAll l D cI cC cT ot ot1 ot2 T) (cwV 0 hts gX5_noiseBits_X3_noiseOfAll rfl rfl rfl (by decide +kernel) ⟨Nat.le_of_ble_eq_true rfl, Nat.le_of_ble_eq_true rfl⟩) hP hK [1, 2, 3] rfl 1 (ci := 4) rfl rfl rfl rfl hl.1 rfl rfl (Nat.le_of_ble_eq_true rfl) ⟨Nat.zero_le _, Nat.zero_le _⟩ dX5_noiseBits_4 ?_
  refine fRS (As := [.float (fX3_noiseOfAll T)]) (rest := []) (st' := [.int (fX0_toBits (fX3_noiseOfAll T))]) ⟨hx, hb, hml, hown, hts⟩ (kX0_toBits l D cI cC cT (fX3_noiseOfAll T)) (va_cwS 1 hts gX5_noiseBits_X0_toBits rfl rfl rfl (by decide +kernel) ⟨Nat.le_of_ble_eq_true rfl, Nat.le_of_ble_eq_true rfl⟩) hP hK [] rfl rfl hl.1 rfl rfl (Nat.le_of_ble_eq_true rfl) ⟨Nat.zero_le _, Nat.zero_le _⟩ dX5_noiseBits_7 ?_
  exact rRi hx hb hr hlk hQ (by rw [fX5_noiseBits]) rfl dX5_noiseBits_10
def fX5_save (S : CV) (T : TV) (Sn : TV)  : (Int32 × CV × TV) := (T.2.2.2.1, (1, S.2.1, S.2.2.1, S.2.2.2), (fX3_copy Sn T))
abbrev rmX5_save : Room := { frames := 2, cells := 0, slots := 0, locals := 85 }
set_option maxHeartbeats 4000000 in
set_option maxRecDepth 100000 in
theorem kX5_save (l : Launch) (D : va_G) (cI cC cT : ClassId) (x ot ou ov oh ox oy ot1 ot2 ov1 ov2 : Nat) (S : CV) (T : TV) (Sn : TV)   : mU l D (TY cI cC cT) yX5_save wsX5_save rmX5_save [.ref x] (w5 x ot ou ov oh ox oy S ++ w3 cI ot ot1 ot2 T ++ w3 cI ov ov1 ov2 Sn) (some (.int (fX5_save S T Sn).1)) (w5 x ot ou ov oh ox oy (fX5_save S T Sn).2.1 ++ w3 cI ot ot1 ot2 T ++ w3 cI ov ov1 ov2 (fX5_save S T Sn).2.2) := by
  refine mU.ofW (cc := cX5_save) (maxL := 1) (ret := (some .int)) (by decide) rfl (Nat.le_of_ble_eq_true rfl) ?_
  intro p e s m args below meth c Q ls A hx hb hml hr hlk hts hown hP hK hD hS hl hQ
  have hown : s.vm.findClass RX5 = some m.cls := hown
  have hP : va_P D vwCl [(x, .inr (6, [.ref ot, .ref ou, .ref ov, .ref oh, .ref ox, .ref oy, .int S.1, .int S.2.1, .int S.2.2.1, .int S.2.2.2])), (ot, .inr (4, [.ref ot1, .ref ot2, .int T.2.2.1, .int T.2.2.2.1, .int T.2.2.2.2.1, .int T.2.2.2.2.2.1, .int T.2.2.2.2.2.2.1, .int T.2.2.2.2.2.2.2])), (ot1, .inl (cI, 72, .inl T.1)), (ot2, .inl (cI, 36, .inl T.2.1)), (ov, .inr (4, [.ref ov1, .ref ov2, .int Sn.2.2.1, .int Sn.2.2.2.1, .int Sn.2.2.2.2.1, .int Sn.2.2.2.2.2.1, .int Sn.2.2.2.2.2.2.1, .int Sn.2.2.2.2.2.2.2])), (ov1, .inl (cI, 72, .inl Sn.1)), (ov2, .inl (cI, 36, .inl Sn.2.1))] s.heap := hP
  have hD : va_D A [(x, .inr (6, [.ref ot, .ref ou, .ref ov, .ref oh, .ref ox, .ref oy, .int S.1, .int S.2.1, .int S.2.2.1, .int S.2.2.2])), (ot, .inr (4, [.ref ot1, .ref ot2, .int T.2.2.1, .int T.2.2.2.1, .int T.2.2.2.2.1, .int T.2.2.2.2.2.1, .int T.2.2.2.2.2.2.1, .int T.2.2.2.2.2.2.2])), (ot1, .inl (cI, 72, .inl T.1)), (ot2, .inl (cI, 36, .inl T.2.1)), (ov, .inr (4, [.ref ov1, .ref ov2, .int Sn.2.2.1, .int Sn.2.2.2.1, .int Sn.2.2.2.2.1, .int Sn.2.2.2.2.2.1, .int Sn.2.2.2.2.2.2.1, .int Sn.2.2.2.2.2.2.2])), (ov1, .inl (cI, 72, .inl Sn.1)), (ov2, .inl (cI, 36, .inl Sn.2.1))] := hD
  have hl : lv_has ls 1 [(0, .ref x)] := hl
  have q0 := hts (Cond.fieldLink RX5 19 "TavernStools" "snapshot" "LTavernStools$Tavern;") (by decide +kernel)
  have q1 : ∀ w ∈ u_ws RX5 TX5 10, w ∈ wsX5_save := by decide +kernel
  have q2 := hts (Cond.fieldLink RX5 10 "TavernStools" "tavern" "LTavernStools$Tavern;") (by decide +kernel)
  have q3 := hts (Cond.fieldLink RX5 43 "TavernStools" "hasSnapshot" "Z") (by decide +kernel)
  have q4 := hts (Cond.fieldLink RX5 249 "TavernStools$Tavern" "sitters" "I") (by decide +kernel)
  have q5 : ∀ w ∈ u_ws RX3 TX3 8, w ∈ wsX5_save := by decide +kernel
  generalize hHe : s.heap = H at hP ⊢
  have hS : va_S A s.heap H [] := hHe ▸ hS
  generalize hLe : ([] : List Loc) = locs at hS ⊢
  refine lv_aload_n hx hb dX5_save_0 rfl (lv_at hl 0 rfl) ?_
  refine va_get (D := D) (ci := 6) (v := .ref ov) (C := RX5) (T := TX5) (N := 10) hx hb hts q1 hown hK hP 0 rfl rfl 2 (by decide) q0 (fun _ h9 => h9) rfl dX5_save_1 ?_
  refine lv_aload_n hx hb dX5_save_4 rfl (lv_at hl 0 rfl) ?_
  refine va_get (D := D) (ci := 6) (v := .ref ot) (C := RX5) (T := TX5) (N := 10) hx hb hts q1 hown hK hP 0 rfl rfl 0 (by decide) q2 (fun _ h9 => h9) rfl dX5_save_5 ?_
  obtain ⟨n1, en1⟩ : ∃ z9, z9 = (fX3_copy Sn T) := ⟨_, rfl⟩
  have k9 := (kX3_copy l D cI cC cT ov ov1 ov2 ot ot1 ot2 Sn T)
  rw [← en1] at k9
  refine fUV (As := [.ref ot]) (rest := []) (st' := []) ⟨hx, hb, hml, hown, hts⟩ k9 (cwV 1 hts gX5_save_X3_copy rfl rfl rfl (by decide +kernel) ⟨Nat.le_of_ble_eq_true rfl, Nat.le_of_ble_eq_true rfl⟩) hP hK hD hS [4, 5, 6, 1, 2, 3] rfl rfl (by decide) rfl [(x, .inr (6, [.ref ot, .ref ou, .ref ov, .ref oh, .ref ox, .ref oy, .int S.1, .int S.2.1, .int S.2.2.1, .int S.2.2.2])), (ot, .inr (4, [.ref ot1, .ref ot2, .int T.2.2.1, .int T.2.2.2.1, .int T.2.2.2.2.1, .int T.2.2.2.2.2.1, .int T.2.2.2.2.2.2.1, .int T.2.2.2.2.2.2.2])), (ot1, .inl (cI, 72, .inl T.1)), (ot2, .inl (cI, 36, .inl T.2.1)), (ov, .inr (4, [.ref ov1, .ref ov2, .int n1.2.2.1, .int n1.2.2.2.1, .int n1.2.2.2.2.1, .int n1.2.2.2.2.2.1, .int n1.2.2.2.2.2.2.1, .int n1.2.2.2.2.2.2.2])), (ov1, .inl (cI, 72, .inl n1.1)), (ov2, .inl (cI, 36, .inl n1.2.1))] rfl rfl 4 (ci := 4) rfl rfl rfl rfl hl.1 rfl rfl (Nat.le_of_ble_eq_true rfl) ⟨Nat.zero_le _, Nat.zero_le _⟩ dX5_save_8 (fun H locs hP hD hS => ?_)
  refine lv_aload_n hx hb dX5_save_11 rfl (lv_at hl 0 rfl) ?_
  refine lv_iconst (v := 1) hx hb dX5_save_12 (by decide) ?_
  refine va_put (D := D) (ci := 6) (v := .int 1) (ty := .boolean) (C := RX5) (T := TX5) (N := 10) hx hb hts q1 tyX5 tyX5_ok nmX5 hown hK hP hD hS 0 rfl rfl 6 (by decide) q3 (fun _ h9 => h9) rfl (by decide +kernel) rfl rfl (Nat.le_of_ble_eq_true rfl) dX5_save_13 (fun H locs hP hD hS => ?_)
  have hP : va_P D vwCl [(x, .inr (6, [.ref ot, .ref ou, .ref ov, .ref oh, .ref ox, .ref oy, .int 1, .int S.2.1, .int S.2.2.1, .int S.2.2.2])), (ot, .inr (4, [.ref ot1, .ref ot2, .int T.2.2.1, .int T.2.2.2.1, .int T.2.2.2.2.1, .int T.2.2.2.2.2.1, .int T.2.2.2.2.2.2.1, .int T.2.2.2.2.2.2.2])), (ot1, .inl (cI, 72, .inl T.1)), (ot2, .inl (cI, 36, .inl T.2.1)), (ov, .inr (4, [.ref ov1, .ref ov2, .int n1.2.2.1, .int n1.2.2.2.1, .int n1.2.2.2.2.1, .int n1.2.2.2.2.2.1, .int n1.2.2.2.2.2.2.1, .int n1.2.2.2.2.2.2.2])), (ov1, .inl (cI, 72, .inl n1.1)), (ov2, .inl (cI, 36, .inl n1.2.1))] H := hP
  have hD : va_D A [(x, .inr (6, [.ref ot, .ref ou, .ref ov, .ref oh, .ref ox, .ref oy, .int 1, .int S.2.1, .int S.2.2.1, .int S.2.2.2])), (ot, .inr (4, [.ref ot1, .ref ot2, .int T.2.2.1, .int T.2.2.2.1, .int T.2.2.2.2.1, .int T.2.2.2.2.2.1, .int T.2.2.2.2.2.2.1, .int T.2.2.2.2.2.2.2])), (ot1, .inl (cI, 72, .inl T.1)), (ot2, .inl (cI, 36, .inl T.2.1)), (ov, .inr (4, [.ref ov1, .ref ov2, .int n1.2.2.1, .int n1.2.2.2.1, .int n1.2.2.2.2.1, .int n1.2.2.2.2.2.1, .int n1.2.2.2.2.2.2.1, .int n1.2.2.2.2.2.2.2])), (ov1, .inl (cI, 72, .inl n1.1)), (ov2, .inl (cI, 36, .inl n1.2.1))] := hD
  refine lv_aload_n hx hb dX5_save_16 rfl (lv_at hl 0 rfl) ?_
  refine va_get (D := D) (ci := 6) (v := .ref ot) (C := RX5) (T := TX5) (N := 10) hx hb hts q1 hown hK hP 0 rfl rfl 0 (by decide) q2 (fun _ h9 => h9) rfl dX5_save_17 ?_
  refine va_get (D := D) (ci := 4) (v := .int T.2.2.2.1) (C := RX3) (T := TX3) (N := 8) hx hb hts q5 hown hK hP 1 rfl rfl 3 (by decide) q4 (fun _ h9 => h9) rfl dX5_save_20 ?_
  have e9 : fX5_save S T Sn = (T.2.2.2.1, (1, S.2.1, S.2.2.1, S.2.2.2), n1) := by rw [fX5_save, ← en1]
  exact rUi hx hb hr hlk hQ hP hS (by rw [e9]) (congrArg (fun z9 : (Int32 × CV × TV) => w5 x ot ou ov oh ox oy z9.2.1 ++ w3 cI ot ot1 ot2 T ++ w3 cI ov ov1 ov2 z9.2.2) e9).symm rfl dX5_save_23
