def fM_0 (S : CV) (T : TV) (Tr : TV) (Sn : TV) (Hs : HV) (G : (Nat → TV)) (Xt : XV) (Ln : LV) (Mo : SV) (O : (Nat → Int64)) (Oq : (Nat → UInt64)) (xs : Nat → Int32) (L : Nat) (x5 : Int32) : (CV × TV × HV × (Nat → TV) × SV × (Nat → Int64)) := (if (xs ((x5 + 4)).toNatClampNeg) = 0 then (if (fL_stool S T Hs G O (xs ((x5 + 1)).toNatClampNeg) (xs ((x5 + 2)).toNatClampNeg) (xs ((x5 + 3)).toNatClampNeg) 0).1 = 0 then ((fL_stool S T Hs G O (xs ((x5 + 1)).toNatClampNeg) (xs ((x5 + 2)).toNatClampNeg) (xs ((x5 + 3)).toNatClampNeg) 0).2.1, (fL_stool S T Hs G O (xs ((x5 + 1)).toNatClampNeg) (xs ((x5 + 2)).toNatClampNeg) (xs ((x5 + 3)).toNatClampNeg) 0).2.2.1, (fL_stool S T Hs G O (xs ((x5 + 1)).toNatClampNeg) (xs ((x5 + 2)).toNatClampNeg) (xs ((x5 + 3)).toNatClampNeg) 0).2.2.2.1, (fL_stool S T Hs G O (xs ((x5 + 1)).toNatClampNeg) (xs ((x5 + 2)).toNatClampNeg) (xs ((x5 + 3)).toNatClampNeg) 0).2.2.2.2.1, (fX6_stool Mo (xs ((x5 + 1)).toNatClampNeg) (xs ((x5 + 2)).toNatClampNeg) (xs ((x5 + 3)).toNatClampNeg) 0).2, (fL_stool S T Hs G O (xs ((x5 + 1)).toNatClampNeg) (xs ((x5 + 2)).toNatClampNeg) (xs ((x5 + 3)).toNatClampNeg) 0).2.2.2.2.2) else ((fL_stool S T Hs G O (xs ((x5 + 1)).toNatClampNeg) (xs ((x5 + 2)).toNatClampNeg) (xs ((x5 + 3)).toNatClampNeg) 0).2.1, (fL_stool S T Hs G O (xs ((x5 + 1)).toNatClampNeg) (xs ((x5 + 2)).toNatClampNeg) (xs ((x5 + 3)).toNatClampNeg) 0).2.2.1, (fL_stool S T Hs G O (xs ((x5 + 1)).toNatClampNeg) (xs ((x5 + 2)).toNatClampNeg) (xs ((x5 + 3)).toNatClampNeg) 0).2.2.2.1, (fL_stool S T Hs G O (xs ((x5 + 1)).toNatClampNeg) (xs ((x5 + 2)).toNatClampNeg) (xs ((x5 + 3)).toNatClampNeg) 0).2.2.2.2.1, (fX6_stool Mo (xs ((x5 + 1)).toNatClampNeg) (xs ((x5 + 2)).toNatClampNeg) (xs ((x5 + 3)).toNatClampNeg) 0).2, (fL_stool S T Hs G O (xs ((x5 + 1)).toNatClampNeg) (xs ((x5 + 2)).toNatClampNeg) (xs ((x5 + 3)).toNatClampNeg) 0).2.2.2.2.2)) else (if (fL_stool S T Hs G O (xs ((x5 + 1)).toNatClampNeg) (xs ((x5 + 2)).toNatClampNeg) (xs ((x5 + 3)).toNatClampNeg) 1).1 = 0 then ((fL_stool S T Hs G O (xs ((x5 + 1)).toNatClampNeg) (xs ((x5 + 2)).toNatClampNeg) (xs ((x5 + 3)).toNatClampNeg) 1).2.1, (fL_stool S T Hs G O (xs ((x5 + 1)).toNatClampNeg) (xs ((x5 + 2)).toNatClampNeg) (xs ((x5 + 3)).toNatClampNeg) 1).2.2.1, (fL_stool S T Hs G O (xs ((x5 + 1)).toNatClampNeg) (xs ((x5 + 2)).toNatClampNeg) (xs ((x5 + 3)).toNatClampNeg) 1).2.2.2.1, (fL_stool S T Hs G O (xs ((x5 + 1)).toNatClampNeg) (xs ((x5 + 2)).toNatClampNeg) (xs ((x5 + 3)).toNatClampNeg) 1).2.2.2.2.1, (fX6_stool Mo (xs ((x5 + 1)).toNatClampNeg) (xs ((x5 + 2)).toNatClampNeg) (xs ((x5 + 3)).toNatClampNeg) 1).2, (fL_stool S T Hs G O (xs ((x5 + 1)).toNatClampNeg) (xs ((x5 + 2)).toNatClampNeg) (xs ((x5 + 3)).toNatClampNeg) 1).2.2.2.2.2) else ((fL_stool S T Hs G O (xs ((x5 + 1)).toNatClampNeg) (xs ((x5 + 2)).toNatClampNeg) (xs ((x5 + 3)).toNatClampNeg) 1).2.1, (fL_stool S T Hs G O (xs ((x5 + 1)).toNatClampNeg) (xs ((x5 + 2)).toNatClampNeg) (xs ((x5 + 3)).toNatClampNeg) 1).2.2.1, (fL_stool S T Hs G O (xs ((x5 + 1)).toNatClampNeg) (xs ((x5 + 2)).toNatClampNeg) (xs ((x5 + 3)).toNatClampNeg) 1).2.2.2.1, (fL_stool S T Hs G O (xs ((x5 + 1)).toNatClampNeg) (xs ((x5 + 2)).toNatClampNeg) (xs ((x5 + 3)).toNatClampNeg) 1).2.2.2.2.1, (fX6_stool Mo (xs ((x5 + 1)).toNatClampNeg) (xs ((x5 + 2)).toNatClampNeg) (xs ((x5 + 3)).toNatClampNeg) 1).2, (fL_stool S T Hs G O (xs ((x5 + 1)).toNatClampNeg) (xs ((x5 + 2)).toNatClampNeg) (xs ((x5 + 3)).toNatClampNeg) 1).2.2.2.2.2)))
def gM_0 (S : CV) (T : TV) (Tr : TV) (Sn : TV) (Hs : HV) (G : (Nat → TV)) (Xt : XV) (Ln : LV) (Mo : SV) (O : (Nat → Int64)) (Oq : (Nat → UInt64)) (xs : Nat → Int32) (L : Nat) (x5 : Int32) : Prop := ((vp_in (x5 + 1) L) ∧ (vp_in (x5 + 2) L) ∧ (vp_in (x5 + 3) L) ∧ (vp_in (x5 + 4) L) ∧ (if (xs ((x5 + 4)).toNatClampNeg) = 0 then ((gL_stool S T Hs G O (xs ((x5 + 1)).toNatClampNeg) (xs ((x5 + 2)).toNatClampNeg) (xs ((x5 + 3)).toNatClampNeg) 0) ∧ (vp_in (x5 + 1) L) ∧ (vp_in (x5 + 2) L) ∧ (vp_in (x5 + 3) L) ∧ (vp_in (x5 + 4) L) ∧ (gX6_stool Mo (xs ((x5 + 1)).toNatClampNeg) (xs ((x5 + 2)).toNatClampNeg) (xs ((x5 + 3)).toNatClampNeg) 0) ∧ ((fX6_thrown (fX6_stool Mo (xs ((x5 + 1)).toNatClampNeg) (xs ((x5 + 2)).toNatClampNeg) (xs ((x5 + 3)).toNatClampNeg) 0).2) = (fL_stool S T Hs G O (xs ((x5 + 1)).toNatClampNeg) (xs ((x5 + 2)).toNatClampNeg) (xs ((x5 + 3)).toNatClampNeg) 0).1) ∧ (if (fL_stool S T Hs G O (xs ((x5 + 1)).toNatClampNeg) (xs ((x5 + 2)).toNatClampNeg) (xs ((x5 + 3)).toNatClampNeg) 0).1 = 0 then ((vp_in 0 1) ∧ ((lg_cmp ((fL_stool S T Hs G O (xs ((x5 + 1)).toNatClampNeg) (xs ((x5 + 2)).toNatClampNeg) (xs ((x5 + 3)).toNatClampNeg) 0).2.2.2.2.2 (0 : Int32).toNatClampNeg) ((fX6_stool Mo (xs ((x5 + 1)).toNatClampNeg) (xs ((x5 + 2)).toNatClampNeg) (xs ((x5 + 3)).toNatClampNeg) 0).1.toInt64)) = 0) ∧ True) else True)) else ((gL_stool S T Hs G O (xs ((x5 + 1)).toNatClampNeg) (xs ((x5 + 2)).toNatClampNeg) (xs ((x5 + 3)).toNatClampNeg) 1) ∧ (vp_in (x5 + 1) L) ∧ (vp_in (x5 + 2) L) ∧ (vp_in (x5 + 3) L) ∧ (vp_in (x5 + 4) L) ∧ (gX6_stool Mo (xs ((x5 + 1)).toNatClampNeg) (xs ((x5 + 2)).toNatClampNeg) (xs ((x5 + 3)).toNatClampNeg) 1) ∧ ((fX6_thrown (fX6_stool Mo (xs ((x5 + 1)).toNatClampNeg) (xs ((x5 + 2)).toNatClampNeg) (xs ((x5 + 3)).toNatClampNeg) 1).2) = (fL_stool S T Hs G O (xs ((x5 + 1)).toNatClampNeg) (xs ((x5 + 2)).toNatClampNeg) (xs ((x5 + 3)).toNatClampNeg) 1).1) ∧ (if (fL_stool S T Hs G O (xs ((x5 + 1)).toNatClampNeg) (xs ((x5 + 2)).toNatClampNeg) (xs ((x5 + 3)).toNatClampNeg) 1).1 = 0 then ((vp_in 0 1) ∧ ((lg_cmp ((fL_stool S T Hs G O (xs ((x5 + 1)).toNatClampNeg) (xs ((x5 + 2)).toNatClampNeg) (xs ((x5 + 3)).toNatClampNeg) 1).2.2.2.2.2 (0 : Int32).toNatClampNeg) ((fX6_stool Mo (xs ((x5 + 1)).toNatClampNeg) (xs ((x5 + 2)).toNatClampNeg) (xs ((x5 + 3)).toNatClampNeg) 1).1.toInt64)) = 0) ∧ True) else True))))
set_option maxHeartbeats 8000000 in
set_option maxRecDepth 100000 in
theorem cM_0 {p : Program} {e : Env} {s : State} {m : MethodId} {below : List Frame} {meth : Method} {c : Code} {Q : State → Prop} (l : Launch) (D : va_G) (cI cC cT cJ cQ : ClassId) (b x ot ou ov oh ox oy ot1 ot2 ou1 ou2 ov1 ov2 rr ox1 ox2 oy1 mh m1 m2 m3 m4 m5 m6 m7 m8 o oq : Nat) (ra rb rc : Nat → Nat) (S : CV) (T : TV) (Tr : TV) (Sn : TV) (Hs : HV) (G : (Nat → TV)) (Xt : XV) (Ln : LV) (Mo : SV) (O : (Nat → Int64)) (Oq : (Nat → UInt64)) (xs : Nat → Int32) (L : Nat) (x5 : Int32) (hst : l.stackTraces = false) (hn : ∃ j : Nat, j < 9 ∧ Hs.1 = nI j) (hc : ∀ i, narrow .char (.int (Ln.1 i)) = .int (Ln.1 i)) (hx : p.tables.exec = Jvm.exec) (hb : c.code = cL_law) (hml : c.maxLocals = 9) (hown : s.vm.findClass RL = some m.cls) (hts : ∀ w ∈ wsL_law, w.before #[Value.ref b] s = true) (hK : va_K D vwCl (TY5 cI cC cT cJ cQ) s) (hX : va_X b L xs s s.heap) (hbl : b < s.heap.size) (hbA : ¬ (fun q : Nat => s.heap.size ≤ q) b) (hXE : xE (fun q : Nat => s.heap.size ≤ q) s) (hXN : xN s) (H : Heap) (locs : List Loc) (ls : Array Slot) (cells slots : Nat) (hcr : cells + 2 ≤ room_1.cells ∧ slots + 12 ≤ room_1.slots) (hP : va_P D vwCl (w5 x ot ou ov oh ox oy S ++ w3 cI ot ot1 ot2 T ++ w3 cI ou ou1 ou2 Tr ++ w3 cI ov ov1 ov2 Sn ++ w1 oh rr Hs ++ wR cI cT rr ra rb rc G ++ w4 cI cC ox ox1 ox2 Xt ++ w2 cC oy oy1 Ln ++ w6 cI cC mh m1 m2 m3 m4 m5 m6 m7 m8 Mo ++ [(o, .inl (cJ, 1, .inr (.inl O)))] ++ [(oq, .inl (cQ, 1, .inr (.inr (.inr (.inl Oq)))))]) H) (hD : va_D (fun q : Nat => s.heap.size ≤ q) (w5 x ot ou ov oh ox oy S ++ w3 cI ot ot1 ot2 T ++ w3 cI ou ou1 ou2 Tr ++ w3 cI ov ov1 ov2 Sn ++ w1 oh rr Hs ++ wR cI cT rr ra rb rc G ++ w4 cI cC ox ox1 ox2 Xt ++ w2 cC oy oy1 Ln ++ w6 cI cC mh m1 m2 m3 m4 m5 m6 m7 m8 Mo ++ [(o, .inl (cJ, 1, .inr (.inl O)))] ++ [(oq, .inl (cQ, 1, .inr (.inr (.inr (.inl Oq)))))])) (hS : va_S (fun q : Nat => s.heap.size ≤ q) s.heap H locs) (hl : lv_has ls 9 [(0, .ref b), (1, .ref x), (2, .ref mh), (3, .ref o), (4, .ref oq), (5, .int x5)]) (hg : gM_0 S T Tr Sn Hs G Xt Ln Mo O Oq xs L x5) (kb : ∀ z9 : (CV × TV × HV × (Nat → TV) × SV × (Nat → Int64)), z9 = fM_0 S T Tr Sn Hs G Xt Ln Mo O Oq xs L x5 → ∀ (H : Heap) (locs : List Loc) (ls : Array Slot), va_P D vwCl (w5 x ot ou ov oh ox oy z9.1 ++ w3 cI ot ot1 ot2 z9.2.1 ++ w3 cI ou ou1 ou2 Tr ++ w3 cI ov ov1 ov2 Sn ++ w1 oh rr z9.2.2.1 ++ wR cI cT rr ra rb rc z9.2.2.2.1 ++ w4 cI cC ox ox1 ox2 Xt ++ w2 cC oy oy1 Ln ++ w6 cI cC mh m1 m2 m3 m4 m5 m6 m7 m8 z9.2.2.2.2.1 ++ [(o, .inl (cJ, 1, .inr (.inl z9.2.2.2.2.2)))] ++ [(oq, .inl (cQ, 1, .inr (.inr (.inr (.inl Oq)))))]) H → va_D (fun q : Nat => s.heap.size ≤ q) (w5 x ot ou ov oh ox oy z9.1 ++ w3 cI ot ot1 ot2 z9.2.1 ++ w3 cI ou ou1 ou2 Tr ++ w3 cI ov ov1 ov2 Sn ++ w1 oh rr z9.2.2.1 ++ wR cI cT rr ra rb rc z9.2.2.2.1 ++ w4 cI cC ox ox1 ox2 Xt ++ w2 cC oy oy1 Ln ++ w6 cI cC mh m1 m2 m3 m4 m5 m6 m7 m8 z9.2.2.2.2.1 ++ [(o, .inl (cJ, 1, .inr (.inl z9.2.2.2.2.2)))] ++ [(oq, .inl (cQ, 1, .inr (.inr (.inr (.inl Oq)))))]) → va_S (fun q : Nat => s.heap.size ≤ q) s.heap H locs → lv_has ls 9 [(0, .ref b), (1, .ref x), (2, .ref mh), (3, .ref o), (4, .ref oq), (5, .int (x5 + 5))] → W p l e room_1 s m #[Value.ref b] below meth c H locs (cells + 2) (slots + 12) Q (F0 m 28 ls [])) :
    W p l e room_1 s m #[Value.ref b] below meth c H locs cells slots Q (F0 m 204 ls []) := by
  have hP : va_P D vwCl (w5 x ot ou ov oh ox oy S ++ w3 cI ot ot1 ot2 T ++ w3 cI ou ou1 ou2 Tr ++ w3 cI ov ov1 ov2 Sn ++ w1 oh rr Hs ++ wR cI cT rr ra rb rc G ++ w4 cI cC ox ox1 ox2 Xt ++ w2 cC oy oy1 Ln ++ w6 cI cC mh m1 m2 m3 m4 m5 m6 m7 m8 Mo ++ [(o, .inl (cJ, 1, .inr (.inl O)))] ++ [(oq, .inl (cQ, 1, .inr (.inr (.inr (.inl Oq)))))]) H := hP
  have hD : va_D (fun q : Nat => s.heap.size ≤ q) (w5 x ot ou ov oh ox oy S ++ w3 cI ot ot1 ot2 T ++ w3 cI ou ou1 ou2 Tr ++ w3 cI ov ov1 ov2 Sn ++ w1 oh rr Hs ++ wR cI cT rr ra rb rc G ++ w4 cI cC ox ox1 ox2 Xt ++ w2 cC oy oy1 Ln ++ w6 cI cC mh m1 m2 m3 m4 m5 m6 m7 m8 Mo ++ [(o, .inl (cJ, 1, .inr (.inl O)))] ++ [(oq, .inl (cQ, 1, .inr (.inr (.inr (.inl Oq)))))]) := hD
  have hK3 := hK.sub (tys' := TY cI cC cT) [0, 1, 2] rfl
  unfold gM_0 at hg
  refine lv_aload_n hx hb dL_law_204 rfl (lv_at hl 1 rfl) ?_
  refine lv_aload_n hx hb dL_law_205 rfl (lv_at hl 0 rfl) ?_
  refine lv_iload hx hb dL_law_206 (lv_at hl 5 rfl) ?_
  refine lv_iconst (v := 1) hx hb dL_law_208 (by decide) ?_
  refine lv_iadd hx hb dL_law_209 ?_
  obtain ⟨o1, hg⟩ := hg
  refine va_sld hx hb hX hbl hbA hS o1 dL_law_210 ?_
  refine lv_aload_n hx hb dL_law_211 rfl (lv_at hl 0 rfl) ?_
  refine lv_iload hx hb dL_law_212 (lv_at hl 5 rfl) ?_
  refine lv_iconst (v := 2) hx hb dL_law_214 (by decide) ?_
  refine lv_iadd hx hb dL_law_215 ?_
  obtain ⟨o2, hg⟩ := hg
  refine va_sld hx hb hX hbl hbA hS o2 dL_law_216 ?_
  refine lv_aload_n hx hb dL_law_217 rfl (lv_at hl 0 rfl) ?_
  refine lv_iload hx hb dL_law_218 (lv_at hl 5 rfl) ?_
  refine lv_iconst (v := 3) hx hb dL_law_220 (by decide) ?_
  refine lv_iadd hx hb dL_law_221 ?_
  obtain ⟨o3, hg⟩ := hg
  refine va_sld hx hb hX hbl hbA hS o3 dL_law_222 ?_
  refine lv_aload_n hx hb dL_law_223 rfl (lv_at hl 0 rfl) ?_
  refine lv_iload hx hb dL_law_224 (lv_at hl 5 rfl) ?_
  refine lv_iconst (v := 4) hx hb dL_law_226 (by decide) ?_
  refine lv_iadd hx hb dL_law_227 ?_
  obtain ⟨o4, hg⟩ := hg
  refine va_sld hx hb hX hbl hbA hS o4 dL_law_228 ?_
  refine lv_if_eq (tgt := 236) hx hb dL_law_229 (by decide) (fun c_229_1 => ?_) (fun c_229_1 => ?_)
  · rw [if_pos c_229_1] at hg
    refine lv_iconst (v := 0) hx hb dL_law_236 (by decide) ?_
    refine lv_aload_n hx hb dL_law_237 rfl (lv_at hl 3 rfl) ?_
    obtain ⟨n1, en1⟩ : ∃ z9, z9 = (fL_stool S T Hs G O (xs ((x5 + 1)).toNatClampNeg) (xs ((x5 + 2)).toNatClampNeg) (xs ((x5 + 3)).toNatClampNeg) 0) := ⟨_, rfl⟩
    try rw [← en1] at hg
    obtain ⟨o5, hg⟩ := hg
    have k9 := (kL_stool l D cI cC cT cJ cQ x ot ou ov oh ox oy ot1 ot2 rr o ra rb rc S T Hs G O (xs ((x5 + 1)).toNatClampNeg) (xs ((x5 + 2)).toNatClampNeg) (xs ((x5 + 3)).toNatClampNeg) 0 hst hn o5)
    rw [← en1] at k9
    refine fLq (As := [.ref x, .int (xs ((x5 + 1)).toNatClampNeg), .int (xs ((x5 + 2)).toNatClampNeg), .int (xs ((x5 + 3)).toNatClampNeg), .int 0, .ref o]) (rest := []) ⟨hx, hb, hml, hown, hts⟩ k9 (vx_cwSW (hh := [(0, 14, 17, 13), (0, 14, 21, 15)]) 6 hts gL_law_L_stool rfl rfl rfl (by decide +kernel) ⟨Nat.le_of_ble_eq_true rfl, Nat.le_of_ble_eq_true rfl⟩) hP hK hD hS hXE hXN (w3 cI ou ou1 ou2 Tr ++ w3 cI ov ov1 ov2 Sn ++ w4 cI cC ox ox1 ox2 Xt ++ w2 cC oy oy1 Ln ++ w6 cI cC mh m1 m2 m3 m4 m5 m6 m7 m8 Mo ++ [(oq, .inl (cQ, 1, .inr (.inr (.inr (.inl Oq)))))] : va_W) (pmI (fun a => by simp only [cntW_app, cntW_nil] <;> omega)) (w5 x ot ou ov oh ox oy n1.2.1 ++ w3 cI ot ot1 ot2 n1.2.2.1 ++ w3 cI ou ou1 ou2 Tr ++ w3 cI ov ov1 ov2 Sn ++ w1 oh rr n1.2.2.2.1 ++ wR cI cT rr ra rb rc n1.2.2.2.2.1 ++ w4 cI cC ox ox1 ox2 Xt ++ w2 cC oy oy1 Ln ++ w6 cI cC mh m1 m2 m3 m4 m5 m6 m7 m8 Mo ++ [(o, .inl (cJ, 1, .inr (.inl n1.2.2.2.2.2)))] ++ [(oq, .inl (cQ, 1, .inr (.inr (.inr (.inl Oq)))))]) (pmI (fun a => by simp only [cntW_app, cntW_nil] <;> omega)) rfl rfl hl.1 rfl (Nat.le_of_ble_eq_true rfl) ⟨Nat.le_trans (Nat.add_le_add_left (by decide) _) hcr.1, Nat.le_trans (Nat.add_le_add_left (by decide) _) hcr.2⟩ dL_law_238 (fun H locs hP hD hS => ?_)
    refine lv_istore (lv' := [(6, .int n1.1), (0, .ref b), (1, .ref x), (2, .ref mh), (3, .ref o), (4, .ref oq), (5, .int x5)]) hx hb dL_law_241 hl (by decide) rfl (fun ls hl => ?_)
    refine lv_aload_n hx hb dL_law_243 rfl (lv_at hl 3 rfl) ?_
    refine lv_aload_n hx hb dL_law_244 rfl (lv_at hl 1 rfl) ?_
    refine lv_iload hx hb dL_law_245 (lv_at hl 6 rfl) ?_
    refine lv_iconst (v := 1) hx hb dL_law_247 (by decide) ?_
    refine lv_iadd hx hb dL_law_248 ?_
    obtain ⟨o6, hg⟩ := hg
    refine va_sld hx hb hX hbl hbA hS o6 dL_law_249 ?_
    refine lv_aload_n hx hb dL_law_250 rfl (lv_at hl 1 rfl) ?_
    refine lv_iload hx hb dL_law_251 (lv_at hl 6 rfl) ?_
    refine lv_iconst (v := 2) hx hb dL_law_253 (by decide) ?_
    refine lv_iadd hx hb dL_law_254 ?_
    obtain ⟨o7, hg⟩ := hg
    refine va_sld hx hb hX hbl hbA hS o7 dL_law_255 ?_
    refine lv_aload_n hx hb dL_law_256 rfl (lv_at hl 1 rfl) ?_
    refine lv_iload hx hb dL_law_257 (lv_at hl 6 rfl) ?_
    refine lv_iconst (v := 3) hx hb dL_law_259 (by decide) ?_
    refine lv_iadd hx hb dL_law_260 ?_
    obtain ⟨o8, hg⟩ := hg
    refine va_sld hx hb hX hbl hbA hS o8 dL_law_261 ?_
    refine lv_aload_n hx hb dL_law_262 rfl (lv_at hl 1 rfl) ?_
    refine lv_iload hx hb dL_law_263 (lv_at hl 6 rfl) ?_
    refine lv_iconst (v := 4) hx hb dL_law_265 (by decide) ?_
    refine lv_iadd hx hb dL_law_266 ?_
    obtain ⟨o9, hg⟩ := hg
    refine va_sld hx hb hX hbl hbA hS o9 dL_law_267 ?_
    refine lv_if_eq (tgt := 275) hx hb dL_law_268 (by decide) (fun c_268 => ?_) (fun c_268 => absurd c_229_1 c_268)
    refine lv_iconst (v := 0) hx hb dL_law_275 (by decide) ?_
    obtain ⟨n2, en2⟩ : ∃ z9, z9 = (fX6_stool Mo (xs ((x5 + 1)).toNatClampNeg) (xs ((x5 + 2)).toNatClampNeg) (xs ((x5 + 3)).toNatClampNeg) 0) := ⟨_, rfl⟩
    try rw [← en2] at hg
    obtain ⟨o10, hg⟩ := hg
    have k9 := (kX6_stool l D cI cC cT mh m1 m2 m3 m4 m5 m6 m7 m8 Mo (xs ((x5 + 1)).toNatClampNeg) (xs ((x5 + 2)).toNatClampNeg) (xs ((x5 + 3)).toNatClampNeg) 0 o10)
    rw [← en2] at k9
    refine fUq (As := [.int (xs ((x5 + 1)).toNatClampNeg), .int (xs ((x5 + 2)).toNatClampNeg), .int (xs ((x5 + 3)).toNatClampNeg), .int 0]) (rest := []) (st' := [.int n2.1]) ⟨hx, hb, hml, hown, hts⟩ k9 (cwV 4 hts gL_law_X6_stool rfl rfl rfl (by decide +kernel) ⟨Nat.le_of_ble_eq_true rfl, Nat.le_of_ble_eq_true rfl⟩) hP hK3 hD hS (w5 x ot ou ov oh ox oy n1.2.1 ++ w3 cI ot ot1 ot2 n1.2.2.1 ++ w3 cI ou ou1 ou2 Tr ++ w3 cI ov ov1 ov2 Sn ++ w1 oh rr n1.2.2.2.1 ++ wR cI cT rr ra rb rc n1.2.2.2.2.1 ++ w4 cI cC ox ox1 ox2 Xt ++ w2 cC oy oy1 Ln ++ [(o, .inl (cJ, 1, .inr (.inl n1.2.2.2.2.2)))] ++ [(oq, .inl (cQ, 1, .inr (.inr (.inr (.inl Oq)))))] : va_W) (pmI (fun a => by simp only [cntW_app, cntW_nil] <;> omega)) (w5 x ot ou ov oh ox oy n1.2.1 ++ w3 cI ot ot1 ot2 n1.2.2.1 ++ w3 cI ou ou1 ou2 Tr ++ w3 cI ov ov1 ov2 Sn ++ w1 oh rr n1.2.2.2.1 ++ wR cI cT rr ra rb rc n1.2.2.2.2.1 ++ w4 cI cC ox ox1 ox2 Xt ++ w2 cC oy oy1 Ln ++ w6 cI cC mh m1 m2 m3 m4 m5 m6 m7 m8 n2.2 ++ [(o, .inl (cJ, 1, .inr (.inl n1.2.2.2.2.2)))] ++ [(oq, .inl (cQ, 1, .inr (.inr (.inr (.inl Oq)))))]) (pmI (fun a => by simp only [cntW_app, cntW_nil] <;> omega)) rfl 44 (ci := 7) rfl rfl rfl rfl hl.1 rfl rfl (Nat.le_of_ble_eq_true rfl) ⟨Nat.le_trans (Nat.add_le_add_left (by decide) _) hcr.1, Nat.le_trans (Nat.add_le_add_left (by decide) _) hcr.2⟩ dL_law_276 (fun H locs hP hD hS => ?_)
    refine lv_istore (lv' := [(7, .int n2.1), (6, .int n1.1), (0, .ref b), (1, .ref x), (2, .ref mh), (3, .ref o), (4, .ref oq), (5, .int x5)]) hx hb dL_law_279 hl (by decide) rfl (fun ls hl => ?_)
    refine lv_aload_n hx hb dL_law_281 rfl (lv_at hl 4 rfl) ?_
    refine fRq (As := []) (rest := []) (st' := [.int (fX6_thrown n2.2)]) ⟨hx, hb, hml, hown, hts⟩ (kX6_thrown l D cI cC cT mh m1 m2 m3 m4 m5 m6 m7 m8 n2.2) (cwV 0 hts gL_law_X6_thrown rfl rfl rfl (by decide +kernel) ⟨Nat.le_of_ble_eq_true rfl, Nat.le_of_ble_eq_true rfl⟩) hP hK3 (w5 x ot ou ov oh ox oy n1.2.1 ++ w3 cI ot ot1 ot2 n1.2.2.1 ++ w3 cI ou ou1 ou2 Tr ++ w3 cI ov ov1 ov2 Sn ++ w1 oh rr n1.2.2.2.1 ++ wR cI cT rr ra rb rc n1.2.2.2.2.1 ++ w4 cI cC ox ox1 ox2 Xt ++ w2 cC oy oy1 Ln ++ [(o, .inl (cJ, 1, .inr (.inl n1.2.2.2.2.2)))] ++ [(oq, .inl (cQ, 1, .inr (.inr (.inr (.inl Oq)))))] : va_W) (pmI (fun a => by simp only [cntW_app, cntW_nil] <;> omega)) 44 (ci := 7) rfl rfl rfl rfl hl.1 rfl rfl (Nat.le_of_ble_eq_true rfl) ⟨Nat.le_trans (Nat.add_le_add_left (by decide) _) hcr.1, Nat.le_trans (Nat.add_le_add_left (by decide) _) hcr.2⟩ dL_law_282 ?_
    refine lv_iload hx hb dL_law_285 (lv_at hl 1 rfl) ?_
    obtain ⟨o11, hg⟩ := hg
    refine lv_icmp_eq (tgt := 292) hx hb dL_law_287 (by decide) (fun c_287 => ?_) (fun c_287 => absurd o11 c_287)
    refine lv_iload hx hb dL_law_292 (lv_at hl 1 rfl) ?_
    refine lv_if_ne (tgt := 309) hx hb dL_law_294 (by decide) (fun c_294_2 => ?_) (fun c_294_2 => ?_)
    · rw [if_neg c_294_2] at hg
      refine lv_goto (tgt := 2110) hx hb dL_law_309 (by decide) ?_
      refine lv_iinc (v := (x5 + 5)) (lv' := [(5, .int (x5 + 5)), (7, .int n2.1), (6, .int n1.1), (0, .ref b), (1, .ref x), (2, .ref mh), (3, .ref o), (4, .ref oq)]) hx hb dL_law_2110 hl (k := 7) rfl rfl (by decide) rfl (fun ls hl => ?_)
      refine lv_goto (tgt := 28) hx hb dL_law_2113 (by decide) ?_
      have e9 : fM_0 S T Tr Sn Hs G Xt Ln Mo O Oq xs L x5 = (n1.2.1, n1.2.2.1, n1.2.2.2.1, n1.2.2.2.2.1, n2.2, n1.2.2.2.2.2) := by rw [fM_0, if_pos c_229_1, ← en1, ← en2, if_neg c_294_2]
      refine W.widen (k := cells + 2) (n := slots + 12) (by omega) (by omega) ?_
      exact kb (n1.2.1, n1.2.2.1, n1.2.2.2.1, n1.2.2.2.2.1, n2.2, n1.2.2.2.2.2) e9.symm H locs ls hP hD hS (lv_sub hl [3, 4, 5, 6, 7, 0] rfl)
    · rw [if_pos c_294_2] at hg
      refine lv_aload_n hx hb dL_law_297 rfl (lv_at hl 5 rfl) ?_
      refine lv_iconst (v := 0) hx hb dL_law_298 (by decide) ?_
      obtain ⟨o12, hg⟩ := hg
      refine va_lald hx hb hK hP 53 3 rfl rfl o12 dL_law_299 ?_
      refine lv_iload hx hb dL_law_300 (lv_at hl 0 rfl) ?_
      refine lv_i2l (v := (n2.1.toInt64)) hx hb dL_law_302 rfl ?_
      refine W.lcmp hx hb dL_law_303 ?_
      obtain ⟨o13, hg⟩ := hg
      refine lv_if_eq (tgt := 309) hx hb dL_law_304 (by decide) (fun c_304 => ?_) (fun c_304 => absurd o13 c_304)
      refine lv_goto (tgt := 2110) hx hb dL_law_309 (by decide) ?_
      refine lv_iinc (v := (x5 + 5)) (lv' := [(5, .int (x5 + 5)), (7, .int n2.1), (6, .int n1.1), (0, .ref b), (1, .ref x), (2, .ref mh), (3, .ref o), (4, .ref oq)]) hx hb dL_law_2110 hl (k := 7) rfl rfl (by decide) rfl (fun ls hl => ?_)
      refine lv_goto (tgt := 28) hx hb dL_law_2113 (by decide) ?_
      have e9 : fM_0 S T Tr Sn Hs G Xt Ln Mo O Oq xs L x5 = (n1.2.1, n1.2.2.1, n1.2.2.2.1, n1.2.2.2.2.1, n2.2, n1.2.2.2.2.2) := by rw [fM_0, if_pos c_229_1, ← en1, ← en2, if_pos c_294_2]
      refine W.widen (k := cells + 2) (n := slots + 12) (by omega) (by omega) ?_
      exact kb (n1.2.1, n1.2.2.1, n1.2.2.2.1, n1.2.2.2.2.1, n2.2, n1.2.2.2.2.2) e9.symm H locs ls hP hD hS (lv_sub hl [3, 4, 5, 6, 7, 0] rfl)
  · rw [if_neg c_229_1] at hg
    refine lv_iconst (v := 1) hx hb dL_law_232 (by decide) ?_
    refine lv_goto (tgt := 237) hx hb dL_law_233 (by decide) ?_
    refine lv_aload_n hx hb dL_law_237 rfl (lv_at hl 3 rfl) ?_
    obtain ⟨n3, en3⟩ : ∃ z9, z9 = (fL_stool S T Hs G O (xs ((x5 + 1)).toNatClampNeg) (xs ((x5 + 2)).toNatClampNeg) (xs ((x5 + 3)).toNatClampNeg) 1) := ⟨_, rfl⟩
    try rw [← en3] at hg
    obtain ⟨o14, hg⟩ := hg
    have k9 := (kL_stool l D cI cC cT cJ cQ x ot ou ov oh ox oy ot1 ot2 rr o ra rb rc S T Hs G O (xs ((x5 + 1)).toNatClampNeg) (xs ((x5 + 2)).toNatClampNeg) (xs ((x5 + 3)).toNatClampNeg) 1 hst hn o14)
    rw [← en3] at k9
    refine fLq (As := [.ref x, .int (xs ((x5 + 1)).toNatClampNeg), .int (xs ((x5 + 2)).toNatClampNeg), .int (xs ((x5 + 3)).toNatClampNeg), .int 1, .ref o]) (rest := []) ⟨hx, hb, hml, hown, hts⟩ k9 (vx_cwSW (hh := [(0, 14, 17, 13), (0, 14, 21, 15)]) 6 hts gL_law_L_stool rfl rfl rfl (by decide +kernel) ⟨Nat.le_of_ble_eq_true rfl, Nat.le_of_ble_eq_true rfl⟩) hP hK hD hS hXE hXN (w3 cI ou ou1 ou2 Tr ++ w3 cI ov ov1 ov2 Sn ++ w4 cI cC ox ox1 ox2 Xt ++ w2 cC oy oy1 Ln ++ w6 cI cC mh m1 m2 m3 m4 m5 m6 m7 m8 Mo ++ [(oq, .inl (cQ, 1, .inr (.inr (.inr (.inl Oq)))))] : va_W) (pmI (fun a => by simp only [cntW_app, cntW_nil] <;> omega)) (w5 x ot ou ov oh ox oy n3.2.1 ++ w3 cI ot ot1 ot2 n3.2.2.1 ++ w3 cI ou ou1 ou2 Tr ++ w3 cI ov ov1 ov2 Sn ++ w1 oh rr n3.2.2.2.1 ++ wR cI cT rr ra rb rc n3.2.2.2.2.1 ++ w4 cI cC ox ox1 ox2 Xt ++ w2 cC oy oy1 Ln ++ w6 cI cC mh m1 m2 m3 m4 m5 m6 m7 m8 Mo ++ [(o, .inl (cJ, 1, .inr (.inl n3.2.2.2.2.2)))] ++ [(oq, .inl (cQ, 1, .inr (.inr (.inr (.inl Oq)))))]) (pmI (fun a => by simp only [cntW_app, cntW_nil] <;> omega)) rfl rfl hl.1 rfl (Nat.le_of_ble_eq_true rfl) ⟨Nat.le_trans (Nat.add_le_add_left (by decide) _) hcr.1, Nat.le_trans (Nat.add_le_add_left (by decide) _) hcr.2⟩ dL_law_238 (fun H locs hP hD hS => ?_)
    refine lv_istore (lv' := [(6, .int n3.1), (0, .ref b), (1, .ref x), (2, .ref mh), (3, .ref o), (4, .ref oq), (5, .int x5)]) hx hb dL_law_241 hl (by decide) rfl (fun ls hl => ?_)
    refine lv_aload_n hx hb dL_law_243 rfl (lv_at hl 3 rfl) ?_
    refine lv_aload_n hx hb dL_law_244 rfl (lv_at hl 1 rfl) ?_
    refine lv_iload hx hb dL_law_245 (lv_at hl 6 rfl) ?_
    refine lv_iconst (v := 1) hx hb dL_law_247 (by decide) ?_
    refine lv_iadd hx hb dL_law_248 ?_
    obtain ⟨o15, hg⟩ := hg
    refine va_sld hx hb hX hbl hbA hS o15 dL_law_249 ?_
    refine lv_aload_n hx hb dL_law_250 rfl (lv_at hl 1 rfl) ?_
    refine lv_iload hx hb dL_law_251 (lv_at hl 6 rfl) ?_
    refine lv_iconst (v := 2) hx hb dL_law_253 (by decide) ?_
    refine lv_iadd hx hb dL_law_254 ?_
    obtain ⟨o16, hg⟩ := hg
    refine va_sld hx hb hX hbl hbA hS o16 dL_law_255 ?_
    refine lv_aload_n hx hb dL_law_256 rfl (lv_at hl 1 rfl) ?_
    refine lv_iload hx hb dL_law_257 (lv_at hl 6 rfl) ?_
    refine lv_iconst (v := 3) hx hb dL_law_259 (by decide) ?_
    refine lv_iadd hx hb dL_law_260 ?_
    obtain ⟨o17, hg⟩ := hg
    refine va_sld hx hb hX hbl hbA hS o17 dL_law_261 ?_
    refine lv_aload_n hx hb dL_law_262 rfl (lv_at hl 1 rfl) ?_
    refine lv_iload hx hb dL_law_263 (lv_at hl 6 rfl) ?_
    refine lv_iconst (v := 4) hx hb dL_law_265 (by decide) ?_
    refine lv_iadd hx hb dL_law_266 ?_
    obtain ⟨o18, hg⟩ := hg
    refine va_sld hx hb hX hbl hbA hS o18 dL_law_267 ?_
    refine lv_if_eq (tgt := 275) hx hb dL_law_268 (by decide) (fun c_268 => absurd c_268 c_229_1) (fun c_268 => ?_)
    refine lv_iconst (v := 1) hx hb dL_law_271 (by decide) ?_
    refine lv_goto (tgt := 276) hx hb dL_law_272 (by decide) ?_
    obtain ⟨n4, en4⟩ : ∃ z9, z9 = (fX6_stool Mo (xs ((x5 + 1)).toNatClampNeg) (xs ((x5 + 2)).toNatClampNeg) (xs ((x5 + 3)).toNatClampNeg) 1) := ⟨_, rfl⟩
    try rw [← en4] at hg
    obtain ⟨o19, hg⟩ := hg
    have k9 := (kX6_stool l D cI cC cT mh m1 m2 m3 m4 m5 m6 m7 m8 Mo (xs ((x5 + 1)).toNatClampNeg) (xs ((x5 + 2)).toNatClampNeg) (xs ((x5 + 3)).toNatClampNeg) 1 o19)
    rw [← en4] at k9
    refine fUq (As := [.int (xs ((x5 + 1)).toNatClampNeg), .int (xs ((x5 + 2)).toNatClampNeg), .int (xs ((x5 + 3)).toNatClampNeg), .int 1]) (rest := []) (st' := [.int n4.1]) ⟨hx, hb, hml, hown, hts⟩ k9 (cwV 4 hts gL_law_X6_stool rfl rfl rfl (by decide +kernel) ⟨Nat.le_of_ble_eq_true rfl, Nat.le_of_ble_eq_true rfl⟩) hP hK3 hD hS (w5 x ot ou ov oh ox oy n3.2.1 ++ w3 cI ot ot1 ot2 n3.2.2.1 ++ w3 cI ou ou1 ou2 Tr ++ w3 cI ov ov1 ov2 Sn ++ w1 oh rr n3.2.2.2.1 ++ wR cI cT rr ra rb rc n3.2.2.2.2.1 ++ w4 cI cC ox ox1 ox2 Xt ++ w2 cC oy oy1 Ln ++ [(o, .inl (cJ, 1, .inr (.inl n3.2.2.2.2.2)))] ++ [(oq, .inl (cQ, 1, .inr (.inr (.inr (.inl Oq)))))] : va_W) (pmI (fun a => by simp only [cntW_app, cntW_nil] <;> omega)) (w5 x ot ou ov oh ox oy n3.2.1 ++ w3 cI ot ot1 ot2 n3.2.2.1 ++ w3 cI ou ou1 ou2 Tr ++ w3 cI ov ov1 ov2 Sn ++ w1 oh rr n3.2.2.2.1 ++ wR cI cT rr ra rb rc n3.2.2.2.2.1 ++ w4 cI cC ox ox1 ox2 Xt ++ w2 cC oy oy1 Ln ++ w6 cI cC mh m1 m2 m3 m4 m5 m6 m7 m8 n4.2 ++ [(o, .inl (cJ, 1, .inr (.inl n3.2.2.2.2.2)))] ++ [(oq, .inl (cQ, 1, .inr (.inr (.inr (.inl Oq)))))]) (pmI (fun a => by simp only [cntW_app, cntW_nil] <;> omega)) rfl 44 (ci := 7) rfl rfl rfl rfl hl.1 rfl rfl (Nat.le_of_ble_eq_true rfl) ⟨Nat.le_trans (Nat.add_le_add_left (by decide) _) hcr.1, Nat.le_trans (Nat.add_le_add_left (by decide) _) hcr.2⟩ dL_law_276 (fun H locs hP hD hS => ?_)
    refine lv_istore (lv' := [(7, .int n4.1), (6, .int n3.1), (0, .ref b), (1, .ref x), (2, .ref mh), (3, .ref o), (4, .ref oq), (5, .int x5)]) hx hb dL_law_279 hl (by decide) rfl (fun ls hl => ?_)
    refine lv_aload_n hx hb dL_law_281 rfl (lv_at hl 4 rfl) ?_
    refine fRq (As := []) (rest := []) (st' := [.int (fX6_thrown n4.2)]) ⟨hx, hb, hml, hown, hts⟩ (kX6_thrown l D cI cC cT mh m1 m2 m3 m4 m5 m6 m7 m8 n4.2) (cwV 0 hts gL_law_X6_thrown rfl rfl rfl (by decide +kernel) ⟨Nat.le_of_ble_eq_true rfl, Nat.le_of_ble_eq_true rfl⟩) hP hK3 (w5 x ot ou ov oh ox oy n3.2.1 ++ w3 cI ot ot1 ot2 n3.2.2.1 ++ w3 cI ou ou1 ou2 Tr ++ w3 cI ov ov1 ov2 Sn ++ w1 oh rr n3.2.2.2.1 ++ wR cI cT rr ra rb rc n3.2.2.2.2.1 ++ w4 cI cC ox ox1 ox2 Xt ++ w2 cC oy oy1 Ln ++ [(o, .inl (cJ, 1, .inr (.inl n3.2.2.2.2.2)))] ++ [(oq, .inl (cQ, 1, .inr (.inr (.inr (.inl Oq)))))] : va_W) (pmI (fun a => by simp only [cntW_app, cntW_nil] <;> omega)) 44 (ci := 7) rfl rfl rfl rfl hl.1 rfl rfl (Nat.le_of_ble_eq_true rfl) ⟨Nat.le_trans (Nat.add_le_add_left (by decide) _) hcr.1, Nat.le_trans (Nat.add_le_add_left (by decide) _) hcr.2⟩ dL_law_282 ?_
    refine lv_iload hx hb dL_law_285 (lv_at hl 1 rfl) ?_
    obtain ⟨o20, hg⟩ := hg
    refine lv_icmp_eq (tgt := 292) hx hb dL_law_287 (by decide) (fun c_287 => ?_) (fun c_287 => absurd o20 c_287)
    refine lv_iload hx hb dL_law_292 (lv_at hl 1 rfl) ?_
    refine lv_if_ne (tgt := 309) hx hb dL_law_294 (by decide) (fun c_294_3 => ?_) (fun c_294_3 => ?_)
    · rw [if_neg c_294_3] at hg
      refine lv_goto (tgt := 2110) hx hb dL_law_309 (by decide) ?_
      refine lv_iinc (v := (x5 + 5)) (lv' := [(5, .int (x5 + 5)), (7, .int n4.1), (6, .int n3.1), (0, .ref b), (1, .ref x), (2, .ref mh), (3, .ref o), (4, .ref oq)]) hx hb dL_law_2110 hl (k := 7) rfl rfl (by decide) rfl (fun ls hl => ?_)
      refine lv_goto (tgt := 28) hx hb dL_law_2113 (by decide) ?_
      have e9 : fM_0 S T Tr Sn Hs G Xt Ln Mo O Oq xs L x5 = (n3.2.1, n3.2.2.1, n3.2.2.2.1, n3.2.2.2.2.1, n4.2, n3.2.2.2.2.2) := by rw [fM_0, if_neg c_229_1, ← en3, ← en4, if_neg c_294_3]
      refine W.widen (k := cells + 2) (n := slots + 12) (by omega) (by omega) ?_
      exact kb (n3.2.1, n3.2.2.1, n3.2.2.2.1, n3.2.2.2.2.1, n4.2, n3.2.2.2.2.2) e9.symm H locs ls hP hD hS (lv_sub hl [3, 4, 5, 6, 7, 0] rfl)
    · rw [if_pos c_294_3] at hg
      refine lv_aload_n hx hb dL_law_297 rfl (lv_at hl 5 rfl) ?_
      refine lv_iconst (v := 0) hx hb dL_law_298 (by decide) ?_
      obtain ⟨o21, hg⟩ := hg
      refine va_lald hx hb hK hP 53 3 rfl rfl o21 dL_law_299 ?_
      refine lv_iload hx hb dL_law_300 (lv_at hl 0 rfl) ?_
      refine lv_i2l (v := (n4.1.toInt64)) hx hb dL_law_302 rfl ?_
      refine W.lcmp hx hb dL_law_303 ?_
      obtain ⟨o22, hg⟩ := hg
      refine lv_if_eq (tgt := 309) hx hb dL_law_304 (by decide) (fun c_304 => ?_) (fun c_304 => absurd o22 c_304)
      refine lv_goto (tgt := 2110) hx hb dL_law_309 (by decide) ?_
      refine lv_iinc (v := (x5 + 5)) (lv' := [(5, .int (x5 + 5)), (7, .int n4.1), (6, .int n3.1), (0, .ref b), (1, .ref x), (2, .ref mh), (3, .ref o), (4, .ref oq)]) hx hb dL_law_2110 hl (k := 7) rfl rfl (by decide) rfl (fun ls hl => ?_)
      refine lv_goto (tgt := 28) hx hb dL_law_2113 (by decide) ?_
      have e9 : fM_0 S T Tr Sn Hs G Xt Ln Mo O Oq xs L x5 = (n3.2.1, n3.2.2.1, n3.2.2.2.1, n3.2.2.2.2.1, n4.2, n3.2.2.2.2.2) := by rw [fM_0, if_neg c_229_1, ← en3, ← en4, if_pos c_294_3]
      refine W.widen (k := cells + 2) (n := slots + 12) (by omega) (by omega) ?_
      exact kb (n3.2.1, n3.2.2.1, n3.2.2.2.1, n3.2.2.2.2.1, n4.2, n3.2.2.2.2.2) e9.symm H locs ls hP hD hS (lv_sub hl [3, 4, 5, 6, 7, 0] rfl)
def fM_1 (S : CV) (T : TV) (Tr : TV) (Sn : TV) (Hs : HV) (G : (Nat → TV)) (Xt : XV) (Ln : LV) (Mo : SV) (O : (Nat → Int64)) (Oq : (Nat → UInt64)) (xs : Nat → Int32) (L : Nat) (x5 : Int32) : (CV × TV × HV × (Nat → TV) × SV × (Nat → Int64)) := (if (fL_guest S T Hs G O (xs ((x5 + 1)).toNatClampNeg) (xs ((x5 + 2)).toNatClampNeg)).1 = 0 then ((fL_guest S T Hs G O (xs ((x5 + 1)).toNatClampNeg) (xs ((x5 + 2)).toNatClampNeg)).2.1, (fL_guest S T Hs G O (xs ((x5 + 1)).toNatClampNeg) (xs ((x5 + 2)).toNatClampNeg)).2.2.1, (fL_guest S T Hs G O (xs ((x5 + 1)).toNatClampNeg) (xs ((x5 + 2)).toNatClampNeg)).2.2.2.1, (fL_guest S T Hs G O (xs ((x5 + 1)).toNatClampNeg) (xs ((x5 + 2)).toNatClampNeg)).2.2.2.2.1, (fX6_guest Mo (xs ((x5 + 1)).toNatClampNeg) (xs ((x5 + 2)).toNatClampNeg)).2, (fL_guest S T Hs G O (xs ((x5 + 1)).toNatClampNeg) (xs ((x5 + 2)).toNatClampNeg)).2.2.2.2.2) else ((fL_guest S T Hs G O (xs ((x5 + 1)).toNatClampNeg) (xs ((x5 + 2)).toNatClampNeg)).2.1, (fL_guest S T Hs G O (xs ((x5 + 1)).toNatClampNeg) (xs ((x5 + 2)).toNatClampNeg)).2.2.1, (fL_guest S T Hs G O (xs ((x5 + 1)).toNatClampNeg) (xs ((x5 + 2)).toNatClampNeg)).2.2.2.1, (fL_guest S T Hs G O (xs ((x5 + 1)).toNatClampNeg) (xs ((x5 + 2)).toNatClampNeg)).2.2.2.2.1, (fX6_guest Mo (xs ((x5 + 1)).toNatClampNeg) (xs ((x5 + 2)).toNatClampNeg)).2, (fL_guest S T Hs G O (xs ((x5 + 1)).toNatClampNeg) (xs ((x5 + 2)).toNatClampNeg)).2.2.2.2.2))
def gM_1 (S : CV) (T : TV) (Tr : TV) (Sn : TV) (Hs : HV) (G : (Nat → TV)) (Xt : XV) (Ln : LV) (Mo : SV) (O : (Nat → Int64)) (Oq : (Nat → UInt64)) (xs : Nat → Int32) (L : Nat) (x5 : Int32) : Prop := ((vp_in (x5 + 1) L) ∧ (vp_in (x5 + 2) L) ∧ (gL_guest S T Hs G O (xs ((x5 + 1)).toNatClampNeg) (xs ((x5 + 2)).toNatClampNeg)) ∧ (vp_in (x5 + 1) L) ∧ (vp_in (x5 + 2) L) ∧ (gX6_guest Mo (xs ((x5 + 1)).toNatClampNeg) (xs ((x5 + 2)).toNatClampNeg)) ∧ ((fX6_thrown (fX6_guest Mo (xs ((x5 + 1)).toNatClampNeg) (xs ((x5 + 2)).toNatClampNeg)).2) = (fL_guest S T Hs G O (xs ((x5 + 1)).toNatClampNeg) (xs ((x5 + 2)).toNatClampNeg)).1) ∧ (if (fL_guest S T Hs G O (xs ((x5 + 1)).toNatClampNeg) (xs ((x5 + 2)).toNatClampNeg)).1 = 0 then ((vp_in 0 1) ∧ ((lg_cmp ((fL_guest S T Hs G O (xs ((x5 + 1)).toNatClampNeg) (xs ((x5 + 2)).toNatClampNeg)).2.2.2.2.2 (0 : Int32).toNatClampNeg) ((fX6_guest Mo (xs ((x5 + 1)).toNatClampNeg) (xs ((x5 + 2)).toNatClampNeg)).1.toInt64)) = 0) ∧ True) else True))
set_option maxHeartbeats 8000000 in
set_option maxRecDepth 100000 in
theorem cM_1 {p : Program} {e : Env} {s : State} {m : MethodId} {below : List Frame} {meth : Method} {c : Code} {Q : State → Prop} (l : Launch) (D : va_G) (cI cC cT cJ cQ : ClassId) (b x ot ou ov oh ox oy ot1 ot2 ou1 ou2 ov1 ov2 rr ox1 ox2 oy1 mh m1 m2 m3 m4 m5 m6 m7 m8 o oq : Nat) (ra rb rc : Nat → Nat) (S : CV) (T : TV) (Tr : TV) (Sn : TV) (Hs : HV) (G : (Nat → TV)) (Xt : XV) (Ln : LV) (Mo : SV) (O : (Nat → Int64)) (Oq : (Nat → UInt64)) (xs : Nat → Int32) (L : Nat) (x5 : Int32) (hst : l.stackTraces = false) (hn : ∃ j : Nat, j < 9 ∧ Hs.1 = nI j) (hc : ∀ i, narrow .char (.int (Ln.1 i)) = .int (Ln.1 i)) (hx : p.tables.exec = Jvm.exec) (hb : c.code = cL_law) (hml : c.maxLocals = 9) (hown : s.vm.findClass RL = some m.cls) (hts : ∀ w ∈ wsL_law, w.before #[Value.ref b] s = true) (hK : va_K D vwCl (TY5 cI cC cT cJ cQ) s) (hX : va_X b L xs s s.heap) (hbl : b < s.heap.size) (hbA : ¬ (fun q : Nat => s.heap.size ≤ q) b) (hXE : xE (fun q : Nat => s.heap.size ≤ q) s) (hXN : xN s) (H : Heap) (locs : List Loc) (ls : Array Slot) (cells slots : Nat) (hcr : cells + 2 ≤ room_1.cells ∧ slots + 12 ≤ room_1.slots) (hP : va_P D vwCl (w5 x ot ou ov oh ox oy S ++ w3 cI ot ot1 ot2 T ++ w3 cI ou ou1 ou2 Tr ++ w3 cI ov ov1 ov2 Sn ++ w1 oh rr Hs ++ wR cI cT rr ra rb rc G ++ w4 cI cC ox ox1 ox2 Xt ++ w2 cC oy oy1 Ln ++ w6 cI cC mh m1 m2 m3 m4 m5 m6 m7 m8 Mo ++ [(o, .inl (cJ, 1, .inr (.inl O)))] ++ [(oq, .inl (cQ, 1, .inr (.inr (.inr (.inl Oq)))))]) H) (hD : va_D (fun q : Nat => s.heap.size ≤ q) (w5 x ot ou ov oh ox oy S ++ w3 cI ot ot1 ot2 T ++ w3 cI ou ou1 ou2 Tr ++ w3 cI ov ov1 ov2 Sn ++ w1 oh rr Hs ++ wR cI cT rr ra rb rc G ++ w4 cI cC ox ox1 ox2 Xt ++ w2 cC oy oy1 Ln ++ w6 cI cC mh m1 m2 m3 m4 m5 m6 m7 m8 Mo ++ [(o, .inl (cJ, 1, .inr (.inl O)))] ++ [(oq, .inl (cQ, 1, .inr (.inr (.inr (.inl Oq)))))])) (hS : va_S (fun q : Nat => s.heap.size ≤ q) s.heap H locs) (hl : lv_has ls 9 [(0, .ref b), (1, .ref x), (2, .ref mh), (3, .ref o), (4, .ref oq), (5, .int x5)]) (hg : gM_1 S T Tr Sn Hs G Xt Ln Mo O Oq xs L x5) (kb : ∀ z9 : (CV × TV × HV × (Nat → TV) × SV × (Nat → Int64)), z9 = fM_1 S T Tr Sn Hs G Xt Ln Mo O Oq xs L x5 → ∀ (H : Heap) (locs : List Loc) (ls : Array Slot), va_P D vwCl (w5 x ot ou ov oh ox oy z9.1 ++ w3 cI ot ot1 ot2 z9.2.1 ++ w3 cI ou ou1 ou2 Tr ++ w3 cI ov ov1 ov2 Sn ++ w1 oh rr z9.2.2.1 ++ wR cI cT rr ra rb rc z9.2.2.2.1 ++ w4 cI cC ox ox1 ox2 Xt ++ w2 cC oy oy1 Ln ++ w6 cI cC mh m1 m2 m3 m4 m5 m6 m7 m8 z9.2.2.2.2.1 ++ [(o, .inl (cJ, 1, .inr (.inl z9.2.2.2.2.2)))] ++ [(oq, .inl (cQ, 1, .inr (.inr (.inr (.inl Oq)))))]) H → va_D (fun q : Nat => s.heap.size ≤ q) (w5 x ot ou ov oh ox oy z9.1 ++ w3 cI ot ot1 ot2 z9.2.1 ++ w3 cI ou ou1 ou2 Tr ++ w3 cI ov ov1 ov2 Sn ++ w1 oh rr z9.2.2.1 ++ wR cI cT rr ra rb rc z9.2.2.2.1 ++ w4 cI cC ox ox1 ox2 Xt ++ w2 cC oy oy1 Ln ++ w6 cI cC mh m1 m2 m3 m4 m5 m6 m7 m8 z9.2.2.2.2.1 ++ [(o, .inl (cJ, 1, .inr (.inl z9.2.2.2.2.2)))] ++ [(oq, .inl (cQ, 1, .inr (.inr (.inr (.inl Oq)))))]) → va_S (fun q : Nat => s.heap.size ≤ q) s.heap H locs → lv_has ls 9 [(0, .ref b), (1, .ref x), (2, .ref mh), (3, .ref o), (4, .ref oq), (5, .int (x5 + 5))] → W p l e room_1 s m #[Value.ref b] below meth c H locs (cells + 2) (slots + 12) Q (F0 m 28 ls [])) :
    W p l e room_1 s m #[Value.ref b] below meth c H locs cells slots Q (F0 m 312 ls []) := by
  have hP : va_P D vwCl (w5 x ot ou ov oh ox oy S ++ w3 cI ot ot1 ot2 T ++ w3 cI ou ou1 ou2 Tr ++ w3 cI ov ov1 ov2 Sn ++ w1 oh rr Hs ++ wR cI cT rr ra rb rc G ++ w4 cI cC ox ox1 ox2 Xt ++ w2 cC oy oy1 Ln ++ w6 cI cC mh m1 m2 m3 m4 m5 m6 m7 m8 Mo ++ [(o, .inl (cJ, 1, .inr (.inl O)))] ++ [(oq, .inl (cQ, 1, .inr (.inr (.inr (.inl Oq)))))]) H := hP
  have hD : va_D (fun q : Nat => s.heap.size ≤ q) (w5 x ot ou ov oh ox oy S ++ w3 cI ot ot1 ot2 T ++ w3 cI ou ou1 ou2 Tr ++ w3 cI ov ov1 ov2 Sn ++ w1 oh rr Hs ++ wR cI cT rr ra rb rc G ++ w4 cI cC ox ox1 ox2 Xt ++ w2 cC oy oy1 Ln ++ w6 cI cC mh m1 m2 m3 m4 m5 m6 m7 m8 Mo ++ [(o, .inl (cJ, 1, .inr (.inl O)))] ++ [(oq, .inl (cQ, 1, .inr (.inr (.inr (.inl Oq)))))]) := hD
  have hK3 := hK.sub (tys' := TY cI cC cT) [0, 1, 2] rfl
  unfold gM_1 at hg
  refine lv_aload_n hx hb dL_law_312 rfl (lv_at hl 1 rfl) ?_
  refine lv_aload_n hx hb dL_law_313 rfl (lv_at hl 0 rfl) ?_
  refine lv_iload hx hb dL_law_314 (lv_at hl 5 rfl) ?_
  refine lv_iconst (v := 1) hx hb dL_law_316 (by decide) ?_
  refine lv_iadd hx hb dL_law_317 ?_
  obtain ⟨o1, hg⟩ := hg
  refine va_sld hx hb hX hbl hbA hS o1 dL_law_318 ?_
  refine lv_aload_n hx hb dL_law_319 rfl (lv_at hl 0 rfl) ?_
  refine lv_iload hx hb dL_law_320 (lv_at hl 5 rfl) ?_
  refine lv_iconst (v := 2) hx hb dL_law_322 (by decide) ?_
  refine lv_iadd hx hb dL_law_323 ?_
  obtain ⟨o2, hg⟩ := hg
  refine va_sld hx hb hX hbl hbA hS o2 dL_law_324 ?_
  refine lv_aload_n hx hb dL_law_325 rfl (lv_at hl 3 rfl) ?_
  obtain ⟨n1, en1⟩ : ∃ z9, z9 = (fL_guest S T Hs G O (xs ((x5 + 1)).toNatClampNeg) (xs ((x5 + 2)).toNatClampNeg)) := ⟨_, rfl⟩
  try rw [← en1] at hg
  obtain ⟨o3, hg⟩ := hg
  have k9 := (kL_guest l D cI cC cT cJ cQ x ot ou ov oh ox oy ot1 ot2 rr o ra rb rc S T Hs G O (xs ((x5 + 1)).toNatClampNeg) (xs ((x5 + 2)).toNatClampNeg) hst hn o3)
  rw [← en1] at k9
  refine fLq (As := [.ref x, .int (xs ((x5 + 1)).toNatClampNeg), .int (xs ((x5 + 2)).toNatClampNeg), .ref o]) (rest := []) ⟨hx, hb, hml, hown, hts⟩ k9 (vx_cwSW (hh := [(0, 10, 13, 13), (0, 10, 17, 15)]) 4 hts gL_law_L_guest rfl rfl rfl (by decide +kernel) ⟨Nat.le_of_ble_eq_true rfl, Nat.le_of_ble_eq_true rfl⟩) hP hK hD hS hXE hXN (w3 cI ou ou1 ou2 Tr ++ w3 cI ov ov1 ov2 Sn ++ w4 cI cC ox ox1 ox2 Xt ++ w2 cC oy oy1 Ln ++ w6 cI cC mh m1 m2 m3 m4 m5 m6 m7 m8 Mo ++ [(oq, .inl (cQ, 1, .inr (.inr (.inr (.inl Oq)))))] : va_W) (pmI (fun a => by simp only [cntW_app, cntW_nil] <;> omega)) (w5 x ot ou ov oh ox oy n1.2.1 ++ w3 cI ot ot1 ot2 n1.2.2.1 ++ w3 cI ou ou1 ou2 Tr ++ w3 cI ov ov1 ov2 Sn ++ w1 oh rr n1.2.2.2.1 ++ wR cI cT rr ra rb rc n1.2.2.2.2.1 ++ w4 cI cC ox ox1 ox2 Xt ++ w2 cC oy oy1 Ln ++ w6 cI cC mh m1 m2 m3 m4 m5 m6 m7 m8 Mo ++ [(o, .inl (cJ, 1, .inr (.inl n1.2.2.2.2.2)))] ++ [(oq, .inl (cQ, 1, .inr (.inr (.inr (.inl Oq)))))]) (pmI (fun a => by simp only [cntW_app, cntW_nil] <;> omega)) rfl rfl hl.1 rfl (Nat.le_of_ble_eq_true rfl) ⟨Nat.le_trans (Nat.add_le_add_left (by decide) _) hcr.1, Nat.le_trans (Nat.add_le_add_left (by decide) _) hcr.2⟩ dL_law_326 (fun H locs hP hD hS => ?_)
  refine lv_istore (lv' := [(6, .int n1.1), (0, .ref b), (1, .ref x), (2, .ref mh), (3, .ref o), (4, .ref oq), (5, .int x5)]) hx hb dL_law_329 hl (by decide) rfl (fun ls hl => ?_)
  refine lv_aload_n hx hb dL_law_331 rfl (lv_at hl 3 rfl) ?_
  refine lv_aload_n hx hb dL_law_332 rfl (lv_at hl 1 rfl) ?_
  refine lv_iload hx hb dL_law_333 (lv_at hl 6 rfl) ?_
  refine lv_iconst (v := 1) hx hb dL_law_335 (by decide) ?_
  refine lv_iadd hx hb dL_law_336 ?_
  obtain ⟨o4, hg⟩ := hg
  refine va_sld hx hb hX hbl hbA hS o4 dL_law_337 ?_
  refine lv_aload_n hx hb dL_law_338 rfl (lv_at hl 1 rfl) ?_
  refine lv_iload hx hb dL_law_339 (lv_at hl 6 rfl) ?_
  refine lv_iconst (v := 2) hx hb dL_law_341 (by decide) ?_
  refine lv_iadd hx hb dL_law_342 ?_
  obtain ⟨o5, hg⟩ := hg
  refine va_sld hx hb hX hbl hbA hS o5 dL_law_343 ?_
  obtain ⟨n2, en2⟩ : ∃ z9, z9 = (fX6_guest Mo (xs ((x5 + 1)).toNatClampNeg) (xs ((x5 + 2)).toNatClampNeg)) := ⟨_, rfl⟩
  try rw [← en2] at hg
  obtain ⟨o6, hg⟩ := hg
  have k9 := (kX6_guest l D cI cC cT mh m1 m2 m3 m4 m5 m6 m7 m8 Mo (xs ((x5 + 1)).toNatClampNeg) (xs ((x5 + 2)).toNatClampNeg) o6)
  rw [← en2] at k9
  refine fUq (As := [.int (xs ((x5 + 1)).toNatClampNeg), .int (xs ((x5 + 2)).toNatClampNeg)]) (rest := []) (st' := [.int n2.1]) ⟨hx, hb, hml, hown, hts⟩ k9 (cwV 2 hts gL_law_X6_guest rfl rfl rfl (by decide +kernel) ⟨Nat.le_of_ble_eq_true rfl, Nat.le_of_ble_eq_true rfl⟩) hP hK3 hD hS (w5 x ot ou ov oh ox oy n1.2.1 ++ w3 cI ot ot1 ot2 n1.2.2.1 ++ w3 cI ou ou1 ou2 Tr ++ w3 cI ov ov1 ov2 Sn ++ w1 oh rr n1.2.2.2.1 ++ wR cI cT rr ra rb rc n1.2.2.2.2.1 ++ w4 cI cC ox ox1 ox2 Xt ++ w2 cC oy oy1 Ln ++ [(o, .inl (cJ, 1, .inr (.inl n1.2.2.2.2.2)))] ++ [(oq, .inl (cQ, 1, .inr (.inr (.inr (.inl Oq)))))] : va_W) (pmI (fun a => by simp only [cntW_app, cntW_nil] <;> omega)) (w5 x ot ou ov oh ox oy n1.2.1 ++ w3 cI ot ot1 ot2 n1.2.2.1 ++ w3 cI ou ou1 ou2 Tr ++ w3 cI ov ov1 ov2 Sn ++ w1 oh rr n1.2.2.2.1 ++ wR cI cT rr ra rb rc n1.2.2.2.2.1 ++ w4 cI cC ox ox1 ox2 Xt ++ w2 cC oy oy1 Ln ++ w6 cI cC mh m1 m2 m3 m4 m5 m6 m7 m8 n2.2 ++ [(o, .inl (cJ, 1, .inr (.inl n1.2.2.2.2.2)))] ++ [(oq, .inl (cQ, 1, .inr (.inr (.inr (.inl Oq)))))]) (pmI (fun a => by simp only [cntW_app, cntW_nil] <;> omega)) rfl 44 (ci := 7) rfl rfl rfl rfl hl.1 rfl rfl (Nat.le_of_ble_eq_true rfl) ⟨Nat.le_trans (Nat.add_le_add_left (by decide) _) hcr.1, Nat.le_trans (Nat.add_le_add_left (by decide) _) hcr.2⟩ dL_law_344 (fun H locs hP hD hS => ?_)
  refine lv_istore (lv' := [(7, .int n2.1), (6, .int n1.1), (0, .ref b), (1, .ref x), (2, .ref mh), (3, .ref o), (4, .ref oq), (5, .int x5)]) hx hb dL_law_347 hl (by decide) rfl (fun ls hl => ?_)
  refine lv_aload_n hx hb dL_law_349 rfl (lv_at hl 4 rfl) ?_
  refine fRq (As := []) (rest := []) (st' := [.int (fX6_thrown n2.2)]) ⟨hx, hb, hml, hown, hts⟩ (kX6_thrown l D cI cC cT mh m1 m2 m3 m4 m5 m6 m7 m8 n2.2) (cwV 0 hts gL_law_X6_thrown rfl rfl rfl (by decide +kernel) ⟨Nat.le_of_ble_eq_true rfl, Nat.le_of_ble_eq_true rfl⟩) hP hK3 (w5 x ot ou ov oh ox oy n1.2.1 ++ w3 cI ot ot1 ot2 n1.2.2.1 ++ w3 cI ou ou1 ou2 Tr ++ w3 cI ov ov1 ov2 Sn ++ w1 oh rr n1.2.2.2.1 ++ wR cI cT rr ra rb rc n1.2.2.2.2.1 ++ w4 cI cC ox ox1 ox2 Xt ++ w2 cC oy oy1 Ln ++ [(o, .inl (cJ, 1, .inr (.inl n1.2.2.2.2.2)))] ++ [(oq, .inl (cQ, 1, .inr (.inr (.inr (.inl Oq)))))] : va_W) (pmI (fun a => by simp only [cntW_app, cntW_nil] <;> omega)) 44 (ci := 7) rfl rfl rfl rfl hl.1 rfl rfl (Nat.le_of_ble_eq_true rfl) ⟨Nat.le_trans (Nat.add_le_add_left (by decide) _) hcr.1, Nat.le_trans (Nat.add_le_add_left (by decide) _) hcr.2⟩ dL_law_350 ?_
  refine lv_iload hx hb dL_law_353 (lv_at hl 1 rfl) ?_
  obtain ⟨o7, hg⟩ := hg
  refine lv_icmp_eq (tgt := 360) hx hb dL_law_355 (by decide) (fun c_355 => ?_) (fun c_355 => absurd o7 c_355)
  refine lv_iload hx hb dL_law_360 (lv_at hl 1 rfl) ?_
  refine lv_if_ne (tgt := 377) hx hb dL_law_362 (by decide) (fun c_362_1 => ?_) (fun c_362_1 => ?_)
  · rw [if_neg c_362_1] at hg
    refine lv_goto (tgt := 2110) hx hb dL_law_377 (by decide) ?_
    refine lv_iinc (v := (x5 + 5)) (lv' := [(5, .int (x5 + 5)), (7, .int n2.1), (6, .int n1.1), (0, .ref b), (1, .ref x), (2, .ref mh), (3, .ref o), (4, .ref oq)]) hx hb dL_law_2110 hl (k := 7) rfl rfl (by decide) rfl (fun ls hl => ?_)
    refine lv_goto (tgt := 28) hx hb dL_law_2113 (by decide) ?_
    have e9 : fM_1 S T Tr Sn Hs G Xt Ln Mo O Oq xs L x5 = (n1.2.1, n1.2.2.1, n1.2.2.2.1, n1.2.2.2.2.1, n2.2, n1.2.2.2.2.2) := by rw [fM_1, ← en1, ← en2, if_neg c_362_1]
    refine W.widen (k := cells + 2) (n := slots + 12) (by omega) (by omega) ?_
    exact kb (n1.2.1, n1.2.2.1, n1.2.2.2.1, n1.2.2.2.2.1, n2.2, n1.2.2.2.2.2) e9.symm H locs ls hP hD hS (lv_sub hl [3, 4, 5, 6, 7, 0] rfl)
  · rw [if_pos c_362_1] at hg
    refine lv_aload_n hx hb dL_law_365 rfl (lv_at hl 5 rfl) ?_
    refine lv_iconst (v := 0) hx hb dL_law_366 (by decide) ?_
    obtain ⟨o8, hg⟩ := hg
    refine va_lald hx hb hK hP 53 3 rfl rfl o8 dL_law_367 ?_
    refine lv_iload hx hb dL_law_368 (lv_at hl 0 rfl) ?_
    refine lv_i2l (v := (n2.1.toInt64)) hx hb dL_law_370 rfl ?_
    refine W.lcmp hx hb dL_law_371 ?_
    obtain ⟨o9, hg⟩ := hg
    refine lv_if_eq (tgt := 377) hx hb dL_law_372 (by decide) (fun c_372 => ?_) (fun c_372 => absurd o9 c_372)
    refine lv_goto (tgt := 2110) hx hb dL_law_377 (by decide) ?_
    refine lv_iinc (v := (x5 + 5)) (lv' := [(5, .int (x5 + 5)), (7, .int n2.1), (6, .int n1.1), (0, .ref b), (1, .ref x), (2, .ref mh), (3, .ref o), (4, .ref oq)]) hx hb dL_law_2110 hl (k := 7) rfl rfl (by decide) rfl (fun ls hl => ?_)
    refine lv_goto (tgt := 28) hx hb dL_law_2113 (by decide) ?_
    have e9 : fM_1 S T Tr Sn Hs G Xt Ln Mo O Oq xs L x5 = (n1.2.1, n1.2.2.1, n1.2.2.2.1, n1.2.2.2.2.1, n2.2, n1.2.2.2.2.2) := by rw [fM_1, ← en1, ← en2, if_pos c_362_1]
    refine W.widen (k := cells + 2) (n := slots + 12) (by omega) (by omega) ?_
    exact kb (n1.2.1, n1.2.2.1, n1.2.2.2.1, n1.2.2.2.2.1, n2.2, n1.2.2.2.2.2) e9.symm H locs ls hP hD hS (lv_sub hl [3, 4, 5, 6, 7, 0] rfl)
def fM_2 (S : CV) (T : TV) (Tr : TV) (Sn : TV) (Hs : HV) (G : (Nat → TV)) (Xt : XV) (Ln : LV) (Mo : SV) (O : (Nat → Int64)) (Oq : (Nat → UInt64)) (xs : Nat → Int32) (L : Nat) (x5 : Int32) : (CV × TV × HV × (Nat → TV) × SV × (Nat → Int64)) := (if (fL_cat S T Hs G O (xs ((x5 + 1)).toNatClampNeg)).1 = 0 then ((fL_cat S T Hs G O (xs ((x5 + 1)).toNatClampNeg)).2.1, (fL_cat S T Hs G O (xs ((x5 + 1)).toNatClampNeg)).2.2.1, (fL_cat S T Hs G O (xs ((x5 + 1)).toNatClampNeg)).2.2.2.1, (fL_cat S T Hs G O (xs ((x5 + 1)).toNatClampNeg)).2.2.2.2.1, (fX6_cat Mo (xs ((x5 + 1)).toNatClampNeg)).2, (fL_cat S T Hs G O (xs ((x5 + 1)).toNatClampNeg)).2.2.2.2.2) else ((fL_cat S T Hs G O (xs ((x5 + 1)).toNatClampNeg)).2.1, (fL_cat S T Hs G O (xs ((x5 + 1)).toNatClampNeg)).2.2.1, (fL_cat S T Hs G O (xs ((x5 + 1)).toNatClampNeg)).2.2.2.1, (fL_cat S T Hs G O (xs ((x5 + 1)).toNatClampNeg)).2.2.2.2.1, (fX6_cat Mo (xs ((x5 + 1)).toNatClampNeg)).2, (fL_cat S T Hs G O (xs ((x5 + 1)).toNatClampNeg)).2.2.2.2.2))
def gM_2 (S : CV) (T : TV) (Tr : TV) (Sn : TV) (Hs : HV) (G : (Nat → TV)) (Xt : XV) (Ln : LV) (Mo : SV) (O : (Nat → Int64)) (Oq : (Nat → UInt64)) (xs : Nat → Int32) (L : Nat) (x5 : Int32) : Prop := ((vp_in (x5 + 1) L) ∧ (gL_cat S T Hs G O (xs ((x5 + 1)).toNatClampNeg)) ∧ (vp_in (x5 + 1) L) ∧ (gX6_cat Mo (xs ((x5 + 1)).toNatClampNeg)) ∧ ((fX6_thrown (fX6_cat Mo (xs ((x5 + 1)).toNatClampNeg)).2) = (fL_cat S T Hs G O (xs ((x5 + 1)).toNatClampNeg)).1) ∧ (if (fL_cat S T Hs G O (xs ((x5 + 1)).toNatClampNeg)).1 = 0 then ((vp_in 0 1) ∧ ((lg_cmp ((fL_cat S T Hs G O (xs ((x5 + 1)).toNatClampNeg)).2.2.2.2.2 (0 : Int32).toNatClampNeg) ((fX6_cat Mo (xs ((x5 + 1)).toNatClampNeg)).1.toInt64)) = 0) ∧ True) else True))
set_option maxHeartbeats 8000000 in
set_option maxRecDepth 100000 in
theorem cM_2 {p : Program} {e : Env} {s : State} {m : MethodId} {below : List Frame} {meth : Method} {c : Code} {Q : State → Prop} (l : Launch) (D : va_G) (cI cC cT cJ cQ : ClassId) (b x ot ou ov oh ox oy ot1 ot2 ou1 ou2 ov1 ov2 rr ox1 ox2 oy1 mh m1 m2 m3 m4 m5 m6 m7 m8 o oq : Nat) (ra rb rc : Nat → Nat) (S : CV) (T : TV) (Tr : TV) (Sn : TV) (Hs : HV) (G : (Nat → TV)) (Xt : XV) (Ln : LV) (Mo : SV) (O : (Nat → Int64)) (Oq : (Nat → UInt64)) (xs : Nat → Int32) (L : Nat) (x5 : Int32) (hst : l.stackTraces = false) (hn : ∃ j : Nat, j < 9 ∧ Hs.1 = nI j) (hc : ∀ i, narrow .char (.int (Ln.1 i)) = .int (Ln.1 i)) (hx : p.tables.exec = Jvm.exec) (hb : c.code = cL_law) (hml : c.maxLocals = 9) (hown : s.vm.findClass RL = some m.cls) (hts : ∀ w ∈ wsL_law, w.before #[Value.ref b] s = true) (hK : va_K D vwCl (TY5 cI cC cT cJ cQ) s) (hX : va_X b L xs s s.heap) (hbl : b < s.heap.size) (hbA : ¬ (fun q : Nat => s.heap.size ≤ q) b) (hXE : xE (fun q : Nat => s.heap.size ≤ q) s) (hXN : xN s) (H : Heap) (locs : List Loc) (ls : Array Slot) (cells slots : Nat) (hcr : cells + 2 ≤ room_1.cells ∧ slots + 12 ≤ room_1.slots) (hP : va_P D vwCl (w5 x ot ou ov oh ox oy S ++ w3 cI ot ot1 ot2 T ++ w3 cI ou ou1 ou2 Tr ++ w3 cI ov ov1 ov2 Sn ++ w1 oh rr Hs ++ wR cI cT rr ra rb rc G ++ w4 cI cC ox ox1 ox2 Xt ++ w2 cC oy oy1 Ln ++ w6 cI cC mh m1 m2 m3 m4 m5 m6 m7 m8 Mo ++ [(o, .inl (cJ, 1, .inr (.inl O)))] ++ [(oq, .inl (cQ, 1, .inr (.inr (.inr (.inl Oq)))))]) H) (hD : va_D (fun q : Nat => s.heap.size ≤ q) (w5 x ot ou ov oh ox oy S ++ w3 cI ot ot1 ot2 T ++ w3 cI ou ou1 ou2 Tr ++ w3 cI ov ov1 ov2 Sn ++ w1 oh rr Hs ++ wR cI cT rr ra rb rc G ++ w4 cI cC ox ox1 ox2 Xt ++ w2 cC oy oy1 Ln ++ w6 cI cC mh m1 m2 m3 m4 m5 m6 m7 m8 Mo ++ [(o, .inl (cJ, 1, .inr (.inl O)))] ++ [(oq, .inl (cQ, 1, .inr (.inr (.inr (.inl Oq)))))])) (hS : va_S (fun q : Nat => s.heap.size ≤ q) s.heap H locs) (hl : lv_has ls 9 [(0, .ref b), (1, .ref x), (2, .ref mh), (3, .ref o), (4, .ref oq), (5, .int x5)]) (hg : gM_2 S T Tr Sn Hs G Xt Ln Mo O Oq xs L x5) (kb : ∀ z9 : (CV × TV × HV × (Nat → TV) × SV × (Nat → Int64)), z9 = fM_2 S T Tr Sn Hs G Xt Ln Mo O Oq xs L x5 → ∀ (H : Heap) (locs : List Loc) (ls : Array Slot), va_P D vwCl (w5 x ot ou ov oh ox oy z9.1 ++ w3 cI ot ot1 ot2 z9.2.1 ++ w3 cI ou ou1 ou2 Tr ++ w3 cI ov ov1 ov2 Sn ++ w1 oh rr z9.2.2.1 ++ wR cI cT rr ra rb rc z9.2.2.2.1 ++ w4 cI cC ox ox1 ox2 Xt ++ w2 cC oy oy1 Ln ++ w6 cI cC mh m1 m2 m3 m4 m5 m6 m7 m8 z9.2.2.2.2.1 ++ [(o, .inl (cJ, 1, .inr (.inl z9.2.2.2.2.2)))] ++ [(oq, .inl (cQ, 1, .inr (.inr (.inr (.inl Oq)))))]) H → va_D (fun q : Nat => s.heap.size ≤ q) (w5 x ot ou ov oh ox oy z9.1 ++ w3 cI ot ot1 ot2 z9.2.1 ++ w3 cI ou ou1 ou2 Tr ++ w3 cI ov ov1 ov2 Sn ++ w1 oh rr z9.2.2.1 ++ wR cI cT rr ra rb rc z9.2.2.2.1 ++ w4 cI cC ox ox1 ox2 Xt ++ w2 cC oy oy1 Ln ++ w6 cI cC mh m1 m2 m3 m4 m5 m6 m7 m8 z9.2.2.2.2.1 ++ [(o, .inl (cJ, 1, .inr (.inl z9.2.2.2.2.2)))] ++ [(oq, .inl (cQ, 1, .inr (.inr (.inr (.inl Oq)))))]) → va_S (fun q : Nat => s.heap.size ≤ q) s.heap H locs → lv_has ls 9 [(0, .ref b), (1, .ref x), (2, .ref mh), (3, .ref o), (4, .ref oq), (5, .int (x5 + 5))] → W p l e room_1 s m #[Value.ref b] below meth c H locs (cells + 2) (slots + 12) Q (F0 m 28 ls [])) :
    W p l e room_1 s m #[Value.ref b] below meth c H locs cells slots Q (F0 m 380 ls []) := by
  have hP : va_P D vwCl (w5 x ot ou ov oh ox oy S ++ w3 cI ot ot1 ot2 T ++ w3 cI ou ou1 ou2 Tr ++ w3 cI ov ov1 ov2 Sn ++ w1 oh rr Hs ++ wR cI cT rr ra rb rc G ++ w4 cI cC ox ox1 ox2 Xt ++ w2 cC oy oy1 Ln ++ w6 cI cC mh m1 m2 m3 m4 m5 m6 m7 m8 Mo ++ [(o, .inl (cJ, 1, .inr (.inl O)))] ++ [(oq, .inl (cQ, 1, .inr (.inr (.inr (.inl Oq)))))]) H := hP
  have hD : va_D (fun q : Nat => s.heap.size ≤ q) (w5 x ot ou ov oh ox oy S ++ w3 cI ot ot1 ot2 T ++ w3 cI ou ou1 ou2 Tr ++ w3 cI ov ov1 ov2 Sn ++ w1 oh rr Hs ++ wR cI cT rr ra rb rc G ++ w4 cI cC ox ox1 ox2 Xt ++ w2 cC oy oy1 Ln ++ w6 cI cC mh m1 m2 m3 m4 m5 m6 m7 m8 Mo ++ [(o, .inl (cJ, 1, .inr (.inl O)))] ++ [(oq, .inl (cQ, 1, .inr (.inr (.inr (.inl Oq)))))]) := hD
  have hK3 := hK.sub (tys' := TY cI cC cT) [0, 1, 2] rfl
  unfold gM_2 at hg
  refine lv_aload_n hx hb dL_law_380 rfl (lv_at hl 1 rfl) ?_
  refine lv_aload_n hx hb dL_law_381 rfl (lv_at hl 0 rfl) ?_
  refine lv_iload hx hb dL_law_382 (lv_at hl 5 rfl) ?_
  refine lv_iconst (v := 1) hx hb dL_law_384 (by decide) ?_
  refine lv_iadd hx hb dL_law_385 ?_
  obtain ⟨o1, hg⟩ := hg
  refine va_sld hx hb hX hbl hbA hS o1 dL_law_386 ?_
  refine lv_aload_n hx hb dL_law_387 rfl (lv_at hl 3 rfl) ?_
  obtain ⟨n1, en1⟩ : ∃ z9, z9 = (fL_cat S T Hs G O (xs ((x5 + 1)).toNatClampNeg)) := ⟨_, rfl⟩
  try rw [← en1] at hg
  obtain ⟨o2, hg⟩ := hg
  have k9 := (kL_cat l D cI cC cT cJ cQ x ot ou ov oh ox oy ot1 ot2 rr o ra rb rc S T Hs G O (xs ((x5 + 1)).toNatClampNeg) hst hn o2)
  rw [← en1] at k9
  refine fLq (As := [.ref x, .int (xs ((x5 + 1)).toNatClampNeg), .ref o]) (rest := []) ⟨hx, hb, hml, hown, hts⟩ k9 (vx_cwSW (hh := [(0, 9, 12, 13), (0, 9, 15, 15)]) 3 hts gL_law_L_cat rfl rfl rfl (by decide +kernel) ⟨Nat.le_of_ble_eq_true rfl, Nat.le_of_ble_eq_true rfl⟩) hP hK hD hS hXE hXN (w3 cI ou ou1 ou2 Tr ++ w3 cI ov ov1 ov2 Sn ++ w4 cI cC ox ox1 ox2 Xt ++ w2 cC oy oy1 Ln ++ w6 cI cC mh m1 m2 m3 m4 m5 m6 m7 m8 Mo ++ [(oq, .inl (cQ, 1, .inr (.inr (.inr (.inl Oq)))))] : va_W) (pmI (fun a => by simp only [cntW_app, cntW_nil] <;> omega)) (w5 x ot ou ov oh ox oy n1.2.1 ++ w3 cI ot ot1 ot2 n1.2.2.1 ++ w3 cI ou ou1 ou2 Tr ++ w3 cI ov ov1 ov2 Sn ++ w1 oh rr n1.2.2.2.1 ++ wR cI cT rr ra rb rc n1.2.2.2.2.1 ++ w4 cI cC ox ox1 ox2 Xt ++ w2 cC oy oy1 Ln ++ w6 cI cC mh m1 m2 m3 m4 m5 m6 m7 m8 Mo ++ [(o, .inl (cJ, 1, .inr (.inl n1.2.2.2.2.2)))] ++ [(oq, .inl (cQ, 1, .inr (.inr (.inr (.inl Oq)))))]) (pmI (fun a => by simp only [cntW_app, cntW_nil] <;> omega)) rfl rfl hl.1 rfl (Nat.le_of_ble_eq_true rfl) ⟨Nat.le_trans (Nat.add_le_add_left (by decide) _) hcr.1, Nat.le_trans (Nat.add_le_add_left (by decide) _) hcr.2⟩ dL_law_388 (fun H locs hP hD hS => ?_)
  refine lv_istore (lv' := [(6, .int n1.1), (0, .ref b), (1, .ref x), (2, .ref mh), (3, .ref o), (4, .ref oq), (5, .int x5)]) hx hb dL_law_391 hl (by decide) rfl (fun ls hl => ?_)
  refine lv_aload_n hx hb dL_law_393 rfl (lv_at hl 3 rfl) ?_
  refine lv_aload_n hx hb dL_law_394 rfl (lv_at hl 1 rfl) ?_
  refine lv_iload hx hb dL_law_395 (lv_at hl 6 rfl) ?_
  refine lv_iconst (v := 1) hx hb dL_law_397 (by decide) ?_
  refine lv_iadd hx hb dL_law_398 ?_
  obtain ⟨o3, hg⟩ := hg
  refine va_sld hx hb hX hbl hbA hS o3 dL_law_399 ?_
  obtain ⟨n2, en2⟩ : ∃ z9, z9 = (fX6_cat Mo (xs ((x5 + 1)).toNatClampNeg)) := ⟨_, rfl⟩
  try rw [← en2] at hg
  obtain ⟨o4, hg⟩ := hg
  have k9 := (kX6_cat l D cI cC cT mh m1 m2 m3 m4 m5 m6 m7 m8 Mo (xs ((x5 + 1)).toNatClampNeg) o4)
  rw [← en2] at k9
  refine fUq (As := [.int (xs ((x5 + 1)).toNatClampNeg)]) (rest := []) (st' := [.int n2.1]) ⟨hx, hb, hml, hown, hts⟩ k9 (cwV 1 hts gL_law_X6_cat rfl rfl rfl (by decide +kernel) ⟨Nat.le_of_ble_eq_true rfl, Nat.le_of_ble_eq_true rfl⟩) hP hK3 hD hS (w5 x ot ou ov oh ox oy n1.2.1 ++ w3 cI ot ot1 ot2 n1.2.2.1 ++ w3 cI ou ou1 ou2 Tr ++ w3 cI ov ov1 ov2 Sn ++ w1 oh rr n1.2.2.2.1 ++ wR cI cT rr ra rb rc n1.2.2.2.2.1 ++ w4 cI cC ox ox1 ox2 Xt ++ w2 cC oy oy1 Ln ++ [(o, .inl (cJ, 1, .inr (.inl n1.2.2.2.2.2)))] ++ [(oq, .inl (cQ, 1, .inr (.inr (.inr (.inl Oq)))))] : va_W) (pmI (fun a => by simp only [cntW_app, cntW_nil] <;> omega)) (w5 x ot ou ov oh ox oy n1.2.1 ++ w3 cI ot ot1 ot2 n1.2.2.1 ++ w3 cI ou ou1 ou2 Tr ++ w3 cI ov ov1 ov2 Sn ++ w1 oh rr n1.2.2.2.1 ++ wR cI cT rr ra rb rc n1.2.2.2.2.1 ++ w4 cI cC ox ox1 ox2 Xt ++ w2 cC oy oy1 Ln ++ w6 cI cC mh m1 m2 m3 m4 m5 m6 m7 m8 n2.2 ++ [(o, .inl (cJ, 1, .inr (.inl n1.2.2.2.2.2)))] ++ [(oq, .inl (cQ, 1, .inr (.inr (.inr (.inl Oq)))))]) (pmI (fun a => by simp only [cntW_app, cntW_nil] <;> omega)) rfl 44 (ci := 7) rfl rfl rfl rfl hl.1 rfl rfl (Nat.le_of_ble_eq_true rfl) ⟨Nat.le_trans (Nat.add_le_add_left (by decide) _) hcr.1, Nat.le_trans (Nat.add_le_add_left (by decide) _) hcr.2⟩ dL_law_400 (fun H locs hP hD hS => ?_)
  refine lv_istore (lv' := [(7, .int n2.1), (6, .int n1.1), (0, .ref b), (1, .ref x), (2, .ref mh), (3, .ref o), (4, .ref oq), (5, .int x5)]) hx hb dL_law_403 hl (by decide) rfl (fun ls hl => ?_)
  refine lv_aload_n hx hb dL_law_405 rfl (lv_at hl 4 rfl) ?_
  refine fRq (As := []) (rest := []) (st' := [.int (fX6_thrown n2.2)]) ⟨hx, hb, hml, hown, hts⟩ (kX6_thrown l D cI cC cT mh m1 m2 m3 m4 m5 m6 m7 m8 n2.2) (cwV 0 hts gL_law_X6_thrown rfl rfl rfl (by decide +kernel) ⟨Nat.le_of_ble_eq_true rfl, Nat.le_of_ble_eq_true rfl⟩) hP hK3 (w5 x ot ou ov oh ox oy n1.2.1 ++ w3 cI ot ot1 ot2 n1.2.2.1 ++ w3 cI ou ou1 ou2 Tr ++ w3 cI ov ov1 ov2 Sn ++ w1 oh rr n1.2.2.2.1 ++ wR cI cT rr ra rb rc n1.2.2.2.2.1 ++ w4 cI cC ox ox1 ox2 Xt ++ w2 cC oy oy1 Ln ++ [(o, .inl (cJ, 1, .inr (.inl n1.2.2.2.2.2)))] ++ [(oq, .inl (cQ, 1, .inr (.inr (.inr (.inl Oq)))))] : va_W) (pmI (fun a => by simp only [cntW_app, cntW_nil] <;> omega)) 44 (ci := 7) rfl rfl rfl rfl hl.1 rfl rfl (Nat.le_of_ble_eq_true rfl) ⟨Nat.le_trans (Nat.add_le_add_left (by decide) _) hcr.1, Nat.le_trans (Nat.add_le_add_left (by decide) _) hcr.2⟩ dL_law_406 ?_
  refine lv_iload hx hb dL_law_409 (lv_at hl 1 rfl) ?_
  obtain ⟨o5, hg⟩ := hg
  refine lv_icmp_eq (tgt := 416) hx hb dL_law_411 (by decide) (fun c_411 => ?_) (fun c_411 => absurd o5 c_411)
  refine lv_iload hx hb dL_law_416 (lv_at hl 1 rfl) ?_
  refine lv_if_ne (tgt := 433) hx hb dL_law_418 (by decide) (fun c_418_1 => ?_) (fun c_418_1 => ?_)
  · rw [if_neg c_418_1] at hg
    refine lv_goto (tgt := 2110) hx hb dL_law_433 (by decide) ?_
    refine lv_iinc (v := (x5 + 5)) (lv' := [(5, .int (x5 + 5)), (7, .int n2.1), (6, .int n1.1), (0, .ref b), (1, .ref x), (2, .ref mh), (3, .ref o), (4, .ref oq)]) hx hb dL_law_2110 hl (k := 7) rfl rfl (by decide) rfl (fun ls hl => ?_)
    refine lv_goto (tgt := 28) hx hb dL_law_2113 (by decide) ?_
    have e9 : fM_2 S T Tr Sn Hs G Xt Ln Mo O Oq xs L x5 = (n1.2.1, n1.2.2.1, n1.2.2.2.1, n1.2.2.2.2.1, n2.2, n1.2.2.2.2.2) := by rw [fM_2, ← en1, ← en2, if_neg c_418_1]
    refine W.widen (k := cells + 2) (n := slots + 12) (by omega) (by omega) ?_
    exact kb (n1.2.1, n1.2.2.1, n1.2.2.2.1, n1.2.2.2.2.1, n2.2, n1.2.2.2.2.2) e9.symm H locs ls hP hD hS (lv_sub hl [3, 4, 5, 6, 7, 0] rfl)
  · rw [if_pos c_418_1] at hg
    refine lv_aload_n hx hb dL_law_421 rfl (lv_at hl 5 rfl) ?_
    refine lv_iconst (v := 0) hx hb dL_law_422 (by decide) ?_
    obtain ⟨o6, hg⟩ := hg
    refine va_lald hx hb hK hP 53 3 rfl rfl o6 dL_law_423 ?_
    refine lv_iload hx hb dL_law_424 (lv_at hl 0 rfl) ?_
    refine lv_i2l (v := (n2.1.toInt64)) hx hb dL_law_426 rfl ?_
    refine W.lcmp hx hb dL_law_427 ?_
    obtain ⟨o7, hg⟩ := hg
    refine lv_if_eq (tgt := 433) hx hb dL_law_428 (by decide) (fun c_428 => ?_) (fun c_428 => absurd o7 c_428)
    refine lv_goto (tgt := 2110) hx hb dL_law_433 (by decide) ?_
    refine lv_iinc (v := (x5 + 5)) (lv' := [(5, .int (x5 + 5)), (7, .int n2.1), (6, .int n1.1), (0, .ref b), (1, .ref x), (2, .ref mh), (3, .ref o), (4, .ref oq)]) hx hb dL_law_2110 hl (k := 7) rfl rfl (by decide) rfl (fun ls hl => ?_)
    refine lv_goto (tgt := 28) hx hb dL_law_2113 (by decide) ?_
    have e9 : fM_2 S T Tr Sn Hs G Xt Ln Mo O Oq xs L x5 = (n1.2.1, n1.2.2.1, n1.2.2.2.1, n1.2.2.2.2.1, n2.2, n1.2.2.2.2.2) := by rw [fM_2, ← en1, ← en2, if_pos c_418_1]
    refine W.widen (k := cells + 2) (n := slots + 12) (by omega) (by omega) ?_
    exact kb (n1.2.1, n1.2.2.1, n1.2.2.2.1, n1.2.2.2.2.1, n2.2, n1.2.2.2.2.2) e9.symm H locs ls hP hD hS (lv_sub hl [3, 4, 5, 6, 7, 0] rfl)
def fM_3 (S : CV) (T : TV) (Tr : TV) (Sn : TV) (Hs : HV) (G : (Nat → TV)) (Xt : XV) (Ln : LV) (Mo : SV) (O : (Nat → Int64)) (Oq : (Nat → UInt64)) (xs : Nat → Int32) (L : Nat) (x5 : Int32) : (CV × TV × HV × (Nat → TV) × SV × (Nat → Int64)) := (if (fL_sit S T Hs G O (xs ((x5 + 1)).toNatClampNeg) (xs ((x5 + 2)).toNatClampNeg)).1 = 0 then ((fL_sit S T Hs G O (xs ((x5 + 1)).toNatClampNeg) (xs ((x5 + 2)).toNatClampNeg)).2.1, (fL_sit S T Hs G O (xs ((x5 + 1)).toNatClampNeg) (xs ((x5 + 2)).toNatClampNeg)).2.2.1, (fL_sit S T Hs G O (xs ((x5 + 1)).toNatClampNeg) (xs ((x5 + 2)).toNatClampNeg)).2.2.2.1, (fL_sit S T Hs G O (xs ((x5 + 1)).toNatClampNeg) (xs ((x5 + 2)).toNatClampNeg)).2.2.2.2.1, (fX6_sit Mo (xs ((x5 + 1)).toNatClampNeg) (xs ((x5 + 2)).toNatClampNeg)).2, (fL_sit S T Hs G O (xs ((x5 + 1)).toNatClampNeg) (xs ((x5 + 2)).toNatClampNeg)).2.2.2.2.2) else ((fL_sit S T Hs G O (xs ((x5 + 1)).toNatClampNeg) (xs ((x5 + 2)).toNatClampNeg)).2.1, (fL_sit S T Hs G O (xs ((x5 + 1)).toNatClampNeg) (xs ((x5 + 2)).toNatClampNeg)).2.2.1, (fL_sit S T Hs G O (xs ((x5 + 1)).toNatClampNeg) (xs ((x5 + 2)).toNatClampNeg)).2.2.2.1, (fL_sit S T Hs G O (xs ((x5 + 1)).toNatClampNeg) (xs ((x5 + 2)).toNatClampNeg)).2.2.2.2.1, (fX6_sit Mo (xs ((x5 + 1)).toNatClampNeg) (xs ((x5 + 2)).toNatClampNeg)).2, (fL_sit S T Hs G O (xs ((x5 + 1)).toNatClampNeg) (xs ((x5 + 2)).toNatClampNeg)).2.2.2.2.2))
def gM_3 (S : CV) (T : TV) (Tr : TV) (Sn : TV) (Hs : HV) (G : (Nat → TV)) (Xt : XV) (Ln : LV) (Mo : SV) (O : (Nat → Int64)) (Oq : (Nat → UInt64)) (xs : Nat → Int32) (L : Nat) (x5 : Int32) : Prop := ((vp_in (x5 + 1) L) ∧ (vp_in (x5 + 2) L) ∧ (gL_sit S T Hs G O (xs ((x5 + 1)).toNatClampNeg) (xs ((x5 + 2)).toNatClampNeg)) ∧ (vp_in (x5 + 1) L) ∧ (vp_in (x5 + 2) L) ∧ (gX6_sit Mo (xs ((x5 + 1)).toNatClampNeg) (xs ((x5 + 2)).toNatClampNeg)) ∧ ((fX6_thrown (fX6_sit Mo (xs ((x5 + 1)).toNatClampNeg) (xs ((x5 + 2)).toNatClampNeg)).2) = (fL_sit S T Hs G O (xs ((x5 + 1)).toNatClampNeg) (xs ((x5 + 2)).toNatClampNeg)).1) ∧ (if (fL_sit S T Hs G O (xs ((x5 + 1)).toNatClampNeg) (xs ((x5 + 2)).toNatClampNeg)).1 = 0 then ((vp_in 0 1) ∧ ((lg_cmp ((fL_sit S T Hs G O (xs ((x5 + 1)).toNatClampNeg) (xs ((x5 + 2)).toNatClampNeg)).2.2.2.2.2 (0 : Int32).toNatClampNeg) ((fX6_sit Mo (xs ((x5 + 1)).toNatClampNeg) (xs ((x5 + 2)).toNatClampNeg)).1.toInt64)) = 0) ∧ True) else True))
set_option maxHeartbeats 8000000 in
set_option maxRecDepth 100000 in
theorem cM_3 {p : Program} {e : Env} {s : State} {m : MethodId} {below : List Frame} {meth : Method} {c : Code} {Q : State → Prop} (l : Launch) (D : va_G) (cI cC cT cJ cQ : ClassId) (b x ot ou ov oh ox oy ot1 ot2 ou1 ou2 ov1 ov2 rr ox1 ox2 oy1 mh m1 m2 m3 m4 m5 m6 m7 m8 o oq : Nat) (ra rb rc : Nat → Nat) (S : CV) (T : TV) (Tr : TV) (Sn : TV) (Hs : HV) (G : (Nat → TV)) (Xt : XV) (Ln : LV) (Mo : SV) (O : (Nat → Int64)) (Oq : (Nat → UInt64)) (xs : Nat → Int32) (L : Nat) (x5 : Int32) (hst : l.stackTraces = false) (hn : ∃ j : Nat, j < 9 ∧ Hs.1 = nI j) (hc : ∀ i, narrow .char (.int (Ln.1 i)) = .int (Ln.1 i)) (hx : p.tables.exec = Jvm.exec) (hb : c.code = cL_law) (hml : c.maxLocals = 9) (hown : s.vm.findClass RL = some m.cls) (hts : ∀ w ∈ wsL_law, w.before #[Value.ref b] s = true) (hK : va_K D vwCl (TY5 cI cC cT cJ cQ) s) (hX : va_X b L xs s s.heap) (hbl : b < s.heap.size) (hbA : ¬ (fun q : Nat => s.heap.size ≤ q) b) (hXE : xE (fun q : Nat => s.heap.size ≤ q) s) (hXN : xN s) (H : Heap) (locs : List Loc) (ls : Array Slot) (cells slots : Nat) (hcr : cells + 2 ≤ room_1.cells ∧ slots + 12 ≤ room_1.slots) (hP : va_P D vwCl (w5 x ot ou ov oh ox oy S ++ w3 cI ot ot1 ot2 T ++ w3 cI ou ou1 ou2 Tr ++ w3 cI ov ov1 ov2 Sn ++ w1 oh rr Hs ++ wR cI cT rr ra rb rc G ++ w4 cI cC ox ox1 ox2 Xt ++ w2 cC oy oy1 Ln ++ w6 cI cC mh m1 m2 m3 m4 m5 m6 m7 m8 Mo ++ [(o, .inl (cJ, 1, .inr (.inl O)))] ++ [(oq, .inl (cQ, 1, .inr (.inr (.inr (.inl Oq)))))]) H) (hD : va_D (fun q : Nat => s.heap.size ≤ q) (w5 x ot ou ov oh ox oy S ++ w3 cI ot ot1 ot2 T ++ w3 cI ou ou1 ou2 Tr ++ w3 cI ov ov1 ov2 Sn ++ w1 oh rr Hs ++ wR cI cT rr ra rb rc G ++ w4 cI cC ox ox1 ox2 Xt ++ w2 cC oy oy1 Ln ++ w6 cI cC mh m1 m2 m3 m4 m5 m6 m7 m8 Mo ++ [(o, .inl (cJ, 1, .inr (.inl O)))] ++ [(oq, .inl (cQ, 1, .inr (.inr (.inr (.inl Oq)))))])) (hS : va_S (fun q : Nat => s.heap.size ≤ q) s.heap H locs) (hl : lv_has ls 9 [(0, .ref b), (1, .ref x), (2, .ref mh), (3, .ref o), (4, .ref oq), (5, .int x5)]) (hg : gM_3 S T Tr Sn Hs G Xt Ln Mo O Oq xs L x5) (kb : ∀ z9 : (CV × TV × HV × (Nat → TV) × SV × (Nat → Int64)), z9 = fM_3 S T Tr Sn Hs G Xt Ln Mo O Oq xs L x5 → ∀ (H : Heap) (locs : List Loc) (ls : Array Slot), va_P D vwCl (w5 x ot ou ov oh ox oy z9.1 ++ w3 cI ot ot1 ot2 z9.2.1 ++ w3 cI ou ou1 ou2 Tr ++ w3 cI ov ov1 ov2 Sn ++ w1 oh rr z9.2.2.1 ++ wR cI cT rr ra rb rc z9.2.2.2.1 ++ w4 cI cC ox ox1 ox2 Xt ++ w2 cC oy oy1 Ln ++ w6 cI cC mh m1 m2 m3 m4 m5 m6 m7 m8 z9.2.2.2.2.1 ++ [(o, .inl (cJ, 1, .inr (.inl z9.2.2.2.2.2)))] ++ [(oq, .inl (cQ, 1, .inr (.inr (.inr (.inl Oq)))))]) H → va_D (fun q : Nat => s.heap.size ≤ q) (w5 x ot ou ov oh ox oy z9.1 ++ w3 cI ot ot1 ot2 z9.2.1 ++ w3 cI ou ou1 ou2 Tr ++ w3 cI ov ov1 ov2 Sn ++ w1 oh rr z9.2.2.1 ++ wR cI cT rr ra rb rc z9.2.2.2.1 ++ w4 cI cC ox ox1 ox2 Xt ++ w2 cC oy oy1 Ln ++ w6 cI cC mh m1 m2 m3 m4 m5 m6 m7 m8 z9.2.2.2.2.1 ++ [(o, .inl (cJ, 1, .inr (.inl z9.2.2.2.2.2)))] ++ [(oq, .inl (cQ, 1, .inr (.inr (.inr (.inl Oq)))))]) → va_S (fun q : Nat => s.heap.size ≤ q) s.heap H locs → lv_has ls 9 [(0, .ref b), (1, .ref x), (2, .ref mh), (3, .ref o), (4, .ref oq), (5, .int (x5 + 5))] → W p l e room_1 s m #[Value.ref b] below meth c H locs (cells + 2) (slots + 12) Q (F0 m 28 ls [])) :
    W p l e room_1 s m #[Value.ref b] below meth c H locs cells slots Q (F0 m 436 ls []) := by
  have hP : va_P D vwCl (w5 x ot ou ov oh ox oy S ++ w3 cI ot ot1 ot2 T ++ w3 cI ou ou1 ou2 Tr ++ w3 cI ov ov1 ov2 Sn ++ w1 oh rr Hs ++ wR cI cT rr ra rb rc G ++ w4 cI cC ox ox1 ox2 Xt ++ w2 cC oy oy1 Ln ++ w6 cI cC mh m1 m2 m3 m4 m5 m6 m7 m8 Mo ++ [(o, .inl (cJ, 1, .inr (.inl O)))] ++ [(oq, .inl (cQ, 1, .inr (.inr (.inr (.inl Oq)))))]) H := hP
  have hD : va_D (fun q : Nat => s.heap.size ≤ q) (w5 x ot ou ov oh ox oy S ++ w3 cI ot ot1 ot2 T ++ w3 cI ou ou1 ou2 Tr ++ w3 cI ov ov1 ov2 Sn ++ w1 oh rr Hs ++ wR cI cT rr ra rb rc G ++ w4 cI cC ox ox1 ox2 Xt ++ w2 cC oy oy1 Ln ++ w6 cI cC mh m1 m2 m3 m4 m5 m6 m7 m8 Mo ++ [(o, .inl (cJ, 1, .inr (.inl O)))] ++ [(oq, .inl (cQ, 1, .inr (.inr (.inr (.inl Oq)))))]) := hD
  have hK3 := hK.sub (tys' := TY cI cC cT) [0, 1, 2] rfl
  unfold gM_3 at hg
  refine lv_aload_n hx hb dL_law_436 rfl (lv_at hl 1 rfl) ?_
  refine lv_aload_n hx hb dL_law_437 rfl (lv_at hl 0 rfl) ?_
  refine lv_iload hx hb dL_law_438 (lv_at hl 5 rfl) ?_
  refine lv_iconst (v := 1) hx hb dL_law_440 (by decide) ?_
  refine lv_iadd hx hb dL_law_441 ?_
  obtain ⟨o1, hg⟩ := hg
  refine va_sld hx hb hX hbl hbA hS o1 dL_law_442 ?_
  refine lv_aload_n hx hb dL_law_443 rfl (lv_at hl 0 rfl) ?_
  refine lv_iload hx hb dL_law_444 (lv_at hl 5 rfl) ?_
  refine lv_iconst (v := 2) hx hb dL_law_446 (by decide) ?_
  refine lv_iadd hx hb dL_law_447 ?_
  obtain ⟨o2, hg⟩ := hg
  refine va_sld hx hb hX hbl hbA hS o2 dL_law_448 ?_
  refine lv_aload_n hx hb dL_law_449 rfl (lv_at hl 3 rfl) ?_
  obtain ⟨n1, en1⟩ : ∃ z9, z9 = (fL_sit S T Hs G O (xs ((x5 + 1)).toNatClampNeg) (xs ((x5 + 2)).toNatClampNeg)) := ⟨_, rfl⟩
  try rw [← en1] at hg
  obtain ⟨o3, hg⟩ := hg
  have k9 := (kL_sit l D cI cC cT cJ cQ x ot ou ov oh ox oy ot1 ot2 rr o ra rb rc S T Hs G O (xs ((x5 + 1)).toNatClampNeg) (xs ((x5 + 2)).toNatClampNeg) hst hn o3)
  rw [← en1] at k9
  refine fLq (As := [.ref x, .int (xs ((x5 + 1)).toNatClampNeg), .int (xs ((x5 + 2)).toNatClampNeg), .ref o]) (rest := []) ⟨hx, hb, hml, hown, hts⟩ k9 (vx_cwSW (hh := [(0, 10, 13, 28), (0, 10, 17, 15)]) 4 hts gL_law_L_sit rfl rfl rfl (by decide +kernel) ⟨Nat.le_of_ble_eq_true rfl, Nat.le_of_ble_eq_true rfl⟩) hP hK hD hS hXE hXN (w3 cI ou ou1 ou2 Tr ++ w3 cI ov ov1 ov2 Sn ++ w4 cI cC ox ox1 ox2 Xt ++ w2 cC oy oy1 Ln ++ w6 cI cC mh m1 m2 m3 m4 m5 m6 m7 m8 Mo ++ [(oq, .inl (cQ, 1, .inr (.inr (.inr (.inl Oq)))))] : va_W) (pmI (fun a => by simp only [cntW_app, cntW_nil] <;> omega)) (w5 x ot ou ov oh ox oy n1.2.1 ++ w3 cI ot ot1 ot2 n1.2.2.1 ++ w3 cI ou ou1 ou2 Tr ++ w3 cI ov ov1 ov2 Sn ++ w1 oh rr n1.2.2.2.1 ++ wR cI cT rr ra rb rc n1.2.2.2.2.1 ++ w4 cI cC ox ox1 ox2 Xt ++ w2 cC oy oy1 Ln ++ w6 cI cC mh m1 m2 m3 m4 m5 m6 m7 m8 Mo ++ [(o, .inl (cJ, 1, .inr (.inl n1.2.2.2.2.2)))] ++ [(oq, .inl (cQ, 1, .inr (.inr (.inr (.inl Oq)))))]) (pmI (fun a => by simp only [cntW_app, cntW_nil] <;> omega)) rfl rfl hl.1 rfl (Nat.le_of_ble_eq_true rfl) ⟨Nat.le_trans (Nat.add_le_add_left (by decide) _) hcr.1, Nat.le_trans (Nat.add_le_add_left (by decide) _) hcr.2⟩ dL_law_450 (fun H locs hP hD hS => ?_)
  refine lv_istore (lv' := [(6, .int n1.1), (0, .ref b), (1, .ref x), (2, .ref mh), (3, .ref o), (4, .ref oq), (5, .int x5)]) hx hb dL_law_453 hl (by decide) rfl (fun ls hl => ?_)
  refine lv_aload_n hx hb dL_law_455 rfl (lv_at hl 3 rfl) ?_
  refine lv_aload_n hx hb dL_law_456 rfl (lv_at hl 1 rfl) ?_
  refine lv_iload hx hb dL_law_457 (lv_at hl 6 rfl) ?_
  refine lv_iconst (v := 1) hx hb dL_law_459 (by decide) ?_
  refine lv_iadd hx hb dL_law_460 ?_
  obtain ⟨o4, hg⟩ := hg
  refine va_sld hx hb hX hbl hbA hS o4 dL_law_461 ?_
  refine lv_aload_n hx hb dL_law_462 rfl (lv_at hl 1 rfl) ?_
  refine lv_iload hx hb dL_law_463 (lv_at hl 6 rfl) ?_
  refine lv_iconst (v := 2) hx hb dL_law_465 (by decide) ?_
  refine lv_iadd hx hb dL_law_466 ?_
  obtain ⟨o5, hg⟩ := hg
  refine va_sld hx hb hX hbl hbA hS o5 dL_law_467 ?_
  obtain ⟨n2, en2⟩ : ∃ z9, z9 = (fX6_sit Mo (xs ((x5 + 1)).toNatClampNeg) (xs ((x5 + 2)).toNatClampNeg)) := ⟨_, rfl⟩
  try rw [← en2] at hg
  obtain ⟨o6, hg⟩ := hg
  have k9 := (kX6_sit l D cI cC cT mh m1 m2 m3 m4 m5 m6 m7 m8 Mo (xs ((x5 + 1)).toNatClampNeg) (xs ((x5 + 2)).toNatClampNeg) o6)
  rw [← en2] at k9
  refine fUq (As := [.int (xs ((x5 + 1)).toNatClampNeg), .int (xs ((x5 + 2)).toNatClampNeg)]) (rest := []) (st' := [.int n2.1]) ⟨hx, hb, hml, hown, hts⟩ k9 (cwV 2 hts gL_law_X6_sit rfl rfl rfl (by decide +kernel) ⟨Nat.le_of_ble_eq_true rfl, Nat.le_of_ble_eq_true rfl⟩) hP hK3 hD hS (w5 x ot ou ov oh ox oy n1.2.1 ++ w3 cI ot ot1 ot2 n1.2.2.1 ++ w3 cI ou ou1 ou2 Tr ++ w3 cI ov ov1 ov2 Sn ++ w1 oh rr n1.2.2.2.1 ++ wR cI cT rr ra rb rc n1.2.2.2.2.1 ++ w4 cI cC ox ox1 ox2 Xt ++ w2 cC oy oy1 Ln ++ [(o, .inl (cJ, 1, .inr (.inl n1.2.2.2.2.2)))] ++ [(oq, .inl (cQ, 1, .inr (.inr (.inr (.inl Oq)))))] : va_W) (pmI (fun a => by simp only [cntW_app, cntW_nil] <;> omega)) (w5 x ot ou ov oh ox oy n1.2.1 ++ w3 cI ot ot1 ot2 n1.2.2.1 ++ w3 cI ou ou1 ou2 Tr ++ w3 cI ov ov1 ov2 Sn ++ w1 oh rr n1.2.2.2.1 ++ wR cI cT rr ra rb rc n1.2.2.2.2.1 ++ w4 cI cC ox ox1 ox2 Xt ++ w2 cC oy oy1 Ln ++ w6 cI cC mh m1 m2 m3 m4 m5 m6 m7 m8 n2.2 ++ [(o, .inl (cJ, 1, .inr (.inl n1.2.2.2.2.2)))] ++ [(oq, .inl (cQ, 1, .inr (.inr (.inr (.inl Oq)))))]) (pmI (fun a => by simp only [cntW_app, cntW_nil] <;> omega)) rfl 44 (ci := 7) rfl rfl rfl rfl hl.1 rfl rfl (Nat.le_of_ble_eq_true rfl) ⟨Nat.le_trans (Nat.add_le_add_left (by decide) _) hcr.1, Nat.le_trans (Nat.add_le_add_left (by decide) _) hcr.2⟩ dL_law_468 (fun H locs hP hD hS => ?_)
  refine lv_istore (lv' := [(7, .int n2.1), (6, .int n1.1), (0, .ref b), (1, .ref x), (2, .ref mh), (3, .ref o), (4, .ref oq), (5, .int x5)]) hx hb dL_law_471 hl (by decide) rfl (fun ls hl => ?_)
  refine lv_aload_n hx hb dL_law_473 rfl (lv_at hl 4 rfl) ?_
  refine fRq (As := []) (rest := []) (st' := [.int (fX6_thrown n2.2)]) ⟨hx, hb, hml, hown, hts⟩ (kX6_thrown l D cI cC cT mh m1 m2 m3 m4 m5 m6 m7 m8 n2.2) (cwV 0 hts gL_law_X6_thrown rfl rfl rfl (by decide +kernel) ⟨Nat.le_of_ble_eq_true rfl, Nat.le_of_ble_eq_true rfl⟩) hP hK3 (w5 x ot ou ov oh ox oy n1.2.1 ++ w3 cI ot ot1 ot2 n1.2.2.1 ++ w3 cI ou ou1 ou2 Tr ++ w3 cI ov ov1 ov2 Sn ++ w1 oh rr n1.2.2.2.1 ++ wR cI cT rr ra rb rc n1.2.2.2.2.1 ++ w4 cI cC ox ox1 ox2 Xt ++ w2 cC oy oy1 Ln ++ [(o, .inl (cJ, 1, .inr (.inl n1.2.2.2.2.2)))] ++ [(oq, .inl (cQ, 1, .inr (.inr (.inr (.inl Oq)))))] : va_W) (pmI (fun a => by simp only [cntW_app, cntW_nil] <;> omega)) 44 (ci := 7) rfl rfl rfl rfl hl.1 rfl rfl (Nat.le_of_ble_eq_true rfl) ⟨Nat.le_trans (Nat.add_le_add_left (by decide) _) hcr.1, Nat.le_trans (Nat.add_le_add_left (by decide) _) hcr.2⟩ dL_law_474 ?_
  refine lv_iload hx hb dL_law_477 (lv_at hl 1 rfl) ?_
  obtain ⟨o7, hg⟩ := hg
  refine lv_icmp_eq (tgt := 484) hx hb dL_law_479 (by decide) (fun c_479 => ?_) (fun c_479 => absurd o7 c_479)
  refine lv_iload hx hb dL_law_484 (lv_at hl 1 rfl) ?_
  refine lv_if_ne (tgt := 501) hx hb dL_law_486 (by decide) (fun c_486_1 => ?_) (fun c_486_1 => ?_)
  · rw [if_neg c_486_1] at hg
    refine lv_goto (tgt := 2110) hx hb dL_law_501 (by decide) ?_
    refine lv_iinc (v := (x5 + 5)) (lv' := [(5, .int (x5 + 5)), (7, .int n2.1), (6, .int n1.1), (0, .ref b), (1, .ref x), (2, .ref mh), (3, .ref o), (4, .ref oq)]) hx hb dL_law_2110 hl (k := 7) rfl rfl (by decide) rfl (fun ls hl => ?_)
    refine lv_goto (tgt := 28) hx hb dL_law_2113 (by decide) ?_
    have e9 : fM_3 S T Tr Sn Hs G Xt Ln Mo O Oq xs L x5 = (n1.2.1, n1.2.2.1, n1.2.2.2.1, n1.2.2.2.2.1, n2.2, n1.2.2.2.2.2) := by rw [fM_3, ← en1, ← en2, if_neg c_486_1]
    refine W.widen (k := cells + 2) (n := slots + 12) (by omega) (by omega) ?_
    exact kb (n1.2.1, n1.2.2.1, n1.2.2.2.1, n1.2.2.2.2.1, n2.2, n1.2.2.2.2.2) e9.symm H locs ls hP hD hS (lv_sub hl [3, 4, 5, 6, 7, 0] rfl)
  · rw [if_pos c_486_1] at hg
    refine lv_aload_n hx hb dL_law_489 rfl (lv_at hl 5 rfl) ?_
    refine lv_iconst (v := 0) hx hb dL_law_490 (by decide) ?_
    obtain ⟨o8, hg⟩ := hg
    refine va_lald hx hb hK hP 53 3 rfl rfl o8 dL_law_491 ?_
    refine lv_iload hx hb dL_law_492 (lv_at hl 0 rfl) ?_
    refine lv_i2l (v := (n2.1.toInt64)) hx hb dL_law_494 rfl ?_
    refine W.lcmp hx hb dL_law_495 ?_
    obtain ⟨o9, hg⟩ := hg
    refine lv_if_eq (tgt := 501) hx hb dL_law_496 (by decide) (fun c_496 => ?_) (fun c_496 => absurd o9 c_496)
    refine lv_goto (tgt := 2110) hx hb dL_law_501 (by decide) ?_
    refine lv_iinc (v := (x5 + 5)) (lv' := [(5, .int (x5 + 5)), (7, .int n2.1), (6, .int n1.1), (0, .ref b), (1, .ref x), (2, .ref mh), (3, .ref o), (4, .ref oq)]) hx hb dL_law_2110 hl (k := 7) rfl rfl (by decide) rfl (fun ls hl => ?_)
    refine lv_goto (tgt := 28) hx hb dL_law_2113 (by decide) ?_
    have e9 : fM_3 S T Tr Sn Hs G Xt Ln Mo O Oq xs L x5 = (n1.2.1, n1.2.2.1, n1.2.2.2.1, n1.2.2.2.2.1, n2.2, n1.2.2.2.2.2) := by rw [fM_3, ← en1, ← en2, if_pos c_486_1]
    refine W.widen (k := cells + 2) (n := slots + 12) (by omega) (by omega) ?_
    exact kb (n1.2.1, n1.2.2.1, n1.2.2.2.1, n1.2.2.2.2.1, n2.2, n1.2.2.2.2.2) e9.symm H locs ls hP hD hS (lv_sub hl [3, 4, 5, 6, 7, 0] rfl)
def fM_4 (S : CV) (T : TV) (Tr : TV) (Sn : TV) (Hs : HV) (G : (Nat → TV)) (Xt : XV) (Ln : LV) (Mo : SV) (O : (Nat → Int64)) (Oq : (Nat → UInt64)) (xs : Nat → Int32) (L : Nat) (x5 : Int32) : (CV × TV × HV × (Nat → TV) × SV × (Nat → Int64)) := (if (fL_getUp S T Hs G O (xs ((x5 + 1)).toNatClampNeg)).1 = 0 then ((fL_getUp S T Hs G O (xs ((x5 + 1)).toNatClampNeg)).2.1, (fL_getUp S T Hs G O (xs ((x5 + 1)).toNatClampNeg)).2.2.1, (fL_getUp S T Hs G O (xs ((x5 + 1)).toNatClampNeg)).2.2.2.1, (fL_getUp S T Hs G O (xs ((x5 + 1)).toNatClampNeg)).2.2.2.2.1, (fX6_getUp Mo (xs ((x5 + 1)).toNatClampNeg)).2, (fL_getUp S T Hs G O (xs ((x5 + 1)).toNatClampNeg)).2.2.2.2.2) else ((fL_getUp S T Hs G O (xs ((x5 + 1)).toNatClampNeg)).2.1, (fL_getUp S T Hs G O (xs ((x5 + 1)).toNatClampNeg)).2.2.1, (fL_getUp S T Hs G O (xs ((x5 + 1)).toNatClampNeg)).2.2.2.1, (fL_getUp S T Hs G O (xs ((x5 + 1)).toNatClampNeg)).2.2.2.2.1, (fX6_getUp Mo (xs ((x5 + 1)).toNatClampNeg)).2, (fL_getUp S T Hs G O (xs ((x5 + 1)).toNatClampNeg)).2.2.2.2.2))
def gM_4 (S : CV) (T : TV) (Tr : TV) (Sn : TV) (Hs : HV) (G : (Nat → TV)) (Xt : XV) (Ln : LV) (Mo : SV) (O : (Nat → Int64)) (Oq : (Nat → UInt64)) (xs : Nat → Int32) (L : Nat) (x5 : Int32) : Prop := ((vp_in (x5 + 1) L) ∧ (gL_getUp S T Hs G O (xs ((x5 + 1)).toNatClampNeg)) ∧ (vp_in (x5 + 1) L) ∧ (gX6_getUp Mo (xs ((x5 + 1)).toNatClampNeg)) ∧ ((fX6_thrown (fX6_getUp Mo (xs ((x5 + 1)).toNatClampNeg)).2) = (fL_getUp S T Hs G O (xs ((x5 + 1)).toNatClampNeg)).1) ∧ (if (fL_getUp S T Hs G O (xs ((x5 + 1)).toNatClampNeg)).1 = 0 then ((vp_in 0 1) ∧ ((lg_cmp ((fL_getUp S T Hs G O (xs ((x5 + 1)).toNatClampNeg)).2.2.2.2.2 (0 : Int32).toNatClampNeg) ((fX6_getUp Mo (xs ((x5 + 1)).toNatClampNeg)).1.toInt64)) = 0) ∧ True) else True))
set_option maxHeartbeats 8000000 in
set_option maxRecDepth 100000 in
theorem cM_4 {p : Program} {e : Env} {s : State} {m : MethodId} {below : List Frame} {meth : Method} {c : Code} {Q : State → Prop} (l : Launch) (D : va_G) (cI cC cT cJ cQ : ClassId) (b x ot ou ov oh ox oy ot1 ot2 ou1 ou2 ov1 ov2 rr ox1 ox2 oy1 mh m1 m2 m3 m4 m5 m6 m7 m8 o oq : Nat) (ra rb rc : Nat → Nat) (S : CV) (T : TV) (Tr : TV) (Sn : TV) (Hs : HV) (G : (Nat → TV)) (Xt : XV) (Ln : LV) (Mo : SV) (O : (Nat → Int64)) (Oq : (Nat → UInt64)) (xs : Nat → Int32) (L : Nat) (x5 : Int32) (hst : l.stackTraces = false) (hn : ∃ j : Nat, j < 9 ∧ Hs.1 = nI j) (hc : ∀ i, narrow .char (.int (Ln.1 i)) = .int (Ln.1 i)) (hx : p.tables.exec = Jvm.exec) (hb : c.code = cL_law) (hml : c.maxLocals = 9) (hown : s.vm.findClass RL = some m.cls) (hts : ∀ w ∈ wsL_law, w.before #[Value.ref b] s = true) (hK : va_K D vwCl (TY5 cI cC cT cJ cQ) s) (hX : va_X b L xs s s.heap) (hbl : b < s.heap.size) (hbA : ¬ (fun q : Nat => s.heap.size ≤ q) b) (hXE : xE (fun q : Nat => s.heap.size ≤ q) s) (hXN : xN s) (H : Heap) (locs : List Loc) (ls : Array Slot) (cells slots : Nat) (hcr : cells + 2 ≤ room_1.cells ∧ slots + 12 ≤ room_1.slots) (hP : va_P D vwCl (w5 x ot ou ov oh ox oy S ++ w3 cI ot ot1 ot2 T ++ w3 cI ou ou1 ou2 Tr ++ w3 cI ov ov1 ov2 Sn ++ w1 oh rr Hs ++ wR cI cT rr ra rb rc G ++ w4 cI cC ox ox1 ox2 Xt ++ w2 cC oy oy1 Ln ++ w6 cI cC mh m1 m2 m3 m4 m5 m6 m7 m8 Mo ++ [(o, .inl (cJ, 1, .inr (.inl O)))] ++ [(oq, .inl (cQ, 1, .inr (.inr (.inr (.inl Oq)))))]) H) (hD : va_D (fun q : Nat => s.heap.size ≤ q) (w5 x ot ou ov oh ox oy S ++ w3 cI ot ot1 ot2 T ++ w3 cI ou ou1 ou2 Tr ++ w3 cI ov ov1 ov2 Sn ++ w1 oh rr Hs ++ wR cI cT rr ra rb rc G ++ w4 cI cC ox ox1 ox2 Xt ++ w2 cC oy oy1 Ln ++ w6 cI cC mh m1 m2 m3 m4 m5 m6 m7 m8 Mo ++ [(o, .inl (cJ, 1, .inr (.inl O)))] ++ [(oq, .inl (cQ, 1, .inr (.inr (.inr (.inl Oq)))))])) (hS : va_S (fun q : Nat => s.heap.size ≤ q) s.heap H locs) (hl : lv_has ls 9 [(0, .ref b), (1, .ref x), (2, .ref mh), (3, .ref o), (4, .ref oq), (5, .int x5)]) (hg : gM_4 S T Tr Sn Hs G Xt Ln Mo O Oq xs L x5) (kb : ∀ z9 : (CV × TV × HV × (Nat → TV) × SV × (Nat → Int64)), z9 = fM_4 S T Tr Sn Hs G Xt Ln Mo O Oq xs L x5 → ∀ (H : Heap) (locs : List Loc) (ls : Array Slot), va_P D vwCl (w5 x ot ou ov oh ox oy z9.1 ++ w3 cI ot ot1 ot2 z9.2.1 ++ w3 cI ou ou1 ou2 Tr ++ w3 cI ov ov1 ov2 Sn ++ w1 oh rr z9.2.2.1 ++ wR cI cT rr ra rb rc z9.2.2.2.1 ++ w4 cI cC ox ox1 ox2 Xt ++ w2 cC oy oy1 Ln ++ w6 cI cC mh m1 m2 m3 m4 m5 m6 m7 m8 z9.2.2.2.2.1 ++ [(o, .inl (cJ, 1, .inr (.inl z9.2.2.2.2.2)))] ++ [(oq, .inl (cQ, 1, .inr (.inr (.inr (.inl Oq)))))]) H → va_D (fun q : Nat => s.heap.size ≤ q) (w5 x ot ou ov oh ox oy z9.1 ++ w3 cI ot ot1 ot2 z9.2.1 ++ w3 cI ou ou1 ou2 Tr ++ w3 cI ov ov1 ov2 Sn ++ w1 oh rr z9.2.2.1 ++ wR cI cT rr ra rb rc z9.2.2.2.1 ++ w4 cI cC ox ox1 ox2 Xt ++ w2 cC oy oy1 Ln ++ w6 cI cC mh m1 m2 m3 m4 m5 m6 m7 m8 z9.2.2.2.2.1 ++ [(o, .inl (cJ, 1, .inr (.inl z9.2.2.2.2.2)))] ++ [(oq, .inl (cQ, 1, .inr (.inr (.inr (.inl Oq)))))]) → va_S (fun q : Nat => s.heap.size ≤ q) s.heap H locs → lv_has ls 9 [(0, .ref b), (1, .ref x), (2, .ref mh), (3, .ref o), (4, .ref oq), (5, .int (x5 + 5))] → W p l e room_1 s m #[Value.ref b] below meth c H locs (cells + 2) (slots + 12) Q (F0 m 28 ls [])) :
    W p l e room_1 s m #[Value.ref b] below meth c H locs cells slots Q (F0 m 504 ls []) := by
  have hP : va_P D vwCl (w5 x ot ou ov oh ox oy S ++ w3 cI ot ot1 ot2 T ++ w3 cI ou ou1 ou2 Tr ++ w3 cI ov ov1 ov2 Sn ++ w1 oh rr Hs ++ wR cI cT rr ra rb rc G ++ w4 cI cC ox ox1 ox2 Xt ++ w2 cC oy oy1 Ln ++ w6 cI cC mh m1 m2 m3 m4 m5 m6 m7 m8 Mo ++ [(o, .inl (cJ, 1, .inr (.inl O)))] ++ [(oq, .inl (cQ, 1, .inr (.inr (.inr (.inl Oq)))))]) H := hP
  have hD : va_D (fun q : Nat => s.heap.size ≤ q) (w5 x ot ou ov oh ox oy S ++ w3 cI ot ot1 ot2 T ++ w3 cI ou ou1 ou2 Tr ++ w3 cI ov ov1 ov2 Sn ++ w1 oh rr Hs ++ wR cI cT rr ra rb rc G ++ w4 cI cC ox ox1 ox2 Xt ++ w2 cC oy oy1 Ln ++ w6 cI cC mh m1 m2 m3 m4 m5 m6 m7 m8 Mo ++ [(o, .inl (cJ, 1, .inr (.inl O)))] ++ [(oq, .inl (cQ, 1, .inr (.inr (.inr (.inl Oq)))))]) := hD
  have hK3 := hK.sub (tys' := TY cI cC cT) [0, 1, 2] rfl
  unfold gM_4 at hg
  refine lv_aload_n hx hb dL_law_504 rfl (lv_at hl 1 rfl) ?_
  refine lv_aload_n hx hb dL_law_505 rfl (lv_at hl 0 rfl) ?_
  refine lv_iload hx hb dL_law_506 (lv_at hl 5 rfl) ?_
  refine lv_iconst (v := 1) hx hb dL_law_508 (by decide) ?_
  refine lv_iadd hx hb dL_law_509 ?_
  obtain ⟨o1, hg⟩ := hg
  refine va_sld hx hb hX hbl hbA hS o1 dL_law_510 ?_
  refine lv_aload_n hx hb dL_law_511 rfl (lv_at hl 3 rfl) ?_
  obtain ⟨n1, en1⟩ : ∃ z9, z9 = (fL_getUp S T Hs G O (xs ((x5 + 1)).toNatClampNeg)) := ⟨_, rfl⟩
  try rw [← en1] at hg
  obtain ⟨o2, hg⟩ := hg
  have k9 := (kL_getUp l D cI cC cT cJ cQ x ot ou ov oh ox oy ot1 ot2 rr o ra rb rc S T Hs G O (xs ((x5 + 1)).toNatClampNeg) hst hn o2)
  rw [← en1] at k9
  refine fLq (As := [.ref x, .int (xs ((x5 + 1)).toNatClampNeg), .ref o]) (rest := []) ⟨hx, hb, hml, hown, hts⟩ k9 (vx_cwSW (hh := [(0, 9, 12, 28), (0, 9, 15, 15)]) 3 hts gL_law_L_getUp rfl rfl rfl (by decide +kernel) ⟨Nat.le_of_ble_eq_true rfl, Nat.le_of_ble_eq_true rfl⟩) hP hK hD hS hXE hXN (w3 cI ou ou1 ou2 Tr ++ w3 cI ov ov1 ov2 Sn ++ w4 cI cC ox ox1 ox2 Xt ++ w2 cC oy oy1 Ln ++ w6 cI cC mh m1 m2 m3 m4 m5 m6 m7 m8 Mo ++ [(oq, .inl (cQ, 1, .inr (.inr (.inr (.inl Oq)))))] : va_W) (pmI (fun a => by simp only [cntW_app, cntW_nil] <;> omega)) (w5 x ot ou ov oh ox oy n1.2.1 ++ w3 cI ot ot1 ot2 n1.2.2.1 ++ w3 cI ou ou1 ou2 Tr ++ w3 cI ov ov1 ov2 Sn ++ w1 oh rr n1.2.2.2.1 ++ wR cI cT rr ra rb rc n1.2.2.2.2.1 ++ w4 cI cC ox ox1 ox2 Xt ++ w2 cC oy oy1 Ln ++ w6 cI cC mh m1 m2 m3 m4 m5 m6 m7 m8 Mo ++ [(o, .inl (cJ, 1, .inr (.inl n1.2.2.2.2.2)))] ++ [(oq, .inl (cQ, 1, .inr (.inr (.inr (.inl Oq)))))]) (pmI (fun a => by simp only [cntW_app, cntW_nil] <;> omega)) rfl rfl hl.1 rfl (Nat.le_of_ble_eq_true rfl) ⟨Nat.le_trans (Nat.add_le_add_left (by decide) _) hcr.1, Nat.le_trans (Nat.add_le_add_left (by decide) _) hcr.2⟩ dL_law_512 (fun H locs hP hD hS => ?_)
  refine lv_istore (lv' := [(6, .int n1.1), (0, .ref b), (1, .ref x), (2, .ref mh), (3, .ref o), (4, .ref oq), (5, .int x5)]) hx hb dL_law_515 hl (by decide) rfl (fun ls hl => ?_)
  refine lv_aload_n hx hb dL_law_517 rfl (lv_at hl 3 rfl) ?_
  refine lv_aload_n hx hb dL_law_518 rfl (lv_at hl 1 rfl) ?_
  refine lv_iload hx hb dL_law_519 (lv_at hl 6 rfl) ?_
  refine lv_iconst (v := 1) hx hb dL_law_521 (by decide) ?_
  refine lv_iadd hx hb dL_law_522 ?_
  obtain ⟨o3, hg⟩ := hg
  refine va_sld hx hb hX hbl hbA hS o3 dL_law_523 ?_
  obtain ⟨n2, en2⟩ : ∃ z9, z9 = (fX6_getUp Mo (xs ((x5 + 1)).toNatClampNeg)) := ⟨_, rfl⟩
  try rw [← en2] at hg
  obtain ⟨o4, hg⟩ := hg
  have k9 := (kX6_getUp l D cI cC cT mh m1 m2 m3 m4 m5 m6 m7 m8 Mo (xs ((x5 + 1)).toNatClampNeg) o4)
  rw [← en2] at k9
  refine fUq (As := [.int (xs ((x5 + 1)).toNatClampNeg)]) (rest := []) (st' := [.int n2.1]) ⟨hx, hb, hml, hown, hts⟩ k9 (cwV 1 hts gL_law_X6_getUp rfl rfl rfl (by decide +kernel) ⟨Nat.le_of_ble_eq_true rfl, Nat.le_of_ble_eq_true rfl⟩) hP hK3 hD hS (w5 x ot ou ov oh ox oy n1.2.1 ++ w3 cI ot ot1 ot2 n1.2.2.1 ++ w3 cI ou ou1 ou2 Tr ++ w3 cI ov ov1 ov2 Sn ++ w1 oh rr n1.2.2.2.1 ++ wR cI cT rr ra rb rc n1.2.2.2.2.1 ++ w4 cI cC ox ox1 ox2 Xt ++ w2 cC oy oy1 Ln ++ [(o, .inl (cJ, 1, .inr (.inl n1.2.2.2.2.2)))] ++ [(oq, .inl (cQ, 1, .inr (.inr (.inr (.inl Oq)))))] : va_W) (pmI (fun a => by simp only [cntW_app, cntW_nil] <;> omega)) (w5 x ot ou ov oh ox oy n1.2.1 ++ w3 cI ot ot1 ot2 n1.2.2.1 ++ w3 cI ou ou1 ou2 Tr ++ w3 cI ov ov1 ov2 Sn ++ w1 oh rr n1.2.2.2.1 ++ wR cI cT rr ra rb rc n1.2.2.2.2.1 ++ w4 cI cC ox ox1 ox2 Xt ++ w2 cC oy oy1 Ln ++ w6 cI cC mh m1 m2 m3 m4 m5 m6 m7 m8 n2.2 ++ [(o, .inl (cJ, 1, .inr (.inl n1.2.2.2.2.2)))] ++ [(oq, .inl (cQ, 1, .inr (.inr (.inr (.inl Oq)))))]) (pmI (fun a => by simp only [cntW_app, cntW_nil] <;> omega)) rfl 44 (ci := 7) rfl rfl rfl rfl hl.1 rfl rfl (Nat.le_of_ble_eq_true rfl) ⟨Nat.le_trans (Nat.add_le_add_left (by decide) _) hcr.1, Nat.le_trans (Nat.add_le_add_left (by decide) _) hcr.2⟩ dL_law_524 (fun H locs hP hD hS => ?_)
  refine lv_istore (lv' := [(7, .int n2.1), (6, .int n1.1), (0, .ref b), (1, .ref x), (2, .ref mh), (3, .ref o), (4, .ref oq), (5, .int x5)]) hx hb dL_law_527 hl (by decide) rfl (fun ls hl => ?_)
  refine lv_aload_n hx hb dL_law_529 rfl (lv_at hl 4 rfl) ?_
  refine fRq (As := []) (rest := []) (st' := [.int (fX6_thrown n2.2)]) ⟨hx, hb, hml, hown, hts⟩ (kX6_thrown l D cI cC cT mh m1 m2 m3 m4 m5 m6 m7 m8 n2.2) (cwV 0 hts gL_law_X6_thrown rfl rfl rfl (by decide +kernel) ⟨Nat.le_of_ble_eq_true rfl, Nat.le_of_ble_eq_true rfl⟩) hP hK3 (w5 x ot ou ov oh ox oy n1.2.1 ++ w3 cI ot ot1 ot2 n1.2.2.1 ++ w3 cI ou ou1 ou2 Tr ++ w3 cI ov ov1 ov2 Sn ++ w1 oh rr n1.2.2.2.1 ++ wR cI cT rr ra rb rc n1.2.2.2.2.1 ++ w4 cI cC ox ox1 ox2 Xt ++ w2 cC oy oy1 Ln ++ [(o, .inl (cJ, 1, .inr (.inl n1.2.2.2.2.2)))] ++ [(oq, .inl (cQ, 1, .inr (.inr (.inr (.inl Oq)))))] : va_W) (pmI (fun a => by simp only [cntW_app, cntW_nil] <;> omega)) 44 (ci := 7) rfl rfl rfl rfl hl.1 rfl rfl (Nat.le_of_ble_eq_true rfl) ⟨Nat.le_trans (Nat.add_le_add_left (by decide) _) hcr.1, Nat.le_trans (Nat.add_le_add_left (by decide) _) hcr.2⟩ dL_law_530 ?_
  refine lv_iload hx hb dL_law_533 (lv_at hl 1 rfl) ?_
  obtain ⟨o5, hg⟩ := hg
  refine lv_icmp_eq (tgt := 540) hx hb dL_law_535 (by decide) (fun c_535 => ?_) (fun c_535 => absurd o5 c_535)
  refine lv_iload hx hb dL_law_540 (lv_at hl 1 rfl) ?_
  refine lv_if_ne (tgt := 557) hx hb dL_law_542 (by decide) (fun c_542_1 => ?_) (fun c_542_1 => ?_)
  · rw [if_neg c_542_1] at hg
    refine lv_goto (tgt := 2110) hx hb dL_law_557 (by decide) ?_
    refine lv_iinc (v := (x5 + 5)) (lv' := [(5, .int (x5 + 5)), (7, .int n2.1), (6, .int n1.1), (0, .ref b), (1, .ref x), (2, .ref mh), (3, .ref o), (4, .ref oq)]) hx hb dL_law_2110 hl (k := 7) rfl rfl (by decide) rfl (fun ls hl => ?_)
    refine lv_goto (tgt := 28) hx hb dL_law_2113 (by decide) ?_
    have e9 : fM_4 S T Tr Sn Hs G Xt Ln Mo O Oq xs L x5 = (n1.2.1, n1.2.2.1, n1.2.2.2.1, n1.2.2.2.2.1, n2.2, n1.2.2.2.2.2) := by rw [fM_4, ← en1, ← en2, if_neg c_542_1]
    refine W.widen (k := cells + 2) (n := slots + 12) (by omega) (by omega) ?_
    exact kb (n1.2.1, n1.2.2.1, n1.2.2.2.1, n1.2.2.2.2.1, n2.2, n1.2.2.2.2.2) e9.symm H locs ls hP hD hS (lv_sub hl [3, 4, 5, 6, 7, 0] rfl)
  · rw [if_pos c_542_1] at hg
    refine lv_aload_n hx hb dL_law_545 rfl (lv_at hl 5 rfl) ?_
    refine lv_iconst (v := 0) hx hb dL_law_546 (by decide) ?_
    obtain ⟨o6, hg⟩ := hg
    refine va_lald hx hb hK hP 53 3 rfl rfl o6 dL_law_547 ?_
    refine lv_iload hx hb dL_law_548 (lv_at hl 0 rfl) ?_
    refine lv_i2l (v := (n2.1.toInt64)) hx hb dL_law_550 rfl ?_
    refine W.lcmp hx hb dL_law_551 ?_
    obtain ⟨o7, hg⟩ := hg
    refine lv_if_eq (tgt := 557) hx hb dL_law_552 (by decide) (fun c_552 => ?_) (fun c_552 => absurd o7 c_552)
    refine lv_goto (tgt := 2110) hx hb dL_law_557 (by decide) ?_
    refine lv_iinc (v := (x5 + 5)) (lv' := [(5, .int (x5 + 5)), (7, .int n2.1), (6, .int n1.1), (0, .ref b), (1, .ref x), (2, .ref mh), (3, .ref o), (4, .ref oq)]) hx hb dL_law_2110 hl (k := 7) rfl rfl (by decide) rfl (fun ls hl => ?_)
    refine lv_goto (tgt := 28) hx hb dL_law_2113 (by decide) ?_
    have e9 : fM_4 S T Tr Sn Hs G Xt Ln Mo O Oq xs L x5 = (n1.2.1, n1.2.2.1, n1.2.2.2.1, n1.2.2.2.2.1, n2.2, n1.2.2.2.2.2) := by rw [fM_4, ← en1, ← en2, if_pos c_542_1]
    refine W.widen (k := cells + 2) (n := slots + 12) (by omega) (by omega) ?_
    exact kb (n1.2.1, n1.2.2.1, n1.2.2.2.1, n1.2.2.2.2.1, n2.2, n1.2.2.2.2.2) e9.symm H locs ls hP hD hS (lv_sub hl [3, 4, 5, 6, 7, 0] rfl)
def fM_5 (S : CV) (T : TV) (Tr : TV) (Sn : TV) (Hs : HV) (G : (Nat → TV)) (Xt : XV) (Ln : LV) (Mo : SV) (O : (Nat → Int64)) (Oq : (Nat → UInt64)) (xs : Nat → Int32) (L : Nat) (x5 : Int32) : (SV × (Nat → Int64)) := (if (fL_stoolOf S T O (xs ((x5 + 1)).toNatClampNeg) (xs ((x5 + 2)).toNatClampNeg)).1 = 0 then ((fX6_stoolOf Mo (xs ((x5 + 1)).toNatClampNeg) (xs ((x5 + 2)).toNatClampNeg)).2, (fL_stoolOf S T O (xs ((x5 + 1)).toNatClampNeg) (xs ((x5 + 2)).toNatClampNeg)).2) else ((fX6_stoolOf Mo (xs ((x5 + 1)).toNatClampNeg) (xs ((x5 + 2)).toNatClampNeg)).2, (fL_stoolOf S T O (xs ((x5 + 1)).toNatClampNeg) (xs ((x5 + 2)).toNatClampNeg)).2))
def gM_5 (S : CV) (T : TV) (Tr : TV) (Sn : TV) (Hs : HV) (G : (Nat → TV)) (Xt : XV) (Ln : LV) (Mo : SV) (O : (Nat → Int64)) (Oq : (Nat → UInt64)) (xs : Nat → Int32) (L : Nat) (x5 : Int32) : Prop := ((vp_in (x5 + 1) L) ∧ (vp_in (x5 + 2) L) ∧ (gL_stoolOf S T O (xs ((x5 + 1)).toNatClampNeg) (xs ((x5 + 2)).toNatClampNeg)) ∧ (vp_in (x5 + 1) L) ∧ (vp_in (x5 + 2) L) ∧ (gX6_stoolOf Mo (xs ((x5 + 1)).toNatClampNeg) (xs ((x5 + 2)).toNatClampNeg)) ∧ ((fX6_thrown (fX6_stoolOf Mo (xs ((x5 + 1)).toNatClampNeg) (xs ((x5 + 2)).toNatClampNeg)).2) = (fL_stoolOf S T O (xs ((x5 + 1)).toNatClampNeg) (xs ((x5 + 2)).toNatClampNeg)).1) ∧ (if (fL_stoolOf S T O (xs ((x5 + 1)).toNatClampNeg) (xs ((x5 + 2)).toNatClampNeg)).1 = 0 then ((vp_in 0 1) ∧ ((lg_cmp ((fL_stoolOf S T O (xs ((x5 + 1)).toNatClampNeg) (xs ((x5 + 2)).toNatClampNeg)).2 (0 : Int32).toNatClampNeg) ((fX6_stoolOf Mo (xs ((x5 + 1)).toNatClampNeg) (xs ((x5 + 2)).toNatClampNeg)).1.toInt64)) = 0) ∧ True) else True))
set_option maxHeartbeats 8000000 in
set_option maxRecDepth 100000 in
theorem cM_5 {p : Program} {e : Env} {s : State} {m : MethodId} {below : List Frame} {meth : Method} {c : Code} {Q : State → Prop} (l : Launch) (D : va_G) (cI cC cT cJ cQ : ClassId) (b x ot ou ov oh ox oy ot1 ot2 ou1 ou2 ov1 ov2 rr ox1 ox2 oy1 mh m1 m2 m3 m4 m5 m6 m7 m8 o oq : Nat) (ra rb rc : Nat → Nat) (S : CV) (T : TV) (Tr : TV) (Sn : TV) (Hs : HV) (G : (Nat → TV)) (Xt : XV) (Ln : LV) (Mo : SV) (O : (Nat → Int64)) (Oq : (Nat → UInt64)) (xs : Nat → Int32) (L : Nat) (x5 : Int32) (hst : l.stackTraces = false) (hn : ∃ j : Nat, j < 9 ∧ Hs.1 = nI j) (hc : ∀ i, narrow .char (.int (Ln.1 i)) = .int (Ln.1 i)) (hx : p.tables.exec = Jvm.exec) (hb : c.code = cL_law) (hml : c.maxLocals = 9) (hown : s.vm.findClass RL = some m.cls) (hts : ∀ w ∈ wsL_law, w.before #[Value.ref b] s = true) (hK : va_K D vwCl (TY5 cI cC cT cJ cQ) s) (hX : va_X b L xs s s.heap) (hbl : b < s.heap.size) (hbA : ¬ (fun q : Nat => s.heap.size ≤ q) b) (hXE : xE (fun q : Nat => s.heap.size ≤ q) s) (hXN : xN s) (H : Heap) (locs : List Loc) (ls : Array Slot) (cells slots : Nat) (hcr : cells + 2 ≤ room_1.cells ∧ slots + 12 ≤ room_1.slots) (hP : va_P D vwCl (w5 x ot ou ov oh ox oy S ++ w3 cI ot ot1 ot2 T ++ w3 cI ou ou1 ou2 Tr ++ w3 cI ov ov1 ov2 Sn ++ w1 oh rr Hs ++ wR cI cT rr ra rb rc G ++ w4 cI cC ox ox1 ox2 Xt ++ w2 cC oy oy1 Ln ++ w6 cI cC mh m1 m2 m3 m4 m5 m6 m7 m8 Mo ++ [(o, .inl (cJ, 1, .inr (.inl O)))] ++ [(oq, .inl (cQ, 1, .inr (.inr (.inr (.inl Oq)))))]) H) (hD : va_D (fun q : Nat => s.heap.size ≤ q) (w5 x ot ou ov oh ox oy S ++ w3 cI ot ot1 ot2 T ++ w3 cI ou ou1 ou2 Tr ++ w3 cI ov ov1 ov2 Sn ++ w1 oh rr Hs ++ wR cI cT rr ra rb rc G ++ w4 cI cC ox ox1 ox2 Xt ++ w2 cC oy oy1 Ln ++ w6 cI cC mh m1 m2 m3 m4 m5 m6 m7 m8 Mo ++ [(o, .inl (cJ, 1, .inr (.inl O)))] ++ [(oq, .inl (cQ, 1, .inr (.inr (.inr (.inl Oq)))))])) (hS : va_S (fun q : Nat => s.heap.size ≤ q) s.heap H locs) (hl : lv_has ls 9 [(0, .ref b), (1, .ref x), (2, .ref mh), (3, .ref o), (4, .ref oq), (5, .int x5)]) (hg : gM_5 S T Tr Sn Hs G Xt Ln Mo O Oq xs L x5) (kb : ∀ z9 : (SV × (Nat → Int64)), z9 = fM_5 S T Tr Sn Hs G Xt Ln Mo O Oq xs L x5 → ∀ (H : Heap) (locs : List Loc) (ls : Array Slot), va_P D vwCl (w5 x ot ou ov oh ox oy S ++ w3 cI ot ot1 ot2 T ++ w3 cI ou ou1 ou2 Tr ++ w3 cI ov ov1 ov2 Sn ++ w1 oh rr Hs ++ wR cI cT rr ra rb rc G ++ w4 cI cC ox ox1 ox2 Xt ++ w2 cC oy oy1 Ln ++ w6 cI cC mh m1 m2 m3 m4 m5 m6 m7 m8 z9.1 ++ [(o, .inl (cJ, 1, .inr (.inl z9.2)))] ++ [(oq, .inl (cQ, 1, .inr (.inr (.inr (.inl Oq)))))]) H → va_D (fun q : Nat => s.heap.size ≤ q) (w5 x ot ou ov oh ox oy S ++ w3 cI ot ot1 ot2 T ++ w3 cI ou ou1 ou2 Tr ++ w3 cI ov ov1 ov2 Sn ++ w1 oh rr Hs ++ wR cI cT rr ra rb rc G ++ w4 cI cC ox ox1 ox2 Xt ++ w2 cC oy oy1 Ln ++ w6 cI cC mh m1 m2 m3 m4 m5 m6 m7 m8 z9.1 ++ [(o, .inl (cJ, 1, .inr (.inl z9.2)))] ++ [(oq, .inl (cQ, 1, .inr (.inr (.inr (.inl Oq)))))]) → va_S (fun q : Nat => s.heap.size ≤ q) s.heap H locs → lv_has ls 9 [(0, .ref b), (1, .ref x), (2, .ref mh), (3, .ref o), (4, .ref oq), (5, .int (x5 + 5))] → W p l e room_1 s m #[Value.ref b] below meth c H locs (cells + 2) (slots + 12) Q (F0 m 28 ls [])) :
    W p l e room_1 s m #[Value.ref b] below meth c H locs cells slots Q (F0 m 560 ls []) := by
  have hP : va_P D vwCl (w5 x ot ou ov oh ox oy S ++ w3 cI ot ot1 ot2 T ++ w3 cI ou ou1 ou2 Tr ++ w3 cI ov ov1 ov2 Sn ++ w1 oh rr Hs ++ wR cI cT rr ra rb rc G ++ w4 cI cC ox ox1 ox2 Xt ++ w2 cC oy oy1 Ln ++ w6 cI cC mh m1 m2 m3 m4 m5 m6 m7 m8 Mo ++ [(o, .inl (cJ, 1, .inr (.inl O)))] ++ [(oq, .inl (cQ, 1, .inr (.inr (.inr (.inl Oq)))))]) H := hP
  have hD : va_D (fun q : Nat => s.heap.size ≤ q) (w5 x ot ou ov oh ox oy S ++ w3 cI ot ot1 ot2 T ++ w3 cI ou ou1 ou2 Tr ++ w3 cI ov ov1 ov2 Sn ++ w1 oh rr Hs ++ wR cI cT rr ra rb rc G ++ w4 cI cC ox ox1 ox2 Xt ++ w2 cC oy oy1 Ln ++ w6 cI cC mh m1 m2 m3 m4 m5 m6 m7 m8 Mo ++ [(o, .inl (cJ, 1, .inr (.inl O)))] ++ [(oq, .inl (cQ, 1, .inr (.inr (.inr (.inl Oq)))))]) := hD
  have hK3 := hK.sub (tys' := TY cI cC cT) [0, 1, 2] rfl
  unfold gM_5 at hg
  refine lv_aload_n hx hb dL_law_560 rfl (lv_at hl 1 rfl) ?_
  refine lv_aload_n hx hb dL_law_561 rfl (lv_at hl 0 rfl) ?_
  refine lv_iload hx hb dL_law_562 (lv_at hl 5 rfl) ?_
  refine lv_iconst (v := 1) hx hb dL_law_564 (by decide) ?_
  refine lv_iadd hx hb dL_law_565 ?_
  obtain ⟨o1, hg⟩ := hg
  refine va_sld hx hb hX hbl hbA hS o1 dL_law_566 ?_
  refine lv_aload_n hx hb dL_law_567 rfl (lv_at hl 0 rfl) ?_
  refine lv_iload hx hb dL_law_568 (lv_at hl 5 rfl) ?_
  refine lv_iconst (v := 2) hx hb dL_law_570 (by decide) ?_
  refine lv_iadd hx hb dL_law_571 ?_
  obtain ⟨o2, hg⟩ := hg
  refine va_sld hx hb hX hbl hbA hS o2 dL_law_572 ?_
  refine lv_aload_n hx hb dL_law_573 rfl (lv_at hl 3 rfl) ?_
  obtain ⟨n1, en1⟩ : ∃ z9, z9 = (fL_stoolOf S T O (xs ((x5 + 1)).toNatClampNeg) (xs ((x5 + 2)).toNatClampNeg)) := ⟨_, rfl⟩
  try rw [← en1] at hg
  obtain ⟨o3, hg⟩ := hg
  have k9 := (kL_stoolOf l D cI cC cT cJ cQ x ot ou ov oh ox oy ot1 ot2 o S T O (xs ((x5 + 1)).toNatClampNeg) (xs ((x5 + 2)).toNatClampNeg) hst o3)
  rw [← en1] at k9
  refine fLq (As := [.ref x, .int (xs ((x5 + 1)).toNatClampNeg), .int (xs ((x5 + 2)).toNatClampNeg), .ref o]) (rest := []) ⟨hx, hb, hml, hown, hts⟩ k9 (vx_cwSW (hh := [(0, 10, 13, 28), (0, 10, 17, 13)]) 4 hts gL_law_L_stoolOf rfl rfl rfl (by decide +kernel) ⟨Nat.le_of_ble_eq_true rfl, Nat.le_of_ble_eq_true rfl⟩) hP hK hD hS hXE hXN (w3 cI ou ou1 ou2 Tr ++ w3 cI ov ov1 ov2 Sn ++ w1 oh rr Hs ++ wR cI cT rr ra rb rc G ++ w4 cI cC ox ox1 ox2 Xt ++ w2 cC oy oy1 Ln ++ w6 cI cC mh m1 m2 m3 m4 m5 m6 m7 m8 Mo ++ [(oq, .inl (cQ, 1, .inr (.inr (.inr (.inl Oq)))))] : va_W) (pmI (fun a => by simp only [cntW_app, cntW_nil] <;> omega)) (w5 x ot ou ov oh ox oy S ++ w3 cI ot ot1 ot2 T ++ w3 cI ou ou1 ou2 Tr ++ w3 cI ov ov1 ov2 Sn ++ w1 oh rr Hs ++ wR cI cT rr ra rb rc G ++ w4 cI cC ox ox1 ox2 Xt ++ w2 cC oy oy1 Ln ++ w6 cI cC mh m1 m2 m3 m4 m5 m6 m7 m8 Mo ++ [(o, .inl (cJ, 1, .inr (.inl n1.2)))] ++ [(oq, .inl (cQ, 1, .inr (.inr (.inr (.inl Oq)))))]) (pmI (fun a => by simp only [cntW_app, cntW_nil] <;> omega)) rfl rfl hl.1 rfl (Nat.le_of_ble_eq_true rfl) ⟨Nat.le_trans (Nat.add_le_add_left (by decide) _) hcr.1, Nat.le_trans (Nat.add_le_add_left (by decide) _) hcr.2⟩ dL_law_574 (fun H locs hP hD hS => ?_)
  refine lv_istore (lv' := [(6, .int n1.1), (0, .ref b), (1, .ref x), (2, .ref mh), (3, .ref o), (4, .ref oq), (5, .int x5)]) hx hb dL_law_577 hl (by decide) rfl (fun ls hl => ?_)
  refine lv_aload_n hx hb dL_law_579 rfl (lv_at hl 3 rfl) ?_
  refine lv_aload_n hx hb dL_law_580 rfl (lv_at hl 1 rfl) ?_
  refine lv_iload hx hb dL_law_581 (lv_at hl 6 rfl) ?_
  refine lv_iconst (v := 1) hx hb dL_law_583 (by decide) ?_
  refine lv_iadd hx hb dL_law_584 ?_
  obtain ⟨o4, hg⟩ := hg
  refine va_sld hx hb hX hbl hbA hS o4 dL_law_585 ?_
  refine lv_aload_n hx hb dL_law_586 rfl (lv_at hl 1 rfl) ?_
  refine lv_iload hx hb dL_law_587 (lv_at hl 6 rfl) ?_
  refine lv_iconst (v := 2) hx hb dL_law_589 (by decide) ?_
  refine lv_iadd hx hb dL_law_590 ?_
  obtain ⟨o5, hg⟩ := hg
  refine va_sld hx hb hX hbl hbA hS o5 dL_law_591 ?_
  obtain ⟨n2, en2⟩ : ∃ z9, z9 = (fX6_stoolOf Mo (xs ((x5 + 1)).toNatClampNeg) (xs ((x5 + 2)).toNatClampNeg)) := ⟨_, rfl⟩
  try rw [← en2] at hg
  obtain ⟨o6, hg⟩ := hg
  have k9 := (kX6_stoolOf l D cI cC cT mh m1 m2 m3 m4 m5 m6 m7 m8 Mo (xs ((x5 + 1)).toNatClampNeg) (xs ((x5 + 2)).toNatClampNeg) o6)
  rw [← en2] at k9
  refine fUq (As := [.int (xs ((x5 + 1)).toNatClampNeg), .int (xs ((x5 + 2)).toNatClampNeg)]) (rest := []) (st' := [.int n2.1]) ⟨hx, hb, hml, hown, hts⟩ k9 (cwV 2 hts gL_law_X6_stoolOf rfl rfl rfl (by decide +kernel) ⟨Nat.le_of_ble_eq_true rfl, Nat.le_of_ble_eq_true rfl⟩) hP hK3 hD hS (w5 x ot ou ov oh ox oy S ++ w3 cI ot ot1 ot2 T ++ w3 cI ou ou1 ou2 Tr ++ w3 cI ov ov1 ov2 Sn ++ w1 oh rr Hs ++ wR cI cT rr ra rb rc G ++ w4 cI cC ox ox1 ox2 Xt ++ w2 cC oy oy1 Ln ++ [(o, .inl (cJ, 1, .inr (.inl n1.2)))] ++ [(oq, .inl (cQ, 1, .inr (.inr (.inr (.inl Oq)))))] : va_W) (pmI (fun a => by simp only [cntW_app, cntW_nil] <;> omega)) (w5 x ot ou ov oh ox oy S ++ w3 cI ot ot1 ot2 T ++ w3 cI ou ou1 ou2 Tr ++ w3 cI ov ov1 ov2 Sn ++ w1 oh rr Hs ++ wR cI cT rr ra rb rc G ++ w4 cI cC ox ox1 ox2 Xt ++ w2 cC oy oy1 Ln ++ w6 cI cC mh m1 m2 m3 m4 m5 m6 m7 m8 n2.2 ++ [(o, .inl (cJ, 1, .inr (.inl n1.2)))] ++ [(oq, .inl (cQ, 1, .inr (.inr (.inr (.inl Oq)))))]) (pmI (fun a => by simp only [cntW_app, cntW_nil] <;> omega)) rfl 44 (ci := 7) rfl rfl rfl rfl hl.1 rfl rfl (Nat.le_of_ble_eq_true rfl) ⟨Nat.le_trans (Nat.add_le_add_left (by decide) _) hcr.1, Nat.le_trans (Nat.add_le_add_left (by decide) _) hcr.2⟩ dL_law_592 (fun H locs hP hD hS => ?_)
  refine lv_istore (lv' := [(7, .int n2.1), (6, .int n1.1), (0, .ref b), (1, .ref x), (2, .ref mh), (3, .ref o), (4, .ref oq), (5, .int x5)]) hx hb dL_law_595 hl (by decide) rfl (fun ls hl => ?_)
  refine lv_aload_n hx hb dL_law_597 rfl (lv_at hl 4 rfl) ?_
  refine fRq (As := []) (rest := []) (st' := [.int (fX6_thrown n2.2)]) ⟨hx, hb, hml, hown, hts⟩ (kX6_thrown l D cI cC cT mh m1 m2 m3 m4 m5 m6 m7 m8 n2.2) (cwV 0 hts gL_law_X6_thrown rfl rfl rfl (by decide +kernel) ⟨Nat.le_of_ble_eq_true rfl, Nat.le_of_ble_eq_true rfl⟩) hP hK3 (w5 x ot ou ov oh ox oy S ++ w3 cI ot ot1 ot2 T ++ w3 cI ou ou1 ou2 Tr ++ w3 cI ov ov1 ov2 Sn ++ w1 oh rr Hs ++ wR cI cT rr ra rb rc G ++ w4 cI cC ox ox1 ox2 Xt ++ w2 cC oy oy1 Ln ++ [(o, .inl (cJ, 1, .inr (.inl n1.2)))] ++ [(oq, .inl (cQ, 1, .inr (.inr (.inr (.inl Oq)))))] : va_W) (pmI (fun a => by simp only [cntW_app, cntW_nil] <;> omega)) 44 (ci := 7) rfl rfl rfl rfl hl.1 rfl rfl (Nat.le_of_ble_eq_true rfl) ⟨Nat.le_trans (Nat.add_le_add_left (by decide) _) hcr.1, Nat.le_trans (Nat.add_le_add_left (by decide) _) hcr.2⟩ dL_law_598 ?_
  refine lv_iload hx hb dL_law_601 (lv_at hl 1 rfl) ?_
  obtain ⟨o7, hg⟩ := hg
  refine lv_icmp_eq (tgt := 608) hx hb dL_law_603 (by decide) (fun c_603 => ?_) (fun c_603 => absurd o7 c_603)
  refine lv_iload hx hb dL_law_608 (lv_at hl 1 rfl) ?_
  refine lv_if_ne (tgt := 625) hx hb dL_law_610 (by decide) (fun c_610_1 => ?_) (fun c_610_1 => ?_)
  · rw [if_neg c_610_1] at hg
    refine lv_goto (tgt := 2110) hx hb dL_law_625 (by decide) ?_
    refine lv_iinc (v := (x5 + 5)) (lv' := [(5, .int (x5 + 5)), (7, .int n2.1), (6, .int n1.1), (0, .ref b), (1, .ref x), (2, .ref mh), (3, .ref o), (4, .ref oq)]) hx hb dL_law_2110 hl (k := 7) rfl rfl (by decide) rfl (fun ls hl => ?_)
    refine lv_goto (tgt := 28) hx hb dL_law_2113 (by decide) ?_
    have e9 : fM_5 S T Tr Sn Hs G Xt Ln Mo O Oq xs L x5 = (n2.2, n1.2) := by rw [fM_5, ← en1, ← en2, if_neg c_610_1]
    refine W.widen (k := cells + 2) (n := slots + 12) (by omega) (by omega) ?_
    exact kb (n2.2, n1.2) e9.symm H locs ls hP hD hS (lv_sub hl [3, 4, 5, 6, 7, 0] rfl)
  · rw [if_pos c_610_1] at hg
    refine lv_aload_n hx hb dL_law_613 rfl (lv_at hl 5 rfl) ?_
    refine lv_iconst (v := 0) hx hb dL_law_614 (by decide) ?_
    obtain ⟨o8, hg⟩ := hg
    refine va_lald hx hb hK hP 53 3 rfl rfl o8 dL_law_615 ?_
    refine lv_iload hx hb dL_law_616 (lv_at hl 0 rfl) ?_
    refine lv_i2l (v := (n2.1.toInt64)) hx hb dL_law_618 rfl ?_
    refine W.lcmp hx hb dL_law_619 ?_
    obtain ⟨o9, hg⟩ := hg
    refine lv_if_eq (tgt := 625) hx hb dL_law_620 (by decide) (fun c_620 => ?_) (fun c_620 => absurd o9 c_620)
    refine lv_goto (tgt := 2110) hx hb dL_law_625 (by decide) ?_
    refine lv_iinc (v := (x5 + 5)) (lv' := [(5, .int (x5 + 5)), (7, .int n2.1), (6, .int n1.1), (0, .ref b), (1, .ref x), (2, .ref mh), (3, .ref o), (4, .ref oq)]) hx hb dL_law_2110 hl (k := 7) rfl rfl (by decide) rfl (fun ls hl => ?_)
    refine lv_goto (tgt := 28) hx hb dL_law_2113 (by decide) ?_
    have e9 : fM_5 S T Tr Sn Hs G Xt Ln Mo O Oq xs L x5 = (n2.2, n1.2) := by rw [fM_5, ← en1, ← en2, if_pos c_610_1]
    refine W.widen (k := cells + 2) (n := slots + 12) (by omega) (by omega) ?_
    exact kb (n2.2, n1.2) e9.symm H locs ls hP hD hS (lv_sub hl [3, 4, 5, 6, 7, 0] rfl)
