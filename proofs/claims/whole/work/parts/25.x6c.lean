def fX6_isAhead (S : SV) (x1 : Int32) (x2 : Int32) : Int32 := (if ((fX6_by S x1 0) - (fX6_by S x2 0)) = 0 then (if 0 < ((fX6_by S x1 1) - (fX6_by S x2 1)) then 1 else (if ((fX6_by S x1 1) - (fX6_by S x2 1)) = 0 then (if x2 ≤ x1 then 0 else 1) else 0)) else (if ((fX6_by S x1 0) - (fX6_by S x2 0)) ≤ 0 then 0 else 1))
def gX6_isAhead (S : SV) (x1 : Int32) (x2 : Int32) : Prop := ((gX6_by S x1 0) ∧ (gX6_by S x2 0) ∧ (if ((fX6_by S x1 0) - (fX6_by S x2 0)) = 0 then ((gX6_by S x1 1) ∧ (gX6_by S x2 1) ∧ True) else True))
abbrev rmX6_isAhead : Room := { frames := 1, cells := 0, slots := 0, locals := 22 }
set_option maxHeartbeats 4000000 in
set_option maxRecDepth 100000 in
theorem kX6_isAhead (l : Launch) (D : va_G) (cI cC cT : ClassId) (h a1 a2 a3 a4 a5 a6 a7 a8 : Nat) (S : SV) (x1 : Int32) (x2 : Int32) (hg : gX6_isAhead S x1 x2) : mR l D (TY cI cC cT) yX6_isAhead wsX6_isAhead rmX6_isAhead [.ref h, .int x1, .int x2] (w6 cI cC h a1 a2 a3 a4 a5 a6 a7 a8 S) (some (.int (fX6_isAhead S x1 x2))) := by
  refine mR.ofW (cc := cX6_isAhead) (maxL := 5) (ret := (some .boolean)) (by decide) rfl (Nat.le_of_ble_eq_true rfl) ?_
  intro p e s m args below meth c Q ls hx hb hml hr hlk hts hown hP hK hl hQ
  have hown : s.vm.findClass RX6 = some m.cls := hown
  have hP : va_P D vwCl (w6 cI cC h a1 a2 a3 a4 a5 a6 a7 a8 S) s.heap := hP
  have hl : lv_has ls 5 [(0, .ref h), (1, .int x1), (2, .int x2)] := hl
  unfold gX6_isAhead at hg
  refine lv_aload_n hx hb dX6_isAhead_0 rfl (lv_at hl 0 rfl) ?_
  refine lv_iload_n hx hb dX6_isAhead_1 rfl (lv_at hl 1 rfl) ?_
  refine lv_iconst (v := 0) hx hb dX6_isAhead_2 (by decide) ?_
  obtain ⟨o1, hg⟩ := hg
  refine fRV (As := [.int x1, .int 0]) (rest := []) (st' := [.int (fX6_by S x1 0)]) ⟨hx, hb, hml, hown, hts⟩ (kX6_by l D cI cC cT h a1 a2 a3 a4 a5 a6 a7 a8 S x1 0 o1) (cwV 2 hts gX6_isAhead_X6_by rfl rfl rfl (by decide +kernel) ⟨Nat.le_of_ble_eq_true rfl, Nat.le_of_ble_eq_true rfl⟩) hP hK [0, 1, 2, 3, 4, 5, 6, 7, 8] rfl 0 (ci := 7) rfl rfl rfl rfl hl.1 rfl rfl (Nat.le_of_ble_eq_true rfl) ⟨Nat.zero_le _, Nat.zero_le _⟩ dX6_isAhead_3 ?_
  refine lv_aload_n hx hb dX6_isAhead_6 rfl (lv_at hl 0 rfl) ?_
  refine lv_iload_n hx hb dX6_isAhead_7 rfl (lv_at hl 2 rfl) ?_
  refine lv_iconst (v := 0) hx hb dX6_isAhead_8 (by decide) ?_
  obtain ⟨o2, hg⟩ := hg
  refine fRV (As := [.int x2, .int 0]) (rest := [.int (fX6_by S x1 0)]) (st' := [.int (fX6_by S x2 0), .int (fX6_by S x1 0)]) ⟨hx, hb, hml, hown, hts⟩ (kX6_by l D cI cC cT h a1 a2 a3 a4 a5 a6 a7 a8 S x2 0 o2) (cwV 2 hts gX6_isAhead_X6_by rfl rfl rfl (by decide +kernel) ⟨Nat.le_of_ble_eq_true rfl, Nat.le_of_ble_eq_true rfl⟩) hP hK [0, 1, 2, 3, 4, 5, 6, 7, 8] rfl 0 (ci := 7) rfl rfl rfl rfl hl.1 rfl rfl (Nat.le_of_ble_eq_true rfl) ⟨Nat.zero_le _, Nat.zero_le _⟩ dX6_isAhead_9 ?_
  refine lv_isub hx hb dX6_isAhead_12 ?_
  refine lv_istore_n (lv' := [(3, .int ((fX6_by S x1 0) - (fX6_by S x2 0))), (0, .ref h), (1, .int x1), (2, .int x2)]) hx hb dX6_isAhead_13 rfl hl (by decide) rfl (fun ls hl => ?_)
  refine lv_iload_n hx hb dX6_isAhead_14 rfl (lv_at hl 0 rfl) ?_
  refine lv_if_eq (tgt := 28) hx hb dX6_isAhead_15 (by decide) (fun c_15_1 => ?_) (fun c_15_1 => ?_)
  · rw [if_pos c_15_1] at hg
    refine lv_aload_n hx hb dX6_isAhead_28 rfl (lv_at hl 1 rfl) ?_
    refine lv_iload_n hx hb dX6_isAhead_29 rfl (lv_at hl 2 rfl) ?_
    refine lv_iconst (v := 1) hx hb dX6_isAhead_30 (by decide) ?_
    obtain ⟨o3, hg⟩ := hg
    refine fRV (As := [.int x1, .int 1]) (rest := []) (st' := [.int (fX6_by S x1 1)]) ⟨hx, hb, hml, hown, hts⟩ (kX6_by l D cI cC cT h a1 a2 a3 a4 a5 a6 a7 a8 S x1 1 o3) (cwV 2 hts gX6_isAhead_X6_by rfl rfl rfl (by decide +kernel) ⟨Nat.le_of_ble_eq_true rfl, Nat.le_of_ble_eq_true rfl⟩) hP hK [0, 1, 2, 3, 4, 5, 6, 7, 8] rfl 0 (ci := 7) rfl rfl rfl rfl hl.1 rfl rfl (Nat.le_of_ble_eq_true rfl) ⟨Nat.zero_le _, Nat.zero_le _⟩ dX6_isAhead_31 ?_
    refine lv_aload_n hx hb dX6_isAhead_34 rfl (lv_at hl 1 rfl) ?_
    refine lv_iload_n hx hb dX6_isAhead_35 rfl (lv_at hl 3 rfl) ?_
    refine lv_iconst (v := 1) hx hb dX6_isAhead_36 (by decide) ?_
    obtain ⟨o4, hg⟩ := hg
    refine fRV (As := [.int x2, .int 1]) (rest := [.int (fX6_by S x1 1)]) (st' := [.int (fX6_by S x2 1), .int (fX6_by S x1 1)]) ⟨hx, hb, hml, hown, hts⟩ (kX6_by l D cI cC cT h a1 a2 a3 a4 a5 a6 a7 a8 S x2 1 o4) (cwV 2 hts gX6_isAhead_X6_by rfl rfl rfl (by decide +kernel) ⟨Nat.le_of_ble_eq_true rfl, Nat.le_of_ble_eq_true rfl⟩) hP hK [0, 1, 2, 3, 4, 5, 6, 7, 8] rfl 0 (ci := 7) rfl rfl rfl rfl hl.1 rfl rfl (Nat.le_of_ble_eq_true rfl) ⟨Nat.zero_le _, Nat.zero_le _⟩ dX6_isAhead_37 ?_
    refine lv_isub hx hb dX6_isAhead_40 ?_
    refine lv_istore (lv' := [(4, .int ((fX6_by S x1 1) - (fX6_by S x2 1))), (3, .int ((fX6_by S x1 0) - (fX6_by S x2 0))), (0, .ref h), (1, .int x1), (2, .int x2)]) hx hb dX6_isAhead_41 hl (by decide) rfl (fun ls hl => ?_)
    refine lv_iload hx hb dX6_isAhead_43 (lv_at hl 0 rfl) ?_
    refine lv_if_gt (tgt := 58) hx hb dX6_isAhead_45 (by decide) (fun c_45_2 => ?_) (fun c_45_2 => ?_)
    · refine lv_iconst (v := 1) hx hb dX6_isAhead_58 (by decide) ?_
      refine lv_goto (tgt := 63) hx hb dX6_isAhead_59 (by decide) ?_
      exact rRi hx hb hr hlk hQ (by rw [fX6_isAhead, if_pos c_15_1, if_pos c_45_2]) rfl dX6_isAhead_63
    · refine lv_iload hx hb dX6_isAhead_48 (lv_at hl 0 rfl) ?_
      refine lv_if_ne (tgt := 62) hx hb dX6_isAhead_50 (by decide) (fun c_50_3 => ?_) (fun c_50_3 => ?_)
      · refine lv_iconst (v := 0) hx hb dX6_isAhead_62 (by decide) ?_
        exact rRi hx hb hr hlk hQ (by rw [fX6_isAhead, if_pos c_15_1, if_neg c_45_2, if_neg c_50_3]) rfl dX6_isAhead_63
      · refine lv_iload_n hx hb dX6_isAhead_53 rfl (lv_at hl 3 rfl) ?_
        refine lv_iload_n hx hb dX6_isAhead_54 rfl (lv_at hl 4 rfl) ?_
        refine lv_icmp_ge (tgt := 62) hx hb dX6_isAhead_55 (by decide) (fun c_55_4 => ?_) (fun c_55_4 => ?_)
        · refine lv_iconst (v := 0) hx hb dX6_isAhead_62 (by decide) ?_
          exact rRi hx hb hr hlk hQ (by rw [fX6_isAhead, if_pos c_15_1, if_neg c_45_2, if_pos c_50_3, if_pos c_55_4]) rfl dX6_isAhead_63
        · refine lv_iconst (v := 1) hx hb dX6_isAhead_58 (by decide) ?_
          refine lv_goto (tgt := 63) hx hb dX6_isAhead_59 (by decide) ?_
          exact rRi hx hb hr hlk hQ (by rw [fX6_isAhead, if_pos c_15_1, if_neg c_45_2, if_pos c_50_3, if_neg c_55_4]) rfl dX6_isAhead_63
  · rw [if_neg c_15_1] at hg
    refine lv_iload_n hx hb dX6_isAhead_18 rfl (lv_at hl 0 rfl) ?_
    refine lv_if_le (tgt := 26) hx hb dX6_isAhead_19 (by decide) (fun c_19_5 => ?_) (fun c_19_5 => ?_)
    · refine lv_iconst (v := 0) hx hb dX6_isAhead_26 (by decide) ?_
      exact rRi hx hb hr hlk hQ (by rw [fX6_isAhead, if_neg c_15_1, if_pos c_19_5]) rfl dX6_isAhead_27
    · refine lv_iconst (v := 1) hx hb dX6_isAhead_22 (by decide) ?_
      refine lv_goto (tgt := 27) hx hb dX6_isAhead_23 (by decide) ?_
      exact rRi hx hb hr hlk hQ (by rw [fX6_isAhead, if_neg c_15_1, if_neg c_19_5]) rfl dX6_isAhead_27
theorem zX6_isAhead (S : SV) (x1 : Int32) (x2 : Int32) : (fX6_isAhead S x1 x2) = 0 ∨ (fX6_isAhead S x1 x2) = 1 := by
  unfold fX6_isAhead
  repeat' split
  all_goals first | exact Or.inl rfl | exact Or.inr rfl
def lX6_atPlace_17 (S : SV) (v : Int32) (w : (Int32 × Int32)) : (Int32 × Int32) ⊕ ((Int32 × Int32)) := (if (S.1 (1 : Int32).toNatClampNeg) ≤ w.2 then (.inr (w.1, w.2)) else (if (fX6_isAhead S w.2 v) = 0 then (.inl ((w.1 + 0), (w.2 + 1))) else (.inl ((w.1 + 1), (w.2 + 1)))))
def glX6_atPlace_17 (S : SV) (v : Int32) (w : (Int32 × Int32)) : Prop := ((vp_in 1 114) ∧ (if (S.1 (1 : Int32).toNatClampNeg) ≤ w.2 then True else ((gX6_isAhead S w.2 v) ∧ True)))
def lX6_atPlace_2 (S : SV) (x1 : Int32) (v : Int32) : Int32 ⊕ (Int32 ⊕ Int32) := (if (S.1 (1 : Int32).toNatClampNeg) ≤ v then (.inr (.inl v)) else (if (itv (0, 0) (lX6_atPlace_17 S v) ((fun w : (Int32 × Int32) => ((S.1 (1 : Int32).toNatClampNeg).toInt - w.2.toInt).toNat) (0, 0) + 1) (0, 0)).1 = x1 then (.inr (.inr v)) else (.inl (v + 1))))
def glX6_atPlace_2 (S : SV) (x1 : Int32) (v : Int32) : Prop := ((vp_in 1 114) ∧ (if (S.1 (1 : Int32).toNatClampNeg) ≤ v then True else ((∃ r9 : (Int32 × Int32), lrun (lX6_atPlace_17 S v) (glX6_atPlace_17 S v) ((fun w : (Int32 × Int32) => ((S.1 (1 : Int32).toNatClampNeg).toInt - w.2.toInt).toNat) (0, 0) + 1) (0, 0) r9) ∧ True)))
def fX6_atPlace (S : SV) (x1 : Int32) : Int32 := (Sum.elim (fun y9 => (-1)) (fun q9 => q9) (itv (.inl 0) (lX6_atPlace_2 S x1) ((fun v : Int32 => ((S.1 (1 : Int32).toNatClampNeg).toInt - v.toInt).toNat) 0 + 1) 0))
def gX6_atPlace (S : SV) (x1 : Int32) : Prop := ((∃ r9 : Int32 ⊕ Int32, lrun (lX6_atPlace_2 S x1) (glX6_atPlace_2 S x1) ((fun v : Int32 => ((S.1 (1 : Int32).toNatClampNeg).toInt - v.toInt).toNat) 0 + 1) 0 r9) ∧ True)
abbrev rmX6_atPlace : Room := { frames := 2, cells := 0, slots := 0, locals := 46 }
set_option maxHeartbeats 4000000 in
set_option maxRecDepth 100000 in
theorem kX6_atPlace (l : Launch) (D : va_G) (cI cC cT : ClassId) (h a1 a2 a3 a4 a5 a6 a7 a8 : Nat) (S : SV) (x1 : Int32) (hg : gX6_atPlace S x1) : mR l D (TY cI cC cT) yX6_atPlace wsX6_atPlace rmX6_atPlace [.ref h, .int x1] (w6 cI cC h a1 a2 a3 a4 a5 a6 a7 a8 S) (some (.int (fX6_atPlace S x1))) := by
  refine mR.ofW (cc := cX6_atPlace) (maxL := 5) (ret := (some .int)) (by decide) rfl (Nat.le_of_ble_eq_true rfl) ?_
  intro p e s m args below meth c Q ls hx hb hml hr hlk hts hown hP hK hl hQ
  have hown : s.vm.findClass RX6 = some m.cls := hown
  have hP : va_P D vwCl (w6 cI cC h a1 a2 a3 a4 a5 a6 a7 a8 S) s.heap := hP
  have hl : lv_has ls 5 [(0, .ref h), (1, .int x1)] := hl
  have q0 := hts (Cond.fieldLink RX6 7 "TavernStoolsModel" "g" "[I") (by decide +kernel)
  have q1 : ∀ w ∈ u_ws RX6 TX6 20, w ∈ wsX6_atPlace := by decide +kernel
  unfold gX6_atPlace at hg
  refine lv_iconst (v := 0) hx hb dX6_atPlace_0 (by decide) ?_
  refine lv_istore_n (lv' := [(2, .int 0), (0, .ref h), (1, .int x1)]) hx hb dX6_atPlace_1 rfl hl (by decide) rfl (fun ls hl => ?_)
  obtain ⟨n2, en2⟩ : ∃ z9, z9 = (itv (.inl 0) (lX6_atPlace_2 S x1) ((fun v : Int32 => ((S.1 (1 : Int32).toNatClampNeg).toInt - v.toInt).toNat) 0 + 1) 0) := ⟨_, rfl⟩
  try rw [← en2] at hg
  obtain ⟨o5, hg⟩ := hg
  have L9 := lrun_val (d := (.inl 0)) o5
  rw [← en2] at L9
  refine loopWs (lX6_atPlace_2 S x1) (glX6_atPlace_2 S x1) (fun v : Int32 => ∀ ls, lv_has ls 5 [(0, .ref h), (1, .int x1), (2, .int v)] → W p l e rmX6_atPlace s m args below meth c s.heap [] 0 0 Q (F0 m 2 ls [])) (fun r8 : Int32 ⊕ Int32 => Sum.elim (fun r9 : Int32 => ∀ ls, lv_has ls 5 [(0, .ref h), (1, .int x1), (2, .int r9)] → W p l e rmX6_atPlace s m args below meth c s.heap [] 0 0 Q (F0 m 65 ls [])) (fun q9 : Int32 => ∀ (pc : Nat) ls, decode cX6_atPlace pc = .ok (.ireturn, 1) → narrow (.int) (.int q9) = .int q9 → W p l e rmX6_atPlace s m args below meth c s.heap [] 0 0 Q (F0 m pc ls [.int q9])) r8) ?_ _ 0 n2 L9 ?_ ls (lv_sub hl [1, 2, 0] rfl)
  · intro v hg kb kx ls hl
    unfold glX6_atPlace_2 at hg
    refine lv_iload_n hx hb dX6_atPlace_2 rfl (lv_at hl 2 rfl) ?_
    refine lv_aload_n hx hb dX6_atPlace_3 rfl (lv_at hl 0 rfl) ?_
    refine va_get (D := D) (ci := 7) (v := .ref a1) (C := RX6) (T := TX6) (N := 20) hx hb hts q1 hown hK hP 0 rfl rfl 0 (by decide) q0 (fun _ h9 => h9) rfl dX6_atPlace_4 ?_
    refine lv_iconst (v := 1) hx hb dX6_atPlace_7 (by decide) ?_
    obtain ⟨o1, hg⟩ := hg
    refine va_iald hx hb hK hP 1 0 rfl rfl o1 dX6_atPlace_8 ?_
    refine lv_icmp_ge (tgt := 65) hx hb dX6_atPlace_9 (by decide) (fun c_9_1 => ?_) (fun c_9_1 => ?_)
    · rw [if_pos c_9_1] at hg
      exact kx (.inl v) (by rw [lX6_atPlace_2, if_pos c_9_1]) ls (lv_sub hl [0, 1, 2] rfl)
    · rw [if_neg c_9_1] at hg
      refine lv_iconst (v := 0) hx hb dX6_atPlace_12 (by decide) ?_
      refine lv_istore_n (lv' := [(3, .int 0), (0, .ref h), (1, .int x1), (2, .int v)]) hx hb dX6_atPlace_13 rfl hl (by decide) rfl (fun ls hl => ?_)
      refine lv_iconst (v := 0) hx hb dX6_atPlace_14 (by decide) ?_
      refine lv_istore (lv' := [(4, .int 0), (3, .int 0), (0, .ref h), (1, .int x1), (2, .int v)]) hx hb dX6_atPlace_15 hl (by decide) rfl (fun ls hl => ?_)
      obtain ⟨n1, en1⟩ : ∃ z9, z9 = (itv (0, 0) (lX6_atPlace_17 S v) ((fun w : (Int32 × Int32) => ((S.1 (1 : Int32).toNatClampNeg).toInt - w.2.toInt).toNat) (0, 0) + 1) (0, 0)) := ⟨_, rfl⟩
      try rw [← en1] at hg
      obtain ⟨o4, hg⟩ := hg
      have L9 := lrun_val (d := (0, 0)) o4
      rw [← en1] at L9
      refine loopWs (lX6_atPlace_17 S v) (glX6_atPlace_17 S v) (fun w : (Int32 × Int32) => ∀ ls, lv_has ls 5 [(0, .ref h), (1, .int x1), (2, .int v), (3, .int w.1), (4, .int w.2)] → W p l e rmX6_atPlace s m args below meth c s.heap [] 0 0 Q (F0 m 17 ls [])) (fun r9 : (Int32 × Int32) => ∀ ls, lv_has ls 5 [(0, .ref h), (1, .int x1), (2, .int v), (3, .int r9.1), (4, .int r9.2)] → W p l e rmX6_atPlace s m args below meth c s.heap [] 0 0 Q (F0 m 52 ls [])) ?_ _ (0, 0) n1 L9 ?_ ls (lv_sub hl [2, 3, 4, 1, 0] rfl)
      · intro w hg kb kx ls hl
        unfold glX6_atPlace_17 at hg
        refine lv_iload hx hb dX6_atPlace_17 (lv_at hl 4 rfl) ?_
        refine lv_aload_n hx hb dX6_atPlace_19 rfl (lv_at hl 0 rfl) ?_
        refine va_get (D := D) (ci := 7) (v := .ref a1) (C := RX6) (T := TX6) (N := 20) hx hb hts q1 hown hK hP 0 rfl rfl 0 (by decide) q0 (fun _ h9 => h9) rfl dX6_atPlace_20 ?_
        refine lv_iconst (v := 1) hx hb dX6_atPlace_23 (by decide) ?_
        obtain ⟨o2, hg⟩ := hg
        refine va_iald hx hb hK hP 1 0 rfl rfl o2 dX6_atPlace_24 ?_
        refine lv_icmp_ge (tgt := 52) hx hb dX6_atPlace_25 (by decide) (fun c_25_2 => ?_) (fun c_25_2 => ?_)
        · rw [if_pos c_25_2] at hg
          exact kx (w.1, w.2) (by rw [lX6_atPlace_17, if_pos c_25_2]) ls (lv_sub hl [0, 1, 2, 3, 4] rfl)
        · rw [if_neg c_25_2] at hg
          refine lv_iload_n hx hb dX6_atPlace_28 rfl (lv_at hl 3 rfl) ?_
          refine lv_aload_n hx hb dX6_atPlace_29 rfl (lv_at hl 0 rfl) ?_
          refine lv_iload hx hb dX6_atPlace_30 (lv_at hl 4 rfl) ?_
          refine lv_iload_n hx hb dX6_atPlace_32 rfl (lv_at hl 2 rfl) ?_
          obtain ⟨o3, hg⟩ := hg
          refine fRV (As := [.int w.2, .int v]) (rest := [.int w.1]) (st' := [.int (fX6_isAhead S w.2 v), .int w.1]) ⟨hx, hb, hml, hown, hts⟩ (kX6_isAhead l D cI cC cT h a1 a2 a3 a4 a5 a6 a7 a8 S w.2 v o3) (cwV 2 hts gX6_atPlace_X6_isAhead rfl rfl rfl (by decide +kernel) ⟨Nat.le_of_ble_eq_true rfl, Nat.le_of_ble_eq_true rfl⟩) hP hK [0, 1, 2, 3, 4, 5, 6, 7, 8] rfl 0 (ci := 7) rfl rfl rfl rfl hl.1 rfl rfl (Nat.le_of_ble_eq_true rfl) ⟨Nat.zero_le _, Nat.zero_le _⟩ dX6_atPlace_33 ?_
          refine lv_if_eq (tgt := 43) hx hb dX6_atPlace_36 (by decide) (fun c_36_3 => ?_) (fun c_36_3 => ?_)
          · refine lv_iconst (v := 0) hx hb dX6_atPlace_43 (by decide) ?_
            refine lv_iadd hx hb dX6_atPlace_44 ?_
            refine lv_istore_n (lv' := [(3, .int (w.1 + 0)), (0, .ref h), (1, .int x1), (2, .int v), (4, .int w.2)]) hx hb dX6_atPlace_45 rfl hl (by decide) rfl (fun ls hl => ?_)
            refine lv_iinc (v := (w.2 + 1)) (lv' := [(4, .int (w.2 + 1)), (3, .int (w.1 + 0)), (0, .ref h), (1, .int x1), (2, .int v)]) hx hb dX6_atPlace_46 hl (k := 4) rfl rfl (by decide) rfl (fun ls hl => ?_)
            refine lv_goto (tgt := 17) hx hb dX6_atPlace_49 (by decide) ?_
            exact kb ((w.1 + 0), (w.2 + 1)) (by rw [lX6_atPlace_17, if_neg c_25_2, if_pos c_36_3]) ls (lv_sub hl [2, 3, 4, 1, 0] rfl)
          · refine lv_iconst (v := 1) hx hb dX6_atPlace_39 (by decide) ?_
            refine lv_goto (tgt := 44) hx hb dX6_atPlace_40 (by decide) ?_
            refine lv_iadd hx hb dX6_atPlace_44 ?_
            refine lv_istore_n (lv' := [(3, .int (w.1 + 1)), (0, .ref h), (1, .int x1), (2, .int v), (4, .int w.2)]) hx hb dX6_atPlace_45 rfl hl (by decide) rfl (fun ls hl => ?_)
            refine lv_iinc (v := (w.2 + 1)) (lv' := [(4, .int (w.2 + 1)), (3, .int (w.1 + 1)), (0, .ref h), (1, .int x1), (2, .int v)]) hx hb dX6_atPlace_46 hl (k := 4) rfl rfl (by decide) rfl (fun ls hl => ?_)
            refine lv_goto (tgt := 17) hx hb dX6_atPlace_49 (by decide) ?_
            exact kb ((w.1 + 1), (w.2 + 1)) (by rw [lX6_atPlace_17, if_neg c_25_2, if_neg c_36_3]) ls (lv_sub hl [2, 3, 4, 1, 0] rfl)
      · intro ls hl
        refine lv_iload_n hx hb dX6_atPlace_52 rfl (lv_at hl 3 rfl) ?_
        refine lv_iload_n hx hb dX6_atPlace_53 rfl (lv_at hl 1 rfl) ?_
        refine lv_icmp_ne (tgt := 59) hx hb dX6_atPlace_54 (by decide) (fun c_54_4 => ?_) (fun c_54_4 => ?_)
        · refine lv_iinc (v := (v + 1)) (lv' := [(2, .int (v + 1)), (0, .ref h), (1, .int x1), (3, .int n1.1), (4, .int n1.2)]) hx hb dX6_atPlace_59 hl (k := 2) rfl rfl (by decide) rfl (fun ls hl => ?_)
          refine lv_goto (tgt := 2) hx hb dX6_atPlace_62 (by decide) ?_
          exact kb (v + 1) (by rw [lX6_atPlace_2, if_neg c_9_1, ← en1, if_neg c_54_4]) ls (lv_sub hl [1, 2, 0] rfl)
        · refine lv_iload_n hx hb dX6_atPlace_57 rfl (lv_at hl 2 rfl) ?_
          exact kx (.inr v) (by rw [lX6_atPlace_2, if_neg c_9_1, ← en1, if_pos c_54_4]) 58 ls dX6_atPlace_58 rfl
  · cases hy_2 : n2 with
    | inl y9 =>
      show ∀ ls, lv_has ls 5 [(0, .ref h), (1, .int x1), (2, .int y9)] → W p l e rmX6_atPlace s m args below meth c s.heap [] 0 0 Q (F0 m 65 ls [])
      intro ls hl
      refine lv_iconst (v := (-1)) hx hb dX6_atPlace_65 (by decide) ?_
      exact rRi hx hb hr hlk hQ (by rw [fX6_atPlace, ← en2, hy_2, Sum.elim_inl]) rfl dX6_atPlace_66
    | inr q9 =>
      intro pc ls hd9 hn9
      exact rRi hx hb hr hlk hQ (by rw [fX6_atPlace, ← en2, hy_2, Sum.elim_inr]) hn9 hd9
def lX6_isFree_2 (S : SV) (x1 : Int32) (v : Int32) : Int32 ⊕ (Int32 ⊕ Int32) := (if (S.1 (1 : Int32).toNatClampNeg) ≤ v then (.inr (.inl v)) else (if (S.2.2.2.2.2.2.1 (v).toNatClampNeg) = x1 then (.inr (.inr 0)) else (.inl (v + 1))))
def glX6_isFree_2 (S : SV) (x1 : Int32) (v : Int32) : Prop := ((vp_in 1 114) ∧ (if (S.1 (1 : Int32).toNatClampNeg) ≤ v then True else ((vp_in v 12) ∧ True)))
def fX6_isFree (S : SV) (x1 : Int32) : Int32 := (Sum.elim (fun y9 => 1) (fun q9 => q9) (itv (.inl 0) (lX6_isFree_2 S x1) ((fun v : Int32 => ((S.1 (1 : Int32).toNatClampNeg).toInt - v.toInt).toNat) 0 + 1) 0))
def gX6_isFree (S : SV) (x1 : Int32) : Prop := ((∃ r9 : Int32 ⊕ Int32, lrun (lX6_isFree_2 S x1) (glX6_isFree_2 S x1) ((fun v : Int32 => ((S.1 (1 : Int32).toNatClampNeg).toInt - v.toInt).toNat) 0 + 1) 0 r9) ∧ True)
abbrev rmX6_isFree : Room := { frames := 0, cells := 0, slots := 0, locals := 0 }
set_option maxHeartbeats 4000000 in
set_option maxRecDepth 100000 in
theorem kX6_isFree (l : Launch) (D : va_G) (cI cC cT : ClassId) (h a1 a2 a3 a4 a5 a6 a7 a8 : Nat) (S : SV) (x1 : Int32) (hg : gX6_isFree S x1) : mR l D (TY cI cC cT) yX6_isFree wsX6_isFree rmX6_isFree [.ref h, .int x1] (w6 cI cC h a1 a2 a3 a4 a5 a6 a7 a8 S) (some (.int (fX6_isFree S x1))) := by
  refine mR.ofW (cc := cX6_isFree) (maxL := 3) (ret := (some .boolean)) (by decide) rfl (Nat.le_of_ble_eq_true rfl) ?_
  intro p e s m args below meth c Q ls hx hb hml hr hlk hts hown hP hK hl hQ
  have hown : s.vm.findClass RX6 = some m.cls := hown
  have hP : va_P D vwCl (w6 cI cC h a1 a2 a3 a4 a5 a6 a7 a8 S) s.heap := hP
  have hl : lv_has ls 3 [(0, .ref h), (1, .int x1)] := hl
  have q0 := hts (Cond.fieldLink RX6 7 "TavernStoolsModel" "g" "[I") (by decide +kernel)
  have q1 : ∀ w ∈ u_ws RX6 TX6 20, w ∈ wsX6_isFree := by decide +kernel
  have q2 := hts (Cond.fieldLink RX6 33 "TavernStoolsModel" "seats" "[I") (by decide +kernel)
  unfold gX6_isFree at hg
  refine lv_iconst (v := 0) hx hb dX6_isFree_0 (by decide) ?_
  refine lv_istore_n (lv' := [(2, .int 0), (0, .ref h), (1, .int x1)]) hx hb dX6_isFree_1 rfl hl (by decide) rfl (fun ls hl => ?_)
  obtain ⟨n1, en1⟩ : ∃ z9, z9 = (itv (.inl 0) (lX6_isFree_2 S x1) ((fun v : Int32 => ((S.1 (1 : Int32).toNatClampNeg).toInt - v.toInt).toNat) 0 + 1) 0) := ⟨_, rfl⟩
  try rw [← en1] at hg
  obtain ⟨o3, hg⟩ := hg
  have L9 := lrun_val (d := (.inl 0)) o3
  rw [← en1] at L9
  refine loopWs (lX6_isFree_2 S x1) (glX6_isFree_2 S x1) (fun v : Int32 => ∀ ls, lv_has ls 3 [(0, .ref h), (1, .int x1), (2, .int v)] → W p l e rmX6_isFree s m args below meth c s.heap [] 0 0 Q (F0 m 2 ls [])) (fun r8 : Int32 ⊕ Int32 => Sum.elim (fun r9 : Int32 => ∀ ls, lv_has ls 3 [(0, .ref h), (1, .int x1), (2, .int r9)] → W p l e rmX6_isFree s m args below meth c s.heap [] 0 0 Q (F0 m 30 ls [])) (fun q9 : Int32 => ∀ (pc : Nat) ls, decode cX6_isFree pc = .ok (.ireturn, 1) → narrow (.boolean) (.int q9) = .int q9 → W p l e rmX6_isFree s m args below meth c s.heap [] 0 0 Q (F0 m pc ls [.int q9])) r8) ?_ _ 0 n1 L9 ?_ ls (lv_sub hl [1, 2, 0] rfl)
  · intro v hg kb kx ls hl
    unfold glX6_isFree_2 at hg
    refine lv_iload_n hx hb dX6_isFree_2 rfl (lv_at hl 2 rfl) ?_
    refine lv_aload_n hx hb dX6_isFree_3 rfl (lv_at hl 0 rfl) ?_
    refine va_get (D := D) (ci := 7) (v := .ref a1) (C := RX6) (T := TX6) (N := 20) hx hb hts q1 hown hK hP 0 rfl rfl 0 (by decide) q0 (fun _ h9 => h9) rfl dX6_isFree_4 ?_
    refine lv_iconst (v := 1) hx hb dX6_isFree_7 (by decide) ?_
    obtain ⟨o1, hg⟩ := hg
    refine va_iald hx hb hK hP 1 0 rfl rfl o1 dX6_isFree_8 ?_
    refine lv_icmp_ge (tgt := 30) hx hb dX6_isFree_9 (by decide) (fun c_9_1 => ?_) (fun c_9_1 => ?_)
    · rw [if_pos c_9_1] at hg
      exact kx (.inl v) (by rw [lX6_isFree_2, if_pos c_9_1]) ls (lv_sub hl [0, 1, 2] rfl)
    · rw [if_neg c_9_1] at hg
      refine lv_aload_n hx hb dX6_isFree_12 rfl (lv_at hl 0 rfl) ?_
      refine va_get (D := D) (ci := 7) (v := .ref a7) (C := RX6) (T := TX6) (N := 20) hx hb hts q1 hown hK hP 0 rfl rfl 16 (by decide) q2 (fun _ h9 => h9) rfl dX6_isFree_13 ?_
      refine lv_iload_n hx hb dX6_isFree_16 rfl (lv_at hl 2 rfl) ?_
      obtain ⟨o2, hg⟩ := hg
      refine va_iald hx hb hK hP 7 0 rfl rfl o2 dX6_isFree_17 ?_
      refine lv_iload_n hx hb dX6_isFree_18 rfl (lv_at hl 1 rfl) ?_
      refine lv_icmp_ne (tgt := 24) hx hb dX6_isFree_19 (by decide) (fun c_19_2 => ?_) (fun c_19_2 => ?_)
      · refine lv_iinc (v := (v + 1)) (lv' := [(2, .int (v + 1)), (0, .ref h), (1, .int x1)]) hx hb dX6_isFree_24 hl (k := 2) rfl rfl (by decide) rfl (fun ls hl => ?_)
        refine lv_goto (tgt := 2) hx hb dX6_isFree_27 (by decide) ?_
        exact kb (v + 1) (by rw [lX6_isFree_2, if_neg c_9_1, if_neg c_19_2]) ls (lv_sub hl [1, 2, 0] rfl)
      · refine lv_iconst (v := 0) hx hb dX6_isFree_22 (by decide) ?_
        exact kx (.inr 0) (by rw [lX6_isFree_2, if_neg c_9_1, if_pos c_19_2]) 23 ls dX6_isFree_23 rfl
  · cases hy_2 : n1 with
    | inl y9 =>
      show ∀ ls, lv_has ls 3 [(0, .ref h), (1, .int x1), (2, .int y9)] → W p l e rmX6_isFree s m args below meth c s.heap [] 0 0 Q (F0 m 30 ls [])
      intro ls hl
      refine lv_iconst (v := 1) hx hb dX6_isFree_30 (by decide) ?_
      exact rRi hx hb hr hlk hQ (by rw [fX6_isFree, ← en1, hy_2, Sum.elim_inl]) rfl dX6_isFree_31
    | inr q9 =>
      intro pc ls hd9 hn9
      exact rRi hx hb hr hlk hQ (by rw [fX6_isFree, ← en1, hy_2, Sum.elim_inr]) hn9 hd9
def lX6_stoolFor_6 (S : SV) (x1 : Int32) (x3 : Int32) (v : (Int32 × Int32)) : (Int32 × Int32) ⊕ ((Int32 × Int32)) := (if x3 < v.2 then (.inr (v.1, v.2)) else (if (fX6_isFree S v.2) = 0 then (.inl (v.1, (v.2 + 1))) else (if (fX6_maySit S x1 v.2) = 0 then (.inl (v.1, (v.2 + 1))) else (if v.1 < 0 then (.inl (v.2, (v.2 + 1))) else (if (fX6_of S v.2 0) ≤ (fX6_of S v.1 0) then (.inl (v.1, (v.2 + 1))) else (.inl (v.2, (v.2 + 1))))))))
def glX6_stoolFor_6 (S : SV) (x1 : Int32) (x3 : Int32) (v : (Int32 × Int32)) : Prop := (if x3 < v.2 then True else ((gX6_isFree S v.2) ∧ (if (fX6_isFree S v.2) = 0 then True else ((gX6_maySit S x1 v.2) ∧ (if (fX6_maySit S x1 v.2) = 0 then True else (if v.1 < 0 then True else ((gX6_of S v.2 0) ∧ (gX6_of S v.1 0) ∧ True)))))))
def fX6_stoolFor (S : SV) (x1 : Int32) (x2 : Int32) (x3 : Int32) : Int32 := (itv ((-1), x2) (lX6_stoolFor_6 S x1 x3) ((fun v : (Int32 × Int32) => (x3.toInt + 1 - v.2.toInt).toNat) ((-1), x2) + 1) ((-1), x2)).1
def gX6_stoolFor (S : SV) (x1 : Int32) (x2 : Int32) (x3 : Int32) : Prop := ((∃ r9 : (Int32 × Int32), lrun (lX6_stoolFor_6 S x1 x3) (glX6_stoolFor_6 S x1 x3) ((fun v : (Int32 × Int32) => (x3.toInt + 1 - v.2.toInt).toNat) ((-1), x2) + 1) ((-1), x2) r9) ∧ True)
abbrev rmX6_stoolFor : Room := { frames := 3, cells := 0, slots := 0, locals := 65 }
set_option maxHeartbeats 4000000 in
set_option maxRecDepth 100000 in
theorem kX6_stoolFor (l : Launch) (D : va_G) (cI cC cT : ClassId) (h a1 a2 a3 a4 a5 a6 a7 a8 : Nat) (S : SV) (x1 : Int32) (x2 : Int32) (x3 : Int32) (hg : gX6_stoolFor S x1 x2 x3) : mR l D (TY cI cC cT) yX6_stoolFor wsX6_stoolFor rmX6_stoolFor [.ref h, .int x1, .int x2, .int x3] (w6 cI cC h a1 a2 a3 a4 a5 a6 a7 a8 S) (some (.int (fX6_stoolFor S x1 x2 x3))) := by
  refine mR.ofW (cc := cX6_stoolFor) (maxL := 6) (ret := (some .int)) (by decide) rfl (Nat.le_of_ble_eq_true rfl) ?_
  intro p e s m args below meth c Q ls hx hb hml hr hlk hts hown hP hK hl hQ
  have hown : s.vm.findClass RX6 = some m.cls := hown
  have hP : va_P D vwCl (w6 cI cC h a1 a2 a3 a4 a5 a6 a7 a8 S) s.heap := hP
  have hl : lv_has ls 6 [(0, .ref h), (1, .int x1), (2, .int x2), (3, .int x3)] := hl
  unfold gX6_stoolFor at hg
  refine lv_iconst (v := (-1)) hx hb dX6_stoolFor_0 (by decide) ?_
  refine lv_istore (lv' := [(4, .int (-1)), (0, .ref h), (1, .int x1), (2, .int x2), (3, .int x3)]) hx hb dX6_stoolFor_1 hl (by decide) rfl (fun ls hl => ?_)
  refine lv_iload_n hx hb dX6_stoolFor_3 rfl (lv_at hl 3 rfl) ?_
  refine lv_istore (lv' := [(5, .int x2), (4, .int (-1)), (0, .ref h), (1, .int x1), (2, .int x2), (3, .int x3)]) hx hb dX6_stoolFor_4 hl (by decide) rfl (fun ls hl => ?_)
  obtain ⟨n1, en1⟩ : ∃ z9, z9 = (itv ((-1), x2) (lX6_stoolFor_6 S x1 x3) ((fun v : (Int32 × Int32) => (x3.toInt + 1 - v.2.toInt).toNat) ((-1), x2) + 1) ((-1), x2)) := ⟨_, rfl⟩
  try rw [← en1] at hg
  obtain ⟨o5, hg⟩ := hg
  have L9 := lrun_val (d := ((-1), x2)) o5
  rw [← en1] at L9
  refine loopWs (lX6_stoolFor_6 S x1 x3) (glX6_stoolFor_6 S x1 x3) (fun v : (Int32 × Int32) => ∀ ls, lv_has ls 6 [(0, .ref h), (1, .int x1), (2, .int x2), (3, .int x3), (4, .int v.1), (5, .int v.2)] → W p l e rmX6_stoolFor s m args below meth c s.heap [] 0 0 Q (F0 m 6 ls [])) (fun r9 : (Int32 × Int32) => ∀ ls, lv_has ls 6 [(0, .ref h), (1, .int x1), (2, .int x2), (3, .int x3), (4, .int r9.1), (5, .int r9.2)] → W p l e rmX6_stoolFor s m args below meth c s.heap [] 0 0 Q (F0 m 63 ls [])) ?_ _ ((-1), x2) n1 L9 ?_ ls (lv_sub hl [2, 3, 4, 5, 1, 0] rfl)
  · intro v hg kb kx ls hl
    unfold glX6_stoolFor_6 at hg
    refine lv_iload hx hb dX6_stoolFor_6 (lv_at hl 5 rfl) ?_
    refine lv_iload_n hx hb dX6_stoolFor_8 rfl (lv_at hl 3 rfl) ?_
    refine lv_icmp_gt (tgt := 63) hx hb dX6_stoolFor_9 (by decide) (fun c_9_1 => ?_) (fun c_9_1 => ?_)
    · rw [if_pos c_9_1] at hg
      exact kx (v.1, v.2) (by rw [lX6_stoolFor_6, if_pos c_9_1]) ls (lv_sub hl [0, 1, 2, 3, 4, 5] rfl)
    · rw [if_neg c_9_1] at hg
      refine lv_aload_n hx hb dX6_stoolFor_12 rfl (lv_at hl 0 rfl) ?_
      refine lv_iload hx hb dX6_stoolFor_13 (lv_at hl 5 rfl) ?_
      obtain ⟨o1, hg⟩ := hg
      refine fRV (As := [.int v.2]) (rest := []) (st' := [.int (fX6_isFree S v.2)]) ⟨hx, hb, hml, hown, hts⟩ (kX6_isFree l D cI cC cT h a1 a2 a3 a4 a5 a6 a7 a8 S v.2 o1) (cwV 1 hts gX6_stoolFor_X6_isFree rfl rfl rfl (by decide +kernel) ⟨Nat.le_of_ble_eq_true rfl, Nat.le_of_ble_eq_true rfl⟩) hP hK [0, 1, 2, 3, 4, 5, 6, 7, 8] rfl 0 (ci := 7) rfl rfl rfl rfl hl.1 rfl rfl (Nat.le_of_ble_eq_true rfl) ⟨Nat.zero_le _, Nat.zero_le _⟩ dX6_stoolFor_15 ?_
      refine lv_if_eq (tgt := 57) hx hb dX6_stoolFor_18 (by decide) (fun c_18_2 => ?_) (fun c_18_2 => ?_)
      · rw [if_pos c_18_2] at hg
        refine lv_iinc (v := (v.2 + 1)) (lv' := [(5, .int (v.2 + 1)), (0, .ref h), (1, .int x1), (2, .int x2), (3, .int x3), (4, .int v.1)]) hx hb dX6_stoolFor_57 hl (k := 5) rfl rfl (by decide) rfl (fun ls hl => ?_)
        refine lv_goto (tgt := 6) hx hb dX6_stoolFor_60 (by decide) ?_
        exact kb (v.1, (v.2 + 1)) (by rw [lX6_stoolFor_6, if_neg c_9_1, if_pos c_18_2]) ls (lv_sub hl [1, 2, 3, 4, 5, 0] rfl)
      · rw [if_neg c_18_2] at hg
        refine lv_aload_n hx hb dX6_stoolFor_21 rfl (lv_at hl 0 rfl) ?_
        refine lv_iload_n hx hb dX6_stoolFor_22 rfl (lv_at hl 1 rfl) ?_
        refine lv_iload hx hb dX6_stoolFor_23 (lv_at hl 5 rfl) ?_
        obtain ⟨o2, hg⟩ := hg
        refine fRV (As := [.int x1, .int v.2]) (rest := []) (st' := [.int (fX6_maySit S x1 v.2)]) ⟨hx, hb, hml, hown, hts⟩ (kX6_maySit l D cI cC cT h a1 a2 a3 a4 a5 a6 a7 a8 S x1 v.2 o2) (cwV 2 hts gX6_stoolFor_X6_maySit rfl rfl rfl (by decide +kernel) ⟨Nat.le_of_ble_eq_true rfl, Nat.le_of_ble_eq_true rfl⟩) hP hK [0, 1, 2, 3, 4, 5, 6, 7, 8] rfl 0 (ci := 7) rfl rfl rfl rfl hl.1 rfl rfl (Nat.le_of_ble_eq_true rfl) ⟨Nat.zero_le _, Nat.zero_le _⟩ dX6_stoolFor_25 ?_
        refine lv_if_eq (tgt := 57) hx hb dX6_stoolFor_28 (by decide) (fun c_28_3 => ?_) (fun c_28_3 => ?_)
        · rw [if_pos c_28_3] at hg
          refine lv_iinc (v := (v.2 + 1)) (lv' := [(5, .int (v.2 + 1)), (0, .ref h), (1, .int x1), (2, .int x2), (3, .int x3), (4, .int v.1)]) hx hb dX6_stoolFor_57 hl (k := 5) rfl rfl (by decide) rfl (fun ls hl => ?_)
          refine lv_goto (tgt := 6) hx hb dX6_stoolFor_60 (by decide) ?_
          exact kb (v.1, (v.2 + 1)) (by rw [lX6_stoolFor_6, if_neg c_9_1, if_neg c_18_2, if_pos c_28_3]) ls (lv_sub hl [1, 2, 3, 4, 5, 0] rfl)
        · rw [if_neg c_28_3] at hg
          refine lv_iload hx hb dX6_stoolFor_31 (lv_at hl 4 rfl) ?_
          refine lv_if_lt (tgt := 53) hx hb dX6_stoolFor_33 (by decide) (fun c_33_4 => ?_) (fun c_33_4 => ?_)
          · rw [if_pos c_33_4] at hg
            refine lv_iload hx hb dX6_stoolFor_53 (lv_at hl 5 rfl) ?_
            refine lv_istore (lv' := [(4, .int v.2), (0, .ref h), (1, .int x1), (2, .int x2), (3, .int x3), (5, .int v.2)]) hx hb dX6_stoolFor_55 hl (by decide) rfl (fun ls hl => ?_)
            refine lv_iinc (v := (v.2 + 1)) (lv' := [(5, .int (v.2 + 1)), (4, .int v.2), (0, .ref h), (1, .int x1), (2, .int x2), (3, .int x3)]) hx hb dX6_stoolFor_57 hl (k := 5) rfl rfl (by decide) rfl (fun ls hl => ?_)
            refine lv_goto (tgt := 6) hx hb dX6_stoolFor_60 (by decide) ?_
            exact kb (v.2, (v.2 + 1)) (by rw [lX6_stoolFor_6, if_neg c_9_1, if_neg c_18_2, if_neg c_28_3, if_pos c_33_4]) ls (lv_sub hl [2, 3, 4, 5, 1, 0] rfl)
          · rw [if_neg c_33_4] at hg
            refine lv_aload_n hx hb dX6_stoolFor_36 rfl (lv_at hl 0 rfl) ?_
            refine lv_iload hx hb dX6_stoolFor_37 (lv_at hl 5 rfl) ?_
            refine lv_iconst (v := 0) hx hb dX6_stoolFor_39 (by decide) ?_
            obtain ⟨o3, hg⟩ := hg
            refine fRV (As := [.int v.2, .int 0]) (rest := []) (st' := [.int (fX6_of S v.2 0)]) ⟨hx, hb, hml, hown, hts⟩ (kX6_of l D cI cC cT h a1 a2 a3 a4 a5 a6 a7 a8 S v.2 0 o3) (cwV 2 hts gX6_stoolFor_X6_of rfl rfl rfl (by decide +kernel) ⟨Nat.le_of_ble_eq_true rfl, Nat.le_of_ble_eq_true rfl⟩) hP hK [0, 1, 2, 3, 4, 5, 6, 7, 8] rfl 0 (ci := 7) rfl rfl rfl rfl hl.1 rfl rfl (Nat.le_of_ble_eq_true rfl) ⟨Nat.zero_le _, Nat.zero_le _⟩ dX6_stoolFor_40 ?_
            refine lv_aload_n hx hb dX6_stoolFor_43 rfl (lv_at hl 0 rfl) ?_
            refine lv_iload hx hb dX6_stoolFor_44 (lv_at hl 4 rfl) ?_
            refine lv_iconst (v := 0) hx hb dX6_stoolFor_46 (by decide) ?_
            obtain ⟨o4, hg⟩ := hg
            refine fRV (As := [.int v.1, .int 0]) (rest := [.int (fX6_of S v.2 0)]) (st' := [.int (fX6_of S v.1 0), .int (fX6_of S v.2 0)]) ⟨hx, hb, hml, hown, hts⟩ (kX6_of l D cI cC cT h a1 a2 a3 a4 a5 a6 a7 a8 S v.1 0 o4) (cwV 2 hts gX6_stoolFor_X6_of rfl rfl rfl (by decide +kernel) ⟨Nat.le_of_ble_eq_true rfl, Nat.le_of_ble_eq_true rfl⟩) hP hK [0, 1, 2, 3, 4, 5, 6, 7, 8] rfl 0 (ci := 7) rfl rfl rfl rfl hl.1 rfl rfl (Nat.le_of_ble_eq_true rfl) ⟨Nat.zero_le _, Nat.zero_le _⟩ dX6_stoolFor_47 ?_
            refine lv_icmp_le (tgt := 57) hx hb dX6_stoolFor_50 (by decide) (fun c_50_5 => ?_) (fun c_50_5 => ?_)
            · refine lv_iinc (v := (v.2 + 1)) (lv' := [(5, .int (v.2 + 1)), (0, .ref h), (1, .int x1), (2, .int x2), (3, .int x3), (4, .int v.1)]) hx hb dX6_stoolFor_57 hl (k := 5) rfl rfl (by decide) rfl (fun ls hl => ?_)
              refine lv_goto (tgt := 6) hx hb dX6_stoolFor_60 (by decide) ?_
              exact kb (v.1, (v.2 + 1)) (by rw [lX6_stoolFor_6, if_neg c_9_1, if_neg c_18_2, if_neg c_28_3, if_neg c_33_4, if_pos c_50_5]) ls (lv_sub hl [1, 2, 3, 4, 5, 0] rfl)
            · refine lv_iload hx hb dX6_stoolFor_53 (lv_at hl 5 rfl) ?_
              refine lv_istore (lv' := [(4, .int v.2), (0, .ref h), (1, .int x1), (2, .int x2), (3, .int x3), (5, .int v.2)]) hx hb dX6_stoolFor_55 hl (by decide) rfl (fun ls hl => ?_)
              refine lv_iinc (v := (v.2 + 1)) (lv' := [(5, .int (v.2 + 1)), (4, .int v.2), (0, .ref h), (1, .int x1), (2, .int x2), (3, .int x3)]) hx hb dX6_stoolFor_57 hl (k := 5) rfl rfl (by decide) rfl (fun ls hl => ?_)
              refine lv_goto (tgt := 6) hx hb dX6_stoolFor_60 (by decide) ?_
              exact kb (v.2, (v.2 + 1)) (by rw [lX6_stoolFor_6, if_neg c_9_1, if_neg c_18_2, if_neg c_28_3, if_neg c_33_4, if_neg c_50_5]) ls (lv_sub hl [2, 3, 4, 5, 1, 0] rfl)
  · intro ls hl
    refine lv_iload hx hb dX6_stoolFor_63 (lv_at hl 4 rfl) ?_
    exact rRi hx hb hr hlk hQ (by rw [fX6_stoolFor, ← en1]) rfl dX6_stoolFor_65
def lX6_reseats_9 (x1 : Int32) (x2 : Int32) (v : (SV × Int32 × Int32)) : (SV × Int32 × Int32) ⊕ ((SV × Int32 × Int32)) := (if (v.1.1 (1 : Int32).toNatClampNeg) ≤ v.2.2 then (.inr (v.1, v.2.1, v.2.2)) else (if (fX6_in (v.1.2.2.2.2.2.2.1 (v.2.2).toNatClampNeg) x1 x2) = 0 then (.inl (v.1, v.2.1, (v.2.2 + 1))) else (.inl ((sS6 (upd v.1.2.2.2.2.2.2.1 (v.2.2).toNatClampNeg (-1)) v.1), (v.2.1 ||| (1 <<< (v.2.2 &&& 31))), (v.2.2 + 1)))))
def glX6_reseats_9 (x1 : Int32) (x2 : Int32) (v : (SV × Int32 × Int32)) : Prop := ((vp_in 1 114) ∧ (if (v.1.1 (1 : Int32).toNatClampNeg) ≤ v.2.2 then True else ((vp_in v.2.2 12) ∧ (if (fX6_in (v.1.2.2.2.2.2.2.1 (v.2.2).toNatClampNeg) x1 x2) = 0 then True else ((vp_in v.2.2 12) ∧ True)))))
def lX6_reseats_65 (x1 : Int32) (x2 : Int32) (n2 : (SV × Int32 × Int32)) (v : (SV × Int32 × Int32)) : (SV × Int32 × Int32) ⊕ ((SV × Int32 × Int32)) := (if (v.1.1 (1 : Int32).toNatClampNeg) ≤ v.2.2 then (.inr (v.1, v.2.1, v.2.2)) else (if ((n2.2.1 >>> ((fX6_atPlace v.1 v.2.2) &&& 31)) &&& 1) = 0 then (.inl (v.1, v.2.1, (v.2.2 + 1))) else (if ((upd v.1.2.2.2.2.2.2.1 ((fX6_atPlace v.1 v.2.2)).toNatClampNeg (fX6_stoolFor v.1 (fX6_atPlace v.1 v.2.2) x1 x2)) ((fX6_atPlace v.1 v.2.2)).toNatClampNeg) = (fX6_by (sS6 (upd v.1.2.2.2.2.2.2.1 ((fX6_atPlace v.1 v.2.2)).toNatClampNeg (fX6_stoolFor v.1 (fX6_atPlace v.1 v.2.2) x1 x2)) v.1) (fX6_atPlace v.1 v.2.2) 2) then (.inl ((sS6 (upd v.1.2.2.2.2.2.2.1 ((fX6_atPlace v.1 v.2.2)).toNatClampNeg (fX6_stoolFor v.1 (fX6_atPlace v.1 v.2.2) x1 x2)) v.1), (v.2.1 + 0), (v.2.2 + 1))) else (.inl ((sS6 (upd v.1.2.2.2.2.2.2.1 ((fX6_atPlace v.1 v.2.2)).toNatClampNeg (fX6_stoolFor v.1 (fX6_atPlace v.1 v.2.2) x1 x2)) v.1), (v.2.1 + 1), (v.2.2 + 1))))))
def glX6_reseats_65 (x1 : Int32) (x2 : Int32) (n2 : (SV × Int32 × Int32)) (v : (SV × Int32 × Int32)) : Prop := ((vp_in 1 114) ∧ (if (v.1.1 (1 : Int32).toNatClampNeg) ≤ v.2.2 then True else ((gX6_atPlace v.1 v.2.2) ∧ (if ((n2.2.1 >>> ((fX6_atPlace v.1 v.2.2) &&& 31)) &&& 1) = 0 then True else ((gX6_stoolFor v.1 (fX6_atPlace v.1 v.2.2) x1 x2) ∧ (vp_in (fX6_atPlace v.1 v.2.2) 12) ∧ (vp_in (fX6_atPlace v.1 v.2.2) 12) ∧ (gX6_by (sS6 (upd v.1.2.2.2.2.2.2.1 ((fX6_atPlace v.1 v.2.2)).toNatClampNeg (fX6_stoolFor v.1 (fX6_atPlace v.1 v.2.2) x1 x2)) v.1) (fX6_atPlace v.1 v.2.2) 2) ∧ True)))))
def fX6_reseats (S : SV) (x1 : Int32) (x2 : Int32) : (Int32 × SV) := ((itv ((itv ((fX6_laysSeats S), 0, 0) (lX6_reseats_9 x1 x2) ((fun v : (SV × Int32 × Int32) => ((v.1.1 (1 : Int32).toNatClampNeg).toInt - v.2.2.toInt).toNat) ((fX6_laysSeats S), 0, 0) + 1) ((fX6_laysSeats S), 0, 0)).1, 0, 0) (lX6_reseats_65 x1 x2 (itv ((fX6_laysSeats S), 0, 0) (lX6_reseats_9 x1 x2) ((fun v : (SV × Int32 × Int32) => ((v.1.1 (1 : Int32).toNatClampNeg).toInt - v.2.2.toInt).toNat) ((fX6_laysSeats S), 0, 0) + 1) ((fX6_laysSeats S), 0, 0))) ((fun v : (SV × Int32 × Int32) => ((v.1.1 (1 : Int32).toNatClampNeg).toInt - v.2.2.toInt).toNat) ((itv ((fX6_laysSeats S), 0, 0) (lX6_reseats_9 x1 x2) ((fun v : (SV × Int32 × Int32) => ((v.1.1 (1 : Int32).toNatClampNeg).toInt - v.2.2.toInt).toNat) ((fX6_laysSeats S), 0, 0) + 1) ((fX6_laysSeats S), 0, 0)).1, 0, 0) + 1) ((itv ((fX6_laysSeats S), 0, 0) (lX6_reseats_9 x1 x2) ((fun v : (SV × Int32 × Int32) => ((v.1.1 (1 : Int32).toNatClampNeg).toInt - v.2.2.toInt).toNat) ((fX6_laysSeats S), 0, 0) + 1) ((fX6_laysSeats S), 0, 0)).1, 0, 0)).2.1, (itv ((itv ((fX6_laysSeats S), 0, 0) (lX6_reseats_9 x1 x2) ((fun v : (SV × Int32 × Int32) => ((v.1.1 (1 : Int32).toNatClampNeg).toInt - v.2.2.toInt).toNat) ((fX6_laysSeats S), 0, 0) + 1) ((fX6_laysSeats S), 0, 0)).1, 0, 0) (lX6_reseats_65 x1 x2 (itv ((fX6_laysSeats S), 0, 0) (lX6_reseats_9 x1 x2) ((fun v : (SV × Int32 × Int32) => ((v.1.1 (1 : Int32).toNatClampNeg).toInt - v.2.2.toInt).toNat) ((fX6_laysSeats S), 0, 0) + 1) ((fX6_laysSeats S), 0, 0))) ((fun v : (SV × Int32 × Int32) => ((v.1.1 (1 : Int32).toNatClampNeg).toInt - v.2.2.toInt).toNat) ((itv ((fX6_laysSeats S), 0, 0) (lX6_reseats_9 x1 x2) ((fun v : (SV × Int32 × Int32) => ((v.1.1 (1 : Int32).toNatClampNeg).toInt - v.2.2.toInt).toNat) ((fX6_laysSeats S), 0, 0) + 1) ((fX6_laysSeats S), 0, 0)).1, 0, 0) + 1) ((itv ((fX6_laysSeats S), 0, 0) (lX6_reseats_9 x1 x2) ((fun v : (SV × Int32 × Int32) => ((v.1.1 (1 : Int32).toNatClampNeg).toInt - v.2.2.toInt).toNat) ((fX6_laysSeats S), 0, 0) + 1) ((fX6_laysSeats S), 0, 0)).1, 0, 0)).1)
def gX6_reseats (S : SV) (x1 : Int32) (x2 : Int32) : Prop := ((gX6_laysSeats S) ∧ (∃ r9 : (SV × Int32 × Int32), lrun (lX6_reseats_9 x1 x2) (glX6_reseats_9 x1 x2) ((fun v : (SV × Int32 × Int32) => ((v.1.1 (1 : Int32).toNatClampNeg).toInt - v.2.2.toInt).toNat) ((fX6_laysSeats S), 0, 0) + 1) ((fX6_laysSeats S), 0, 0) r9) ∧ ((∃ r9 : (SV × Int32 × Int32), lrun (lX6_reseats_65 x1 x2 (itv ((fX6_laysSeats S), 0, 0) (lX6_reseats_9 x1 x2) ((fun v : (SV × Int32 × Int32) => ((v.1.1 (1 : Int32).toNatClampNeg).toInt - v.2.2.toInt).toNat) ((fX6_laysSeats S), 0, 0) + 1) ((fX6_laysSeats S), 0, 0))) (glX6_reseats_65 x1 x2 (itv ((fX6_laysSeats S), 0, 0) (lX6_reseats_9 x1 x2) ((fun v : (SV × Int32 × Int32) => ((v.1.1 (1 : Int32).toNatClampNeg).toInt - v.2.2.toInt).toNat) ((fX6_laysSeats S), 0, 0) + 1) ((fX6_laysSeats S), 0, 0))) ((fun v : (SV × Int32 × Int32) => ((v.1.1 (1 : Int32).toNatClampNeg).toInt - v.2.2.toInt).toNat) ((itv ((fX6_laysSeats S), 0, 0) (lX6_reseats_9 x1 x2) ((fun v : (SV × Int32 × Int32) => ((v.1.1 (1 : Int32).toNatClampNeg).toInt - v.2.2.toInt).toNat) ((fX6_laysSeats S), 0, 0) + 1) ((fX6_laysSeats S), 0, 0)).1, 0, 0) + 1) ((itv ((fX6_laysSeats S), 0, 0) (lX6_reseats_9 x1 x2) ((fun v : (SV × Int32 × Int32) => ((v.1.1 (1 : Int32).toNatClampNeg).toInt - v.2.2.toInt).toNat) ((fX6_laysSeats S), 0, 0) + 1) ((fX6_laysSeats S), 0, 0)).1, 0, 0) r9) ∧ True))
abbrev rmX6_reseats : Room := { frames := 4, cells := 0, slots := 0, locals := 90 }
set_option maxHeartbeats 4000000 in
set_option maxRecDepth 100000 in
theorem kX6_reseats (l : Launch) (D : va_G) (cI cC cT : ClassId) (h a1 a2 a3 a4 a5 a6 a7 a8 : Nat) (S : SV) (x1 : Int32) (x2 : Int32) (hg : gX6_reseats S x1 x2) : mU l D (TY cI cC cT) yX6_reseats wsX6_reseats rmX6_reseats [.ref h, .int x1, .int x2] (w6 cI cC h a1 a2 a3 a4 a5 a6 a7 a8 S) (some (.int (fX6_reseats S x1 x2).1)) (w6 cI cC h a1 a2 a3 a4 a5 a6 a7 a8 (fX6_reseats S x1 x2).2) := by
  refine mU.ofW (cc := cX6_reseats) (maxL := 7) (ret := (some .int)) (by decide) rfl (Nat.le_of_ble_eq_true rfl) ?_
  intro p e s m args below meth c Q ls A hx hb hml hr hlk hts hown hP hK hD hS hl hQ
  have hown : s.vm.findClass RX6 = some m.cls := hown
  have hP : va_P D vwCl (w6 cI cC h a1 a2 a3 a4 a5 a6 a7 a8 S) s.heap := hP
  have hD : va_D A (w6 cI cC h a1 a2 a3 a4 a5 a6 a7 a8 S) := hD
  have hl : lv_has ls 7 [(0, .ref h), (1, .int x1), (2, .int x2)] := hl
  have q0 := hts (Cond.fieldLink RX6 7 "TavernStoolsModel" "g" "[I") (by decide +kernel)
  have q1 : ∀ w ∈ u_ws RX6 TX6 20, w ∈ wsX6_reseats := by decide +kernel
  have q2 := hts (Cond.fieldLink RX6 33 "TavernStoolsModel" "seats" "[I") (by decide +kernel)
  unfold gX6_reseats at hg
  generalize hHe : s.heap = H at hP ⊢
  have hS : va_S A s.heap H [] := hHe ▸ hS
  generalize hLe : ([] : List Loc) = locs at hS ⊢
  refine lv_aload_n hx hb dX6_reseats_0 rfl (lv_at hl 0 rfl) ?_
  obtain ⟨n1, en1⟩ : ∃ z9, z9 = (fX6_laysSeats S) := ⟨_, rfl⟩
  try rw [← en1] at hg
  obtain ⟨o1, hg⟩ := hg
  have k9 := (kX6_laysSeats l D cI cC cT h a1 a2 a3 a4 a5 a6 a7 a8 S o1)
  rw [← en1] at k9
  refine fUV (As := []) (rest := []) (st' := []) ⟨hx, hb, hml, hown, hts⟩ k9 (cwV 0 hts gX6_reseats_X6_laysSeats rfl rfl rfl (by decide +kernel) ⟨Nat.le_of_ble_eq_true rfl, Nat.le_of_ble_eq_true rfl⟩) hP hK hD hS [0, 1, 2, 3, 4, 5, 6, 7, 8] rfl rfl (by decide) rfl (w6 cI cC h a1 a2 a3 a4 a5 a6 a7 a8 n1) rfl rfl 0 (ci := 7) rfl rfl rfl rfl hl.1 rfl rfl (Nat.le_of_ble_eq_true rfl) ⟨Nat.zero_le _, Nat.zero_le _⟩ dX6_reseats_1 (fun H locs hP hD hS => ?_)
  refine lv_iconst (v := 0) hx hb dX6_reseats_4 (by decide) ?_
  refine lv_istore_n (lv' := [(3, .int 0), (0, .ref h), (1, .int x1), (2, .int x2)]) hx hb dX6_reseats_5 rfl hl (by decide) rfl (fun ls hl => ?_)
  refine lv_iconst (v := 0) hx hb dX6_reseats_6 (by decide) ?_
  refine lv_istore (lv' := [(4, .int 0), (3, .int 0), (0, .ref h), (1, .int x1), (2, .int x2)]) hx hb dX6_reseats_7 hl (by decide) rfl (fun ls hl => ?_)
  obtain ⟨n2, en2⟩ : ∃ z9, z9 = (itv (n1, 0, 0) (lX6_reseats_9 x1 x2) ((fun v : (SV × Int32 × Int32) => ((v.1.1 (1 : Int32).toNatClampNeg).toInt - v.2.2.toInt).toNat) (n1, 0, 0) + 1) (n1, 0, 0)) := ⟨_, rfl⟩
  try rw [← en2] at hg
  obtain ⟨o5, hg⟩ := hg
  have L9 := lrun_val (d := (n1, 0, 0)) o5
  rw [← en2] at L9
  refine loopWs (lX6_reseats_9 x1 x2) (glX6_reseats_9 x1 x2) (fun v : (SV × Int32 × Int32) => ∀ (H : Heap) (locs : List Loc) ls, va_P D vwCl (w6 cI cC h a1 a2 a3 a4 a5 a6 a7 a8 v.1) H → va_D A (w6 cI cC h a1 a2 a3 a4 a5 a6 a7 a8 v.1) → va_S A s.heap H locs → lv_has ls 7 [(0, .ref h), (1, .int x1), (2, .int x2), (3, .int v.2.1), (4, .int v.2.2)] → W p l e rmX6_reseats s m args below meth c H locs 0 0 Q (F0 m 9 ls [])) (fun r9 : (SV × Int32 × Int32) => ∀ (H : Heap) (locs : List Loc) ls, va_P D vwCl (w6 cI cC h a1 a2 a3 a4 a5 a6 a7 a8 r9.1) H → va_D A (w6 cI cC h a1 a2 a3 a4 a5 a6 a7 a8 r9.1) → va_S A s.heap H locs → lv_has ls 7 [(0, .ref h), (1, .int x1), (2, .int x2), (3, .int r9.2.1), (4, .int r9.2.2)] → W p l e rmX6_reseats s m args below meth c H locs 0 0 Q (F0 m 59 ls [])) ?_ _ (n1, 0, 0) n2 L9 ?_ _ _ ls hP hD hS (lv_sub hl [2, 3, 4, 1, 0] rfl)
  · intro v hg kb kx H locs ls hP hD hS hl
    unfold glX6_reseats_9 at hg
    refine lv_iload hx hb dX6_reseats_9 (lv_at hl 4 rfl) ?_
    refine lv_aload_n hx hb dX6_reseats_11 rfl (lv_at hl 0 rfl) ?_
    refine va_get (D := D) (ci := 7) (v := .ref a1) (C := RX6) (T := TX6) (N := 20) hx hb hts q1 hown hK hP 0 rfl rfl 0 (by decide) q0 (fun _ h9 => h9) rfl dX6_reseats_12 ?_
    refine lv_iconst (v := 1) hx hb dX6_reseats_15 (by decide) ?_
    obtain ⟨o2, hg⟩ := hg
    refine va_iald hx hb hK hP 1 0 rfl rfl o2 dX6_reseats_16 ?_
    refine lv_icmp_ge (tgt := 59) hx hb dX6_reseats_17 (by decide) (fun c_17_1 => ?_) (fun c_17_1 => ?_)
    · rw [if_pos c_17_1] at hg
      exact kx (v.1, v.2.1, v.2.2) (by rw [lX6_reseats_9, if_pos c_17_1]) H locs ls hP hD hS (lv_sub hl [0, 1, 2, 3, 4] rfl)
    · rw [if_neg c_17_1] at hg
      refine lv_aload_n hx hb dX6_reseats_20 rfl (lv_at hl 0 rfl) ?_
      refine va_get (D := D) (ci := 7) (v := .ref a7) (C := RX6) (T := TX6) (N := 20) hx hb hts q1 hown hK hP 0 rfl rfl 16 (by decide) q2 (fun _ h9 => h9) rfl dX6_reseats_21 ?_
      refine lv_iload hx hb dX6_reseats_24 (lv_at hl 4 rfl) ?_
      obtain ⟨o3, hg⟩ := hg
      refine va_iald hx hb hK hP 7 0 rfl rfl o3 dX6_reseats_26 ?_
      refine lv_iload_n hx hb dX6_reseats_27 rfl (lv_at hl 1 rfl) ?_
      refine lv_iload_n hx hb dX6_reseats_28 rfl (lv_at hl 2 rfl) ?_
      refine fRS (As := [.int (v.1.2.2.2.2.2.2.1 (v.2.2).toNatClampNeg), .int x1, .int x2]) (rest := []) (st' := [.int (fX6_in (v.1.2.2.2.2.2.2.1 (v.2.2).toNatClampNeg) x1 x2)]) ⟨hx, hb, hml, hown, hts⟩ (kX6_in l D cI cC cT (v.1.2.2.2.2.2.2.1 (v.2.2).toNatClampNeg) x1 x2) (va_cwS 3 hts gX6_reseats_X6_in rfl rfl rfl (by decide +kernel) ⟨Nat.le_of_ble_eq_true rfl, Nat.le_of_ble_eq_true rfl⟩) hP hK [] rfl rfl hl.1 rfl rfl (Nat.le_of_ble_eq_true rfl) ⟨Nat.zero_le _, Nat.zero_le _⟩ dX6_reseats_29 ?_
      refine lv_if_ne (tgt := 38) hx hb dX6_reseats_32 (by decide) (fun c_32_2 => ?_) (fun c_32_2 => ?_)
      · rw [if_neg c_32_2] at hg
        refine lv_aload_n hx hb dX6_reseats_38 rfl (lv_at hl 0 rfl) ?_
        refine va_get (D := D) (ci := 7) (v := .ref a7) (C := RX6) (T := TX6) (N := 20) hx hb hts q1 hown hK hP 0 rfl rfl 16 (by decide) q2 (fun _ h9 => h9) rfl dX6_reseats_39 ?_
        refine lv_iload hx hb dX6_reseats_42 (lv_at hl 4 rfl) ?_
        refine lv_iconst (v := (-1)) hx hb dX6_reseats_44 (by decide) ?_
        obtain ⟨o4, hg⟩ := hg
        refine va_iast hx hb hK hP hD hS 7 0 rfl rfl o4 dX6_reseats_45 (fun H locs hP hD hS => ?_)
        have hP : va_P D vwCl (w6 cI cC h a1 a2 a3 a4 a5 a6 a7 a8 (sS6 (upd v.1.2.2.2.2.2.2.1 (v.2.2).toNatClampNeg (-1)) v.1)) H := w6p_6 hP
        have hD : va_D A (w6 cI cC h a1 a2 a3 a4 a5 a6 a7 a8 (sS6 (upd v.1.2.2.2.2.2.2.1 (v.2.2).toNatClampNeg (-1)) v.1)) := w6d_6 hD
        refine lv_iload_n hx hb dX6_reseats_46 rfl (lv_at hl 3 rfl) ?_
        refine lv_iconst (v := 1) hx hb dX6_reseats_47 (by decide) ?_
        refine lv_iload hx hb dX6_reseats_48 (lv_at hl 4 rfl) ?_
        refine lv_ishl hx hb dX6_reseats_50 ?_
        refine lv_ior hx hb dX6_reseats_51 ?_
        refine lv_istore_n (lv' := [(3, .int (v.2.1 ||| (1 <<< (v.2.2 &&& 31)))), (0, .ref h), (1, .int x1), (2, .int x2), (4, .int v.2.2)]) hx hb dX6_reseats_52 rfl hl (by decide) rfl (fun ls hl => ?_)
        refine lv_iinc (v := (v.2.2 + 1)) (lv' := [(4, .int (v.2.2 + 1)), (3, .int (v.2.1 ||| (1 <<< (v.2.2 &&& 31)))), (0, .ref h), (1, .int x1), (2, .int x2)]) hx hb dX6_reseats_53 hl (k := 4) rfl rfl (by decide) rfl (fun ls hl => ?_)
        refine lv_goto (tgt := 9) hx hb dX6_reseats_56 (by decide) ?_
        exact kb ((sS6 (upd v.1.2.2.2.2.2.2.1 (v.2.2).toNatClampNeg (-1)) v.1), (v.2.1 ||| (1 <<< (v.2.2 &&& 31))), (v.2.2 + 1)) (by rw [lX6_reseats_9, if_neg c_17_1, if_neg c_32_2]) H locs ls hP hD hS (lv_sub hl [2, 3, 4, 1, 0] rfl)
      · rw [if_pos c_32_2] at hg
        refine lv_goto (tgt := 53) hx hb dX6_reseats_35 (by decide) ?_
        refine lv_iinc (v := (v.2.2 + 1)) (lv' := [(4, .int (v.2.2 + 1)), (0, .ref h), (1, .int x1), (2, .int x2), (3, .int v.2.1)]) hx hb dX6_reseats_53 hl (k := 4) rfl rfl (by decide) rfl (fun ls hl => ?_)
        refine lv_goto (tgt := 9) hx hb dX6_reseats_56 (by decide) ?_
        exact kb (v.1, v.2.1, (v.2.2 + 1)) (by rw [lX6_reseats_9, if_neg c_17_1, if_pos c_32_2]) H locs ls hP hD hS (lv_sub hl [1, 2, 3, 4, 0] rfl)
  · intro H locs ls hP hD hS hl
    refine lv_iconst (v := 0) hx hb dX6_reseats_59 (by decide) ?_
    refine lv_istore (lv' := [(4, .int 0), (0, .ref h), (1, .int x1), (2, .int x2), (3, .int n2.2.1)]) hx hb dX6_reseats_60 hl (by decide) rfl (fun ls hl => ?_)
    refine lv_iconst (v := 0) hx hb dX6_reseats_62 (by decide) ?_
    refine lv_istore (lv' := [(5, .int 0), (4, .int 0), (0, .ref h), (1, .int x1), (2, .int x2), (3, .int n2.2.1)]) hx hb dX6_reseats_63 hl (by decide) rfl (fun ls hl => ?_)
    obtain ⟨n3, en3⟩ : ∃ z9, z9 = (itv (n2.1, 0, 0) (lX6_reseats_65 x1 x2 n2) ((fun v : (SV × Int32 × Int32) => ((v.1.1 (1 : Int32).toNatClampNeg).toInt - v.2.2.toInt).toNat) (n2.1, 0, 0) + 1) (n2.1, 0, 0)) := ⟨_, rfl⟩
    try rw [← en3] at hg
    obtain ⟨o12, hg⟩ := hg
    have L9 := lrun_val (d := (n2.1, 0, 0)) o12
    rw [← en3] at L9
    refine loopWs (lX6_reseats_65 x1 x2 n2) (glX6_reseats_65 x1 x2 n2) (fun v : (SV × Int32 × Int32) => ∀ (H : Heap) (locs : List Loc) ls, va_P D vwCl (w6 cI cC h a1 a2 a3 a4 a5 a6 a7 a8 v.1) H → va_D A (w6 cI cC h a1 a2 a3 a4 a5 a6 a7 a8 v.1) → va_S A s.heap H locs → lv_has ls 7 [(0, .ref h), (1, .int x1), (2, .int x2), (3, .int n2.2.1), (4, .int v.2.1), (5, .int v.2.2)] → W p l e rmX6_reseats s m args below meth c H locs 0 0 Q (F0 m 65 ls [])) (fun r9 : (SV × Int32 × Int32) => ∀ (H : Heap) (locs : List Loc) ls, va_P D vwCl (w6 cI cC h a1 a2 a3 a4 a5 a6 a7 a8 r9.1) H → va_D A (w6 cI cC h a1 a2 a3 a4 a5 a6 a7 a8 r9.1) → va_S A s.heap H locs → lv_has ls 7 [(0, .ref h), (1, .int x1), (2, .int x2), (3, .int n2.2.1), (4, .int r9.2.1), (5, .int r9.2.2)] → W p l e rmX6_reseats s m args below meth c H locs 0 0 Q (F0 m 144 ls [])) ?_ _ (n2.1, 0, 0) n3 L9 ?_ _ _ ls hP hD hS (lv_sub hl [2, 3, 4, 5, 1, 0] rfl)
    · intro v hg kb kx H locs ls hP hD hS hl
      unfold glX6_reseats_65 at hg
      refine lv_iload hx hb dX6_reseats_65 (lv_at hl 5 rfl) ?_
      refine lv_aload_n hx hb dX6_reseats_67 rfl (lv_at hl 0 rfl) ?_
      refine va_get (D := D) (ci := 7) (v := .ref a1) (C := RX6) (T := TX6) (N := 20) hx hb hts q1 hown hK hP 0 rfl rfl 0 (by decide) q0 (fun _ h9 => h9) rfl dX6_reseats_68 ?_
      refine lv_iconst (v := 1) hx hb dX6_reseats_71 (by decide) ?_
      obtain ⟨o6, hg⟩ := hg
      refine va_iald hx hb hK hP 1 0 rfl rfl o6 dX6_reseats_72 ?_
      refine lv_icmp_ge (tgt := 144) hx hb dX6_reseats_73 (by decide) (fun c_73_3 => ?_) (fun c_73_3 => ?_)
      · rw [if_pos c_73_3] at hg
        exact kx (v.1, v.2.1, v.2.2) (by rw [lX6_reseats_65, if_pos c_73_3]) H locs ls hP hD hS (lv_sub hl [0, 1, 2, 3, 4, 5] rfl)
      · rw [if_neg c_73_3] at hg
        refine lv_aload_n hx hb dX6_reseats_76 rfl (lv_at hl 0 rfl) ?_
        refine lv_iload hx hb dX6_reseats_77 (lv_at hl 5 rfl) ?_
        obtain ⟨o7, hg⟩ := hg
        refine fRV (As := [.int v.2.2]) (rest := []) (st' := [.int (fX6_atPlace v.1 v.2.2)]) ⟨hx, hb, hml, hown, hts⟩ (kX6_atPlace l D cI cC cT h a1 a2 a3 a4 a5 a6 a7 a8 v.1 v.2.2 o7) (cwV 1 hts gX6_reseats_X6_atPlace rfl rfl rfl (by decide +kernel) ⟨Nat.le_of_ble_eq_true rfl, Nat.le_of_ble_eq_true rfl⟩) hP hK [0, 1, 2, 3, 4, 5, 6, 7, 8] rfl 0 (ci := 7) rfl rfl rfl rfl hl.1 rfl rfl (Nat.le_of_ble_eq_true rfl) ⟨Nat.zero_le _, Nat.zero_le _⟩ dX6_reseats_79 ?_
        refine lv_istore (lv' := [(6, .int (fX6_atPlace v.1 v.2.2)), (0, .ref h), (1, .int x1), (2, .int x2), (3, .int n2.2.1), (4, .int v.2.1), (5, .int v.2.2)]) hx hb dX6_reseats_82 hl (by decide) rfl (fun ls hl => ?_)
        refine lv_iload_n hx hb dX6_reseats_84 rfl (lv_at hl 4 rfl) ?_
        refine lv_iload hx hb dX6_reseats_85 (lv_at hl 0 rfl) ?_
        refine lv_ishr hx hb dX6_reseats_87 ?_
        refine lv_iconst (v := 1) hx hb dX6_reseats_88 (by decide) ?_
        refine lv_iand hx hb dX6_reseats_89 ?_
        refine lv_if_ne (tgt := 96) hx hb dX6_reseats_90 (by decide) (fun c_90_4 => ?_) (fun c_90_4 => ?_)
        · rw [if_neg c_90_4] at hg
          refine lv_aload_n hx hb dX6_reseats_96 rfl (lv_at hl 1 rfl) ?_
          refine va_get (D := D) (ci := 7) (v := .ref a7) (C := RX6) (T := TX6) (N := 20) hx hb hts q1 hown hK hP 0 rfl rfl 16 (by decide) q2 (fun _ h9 => h9) rfl dX6_reseats_97 ?_
          refine lv_iload hx hb dX6_reseats_100 (lv_at hl 0 rfl) ?_
          refine lv_aload_n hx hb dX6_reseats_102 rfl (lv_at hl 1 rfl) ?_
          refine lv_iload hx hb dX6_reseats_103 (lv_at hl 0 rfl) ?_
          refine lv_iload_n hx hb dX6_reseats_105 rfl (lv_at hl 2 rfl) ?_
          refine lv_iload_n hx hb dX6_reseats_106 rfl (lv_at hl 3 rfl) ?_
          obtain ⟨o8, hg⟩ := hg
          refine fRV (As := [.int (fX6_atPlace v.1 v.2.2), .int x1, .int x2]) (rest := [.int (fX6_atPlace v.1 v.2.2), .ref a7]) (st' := [.int (fX6_stoolFor v.1 (fX6_atPlace v.1 v.2.2) x1 x2), .int (fX6_atPlace v.1 v.2.2), .ref a7]) ⟨hx, hb, hml, hown, hts⟩ (kX6_stoolFor l D cI cC cT h a1 a2 a3 a4 a5 a6 a7 a8 v.1 (fX6_atPlace v.1 v.2.2) x1 x2 o8) (cwV 3 hts gX6_reseats_X6_stoolFor rfl rfl rfl (by decide +kernel) ⟨Nat.le_of_ble_eq_true rfl, Nat.le_of_ble_eq_true rfl⟩) hP hK [0, 1, 2, 3, 4, 5, 6, 7, 8] rfl 0 (ci := 7) rfl rfl rfl rfl hl.1 rfl rfl (Nat.le_of_ble_eq_true rfl) ⟨Nat.zero_le _, Nat.zero_le _⟩ dX6_reseats_107 ?_
          obtain ⟨o9, hg⟩ := hg
          refine va_iast hx hb hK hP hD hS 7 0 rfl rfl o9 dX6_reseats_110 (fun H locs hP hD hS => ?_)
          have hP : va_P D vwCl (w6 cI cC h a1 a2 a3 a4 a5 a6 a7 a8 (sS6 (upd v.1.2.2.2.2.2.2.1 ((fX6_atPlace v.1 v.2.2)).toNatClampNeg (fX6_stoolFor v.1 (fX6_atPlace v.1 v.2.2) x1 x2)) v.1)) H := w6p_6 hP
          have hD : va_D A (w6 cI cC h a1 a2 a3 a4 a5 a6 a7 a8 (sS6 (upd v.1.2.2.2.2.2.2.1 ((fX6_atPlace v.1 v.2.2)).toNatClampNeg (fX6_stoolFor v.1 (fX6_atPlace v.1 v.2.2) x1 x2)) v.1)) := w6d_6 hD
          refine lv_iload hx hb dX6_reseats_111 (lv_at hl 5 rfl) ?_
          refine lv_aload_n hx hb dX6_reseats_113 rfl (lv_at hl 1 rfl) ?_
          refine va_get (D := D) (ci := 7) (v := .ref a7) (C := RX6) (T := TX6) (N := 20) hx hb hts q1 hown hK hP 0 rfl rfl 16 (by decide) q2 (fun _ h9 => h9) rfl dX6_reseats_114 ?_
          refine lv_iload hx hb dX6_reseats_117 (lv_at hl 0 rfl) ?_
          obtain ⟨o10, hg⟩ := hg
          refine va_iald hx hb hK hP 7 0 rfl rfl o10 dX6_reseats_119 ?_
          try rw [show (sS6 (upd v.1.2.2.2.2.2.2.1 ((fX6_atPlace v.1 v.2.2)).toNatClampNeg (fX6_stoolFor v.1 (fX6_atPlace v.1 v.2.2) x1 x2)) v.1).2.2.2.2.2.2.1 = (upd v.1.2.2.2.2.2.2.1 ((fX6_atPlace v.1 v.2.2)).toNatClampNeg (fX6_stoolFor v.1 (fX6_atPlace v.1 v.2.2) x1 x2)) from rfl]
          refine lv_aload_n hx hb dX6_reseats_120 rfl (lv_at hl 1 rfl) ?_
          refine lv_iload hx hb dX6_reseats_121 (lv_at hl 0 rfl) ?_
          refine lv_iconst (v := 2) hx hb dX6_reseats_123 (by decide) ?_
          obtain ⟨o11, hg⟩ := hg
          refine fRV (As := [.int (fX6_atPlace v.1 v.2.2), .int 2]) (rest := [.int ((upd v.1.2.2.2.2.2.2.1 ((fX6_atPlace v.1 v.2.2)).toNatClampNeg (fX6_stoolFor v.1 (fX6_atPlace v.1 v.2.2) x1 x2)) ((fX6_atPlace v.1 v.2.2)).toNatClampNeg), .int v.2.1]) (st' := [.int (fX6_by (sS6 (upd v.1.2.2.2.2.2.2.1 ((fX6_atPlace v.1 v.2.2)).toNatClampNeg (fX6_stoolFor v.1 (fX6_atPlace v.1 v.2.2) x1 x2)) v.1) (fX6_atPlace v.1 v.2.2) 2), .int ((upd v.1.2.2.2.2.2.2.1 ((fX6_atPlace v.1 v.2.2)).toNatClampNeg (fX6_stoolFor v.1 (fX6_atPlace v.1 v.2.2) x1 x2)) ((fX6_atPlace v.1 v.2.2)).toNatClampNeg), .int v.2.1]) ⟨hx, hb, hml, hown, hts⟩ (kX6_by l D cI cC cT h a1 a2 a3 a4 a5 a6 a7 a8 (sS6 (upd v.1.2.2.2.2.2.2.1 ((fX6_atPlace v.1 v.2.2)).toNatClampNeg (fX6_stoolFor v.1 (fX6_atPlace v.1 v.2.2) x1 x2)) v.1) (fX6_atPlace v.1 v.2.2) 2 o11) (cwV 2 hts gX6_reseats_X6_by rfl rfl rfl (by decide +kernel) ⟨Nat.le_of_ble_eq_true rfl, Nat.le_of_ble_eq_true rfl⟩) hP hK [0, 1, 2, 3, 4, 5, 6, 7, 8] rfl 0 (ci := 7) rfl rfl rfl rfl hl.1 rfl rfl (Nat.le_of_ble_eq_true rfl) ⟨Nat.zero_le _, Nat.zero_le _⟩ dX6_reseats_124 ?_
          refine lv_icmp_eq (tgt := 134) hx hb dX6_reseats_127 (by decide) (fun c_127_5 => ?_) (fun c_127_5 => ?_)
          · refine lv_iconst (v := 0) hx hb dX6_reseats_134 (by decide) ?_
            refine lv_iadd hx hb dX6_reseats_135 ?_
            refine lv_istore (lv' := [(4, .int (v.2.1 + 0)), (6, .int (fX6_atPlace v.1 v.2.2)), (0, .ref h), (1, .int x1), (2, .int x2), (3, .int n2.2.1), (5, .int v.2.2)]) hx hb dX6_reseats_136 hl (by decide) rfl (fun ls hl => ?_)
            refine lv_iinc (v := (v.2.2 + 1)) (lv' := [(5, .int (v.2.2 + 1)), (4, .int (v.2.1 + 0)), (6, .int (fX6_atPlace v.1 v.2.2)), (0, .ref h), (1, .int x1), (2, .int x2), (3, .int n2.2.1)]) hx hb dX6_reseats_138 hl (k := 6) rfl rfl (by decide) rfl (fun ls hl => ?_)
            refine lv_goto (tgt := 65) hx hb dX6_reseats_141 (by decide) ?_
            exact kb ((sS6 (upd v.1.2.2.2.2.2.2.1 ((fX6_atPlace v.1 v.2.2)).toNatClampNeg (fX6_stoolFor v.1 (fX6_atPlace v.1 v.2.2) x1 x2)) v.1), (v.2.1 + 0), (v.2.2 + 1)) (by rw [lX6_reseats_65, if_neg c_73_3, if_neg c_90_4, if_pos c_127_5]) H locs ls hP hD hS (lv_sub hl [3, 4, 5, 6, 1, 0] rfl)
          · refine lv_iconst (v := 1) hx hb dX6_reseats_130 (by decide) ?_
            refine lv_goto (tgt := 135) hx hb dX6_reseats_131 (by decide) ?_
            refine lv_iadd hx hb dX6_reseats_135 ?_
            refine lv_istore (lv' := [(4, .int (v.2.1 + 1)), (6, .int (fX6_atPlace v.1 v.2.2)), (0, .ref h), (1, .int x1), (2, .int x2), (3, .int n2.2.1), (5, .int v.2.2)]) hx hb dX6_reseats_136 hl (by decide) rfl (fun ls hl => ?_)
            refine lv_iinc (v := (v.2.2 + 1)) (lv' := [(5, .int (v.2.2 + 1)), (4, .int (v.2.1 + 1)), (6, .int (fX6_atPlace v.1 v.2.2)), (0, .ref h), (1, .int x1), (2, .int x2), (3, .int n2.2.1)]) hx hb dX6_reseats_138 hl (k := 6) rfl rfl (by decide) rfl (fun ls hl => ?_)
            refine lv_goto (tgt := 65) hx hb dX6_reseats_141 (by decide) ?_
            exact kb ((sS6 (upd v.1.2.2.2.2.2.2.1 ((fX6_atPlace v.1 v.2.2)).toNatClampNeg (fX6_stoolFor v.1 (fX6_atPlace v.1 v.2.2) x1 x2)) v.1), (v.2.1 + 1), (v.2.2 + 1)) (by rw [lX6_reseats_65, if_neg c_73_3, if_neg c_90_4, if_neg c_127_5]) H locs ls hP hD hS (lv_sub hl [3, 4, 5, 6, 1, 0] rfl)
        · rw [if_pos c_90_4] at hg
          refine lv_goto (tgt := 138) hx hb dX6_reseats_93 (by decide) ?_
          refine lv_iinc (v := (v.2.2 + 1)) (lv' := [(5, .int (v.2.2 + 1)), (6, .int (fX6_atPlace v.1 v.2.2)), (0, .ref h), (1, .int x1), (2, .int x2), (3, .int n2.2.1), (4, .int v.2.1)]) hx hb dX6_reseats_138 hl (k := 6) rfl rfl (by decide) rfl (fun ls hl => ?_)
          refine lv_goto (tgt := 65) hx hb dX6_reseats_141 (by decide) ?_
          exact kb (v.1, v.2.1, (v.2.2 + 1)) (by rw [lX6_reseats_65, if_neg c_73_3, if_pos c_90_4]) H locs ls hP hD hS (lv_sub hl [2, 3, 4, 5, 6, 0] rfl)
    · intro H locs ls hP hD hS hl
      refine lv_iload hx hb dX6_reseats_144 (lv_at hl 4 rfl) ?_
      have e9 : fX6_reseats S x1 x2 = (n3.2.1, n3.1) := by rw [fX6_reseats, ← en1, ← en2, ← en3]
      exact rUi hx hb hr hlk hQ hP hS (by rw [e9]) (congrArg (fun z9 : (Int32 × SV) => (w6 cI cC h a1 a2 a3 a4 a5 a6 a7 a8 z9.2 : va_W)) e9).symm rfl dX6_reseats_146
def lX6_taken_5 (S : SV) (x2 : Int32) (v : (Int32 × Int32)) : (Int32 × Int32) ⊕ ((Int32 × Int32)) := (if x2 < v.2 then (.inr (v.1, v.2)) else (if (fX6_of S v.2 5) < 0 then (.inl ((v.1 + 0), (v.2 + 1))) else (.inl ((v.1 + 1), (v.2 + 1)))))
def glX6_taken_5 (S : SV) (x2 : Int32) (v : (Int32 × Int32)) : Prop := (if x2 < v.2 then True else ((gX6_of S v.2 5) ∧ True))
def fX6_taken (S : SV) (x1 : Int32) (x2 : Int32) : Int32 := (itv (0, x1) (lX6_taken_5 S x2) ((fun v : (Int32 × Int32) => (x2.toInt + 1 - v.2.toInt).toNat) (0, x1) + 1) (0, x1)).1
def gX6_taken (S : SV) (x1 : Int32) (x2 : Int32) : Prop := ((∃ r9 : (Int32 × Int32), lrun (lX6_taken_5 S x2) (glX6_taken_5 S x2) ((fun v : (Int32 × Int32) => (x2.toInt + 1 - v.2.toInt).toNat) (0, x1) + 1) (0, x1) r9) ∧ True)
abbrev rmX6_taken : Room := { frames := 1, cells := 0, slots := 0, locals := 22 }
set_option maxHeartbeats 4000000 in
set_option maxRecDepth 100000 in
theorem kX6_taken (l : Launch) (D : va_G) (cI cC cT : ClassId) (h a1 a2 a3 a4 a5 a6 a7 a8 : Nat) (S : SV) (x1 : Int32) (x2 : Int32) (hg : gX6_taken S x1 x2) : mR l D (TY cI cC cT) yX6_taken wsX6_taken rmX6_taken [.ref h, .int x1, .int x2] (w6 cI cC h a1 a2 a3 a4 a5 a6 a7 a8 S) (some (.int (fX6_taken S x1 x2))) := by
  refine mR.ofW (cc := cX6_taken) (maxL := 5) (ret := (some .int)) (by decide) rfl (Nat.le_of_ble_eq_true rfl) ?_
  intro p e s m args below meth c Q ls hx hb hml hr hlk hts hown hP hK hl hQ
  have hown : s.vm.findClass RX6 = some m.cls := hown
  have hP : va_P D vwCl (w6 cI cC h a1 a2 a3 a4 a5 a6 a7 a8 S) s.heap := hP
  have hl : lv_has ls 5 [(0, .ref h), (1, .int x1), (2, .int x2)] := hl
  unfold gX6_taken at hg
  refine lv_iconst (v := 0) hx hb dX6_taken_0 (by decide) ?_
  refine lv_istore_n (lv' := [(3, .int 0), (0, .ref h), (1, .int x1), (2, .int x2)]) hx hb dX6_taken_1 rfl hl (by decide) rfl (fun ls hl => ?_)
  refine lv_iload_n hx hb dX6_taken_2 rfl (lv_at hl 2 rfl) ?_
  refine lv_istore (lv' := [(4, .int x1), (3, .int 0), (0, .ref h), (1, .int x1), (2, .int x2)]) hx hb dX6_taken_3 hl (by decide) rfl (fun ls hl => ?_)
  obtain ⟨n1, en1⟩ : ∃ z9, z9 = (itv (0, x1) (lX6_taken_5 S x2) ((fun v : (Int32 × Int32) => (x2.toInt + 1 - v.2.toInt).toNat) (0, x1) + 1) (0, x1)) := ⟨_, rfl⟩
  try rw [← en1] at hg
  obtain ⟨o2, hg⟩ := hg
  have L9 := lrun_val (d := (0, x1)) o2
  rw [← en1] at L9
  refine loopWs (lX6_taken_5 S x2) (glX6_taken_5 S x2) (fun v : (Int32 × Int32) => ∀ ls, lv_has ls 5 [(0, .ref h), (1, .int x1), (2, .int x2), (3, .int v.1), (4, .int v.2)] → W p l e rmX6_taken s m args below meth c s.heap [] 0 0 Q (F0 m 5 ls [])) (fun r9 : (Int32 × Int32) => ∀ ls, lv_has ls 5 [(0, .ref h), (1, .int x1), (2, .int x2), (3, .int r9.1), (4, .int r9.2)] → W p l e rmX6_taken s m args below meth c s.heap [] 0 0 Q (F0 m 35 ls [])) ?_ _ (0, x1) n1 L9 ?_ ls (lv_sub hl [2, 3, 4, 1, 0] rfl)
  · intro v hg kb kx ls hl
    unfold glX6_taken_5 at hg
    refine lv_iload hx hb dX6_taken_5 (lv_at hl 4 rfl) ?_
    refine lv_iload_n hx hb dX6_taken_7 rfl (lv_at hl 2 rfl) ?_
    refine lv_icmp_gt (tgt := 35) hx hb dX6_taken_8 (by decide) (fun c_8_1 => ?_) (fun c_8_1 => ?_)
    · rw [if_pos c_8_1] at hg
      exact kx (v.1, v.2) (by rw [lX6_taken_5, if_pos c_8_1]) ls (lv_sub hl [0, 1, 2, 3, 4] rfl)
    · rw [if_neg c_8_1] at hg
      refine lv_iload_n hx hb dX6_taken_11 rfl (lv_at hl 3 rfl) ?_
      refine lv_aload_n hx hb dX6_taken_12 rfl (lv_at hl 0 rfl) ?_
      refine lv_iload hx hb dX6_taken_13 (lv_at hl 4 rfl) ?_
      refine lv_iconst (v := 5) hx hb dX6_taken_15 (by decide) ?_
      obtain ⟨o1, hg⟩ := hg
      refine fRV (As := [.int v.2, .int 5]) (rest := [.int v.1]) (st' := [.int (fX6_of S v.2 5), .int v.1]) ⟨hx, hb, hml, hown, hts⟩ (kX6_of l D cI cC cT h a1 a2 a3 a4 a5 a6 a7 a8 S v.2 5 o1) (cwV 2 hts gX6_taken_X6_of rfl rfl rfl (by decide +kernel) ⟨Nat.le_of_ble_eq_true rfl, Nat.le_of_ble_eq_true rfl⟩) hP hK [0, 1, 2, 3, 4, 5, 6, 7, 8] rfl 0 (ci := 7) rfl rfl rfl rfl hl.1 rfl rfl (Nat.le_of_ble_eq_true rfl) ⟨Nat.zero_le _, Nat.zero_le _⟩ dX6_taken_16 ?_
      refine lv_if_lt (tgt := 26) hx hb dX6_taken_19 (by decide) (fun c_19_2 => ?_) (fun c_19_2 => ?_)
      · refine lv_iconst (v := 0) hx hb dX6_taken_26 (by decide) ?_
        refine lv_iadd hx hb dX6_taken_27 ?_
        refine lv_istore_n (lv' := [(3, .int (v.1 + 0)), (0, .ref h), (1, .int x1), (2, .int x2), (4, .int v.2)]) hx hb dX6_taken_28 rfl hl (by decide) rfl (fun ls hl => ?_)
        refine lv_iinc (v := (v.2 + 1)) (lv' := [(4, .int (v.2 + 1)), (3, .int (v.1 + 0)), (0, .ref h), (1, .int x1), (2, .int x2)]) hx hb dX6_taken_29 hl (k := 4) rfl rfl (by decide) rfl (fun ls hl => ?_)
        refine lv_goto (tgt := 5) hx hb dX6_taken_32 (by decide) ?_
        exact kb ((v.1 + 0), (v.2 + 1)) (by rw [lX6_taken_5, if_neg c_8_1, if_pos c_19_2]) ls (lv_sub hl [2, 3, 4, 1, 0] rfl)
      · refine lv_iconst (v := 1) hx hb dX6_taken_22 (by decide) ?_
        refine lv_goto (tgt := 27) hx hb dX6_taken_23 (by decide) ?_
        refine lv_iadd hx hb dX6_taken_27 ?_
        refine lv_istore_n (lv' := [(3, .int (v.1 + 1)), (0, .ref h), (1, .int x1), (2, .int x2), (4, .int v.2)]) hx hb dX6_taken_28 rfl hl (by decide) rfl (fun ls hl => ?_)
        refine lv_iinc (v := (v.2 + 1)) (lv' := [(4, .int (v.2 + 1)), (3, .int (v.1 + 1)), (0, .ref h), (1, .int x1), (2, .int x2)]) hx hb dX6_taken_29 hl (k := 4) rfl rfl (by decide) rfl (fun ls hl => ?_)
        refine lv_goto (tgt := 5) hx hb dX6_taken_32 (by decide) ?_
        exact kb ((v.1 + 1), (v.2 + 1)) (by rw [lX6_taken_5, if_neg c_8_1, if_neg c_19_2]) ls (lv_sub hl [2, 3, 4, 1, 0] rfl)
  · intro ls hl
    refine lv_iload_n hx hb dX6_taken_35 rfl (lv_at hl 3 rfl) ?_
    exact rRi hx hb hr hlk hQ (by rw [fX6_taken, ← en1]) rfl dX6_taken_36
def fX6_brawl (S : SV) (x1 : Int32) (x2 : Int32) : (Int32 × SV) := (if (fX6_isStool S x1) = 0 then (0, (fX6_fails S 1).2) else (if (fX6_isStool S x2) = 0 then (0, (fX6_fails S 1).2) else (if x1 ≤ x2 then (if (fX6_taken (fX6_fails S 0).2 x1 x2) = 0 then ((fX6_refuses (fX6_fails S 0).2 3 8 (fX6_taken (fX6_fails S 0).2 0 (((fX6_fails S 0).2.1 (0 : Int32).toNatClampNeg) - 1))).1, (fX6_refuses (fX6_fails S 0).2 3 8 (fX6_taken (fX6_fails S 0).2 0 (((fX6_fails S 0).2.1 (0 : Int32).toNatClampNeg) - 1))).2) else ((fX6_reseats (fX6_keeps_g (fX6_fails S 0).2) x1 x2).1, (sS0 (upd (fX6_takesSeats (fX6_reseats (fX6_keeps_g (fX6_fails S 0).2) x1 x2).2).1 (4 : Int32).toNatClampNeg (((fX6_takesSeats (fX6_reseats (fX6_keeps_g (fX6_fails S 0).2) x1 x2).2).1 (4 : Int32).toNatClampNeg) + 1)) (fX6_takesSeats (fX6_reseats (fX6_keeps_g (fX6_fails S 0).2) x1 x2).2)))) else (0, (fX6_fails S 2).2))))
def gX6_brawl (S : SV) (x1 : Int32) (x2 : Int32) : Prop := ((gX6_isStool S x1) ∧ (if (fX6_isStool S x1) = 0 then True else ((gX6_isStool S x2) ∧ (if (fX6_isStool S x2) = 0 then True else (if x1 ≤ x2 then ((gX6_taken (fX6_fails S 0).2 x1 x2) ∧ (if (fX6_taken (fX6_fails S 0).2 x1 x2) = 0 then ((vp_in 0 114) ∧ (gX6_taken (fX6_fails S 0).2 0 (((fX6_fails S 0).2.1 (0 : Int32).toNatClampNeg) - 1)) ∧ True) else ((gX6_keeps_g (fX6_fails S 0).2) ∧ (gX6_reseats (fX6_keeps_g (fX6_fails S 0).2) x1 x2) ∧ (gX6_takesSeats (fX6_reseats (fX6_keeps_g (fX6_fails S 0).2) x1 x2).2) ∧ (vp_in 4 114) ∧ (vp_in 4 114) ∧ True))) else True)))))
abbrev rmX6_brawl : Room := { frames := 5, cells := 0, slots := 0, locals := 116 }
set_option maxHeartbeats 4000000 in
set_option maxRecDepth 100000 in
theorem kX6_brawl (l : Launch) (D : va_G) (cI cC cT : ClassId) (h a1 a2 a3 a4 a5 a6 a7 a8 : Nat) (S : SV) (x1 : Int32) (x2 : Int32) (hg : gX6_brawl S x1 x2) : mU l D (TY cI cC cT) yX6_brawl wsX6_brawl rmX6_brawl [.ref h, .int x1, .int x2] (w6 cI cC h a1 a2 a3 a4 a5 a6 a7 a8 S) (some (.int (fX6_brawl S x1 x2).1)) (w6 cI cC h a1 a2 a3 a4 a5 a6 a7 a8 (fX6_brawl S x1 x2).2) := by
  refine mU.ofW (cc := cX6_brawl) (maxL := 4) (ret := (some .int)) (by decide) rfl (Nat.le_of_ble_eq_true rfl) ?_
  intro p e s m args below meth c Q ls A hx hb hml hr hlk hts hown hP hK hD hS hl hQ
  have hown : s.vm.findClass RX6 = some m.cls := hown
  have hP : va_P D vwCl (w6 cI cC h a1 a2 a3 a4 a5 a6 a7 a8 S) s.heap := hP
  have hD : va_D A (w6 cI cC h a1 a2 a3 a4 a5 a6 a7 a8 S) := hD
  have hl : lv_has ls 4 [(0, .ref h), (1, .int x1), (2, .int x2)] := hl
  have q0 := hts (Cond.fieldLink RX6 7 "TavernStoolsModel" "g" "[I") (by decide +kernel)
  have q1 : ∀ w ∈ u_ws RX6 TX6 20, w ∈ wsX6_brawl := by decide +kernel
  unfold gX6_brawl at hg
  generalize hHe : s.heap = H at hP ⊢
  have hS : va_S A s.heap H [] := hHe ▸ hS
  generalize hLe : ([] : List Loc) = locs at hS ⊢
  refine lv_aload_n hx hb dX6_brawl_0 rfl (lv_at hl 0 rfl) ?_
  refine lv_aload_n hx hb dX6_brawl_1 rfl (lv_at hl 0 rfl) ?_
  refine lv_iload_n hx hb dX6_brawl_2 rfl (lv_at hl 1 rfl) ?_
  obtain ⟨o1, hg⟩ := hg
  refine fRV (As := [.int x1]) (rest := [.ref h]) (st' := [.int (fX6_isStool S x1), .ref h]) ⟨hx, hb, hml, hown, hts⟩ (kX6_isStool l D cI cC cT h a1 a2 a3 a4 a5 a6 a7 a8 S x1 o1) (cwV 1 hts gX6_brawl_X6_isStool rfl rfl rfl (by decide +kernel) ⟨Nat.le_of_ble_eq_true rfl, Nat.le_of_ble_eq_true rfl⟩) hP hK [0, 1, 2, 3, 4, 5, 6, 7, 8] rfl 0 (ci := 7) rfl rfl rfl rfl hl.1 rfl rfl (Nat.le_of_ble_eq_true rfl) ⟨Nat.zero_le _, Nat.zero_le _⟩ dX6_brawl_3 ?_
  refine lv_if_eq (tgt := 17) hx hb dX6_brawl_6 (by decide) (fun c_6_1 => ?_) (fun c_6_1 => ?_)
  · rw [if_pos c_6_1] at hg
    refine lv_iconst (v := 1) hx hb dX6_brawl_17 (by decide) ?_
    refine lv_goto (tgt := 31) hx hb dX6_brawl_18 (by decide) ?_
    obtain ⟨n1, en1⟩ : ∃ z9, z9 = (fX6_fails S 1) := ⟨_, rfl⟩
    try rw [← en1] at hg
    have k9 := (kX6_fails l D cI cC cT h a1 a2 a3 a4 a5 a6 a7 a8 S 1)
    rw [← en1] at k9
    refine fUV (As := [.int 1]) (rest := []) (st' := [.int n1.1]) ⟨hx, hb, hml, hown, hts⟩ k9 (cwV 1 hts gX6_brawl_X6_fails rfl rfl rfl (by decide +kernel) ⟨Nat.le_of_ble_eq_true rfl, Nat.le_of_ble_eq_true rfl⟩) hP hK hD hS [0, 1, 2, 3, 4, 5, 6, 7, 8] rfl rfl (by decide) rfl (w6 cI cC h a1 a2 a3 a4 a5 a6 a7 a8 n1.2) rfl rfl 0 (ci := 7) rfl rfl rfl rfl hl.1 rfl rfl (Nat.le_of_ble_eq_true rfl) ⟨Nat.zero_le _, Nat.zero_le _⟩ dX6_brawl_31 (fun H locs hP hD hS => ?_)
    refine lv_if_eq (tgt := 39) hx hb dX6_brawl_34 (by decide) (fun c_34 => absurd c_34 (by rw [en1, fails_1]; decide)) (fun c_34 => ?_)
    refine lv_iconst (v := 0) hx hb dX6_brawl_37 (by decide) ?_
    have e9 : fX6_brawl S x1 x2 = (0, n1.2) := by rw [fX6_brawl, if_pos c_6_1, ← en1]
    exact rUi hx hb hr hlk hQ hP hS (by rw [e9]) (congrArg (fun z9 : (Int32 × SV) => (w6 cI cC h a1 a2 a3 a4 a5 a6 a7 a8 z9.2 : va_W)) e9).symm rfl dX6_brawl_38
  · rw [if_neg c_6_1] at hg
    refine lv_aload_n hx hb dX6_brawl_9 rfl (lv_at hl 0 rfl) ?_
    refine lv_iload_n hx hb dX6_brawl_10 rfl (lv_at hl 2 rfl) ?_
    obtain ⟨o2, hg⟩ := hg
    refine fRV (As := [.int x2]) (rest := [.ref h]) (st' := [.int (fX6_isStool S x2), .ref h]) ⟨hx, hb, hml, hown, hts⟩ (kX6_isStool l D cI cC cT h a1 a2 a3 a4 a5 a6 a7 a8 S x2 o2) (cwV 1 hts gX6_brawl_X6_isStool rfl rfl rfl (by decide +kernel) ⟨Nat.le_of_ble_eq_true rfl, Nat.le_of_ble_eq_true rfl⟩) hP hK [0, 1, 2, 3, 4, 5, 6, 7, 8] rfl 0 (ci := 7) rfl rfl rfl rfl hl.1 rfl rfl (Nat.le_of_ble_eq_true rfl) ⟨Nat.zero_le _, Nat.zero_le _⟩ dX6_brawl_11 ?_
    refine lv_if_ne (tgt := 21) hx hb dX6_brawl_14 (by decide) (fun c_14_2 => ?_) (fun c_14_2 => ?_)
    · rw [if_neg c_14_2] at hg
      refine lv_iload_n hx hb dX6_brawl_21 rfl (lv_at hl 2 rfl) ?_
      refine lv_iload_n hx hb dX6_brawl_22 rfl (lv_at hl 1 rfl) ?_
      refine lv_icmp_ge (tgt := 30) hx hb dX6_brawl_23 (by decide) (fun c_23_3 => ?_) (fun c_23_3 => ?_)
      · rw [if_pos c_23_3] at hg
        refine lv_iconst (v := 0) hx hb dX6_brawl_30 (by decide) ?_
        obtain ⟨n2, en2⟩ : ∃ z9, z9 = (fX6_fails S 0) := ⟨_, rfl⟩
        try rw [← en2] at hg
        have k9 := (kX6_fails l D cI cC cT h a1 a2 a3 a4 a5 a6 a7 a8 S 0)
        rw [← en2] at k9
        refine fUV (As := [.int 0]) (rest := []) (st' := [.int n2.1]) ⟨hx, hb, hml, hown, hts⟩ k9 (cwV 1 hts gX6_brawl_X6_fails rfl rfl rfl (by decide +kernel) ⟨Nat.le_of_ble_eq_true rfl, Nat.le_of_ble_eq_true rfl⟩) hP hK hD hS [0, 1, 2, 3, 4, 5, 6, 7, 8] rfl rfl (by decide) rfl (w6 cI cC h a1 a2 a3 a4 a5 a6 a7 a8 n2.2) rfl rfl 0 (ci := 7) rfl rfl rfl rfl hl.1 rfl rfl (Nat.le_of_ble_eq_true rfl) ⟨Nat.zero_le _, Nat.zero_le _⟩ dX6_brawl_31 (fun H locs hP hD hS => ?_)
        refine lv_if_eq (tgt := 39) hx hb dX6_brawl_34 (by decide) (fun c_34 => ?_) (fun c_34 => absurd (by rw [en2]; exact fails_0 _) c_34)
        refine lv_aload_n hx hb dX6_brawl_39 rfl (lv_at hl 0 rfl) ?_
        refine lv_iload_n hx hb dX6_brawl_40 rfl (lv_at hl 1 rfl) ?_
        refine lv_iload_n hx hb dX6_brawl_41 rfl (lv_at hl 2 rfl) ?_
        obtain ⟨o3, hg⟩ := hg
        refine fRV (As := [.int x1, .int x2]) (rest := []) (st' := [.int (fX6_taken n2.2 x1 x2)]) ⟨hx, hb, hml, hown, hts⟩ (kX6_taken l D cI cC cT h a1 a2 a3 a4 a5 a6 a7 a8 n2.2 x1 x2 o3) (cwV 2 hts gX6_brawl_X6_taken rfl rfl rfl (by decide +kernel) ⟨Nat.le_of_ble_eq_true rfl, Nat.le_of_ble_eq_true rfl⟩) hP hK [0, 1, 2, 3, 4, 5, 6, 7, 8] rfl 0 (ci := 7) rfl rfl rfl rfl hl.1 rfl rfl (Nat.le_of_ble_eq_true rfl) ⟨Nat.zero_le _, Nat.zero_le _⟩ dX6_brawl_42 ?_
        refine lv_if_ne (tgt := 69) hx hb dX6_brawl_45 (by decide) (fun c_45_4 => ?_) (fun c_45_4 => ?_)
        · rw [if_neg c_45_4] at hg
          refine lv_aload_n hx hb dX6_brawl_69 rfl (lv_at hl 0 rfl) ?_
          refine lv_aload_n hx hb dX6_brawl_70 rfl (lv_at hl 0 rfl) ?_
          refine va_get (D := D) (ci := 7) (v := .ref a1) (C := RX6) (T := TX6) (N := 20) hx hb hts q1 hown hK hP 0 rfl rfl 0 (by decide) q0 (fun _ h9 => h9) rfl dX6_brawl_71 ?_
          obtain ⟨n3, en3⟩ : ∃ z9, z9 = (fX6_keeps_g n2.2) := ⟨_, rfl⟩
          try rw [← en3] at hg
          obtain ⟨o4, hg⟩ := hg
          have k9 := (kX6_keeps_g l D cI cC cT h a1 a2 a3 a4 a5 a6 a7 a8 n2.2 o4)
          rw [← en3] at k9
          refine fUV (As := [.ref a1]) (rest := []) (st' := []) ⟨hx, hb, hml, hown, hts⟩ k9 (cwV 1 hts gX6_brawl_X6_keeps rfl rfl rfl (by decide +kernel) ⟨Nat.le_of_ble_eq_true rfl, Nat.le_of_ble_eq_true rfl⟩) hP hK hD hS [0, 1, 2, 3, 4, 5, 6, 7, 8] rfl rfl (by decide) rfl (w6 cI cC h a1 a2 a3 a4 a5 a6 a7 a8 n3) rfl rfl 0 (ci := 7) rfl rfl rfl rfl hl.1 rfl rfl (Nat.le_of_ble_eq_true rfl) ⟨Nat.zero_le _, Nat.zero_le _⟩ dX6_brawl_74 (fun H locs hP hD hS => ?_)
          refine lv_aload_n hx hb dX6_brawl_77 rfl (lv_at hl 0 rfl) ?_
          refine lv_iload_n hx hb dX6_brawl_78 rfl (lv_at hl 1 rfl) ?_
          refine lv_iload_n hx hb dX6_brawl_79 rfl (lv_at hl 2 rfl) ?_
          obtain ⟨n4, en4⟩ : ∃ z9, z9 = (fX6_reseats n3 x1 x2) := ⟨_, rfl⟩
          try rw [← en4] at hg
          obtain ⟨o5, hg⟩ := hg
          have k9 := (kX6_reseats l D cI cC cT h a1 a2 a3 a4 a5 a6 a7 a8 n3 x1 x2 o5)
          rw [← en4] at k9
          refine fUV (As := [.int x1, .int x2]) (rest := []) (st' := [.int n4.1]) ⟨hx, hb, hml, hown, hts⟩ k9 (cwV 2 hts gX6_brawl_X6_reseats rfl rfl rfl (by decide +kernel) ⟨Nat.le_of_ble_eq_true rfl, Nat.le_of_ble_eq_true rfl⟩) hP hK hD hS [0, 1, 2, 3, 4, 5, 6, 7, 8] rfl rfl (by decide) rfl (w6 cI cC h a1 a2 a3 a4 a5 a6 a7 a8 n4.2) rfl rfl 0 (ci := 7) rfl rfl rfl rfl hl.1 rfl rfl (Nat.le_of_ble_eq_true rfl) ⟨Nat.zero_le _, Nat.zero_le _⟩ dX6_brawl_80 (fun H locs hP hD hS => ?_)
          refine lv_istore_n (lv' := [(3, .int n4.1), (0, .ref h), (1, .int x1), (2, .int x2)]) hx hb dX6_brawl_83 rfl hl (by decide) rfl (fun ls hl => ?_)
          refine lv_aload_n hx hb dX6_brawl_84 rfl (lv_at hl 1 rfl) ?_
          obtain ⟨n5, en5⟩ : ∃ z9, z9 = (fX6_takesSeats n4.2) := ⟨_, rfl⟩
          try rw [← en5] at hg
          obtain ⟨o6, hg⟩ := hg
          have k9 := (kX6_takesSeats l D cI cC cT h a1 a2 a3 a4 a5 a6 a7 a8 n4.2 o6)
          rw [← en5] at k9
          refine fUV (As := []) (rest := []) (st' := []) ⟨hx, hb, hml, hown, hts⟩ k9 (cwV 0 hts gX6_brawl_X6_takesSeats rfl rfl rfl (by decide +kernel) ⟨Nat.le_of_ble_eq_true rfl, Nat.le_of_ble_eq_true rfl⟩) hP hK hD hS [0, 1, 2, 3, 4, 5, 6, 7, 8] rfl rfl (by decide) rfl (w6 cI cC h a1 a2 a3 a4 a5 a6 a7 a8 n5) rfl rfl 0 (ci := 7) rfl rfl rfl rfl hl.1 rfl rfl (Nat.le_of_ble_eq_true rfl) ⟨Nat.zero_le _, Nat.zero_le _⟩ dX6_brawl_85 (fun H locs hP hD hS => ?_)
          refine lv_aload_n hx hb dX6_brawl_88 rfl (lv_at hl 1 rfl) ?_
          refine va_get (D := D) (ci := 7) (v := .ref a1) (C := RX6) (T := TX6) (N := 20) hx hb hts q1 hown hK hP 0 rfl rfl 0 (by decide) q0 (fun _ h9 => h9) rfl dX6_brawl_89 ?_
          refine lv_iconst (v := 4) hx hb dX6_brawl_92 (by decide) ?_
          refine lv_dup2_11 hx hb dX6_brawl_93 rfl rfl ?_
          obtain ⟨o7, hg⟩ := hg
          refine va_iald hx hb hK hP 1 0 rfl rfl o7 dX6_brawl_94 ?_
          refine lv_iconst (v := 1) hx hb dX6_brawl_95 (by decide) ?_
          refine lv_iadd hx hb dX6_brawl_96 ?_
          obtain ⟨o8, hg⟩ := hg
          refine va_iast hx hb hK hP hD hS 1 0 rfl rfl o8 dX6_brawl_97 (fun H locs hP hD hS => ?_)
          have hP : va_P D vwCl (w6 cI cC h a1 a2 a3 a4 a5 a6 a7 a8 (sS0 (upd n5.1 (4 : Int32).toNatClampNeg ((n5.1 (4 : Int32).toNatClampNeg) + 1)) n5)) H := w6p_0 hP
          have hD : va_D A (w6 cI cC h a1 a2 a3 a4 a5 a6 a7 a8 (sS0 (upd n5.1 (4 : Int32).toNatClampNeg ((n5.1 (4 : Int32).toNatClampNeg) + 1)) n5)) := w6d_0 hD
          refine lv_iload_n hx hb dX6_brawl_98 rfl (lv_at hl 0 rfl) ?_
          have e9 : fX6_brawl S x1 x2 = (n4.1, (sS0 (upd n5.1 (4 : Int32).toNatClampNeg ((n5.1 (4 : Int32).toNatClampNeg) + 1)) n5)) := by rw [fX6_brawl, if_neg c_6_1, if_neg c_14_2, if_pos c_23_3, ← en2, if_neg c_45_4, ← en3, ← en4, ← en5]
          exact rUi hx hb hr hlk hQ hP hS (by rw [e9]) (congrArg (fun z9 : (Int32 × SV) => (w6 cI cC h a1 a2 a3 a4 a5 a6 a7 a8 z9.2 : va_W)) e9).symm rfl dX6_brawl_99
        · rw [if_pos c_45_4] at hg
          refine lv_aload_n hx hb dX6_brawl_48 rfl (lv_at hl 0 rfl) ?_
          refine lv_iconst (v := 3) hx hb dX6_brawl_49 (by decide) ?_
          refine lv_bipush (v := 8) hx hb dX6_brawl_50 (by decide) ?_
          refine lv_aload_n hx hb dX6_brawl_52 rfl (lv_at hl 0 rfl) ?_
          refine lv_iconst (v := 0) hx hb dX6_brawl_53 (by decide) ?_
          refine lv_aload_n hx hb dX6_brawl_54 rfl (lv_at hl 0 rfl) ?_
          refine va_get (D := D) (ci := 7) (v := .ref a1) (C := RX6) (T := TX6) (N := 20) hx hb hts q1 hown hK hP 0 rfl rfl 0 (by decide) q0 (fun _ h9 => h9) rfl dX6_brawl_55 ?_
          refine lv_iconst (v := 0) hx hb dX6_brawl_58 (by decide) ?_
          obtain ⟨o9, hg⟩ := hg
          refine va_iald hx hb hK hP 1 0 rfl rfl o9 dX6_brawl_59 ?_
          refine lv_iconst (v := 1) hx hb dX6_brawl_60 (by decide) ?_
          refine lv_isub hx hb dX6_brawl_61 ?_
          obtain ⟨o10, hg⟩ := hg
          refine fRV (As := [.int 0, .int ((n2.2.1 (0 : Int32).toNatClampNeg) - 1)]) (rest := [.int 8, .int 3, .ref h]) (st' := [.int (fX6_taken n2.2 0 ((n2.2.1 (0 : Int32).toNatClampNeg) - 1)), .int 8, .int 3, .ref h]) ⟨hx, hb, hml, hown, hts⟩ (kX6_taken l D cI cC cT h a1 a2 a3 a4 a5 a6 a7 a8 n2.2 0 ((n2.2.1 (0 : Int32).toNatClampNeg) - 1) o10) (cwV 2 hts gX6_brawl_X6_taken rfl rfl rfl (by decide +kernel) ⟨Nat.le_of_ble_eq_true rfl, Nat.le_of_ble_eq_true rfl⟩) hP hK [0, 1, 2, 3, 4, 5, 6, 7, 8] rfl 0 (ci := 7) rfl rfl rfl rfl hl.1 rfl rfl (Nat.le_of_ble_eq_true rfl) ⟨Nat.zero_le _, Nat.zero_le _⟩ dX6_brawl_62 ?_
          obtain ⟨n6, en6⟩ : ∃ z9, z9 = (fX6_refuses n2.2 3 8 (fX6_taken n2.2 0 ((n2.2.1 (0 : Int32).toNatClampNeg) - 1))) := ⟨_, rfl⟩
          try rw [← en6] at hg
          have k9 := (kX6_refuses l D cI cC cT h a1 a2 a3 a4 a5 a6 a7 a8 n2.2 3 8 (fX6_taken n2.2 0 ((n2.2.1 (0 : Int32).toNatClampNeg) - 1)))
          rw [← en6] at k9
          refine fUV (As := [.int 3, .int 8, .int (fX6_taken n2.2 0 ((n2.2.1 (0 : Int32).toNatClampNeg) - 1))]) (rest := []) (st' := [.int n6.1]) ⟨hx, hb, hml, hown, hts⟩ k9 (cwV 3 hts gX6_brawl_X6_refuses rfl rfl rfl (by decide +kernel) ⟨Nat.le_of_ble_eq_true rfl, Nat.le_of_ble_eq_true rfl⟩) hP hK hD hS [0, 1, 2, 3, 4, 5, 6, 7, 8] rfl rfl (by decide) rfl (w6 cI cC h a1 a2 a3 a4 a5 a6 a7 a8 n6.2) rfl rfl 0 (ci := 7) rfl rfl rfl rfl hl.1 rfl rfl (Nat.le_of_ble_eq_true rfl) ⟨Nat.zero_le _, Nat.zero_le _⟩ dX6_brawl_65 (fun H locs hP hD hS => ?_)
          have e9 : fX6_brawl S x1 x2 = (n6.1, n6.2) := by rw [fX6_brawl, if_neg c_6_1, if_neg c_14_2, if_pos c_23_3, ← en2, if_pos c_45_4, ← en6]
          exact rUi hx hb hr hlk hQ hP hS (by rw [e9]) (congrArg (fun z9 : (Int32 × SV) => (w6 cI cC h a1 a2 a3 a4 a5 a6 a7 a8 z9.2 : va_W)) e9).symm rfl dX6_brawl_68
      · rw [if_neg c_23_3] at hg
        refine lv_iconst (v := 2) hx hb dX6_brawl_26 (by decide) ?_
        refine lv_goto (tgt := 31) hx hb dX6_brawl_27 (by decide) ?_
        obtain ⟨n7, en7⟩ : ∃ z9, z9 = (fX6_fails S 2) := ⟨_, rfl⟩
        try rw [← en7] at hg
        have k9 := (kX6_fails l D cI cC cT h a1 a2 a3 a4 a5 a6 a7 a8 S 2)
        rw [← en7] at k9
        refine fUV (As := [.int 2]) (rest := []) (st' := [.int n7.1]) ⟨hx, hb, hml, hown, hts⟩ k9 (cwV 1 hts gX6_brawl_X6_fails rfl rfl rfl (by decide +kernel) ⟨Nat.le_of_ble_eq_true rfl, Nat.le_of_ble_eq_true rfl⟩) hP hK hD hS [0, 1, 2, 3, 4, 5, 6, 7, 8] rfl rfl (by decide) rfl (w6 cI cC h a1 a2 a3 a4 a5 a6 a7 a8 n7.2) rfl rfl 0 (ci := 7) rfl rfl rfl rfl hl.1 rfl rfl (Nat.le_of_ble_eq_true rfl) ⟨Nat.zero_le _, Nat.zero_le _⟩ dX6_brawl_31 (fun H locs hP hD hS => ?_)
        refine lv_if_eq (tgt := 39) hx hb dX6_brawl_34 (by decide) (fun c_34 => absurd c_34 (by rw [en7, fails_2]; decide)) (fun c_34 => ?_)
        refine lv_iconst (v := 0) hx hb dX6_brawl_37 (by decide) ?_
        have e9 : fX6_brawl S x1 x2 = (0, n7.2) := by rw [fX6_brawl, if_neg c_6_1, if_neg c_14_2, if_neg c_23_3, ← en7]
        exact rUi hx hb hr hlk hQ hP hS (by rw [e9]) (congrArg (fun z9 : (Int32 × SV) => (w6 cI cC h a1 a2 a3 a4 a5 a6 a7 a8 z9.2 : va_W)) e9).symm rfl dX6_brawl_38
    · rw [if_pos c_14_2] at hg
      refine lv_iconst (v := 1) hx hb dX6_brawl_17 (by decide) ?_
      refine lv_goto (tgt := 31) hx hb dX6_brawl_18 (by decide) ?_
      obtain ⟨n8, en8⟩ : ∃ z9, z9 = (fX6_fails S 1) := ⟨_, rfl⟩
      try rw [← en8] at hg
      have k9 := (kX6_fails l D cI cC cT h a1 a2 a3 a4 a5 a6 a7 a8 S 1)
      rw [← en8] at k9
      refine fUV (As := [.int 1]) (rest := []) (st' := [.int n8.1]) ⟨hx, hb, hml, hown, hts⟩ k9 (cwV 1 hts gX6_brawl_X6_fails rfl rfl rfl (by decide +kernel) ⟨Nat.le_of_ble_eq_true rfl, Nat.le_of_ble_eq_true rfl⟩) hP hK hD hS [0, 1, 2, 3, 4, 5, 6, 7, 8] rfl rfl (by decide) rfl (w6 cI cC h a1 a2 a3 a4 a5 a6 a7 a8 n8.2) rfl rfl 0 (ci := 7) rfl rfl rfl rfl hl.1 rfl rfl (Nat.le_of_ble_eq_true rfl) ⟨Nat.zero_le _, Nat.zero_le _⟩ dX6_brawl_31 (fun H locs hP hD hS => ?_)
      refine lv_if_eq (tgt := 39) hx hb dX6_brawl_34 (by decide) (fun c_34 => absurd c_34 (by rw [en8, fails_1]; decide)) (fun c_34 => ?_)
      refine lv_iconst (v := 0) hx hb dX6_brawl_37 (by decide) ?_
      have e9 : fX6_brawl S x1 x2 = (0, n8.2) := by rw [fX6_brawl, if_neg c_6_1, if_pos c_14_2, ← en8]
      exact rUi hx hb hr hlk hQ hP hS (by rw [e9]) (congrArg (fun z9 : (Int32 × SV) => (w6 cI cC h a1 a2 a3 a4 a5 a6 a7 a8 z9.2 : va_W)) e9).symm rfl dX6_brawl_38
def fX6_wouldMove (S : SV)  : (Int32 × SV) := ((fX6_reseats (sS12 0 S) 0 ((S.1 (0 : Int32).toNatClampNeg) - 1)).1, (fX6_reseats (sS12 0 S) 0 ((S.1 (0 : Int32).toNatClampNeg) - 1)).2)
def gX6_wouldMove (S : SV)  : Prop := ((vp_in 0 114) ∧ (gX6_reseats (sS12 0 S) 0 ((S.1 (0 : Int32).toNatClampNeg) - 1)) ∧ True)
abbrev rmX6_wouldMove : Room := { frames := 5, cells := 0, slots := 0, locals := 116 }
set_option maxHeartbeats 4000000 in
set_option maxRecDepth 100000 in
theorem kX6_wouldMove (l : Launch) (D : va_G) (cI cC cT : ClassId) (h a1 a2 a3 a4 a5 a6 a7 a8 : Nat) (S : SV)  (hg : gX6_wouldMove S) : mU l D (TY cI cC cT) yX6_wouldMove wsX6_wouldMove rmX6_wouldMove [.ref h] (w6 cI cC h a1 a2 a3 a4 a5 a6 a7 a8 S) (some (.int (fX6_wouldMove S).1)) (w6 cI cC h a1 a2 a3 a4 a5 a6 a7 a8 (fX6_wouldMove S).2) := by
  refine mU.ofW (cc := cX6_wouldMove) (maxL := 1) (ret := (some .int)) (by decide) rfl (Nat.le_of_ble_eq_true rfl) ?_
  intro p e s m args below meth c Q ls A hx hb hml hr hlk hts hown hP hK hD hS hl hQ
  have hown : s.vm.findClass RX6 = some m.cls := hown
  have hP : va_P D vwCl (w6 cI cC h a1 a2 a3 a4 a5 a6 a7 a8 S) s.heap := hP
  have hD : va_D A (w6 cI cC h a1 a2 a3 a4 a5 a6 a7 a8 S) := hD
  have hl : lv_has ls 1 [(0, .ref h)] := hl
  have q0 := hts (Cond.fieldLink RX6 39 "TavernStoolsModel" "code" "I") (by decide +kernel)
  have q1 : ∀ w ∈ u_ws RX6 TX6 20, w ∈ wsX6_wouldMove := by decide +kernel
  have q2 := hts (Cond.fieldLink RX6 7 "TavernStoolsModel" "g" "[I") (by decide +kernel)
  unfold gX6_wouldMove at hg
  generalize hHe : s.heap = H at hP ⊢
  have hS : va_S A s.heap H [] := hHe ▸ hS
  generalize hLe : ([] : List Loc) = locs at hS ⊢
  refine lv_aload_n hx hb dX6_wouldMove_0 rfl (lv_at hl 0 rfl) ?_
  refine lv_iconst (v := 0) hx hb dX6_wouldMove_1 (by decide) ?_
  refine va_put (D := D) (ci := 7) (v := .int 0) (ty := .int) (C := RX6) (T := TX6) (N := 20) hx hb hts q1 tyX6 tyX6_ok nmX6 hown hK hP hD hS 0 rfl rfl 8 (by decide) q0 (fun _ h9 => h9) rfl (by decide +kernel) rfl rfl (Nat.le_of_ble_eq_true rfl) dX6_wouldMove_2 (fun H locs hP hD hS => ?_)
  have hP : va_P D vwCl (w6 cI cC h a1 a2 a3 a4 a5 a6 a7 a8 (sS12 0 S)) H := w6p_12 hP
  have hD : va_D A (w6 cI cC h a1 a2 a3 a4 a5 a6 a7 a8 (sS12 0 S)) := w6d_12 hD
  refine lv_aload_n hx hb dX6_wouldMove_5 rfl (lv_at hl 0 rfl) ?_
  refine lv_iconst (v := 0) hx hb dX6_wouldMove_6 (by decide) ?_
  refine lv_aload_n hx hb dX6_wouldMove_7 rfl (lv_at hl 0 rfl) ?_
  refine va_get (D := D) (ci := 7) (v := .ref a1) (C := RX6) (T := TX6) (N := 20) hx hb hts q1 hown hK hP 0 rfl rfl 0 (by decide) q2 (fun _ h9 => h9) rfl dX6_wouldMove_8 ?_
  refine lv_iconst (v := 0) hx hb dX6_wouldMove_11 (by decide) ?_
  obtain ⟨o1, hg⟩ := hg
  refine va_iald hx hb hK hP 1 0 rfl rfl o1 dX6_wouldMove_12 ?_
  try rw [show (sS12 0 S).1 = S.1 from rfl]
  refine lv_iconst (v := 1) hx hb dX6_wouldMove_13 (by decide) ?_
  refine lv_isub hx hb dX6_wouldMove_14 ?_
  obtain ⟨n1, en1⟩ : ∃ z9, z9 = (fX6_reseats (sS12 0 S) 0 ((S.1 (0 : Int32).toNatClampNeg) - 1)) := ⟨_, rfl⟩
  try rw [← en1] at hg
  obtain ⟨o2, hg⟩ := hg
  have k9 := (kX6_reseats l D cI cC cT h a1 a2 a3 a4 a5 a6 a7 a8 (sS12 0 S) 0 ((S.1 (0 : Int32).toNatClampNeg) - 1) o2)
  rw [← en1] at k9
  refine fUV (As := [.int 0, .int ((S.1 (0 : Int32).toNatClampNeg) - 1)]) (rest := []) (st' := [.int n1.1]) ⟨hx, hb, hml, hown, hts⟩ k9 (cwV 2 hts gX6_wouldMove_X6_reseats rfl rfl rfl (by decide +kernel) ⟨Nat.le_of_ble_eq_true rfl, Nat.le_of_ble_eq_true rfl⟩) hP hK hD hS [0, 1, 2, 3, 4, 5, 6, 7, 8] rfl rfl (by decide) rfl (w6 cI cC h a1 a2 a3 a4 a5 a6 a7 a8 n1.2) rfl rfl 0 (ci := 7) rfl rfl rfl rfl hl.1 rfl rfl (Nat.le_of_ble_eq_true rfl) ⟨Nat.zero_le _, Nat.zero_le _⟩ dX6_wouldMove_15 (fun H locs hP hD hS => ?_)
  have e9 : fX6_wouldMove S = (n1.1, n1.2) := by rw [fX6_wouldMove, ← en1]
  exact rUi hx hb hr hlk hQ hP hS (by rw [e9]) (congrArg (fun z9 : (Int32 × SV) => (w6 cI cC h a1 a2 a3 a4 a5 a6 a7 a8 z9.2 : va_W)) e9).symm rfl dX6_wouldMove_18
def fX6_canSwap (S : SV) (x1 : Int32) (x2 : Int32) : Int32 := (if (fX6_by S x1 2) < 0 then 0 else (if (fX6_by S x2 2) < 0 then 0 else (if (fX6_maySit S x1 (fX6_by S x2 2)) = 0 then 0 else (if (fX6_maySit S x2 (fX6_by S x1 2)) = 0 then 0 else 1))))
def gX6_canSwap (S : SV) (x1 : Int32) (x2 : Int32) : Prop := ((gX6_by S x1 2) ∧ (if (fX6_by S x1 2) < 0 then True else ((gX6_by S x2 2) ∧ (if (fX6_by S x2 2) < 0 then True else ((gX6_by S x2 2) ∧ (gX6_maySit S x1 (fX6_by S x2 2)) ∧ (if (fX6_maySit S x1 (fX6_by S x2 2)) = 0 then True else ((gX6_by S x1 2) ∧ (gX6_maySit S x2 (fX6_by S x1 2)) ∧ True)))))))
abbrev rmX6_canSwap : Room := { frames := 3, cells := 0, slots := 0, locals := 65 }
set_option maxHeartbeats 4000000 in
set_option maxRecDepth 100000 in
theorem kX6_canSwap (l : Launch) (D : va_G) (cI cC cT : ClassId) (h a1 a2 a3 a4 a5 a6 a7 a8 : Nat) (S : SV) (x1 : Int32) (x2 : Int32) (hg : gX6_canSwap S x1 x2) : mR l D (TY cI cC cT) yX6_canSwap wsX6_canSwap rmX6_canSwap [.ref h, .int x1, .int x2] (w6 cI cC h a1 a2 a3 a4 a5 a6 a7 a8 S) (some (.int (fX6_canSwap S x1 x2))) := by
  refine mR.ofW (cc := cX6_canSwap) (maxL := 3) (ret := (some .boolean)) (by decide) rfl (Nat.le_of_ble_eq_true rfl) ?_
  intro p e s m args below meth c Q ls hx hb hml hr hlk hts hown hP hK hl hQ
  have hown : s.vm.findClass RX6 = some m.cls := hown
  have hP : va_P D vwCl (w6 cI cC h a1 a2 a3 a4 a5 a6 a7 a8 S) s.heap := hP
  have hl : lv_has ls 3 [(0, .ref h), (1, .int x1), (2, .int x2)] := hl
  unfold gX6_canSwap at hg
  refine lv_aload_n hx hb dX6_canSwap_0 rfl (lv_at hl 0 rfl) ?_
  refine lv_iload_n hx hb dX6_canSwap_1 rfl (lv_at hl 1 rfl) ?_
  refine lv_iconst (v := 2) hx hb dX6_canSwap_2 (by decide) ?_
  obtain ⟨o1, hg⟩ := hg
  refine fRV (As := [.int x1, .int 2]) (rest := []) (st' := [.int (fX6_by S x1 2)]) ⟨hx, hb, hml, hown, hts⟩ (kX6_by l D cI cC cT h a1 a2 a3 a4 a5 a6 a7 a8 S x1 2 o1) (cwV 2 hts gX6_canSwap_X6_by rfl rfl rfl (by decide +kernel) ⟨Nat.le_of_ble_eq_true rfl, Nat.le_of_ble_eq_true rfl⟩) hP hK [0, 1, 2, 3, 4, 5, 6, 7, 8] rfl 0 (ci := 7) rfl rfl rfl rfl hl.1 rfl rfl (Nat.le_of_ble_eq_true rfl) ⟨Nat.zero_le _, Nat.zero_le _⟩ dX6_canSwap_3 ?_
  refine lv_if_lt (tgt := 50) hx hb dX6_canSwap_6 (by decide) (fun c_6_1 => ?_) (fun c_6_1 => ?_)
  · rw [if_pos c_6_1] at hg
    refine lv_iconst (v := 0) hx hb dX6_canSwap_50 (by decide) ?_
    exact rRi hx hb hr hlk hQ (by rw [fX6_canSwap, if_pos c_6_1]) rfl dX6_canSwap_51
  · rw [if_neg c_6_1] at hg
    refine lv_aload_n hx hb dX6_canSwap_9 rfl (lv_at hl 0 rfl) ?_
    refine lv_iload_n hx hb dX6_canSwap_10 rfl (lv_at hl 2 rfl) ?_
    refine lv_iconst (v := 2) hx hb dX6_canSwap_11 (by decide) ?_
    obtain ⟨o2, hg⟩ := hg
    refine fRV (As := [.int x2, .int 2]) (rest := []) (st' := [.int (fX6_by S x2 2)]) ⟨hx, hb, hml, hown, hts⟩ (kX6_by l D cI cC cT h a1 a2 a3 a4 a5 a6 a7 a8 S x2 2 o2) (cwV 2 hts gX6_canSwap_X6_by rfl rfl rfl (by decide +kernel) ⟨Nat.le_of_ble_eq_true rfl, Nat.le_of_ble_eq_true rfl⟩) hP hK [0, 1, 2, 3, 4, 5, 6, 7, 8] rfl 0 (ci := 7) rfl rfl rfl rfl hl.1 rfl rfl (Nat.le_of_ble_eq_true rfl) ⟨Nat.zero_le _, Nat.zero_le _⟩ dX6_canSwap_12 ?_
    refine lv_if_lt (tgt := 50) hx hb dX6_canSwap_15 (by decide) (fun c_15_2 => ?_) (fun c_15_2 => ?_)
    · rw [if_pos c_15_2] at hg
      refine lv_iconst (v := 0) hx hb dX6_canSwap_50 (by decide) ?_
      exact rRi hx hb hr hlk hQ (by rw [fX6_canSwap, if_neg c_6_1, if_pos c_15_2]) rfl dX6_canSwap_51
    · rw [if_neg c_15_2] at hg
      refine lv_aload_n hx hb dX6_canSwap_18 rfl (lv_at hl 0 rfl) ?_
      refine lv_iload_n hx hb dX6_canSwap_19 rfl (lv_at hl 1 rfl) ?_
      refine lv_aload_n hx hb dX6_canSwap_20 rfl (lv_at hl 0 rfl) ?_
      refine lv_iload_n hx hb dX6_canSwap_21 rfl (lv_at hl 2 rfl) ?_
      refine lv_iconst (v := 2) hx hb dX6_canSwap_22 (by decide) ?_
      obtain ⟨o3, hg⟩ := hg
      refine fRV (As := [.int x2, .int 2]) (rest := [.int x1, .ref h]) (st' := [.int (fX6_by S x2 2), .int x1, .ref h]) ⟨hx, hb, hml, hown, hts⟩ (kX6_by l D cI cC cT h a1 a2 a3 a4 a5 a6 a7 a8 S x2 2 o3) (cwV 2 hts gX6_canSwap_X6_by rfl rfl rfl (by decide +kernel) ⟨Nat.le_of_ble_eq_true rfl, Nat.le_of_ble_eq_true rfl⟩) hP hK [0, 1, 2, 3, 4, 5, 6, 7, 8] rfl 0 (ci := 7) rfl rfl rfl rfl hl.1 rfl rfl (Nat.le_of_ble_eq_true rfl) ⟨Nat.zero_le _, Nat.zero_le _⟩ dX6_canSwap_23 ?_
      obtain ⟨o4, hg⟩ := hg
      refine fRV (As := [.int x1, .int (fX6_by S x2 2)]) (rest := []) (st' := [.int (fX6_maySit S x1 (fX6_by S x2 2))]) ⟨hx, hb, hml, hown, hts⟩ (kX6_maySit l D cI cC cT h a1 a2 a3 a4 a5 a6 a7 a8 S x1 (fX6_by S x2 2) o4) (cwV 2 hts gX6_canSwap_X6_maySit rfl rfl rfl (by decide +kernel) ⟨Nat.le_of_ble_eq_true rfl, Nat.le_of_ble_eq_true rfl⟩) hP hK [0, 1, 2, 3, 4, 5, 6, 7, 8] rfl 0 (ci := 7) rfl rfl rfl rfl hl.1 rfl rfl (Nat.le_of_ble_eq_true rfl) ⟨Nat.zero_le _, Nat.zero_le _⟩ dX6_canSwap_26 ?_
      refine lv_if_eq (tgt := 50) hx hb dX6_canSwap_29 (by decide) (fun c_29_3 => ?_) (fun c_29_3 => ?_)
      · rw [if_pos c_29_3] at hg
        refine lv_iconst (v := 0) hx hb dX6_canSwap_50 (by decide) ?_
        exact rRi hx hb hr hlk hQ (by rw [fX6_canSwap, if_neg c_6_1, if_neg c_15_2, if_pos c_29_3]) rfl dX6_canSwap_51
      · rw [if_neg c_29_3] at hg
        refine lv_aload_n hx hb dX6_canSwap_32 rfl (lv_at hl 0 rfl) ?_
        refine lv_iload_n hx hb dX6_canSwap_33 rfl (lv_at hl 2 rfl) ?_
        refine lv_aload_n hx hb dX6_canSwap_34 rfl (lv_at hl 0 rfl) ?_
        refine lv_iload_n hx hb dX6_canSwap_35 rfl (lv_at hl 1 rfl) ?_
        refine lv_iconst (v := 2) hx hb dX6_canSwap_36 (by decide) ?_
        obtain ⟨o5, hg⟩ := hg
        refine fRV (As := [.int x1, .int 2]) (rest := [.int x2, .ref h]) (st' := [.int (fX6_by S x1 2), .int x2, .ref h]) ⟨hx, hb, hml, hown, hts⟩ (kX6_by l D cI cC cT h a1 a2 a3 a4 a5 a6 a7 a8 S x1 2 o5) (cwV 2 hts gX6_canSwap_X6_by rfl rfl rfl (by decide +kernel) ⟨Nat.le_of_ble_eq_true rfl, Nat.le_of_ble_eq_true rfl⟩) hP hK [0, 1, 2, 3, 4, 5, 6, 7, 8] rfl 0 (ci := 7) rfl rfl rfl rfl hl.1 rfl rfl (Nat.le_of_ble_eq_true rfl) ⟨Nat.zero_le _, Nat.zero_le _⟩ dX6_canSwap_37 ?_
        obtain ⟨o6, hg⟩ := hg
        refine fRV (As := [.int x2, .int (fX6_by S x1 2)]) (rest := []) (st' := [.int (fX6_maySit S x2 (fX6_by S x1 2))]) ⟨hx, hb, hml, hown, hts⟩ (kX6_maySit l D cI cC cT h a1 a2 a3 a4 a5 a6 a7 a8 S x2 (fX6_by S x1 2) o6) (cwV 2 hts gX6_canSwap_X6_maySit rfl rfl rfl (by decide +kernel) ⟨Nat.le_of_ble_eq_true rfl, Nat.le_of_ble_eq_true rfl⟩) hP hK [0, 1, 2, 3, 4, 5, 6, 7, 8] rfl 0 (ci := 7) rfl rfl rfl rfl hl.1 rfl rfl (Nat.le_of_ble_eq_true rfl) ⟨Nat.zero_le _, Nat.zero_le _⟩ dX6_canSwap_40 ?_
        refine lv_if_eq (tgt := 50) hx hb dX6_canSwap_43 (by decide) (fun c_43_4 => ?_) (fun c_43_4 => ?_)
        · refine lv_iconst (v := 0) hx hb dX6_canSwap_50 (by decide) ?_
          exact rRi hx hb hr hlk hQ (by rw [fX6_canSwap, if_neg c_6_1, if_neg c_15_2, if_neg c_29_3, if_pos c_43_4]) rfl dX6_canSwap_51
        · refine lv_iconst (v := 1) hx hb dX6_canSwap_46 (by decide) ?_
          refine lv_goto (tgt := 51) hx hb dX6_canSwap_47 (by decide) ?_
          exact rRi hx hb hr hlk hQ (by rw [fX6_canSwap, if_neg c_6_1, if_neg c_15_2, if_neg c_29_3, if_neg c_43_4]) rfl dX6_canSwap_51
theorem zX6_canSwap (S : SV) (x1 : Int32) (x2 : Int32) : (fX6_canSwap S x1 x2) = 0 ∨ (fX6_canSwap S x1 x2) = 1 := by
  unfold fX6_canSwap
  repeat' split
  all_goals first | exact Or.inl rfl | exact Or.inr rfl | exact zX6_maySit ..
def fX6_swaps (S : SV) (x1 : Int32) (x2 : Int32) : SV := (sS6 (upd (upd (fX6_laysSeats S).2.2.2.2.2.2.1 (x1).toNatClampNeg (fX6_by (fX6_laysSeats S) x2 2)) (x2).toNatClampNeg (fX6_by (sS6 (upd (fX6_laysSeats S).2.2.2.2.2.2.1 (x1).toNatClampNeg (fX6_by (fX6_laysSeats S) x2 2)) (fX6_laysSeats S)) x1 2)) (sS6 (upd (fX6_laysSeats S).2.2.2.2.2.2.1 (x1).toNatClampNeg (fX6_by (fX6_laysSeats S) x2 2)) (fX6_laysSeats S)))
def gX6_swaps (S : SV) (x1 : Int32) (x2 : Int32) : Prop := ((gX6_laysSeats S) ∧ (gX6_by (fX6_laysSeats S) x2 2) ∧ (vp_in x1 12) ∧ (gX6_by (sS6 (upd (fX6_laysSeats S).2.2.2.2.2.2.1 (x1).toNatClampNeg (fX6_by (fX6_laysSeats S) x2 2)) (fX6_laysSeats S)) x1 2) ∧ (vp_in x2 12) ∧ True)
abbrev rmX6_swaps : Room := { frames := 2, cells := 0, slots := 0, locals := 43 }
set_option maxHeartbeats 4000000 in
set_option maxRecDepth 100000 in
theorem kX6_swaps (l : Launch) (D : va_G) (cI cC cT : ClassId) (h a1 a2 a3 a4 a5 a6 a7 a8 : Nat) (S : SV) (x1 : Int32) (x2 : Int32) (hg : gX6_swaps S x1 x2) : mU l D (TY cI cC cT) yX6_swaps wsX6_swaps rmX6_swaps [.ref h, .int x1, .int x2] (w6 cI cC h a1 a2 a3 a4 a5 a6 a7 a8 S) none (w6 cI cC h a1 a2 a3 a4 a5 a6 a7 a8 (fX6_swaps S x1 x2)) := by
  refine mU.ofW (cc := cX6_swaps) (maxL := 3) (ret := none) (by decide) rfl (Nat.le_of_ble_eq_true rfl) ?_
  intro p e s m args below meth c Q ls A hx hb hml hr hlk hts hown hP hK hD hS hl hQ
  have hown : s.vm.findClass RX6 = some m.cls := hown
  have hP : va_P D vwCl (w6 cI cC h a1 a2 a3 a4 a5 a6 a7 a8 S) s.heap := hP
  have hD : va_D A (w6 cI cC h a1 a2 a3 a4 a5 a6 a7 a8 S) := hD
  have hl : lv_has ls 3 [(0, .ref h), (1, .int x1), (2, .int x2)] := hl
  have q0 := hts (Cond.fieldLink RX6 33 "TavernStoolsModel" "seats" "[I") (by decide +kernel)
  have q1 : ∀ w ∈ u_ws RX6 TX6 20, w ∈ wsX6_swaps := by decide +kernel
  unfold gX6_swaps at hg
  generalize hHe : s.heap = H at hP ⊢
  have hS : va_S A s.heap H [] := hHe ▸ hS
  generalize hLe : ([] : List Loc) = locs at hS ⊢
  refine lv_aload_n hx hb dX6_swaps_0 rfl (lv_at hl 0 rfl) ?_
  obtain ⟨n1, en1⟩ : ∃ z9, z9 = (fX6_laysSeats S) := ⟨_, rfl⟩
  try rw [← en1] at hg
  obtain ⟨o1, hg⟩ := hg
  have k9 := (kX6_laysSeats l D cI cC cT h a1 a2 a3 a4 a5 a6 a7 a8 S o1)
  rw [← en1] at k9
  refine fUV (As := []) (rest := []) (st' := []) ⟨hx, hb, hml, hown, hts⟩ k9 (cwV 0 hts gX6_swaps_X6_laysSeats rfl rfl rfl (by decide +kernel) ⟨Nat.le_of_ble_eq_true rfl, Nat.le_of_ble_eq_true rfl⟩) hP hK hD hS [0, 1, 2, 3, 4, 5, 6, 7, 8] rfl rfl (by decide) rfl (w6 cI cC h a1 a2 a3 a4 a5 a6 a7 a8 n1) rfl rfl 0 (ci := 7) rfl rfl rfl rfl hl.1 rfl rfl (Nat.le_of_ble_eq_true rfl) ⟨Nat.zero_le _, Nat.zero_le _⟩ dX6_swaps_1 (fun H locs hP hD hS => ?_)
  refine lv_aload_n hx hb dX6_swaps_4 rfl (lv_at hl 0 rfl) ?_
  refine va_get (D := D) (ci := 7) (v := .ref a7) (C := RX6) (T := TX6) (N := 20) hx hb hts q1 hown hK hP 0 rfl rfl 16 (by decide) q0 (fun _ h9 => h9) rfl dX6_swaps_5 ?_
  refine lv_iload_n hx hb dX6_swaps_8 rfl (lv_at hl 1 rfl) ?_
  refine lv_aload_n hx hb dX6_swaps_9 rfl (lv_at hl 0 rfl) ?_
  refine lv_iload_n hx hb dX6_swaps_10 rfl (lv_at hl 2 rfl) ?_
  refine lv_iconst (v := 2) hx hb dX6_swaps_11 (by decide) ?_
  obtain ⟨o2, hg⟩ := hg
  refine fRV (As := [.int x2, .int 2]) (rest := [.int x1, .ref a7]) (st' := [.int (fX6_by n1 x2 2), .int x1, .ref a7]) ⟨hx, hb, hml, hown, hts⟩ (kX6_by l D cI cC cT h a1 a2 a3 a4 a5 a6 a7 a8 n1 x2 2 o2) (cwV 2 hts gX6_swaps_X6_by rfl rfl rfl (by decide +kernel) ⟨Nat.le_of_ble_eq_true rfl, Nat.le_of_ble_eq_true rfl⟩) hP hK [0, 1, 2, 3, 4, 5, 6, 7, 8] rfl 0 (ci := 7) rfl rfl rfl rfl hl.1 rfl rfl (Nat.le_of_ble_eq_true rfl) ⟨Nat.zero_le _, Nat.zero_le _⟩ dX6_swaps_12 ?_
  obtain ⟨o3, hg⟩ := hg
  refine va_iast hx hb hK hP hD hS 7 0 rfl rfl o3 dX6_swaps_15 (fun H locs hP hD hS => ?_)
  have hP : va_P D vwCl (w6 cI cC h a1 a2 a3 a4 a5 a6 a7 a8 (sS6 (upd n1.2.2.2.2.2.2.1 (x1).toNatClampNeg (fX6_by n1 x2 2)) n1)) H := w6p_6 hP
  have hD : va_D A (w6 cI cC h a1 a2 a3 a4 a5 a6 a7 a8 (sS6 (upd n1.2.2.2.2.2.2.1 (x1).toNatClampNeg (fX6_by n1 x2 2)) n1)) := w6d_6 hD
  refine lv_aload_n hx hb dX6_swaps_16 rfl (lv_at hl 0 rfl) ?_
  refine va_get (D := D) (ci := 7) (v := .ref a7) (C := RX6) (T := TX6) (N := 20) hx hb hts q1 hown hK hP 0 rfl rfl 16 (by decide) q0 (fun _ h9 => h9) rfl dX6_swaps_17 ?_
  refine lv_iload_n hx hb dX6_swaps_20 rfl (lv_at hl 2 rfl) ?_
  refine lv_aload_n hx hb dX6_swaps_21 rfl (lv_at hl 0 rfl) ?_
  refine lv_iload_n hx hb dX6_swaps_22 rfl (lv_at hl 1 rfl) ?_
  refine lv_iconst (v := 2) hx hb dX6_swaps_23 (by decide) ?_
  obtain ⟨o4, hg⟩ := hg
  refine fRV (As := [.int x1, .int 2]) (rest := [.int x2, .ref a7]) (st' := [.int (fX6_by (sS6 (upd n1.2.2.2.2.2.2.1 (x1).toNatClampNeg (fX6_by n1 x2 2)) n1) x1 2), .int x2, .ref a7]) ⟨hx, hb, hml, hown, hts⟩ (kX6_by l D cI cC cT h a1 a2 a3 a4 a5 a6 a7 a8 (sS6 (upd n1.2.2.2.2.2.2.1 (x1).toNatClampNeg (fX6_by n1 x2 2)) n1) x1 2 o4) (cwV 2 hts gX6_swaps_X6_by rfl rfl rfl (by decide +kernel) ⟨Nat.le_of_ble_eq_true rfl, Nat.le_of_ble_eq_true rfl⟩) hP hK [0, 1, 2, 3, 4, 5, 6, 7, 8] rfl 0 (ci := 7) rfl rfl rfl rfl hl.1 rfl rfl (Nat.le_of_ble_eq_true rfl) ⟨Nat.zero_le _, Nat.zero_le _⟩ dX6_swaps_24 ?_
  obtain ⟨o5, hg⟩ := hg
  refine va_iast hx hb hK hP hD hS 7 0 rfl rfl o5 dX6_swaps_27 (fun H locs hP hD hS => ?_)
  have hP : va_P D vwCl (w6 cI cC h a1 a2 a3 a4 a5 a6 a7 a8 (sS6 (upd (upd n1.2.2.2.2.2.2.1 (x1).toNatClampNeg (fX6_by n1 x2 2)) (x2).toNatClampNeg (fX6_by (sS6 (upd n1.2.2.2.2.2.2.1 (x1).toNatClampNeg (fX6_by n1 x2 2)) n1) x1 2)) (sS6 (upd n1.2.2.2.2.2.2.1 (x1).toNatClampNeg (fX6_by n1 x2 2)) n1))) H := w6p_6 hP
  have hD : va_D A (w6 cI cC h a1 a2 a3 a4 a5 a6 a7 a8 (sS6 (upd (upd n1.2.2.2.2.2.2.1 (x1).toNatClampNeg (fX6_by n1 x2 2)) (x2).toNatClampNeg (fX6_by (sS6 (upd n1.2.2.2.2.2.2.1 (x1).toNatClampNeg (fX6_by n1 x2 2)) n1) x1 2)) (sS6 (upd n1.2.2.2.2.2.2.1 (x1).toNatClampNeg (fX6_by n1 x2 2)) n1))) := w6d_6 hD
  have e9 : fX6_swaps S x1 x2 = (sS6 (upd (upd n1.2.2.2.2.2.2.1 (x1).toNatClampNeg (fX6_by n1 x2 2)) (x2).toNatClampNeg (fX6_by (sS6 (upd n1.2.2.2.2.2.2.1 (x1).toNatClampNeg (fX6_by n1 x2 2)) n1) x1 2)) (sS6 (upd n1.2.2.2.2.2.2.1 (x1).toNatClampNeg (fX6_by n1 x2 2)) n1)) := by rw [fX6_swaps, ← en1]
  exact rUv hx hb hr hlk hQ hP hS (congrArg (fun z9 : SV => (w6 cI cC h a1 a2 a3 a4 a5 a6 a7 a8 z9 : va_W)) e9).symm dX6_swaps_28
def fX6_swap (S : SV) (x1 : Int32) (x2 : Int32) : (Int32 × SV) := (if (fX6_isSitter S x1) = 0 then (0, (fX6_fails S 1).2) else (if (fX6_isSitter S x2) = 0 then (0, (fX6_fails S 1).2) else (if x1 = x2 then (0, (fX6_fails S 2).2) else (if 0 ≤ (fX6_by (fX6_fails S 0).2 x1 2) then (if 0 ≤ (fX6_by (fX6_fails S 0).2 x2 2) then (if (fX6_maySit (fX6_fails S 0).2 x1 (fX6_by (fX6_fails S 0).2 x2 2)) = 0 then ((fX6_refuses (fX6_fails S 0).2 3 3 (fX6_by (fX6_fails S 0).2 x2 2)).1, (fX6_refuses (fX6_fails S 0).2 3 3 (fX6_by (fX6_fails S 0).2 x2 2)).2) else (if (fX6_maySit (fX6_fails S 0).2 x2 (fX6_by (fX6_fails S 0).2 x1 2)) = 0 then ((fX6_refuses (fX6_fails S 0).2 3 3 (fX6_by (fX6_fails S 0).2 x1 2)).1, (fX6_refuses (fX6_fails S 0).2 3 3 (fX6_by (fX6_fails S 0).2 x1 2)).2) else ((fX6_clashesTried (fX6_takesSeats (fX6_swaps (fX6_keeps_g (fX6_fails S 0).2) x1 x2))), (fX6_takesSeats (fX6_swaps (fX6_keeps_g (fX6_fails S 0).2) x1 x2))))) else ((fX6_refuses (fX6_fails S 0).2 3 4 x2).1, (fX6_refuses (fX6_fails S 0).2 3 4 x2).2)) else ((fX6_refuses (fX6_fails S 0).2 3 4 x1).1, (fX6_refuses (fX6_fails S 0).2 3 4 x1).2)))))
def gX6_swap (S : SV) (x1 : Int32) (x2 : Int32) : Prop := ((gX6_isSitter S x1) ∧ (if (fX6_isSitter S x1) = 0 then True else ((gX6_isSitter S x2) ∧ (if (fX6_isSitter S x2) = 0 then True else (if x1 = x2 then True else ((gX6_by (fX6_fails S 0).2 x1 2) ∧ (if 0 ≤ (fX6_by (fX6_fails S 0).2 x1 2) then ((gX6_by (fX6_fails S 0).2 x2 2) ∧ (if 0 ≤ (fX6_by (fX6_fails S 0).2 x2 2) then ((gX6_by (fX6_fails S 0).2 x2 2) ∧ (gX6_maySit (fX6_fails S 0).2 x1 (fX6_by (fX6_fails S 0).2 x2 2)) ∧ (if (fX6_maySit (fX6_fails S 0).2 x1 (fX6_by (fX6_fails S 0).2 x2 2)) = 0 then ((gX6_by (fX6_fails S 0).2 x2 2) ∧ True) else ((gX6_by (fX6_fails S 0).2 x1 2) ∧ (gX6_maySit (fX6_fails S 0).2 x2 (fX6_by (fX6_fails S 0).2 x1 2)) ∧ (if (fX6_maySit (fX6_fails S 0).2 x2 (fX6_by (fX6_fails S 0).2 x1 2)) = 0 then ((gX6_by (fX6_fails S 0).2 x1 2) ∧ True) else ((gX6_keeps_g (fX6_fails S 0).2) ∧ (gX6_swaps (fX6_keeps_g (fX6_fails S 0).2) x1 x2) ∧ (gX6_takesSeats (fX6_swaps (fX6_keeps_g (fX6_fails S 0).2) x1 x2)) ∧ (gX6_clashesTried (fX6_takesSeats (fX6_swaps (fX6_keeps_g (fX6_fails S 0).2) x1 x2))) ∧ True))))) else True)) else True)))))))
abbrev rmX6_swap : Room := { frames := 4, cells := 0, slots := 0, locals := 91 }
set_option maxHeartbeats 4000000 in
set_option maxRecDepth 100000 in
theorem kX6_swap (l : Launch) (D : va_G) (cI cC cT : ClassId) (h a1 a2 a3 a4 a5 a6 a7 a8 : Nat) (S : SV) (x1 : Int32) (x2 : Int32) (hg : gX6_swap S x1 x2) : mU l D (TY cI cC cT) yX6_swap wsX6_swap rmX6_swap [.ref h, .int x1, .int x2] (w6 cI cC h a1 a2 a3 a4 a5 a6 a7 a8 S) (some (.int (fX6_swap S x1 x2).1)) (w6 cI cC h a1 a2 a3 a4 a5 a6 a7 a8 (fX6_swap S x1 x2).2) := by
  refine mU.ofW (cc := cX6_swap) (maxL := 3) (ret := (some .int)) (by decide) rfl (Nat.le_of_ble_eq_true rfl) ?_
  intro p e s m args below meth c Q ls A hx hb hml hr hlk hts hown hP hK hD hS hl hQ
  have hown : s.vm.findClass RX6 = some m.cls := hown
  have hP : va_P D vwCl (w6 cI cC h a1 a2 a3 a4 a5 a6 a7 a8 S) s.heap := hP
  have hD : va_D A (w6 cI cC h a1 a2 a3 a4 a5 a6 a7 a8 S) := hD
  have hl : lv_has ls 3 [(0, .ref h), (1, .int x1), (2, .int x2)] := hl
  have q0 := hts (Cond.fieldLink RX6 7 "TavernStoolsModel" "g" "[I") (by decide +kernel)
  have q1 : ∀ w ∈ u_ws RX6 TX6 20, w ∈ wsX6_swap := by decide +kernel
  unfold gX6_swap at hg
  generalize hHe : s.heap = H at hP ⊢
  have hS : va_S A s.heap H [] := hHe ▸ hS
  generalize hLe : ([] : List Loc) = locs at hS ⊢
  refine lv_aload_n hx hb dX6_swap_0 rfl (lv_at hl 0 rfl) ?_
  refine lv_aload_n hx hb dX6_swap_1 rfl (lv_at hl 0 rfl) ?_
  refine lv_iload_n hx hb dX6_swap_2 rfl (lv_at hl 1 rfl) ?_
  obtain ⟨o1, hg⟩ := hg
  refine fRV (As := [.int x1]) (rest := [.ref h]) (st' := [.int (fX6_isSitter S x1), .ref h]) ⟨hx, hb, hml, hown, hts⟩ (kX6_isSitter l D cI cC cT h a1 a2 a3 a4 a5 a6 a7 a8 S x1 o1) (cwV 1 hts gX6_swap_X6_isSitter rfl rfl rfl (by decide +kernel) ⟨Nat.le_of_ble_eq_true rfl, Nat.le_of_ble_eq_true rfl⟩) hP hK [0, 1, 2, 3, 4, 5, 6, 7, 8] rfl 0 (ci := 7) rfl rfl rfl rfl hl.1 rfl rfl (Nat.le_of_ble_eq_true rfl) ⟨Nat.zero_le _, Nat.zero_le _⟩ dX6_swap_3 ?_
  refine lv_if_eq (tgt := 17) hx hb dX6_swap_6 (by decide) (fun c_6_1 => ?_) (fun c_6_1 => ?_)
  · rw [if_pos c_6_1] at hg
    refine lv_iconst (v := 1) hx hb dX6_swap_17 (by decide) ?_
    refine lv_goto (tgt := 31) hx hb dX6_swap_18 (by decide) ?_
    obtain ⟨n1, en1⟩ : ∃ z9, z9 = (fX6_fails S 1) := ⟨_, rfl⟩
    try rw [← en1] at hg
    have k9 := (kX6_fails l D cI cC cT h a1 a2 a3 a4 a5 a6 a7 a8 S 1)
    rw [← en1] at k9
    refine fUV (As := [.int 1]) (rest := []) (st' := [.int n1.1]) ⟨hx, hb, hml, hown, hts⟩ k9 (cwV 1 hts gX6_swap_X6_fails rfl rfl rfl (by decide +kernel) ⟨Nat.le_of_ble_eq_true rfl, Nat.le_of_ble_eq_true rfl⟩) hP hK hD hS [0, 1, 2, 3, 4, 5, 6, 7, 8] rfl rfl (by decide) rfl (w6 cI cC h a1 a2 a3 a4 a5 a6 a7 a8 n1.2) rfl rfl 0 (ci := 7) rfl rfl rfl rfl hl.1 rfl rfl (Nat.le_of_ble_eq_true rfl) ⟨Nat.zero_le _, Nat.zero_le _⟩ dX6_swap_31 (fun H locs hP hD hS => ?_)
    refine lv_if_eq (tgt := 39) hx hb dX6_swap_34 (by decide) (fun c_34 => absurd c_34 (by rw [en1, fails_1]; decide)) (fun c_34 => ?_)
    refine lv_iconst (v := 0) hx hb dX6_swap_37 (by decide) ?_
    have e9 : fX6_swap S x1 x2 = (0, n1.2) := by rw [fX6_swap, if_pos c_6_1, ← en1]
    exact rUi hx hb hr hlk hQ hP hS (by rw [e9]) (congrArg (fun z9 : (Int32 × SV) => (w6 cI cC h a1 a2 a3 a4 a5 a6 a7 a8 z9.2 : va_W)) e9).symm rfl dX6_swap_38
  · rw [if_neg c_6_1] at hg
    refine lv_aload_n hx hb dX6_swap_9 rfl (lv_at hl 0 rfl) ?_
    refine lv_iload_n hx hb dX6_swap_10 rfl (lv_at hl 2 rfl) ?_
    obtain ⟨o2, hg⟩ := hg
    refine fRV (As := [.int x2]) (rest := [.ref h]) (st' := [.int (fX6_isSitter S x2), .ref h]) ⟨hx, hb, hml, hown, hts⟩ (kX6_isSitter l D cI cC cT h a1 a2 a3 a4 a5 a6 a7 a8 S x2 o2) (cwV 1 hts gX6_swap_X6_isSitter rfl rfl rfl (by decide +kernel) ⟨Nat.le_of_ble_eq_true rfl, Nat.le_of_ble_eq_true rfl⟩) hP hK [0, 1, 2, 3, 4, 5, 6, 7, 8] rfl 0 (ci := 7) rfl rfl rfl rfl hl.1 rfl rfl (Nat.le_of_ble_eq_true rfl) ⟨Nat.zero_le _, Nat.zero_le _⟩ dX6_swap_11 ?_
    refine lv_if_ne (tgt := 21) hx hb dX6_swap_14 (by decide) (fun c_14_2 => ?_) (fun c_14_2 => ?_)
    · rw [if_neg c_14_2] at hg
      refine lv_iload_n hx hb dX6_swap_21 rfl (lv_at hl 1 rfl) ?_
      refine lv_iload_n hx hb dX6_swap_22 rfl (lv_at hl 2 rfl) ?_
      refine lv_icmp_ne (tgt := 30) hx hb dX6_swap_23 (by decide) (fun c_23_3 => ?_) (fun c_23_3 => ?_)
      · rw [if_neg c_23_3] at hg
        refine lv_iconst (v := 0) hx hb dX6_swap_30 (by decide) ?_
        obtain ⟨n2, en2⟩ : ∃ z9, z9 = (fX6_fails S 0) := ⟨_, rfl⟩
        try rw [← en2] at hg
        have k9 := (kX6_fails l D cI cC cT h a1 a2 a3 a4 a5 a6 a7 a8 S 0)
        rw [← en2] at k9
        refine fUV (As := [.int 0]) (rest := []) (st' := [.int n2.1]) ⟨hx, hb, hml, hown, hts⟩ k9 (cwV 1 hts gX6_swap_X6_fails rfl rfl rfl (by decide +kernel) ⟨Nat.le_of_ble_eq_true rfl, Nat.le_of_ble_eq_true rfl⟩) hP hK hD hS [0, 1, 2, 3, 4, 5, 6, 7, 8] rfl rfl (by decide) rfl (w6 cI cC h a1 a2 a3 a4 a5 a6 a7 a8 n2.2) rfl rfl 0 (ci := 7) rfl rfl rfl rfl hl.1 rfl rfl (Nat.le_of_ble_eq_true rfl) ⟨Nat.zero_le _, Nat.zero_le _⟩ dX6_swap_31 (fun H locs hP hD hS => ?_)
        refine lv_if_eq (tgt := 39) hx hb dX6_swap_34 (by decide) (fun c_34 => ?_) (fun c_34 => absurd (by rw [en2]; exact fails_0 _) c_34)
        refine lv_aload_n hx hb dX6_swap_39 rfl (lv_at hl 0 rfl) ?_
        refine lv_iload_n hx hb dX6_swap_40 rfl (lv_at hl 1 rfl) ?_
        refine lv_iconst (v := 2) hx hb dX6_swap_41 (by decide) ?_
        obtain ⟨o3, hg⟩ := hg
        refine fRV (As := [.int x1, .int 2]) (rest := []) (st' := [.int (fX6_by n2.2 x1 2)]) ⟨hx, hb, hml, hown, hts⟩ (kX6_by l D cI cC cT h a1 a2 a3 a4 a5 a6 a7 a8 n2.2 x1 2 o3) (cwV 2 hts gX6_swap_X6_by rfl rfl rfl (by decide +kernel) ⟨Nat.le_of_ble_eq_true rfl, Nat.le_of_ble_eq_true rfl⟩) hP hK [0, 1, 2, 3, 4, 5, 6, 7, 8] rfl 0 (ci := 7) rfl rfl rfl rfl hl.1 rfl rfl (Nat.le_of_ble_eq_true rfl) ⟨Nat.zero_le _, Nat.zero_le _⟩ dX6_swap_42 ?_
        refine lv_if_ge (tgt := 56) hx hb dX6_swap_45 (by decide) (fun c_45_4 => ?_) (fun c_45_4 => ?_)
        · rw [if_pos c_45_4] at hg
          refine lv_aload_n hx hb dX6_swap_56 rfl (lv_at hl 0 rfl) ?_
          refine lv_iload_n hx hb dX6_swap_57 rfl (lv_at hl 2 rfl) ?_
          refine lv_iconst (v := 2) hx hb dX6_swap_58 (by decide) ?_
          obtain ⟨o4, hg⟩ := hg
          refine fRV (As := [.int x2, .int 2]) (rest := []) (st' := [.int (fX6_by n2.2 x2 2)]) ⟨hx, hb, hml, hown, hts⟩ (kX6_by l D cI cC cT h a1 a2 a3 a4 a5 a6 a7 a8 n2.2 x2 2 o4) (cwV 2 hts gX6_swap_X6_by rfl rfl rfl (by decide +kernel) ⟨Nat.le_of_ble_eq_true rfl, Nat.le_of_ble_eq_true rfl⟩) hP hK [0, 1, 2, 3, 4, 5, 6, 7, 8] rfl 0 (ci := 7) rfl rfl rfl rfl hl.1 rfl rfl (Nat.le_of_ble_eq_true rfl) ⟨Nat.zero_le _, Nat.zero_le _⟩ dX6_swap_59 ?_
          refine lv_if_ge (tgt := 73) hx hb dX6_swap_62 (by decide) (fun c_62_5 => ?_) (fun c_62_5 => ?_)
          · rw [if_pos c_62_5] at hg
            refine lv_aload_n hx hb dX6_swap_73 rfl (lv_at hl 0 rfl) ?_
            refine lv_iload_n hx hb dX6_swap_74 rfl (lv_at hl 1 rfl) ?_
            refine lv_aload_n hx hb dX6_swap_75 rfl (lv_at hl 0 rfl) ?_
            refine lv_iload_n hx hb dX6_swap_76 rfl (lv_at hl 2 rfl) ?_
            refine lv_iconst (v := 2) hx hb dX6_swap_77 (by decide) ?_
            obtain ⟨o5, hg⟩ := hg
            refine fRV (As := [.int x2, .int 2]) (rest := [.int x1, .ref h]) (st' := [.int (fX6_by n2.2 x2 2), .int x1, .ref h]) ⟨hx, hb, hml, hown, hts⟩ (kX6_by l D cI cC cT h a1 a2 a3 a4 a5 a6 a7 a8 n2.2 x2 2 o5) (cwV 2 hts gX6_swap_X6_by rfl rfl rfl (by decide +kernel) ⟨Nat.le_of_ble_eq_true rfl, Nat.le_of_ble_eq_true rfl⟩) hP hK [0, 1, 2, 3, 4, 5, 6, 7, 8] rfl 0 (ci := 7) rfl rfl rfl rfl hl.1 rfl rfl (Nat.le_of_ble_eq_true rfl) ⟨Nat.zero_le _, Nat.zero_le _⟩ dX6_swap_78 ?_
            obtain ⟨o6, hg⟩ := hg
            refine fRV (As := [.int x1, .int (fX6_by n2.2 x2 2)]) (rest := []) (st' := [.int (fX6_maySit n2.2 x1 (fX6_by n2.2 x2 2))]) ⟨hx, hb, hml, hown, hts⟩ (kX6_maySit l D cI cC cT h a1 a2 a3 a4 a5 a6 a7 a8 n2.2 x1 (fX6_by n2.2 x2 2) o6) (cwV 2 hts gX6_swap_X6_maySit rfl rfl rfl (by decide +kernel) ⟨Nat.le_of_ble_eq_true rfl, Nat.le_of_ble_eq_true rfl⟩) hP hK [0, 1, 2, 3, 4, 5, 6, 7, 8] rfl 0 (ci := 7) rfl rfl rfl rfl hl.1 rfl rfl (Nat.le_of_ble_eq_true rfl) ⟨Nat.zero_le _, Nat.zero_le _⟩ dX6_swap_81 ?_
            refine lv_if_ne (tgt := 100) hx hb dX6_swap_84 (by decide) (fun c_84_6 => ?_) (fun c_84_6 => ?_)
            · rw [if_neg c_84_6] at hg
              refine lv_aload_n hx hb dX6_swap_100 rfl (lv_at hl 0 rfl) ?_
              refine lv_iload_n hx hb dX6_swap_101 rfl (lv_at hl 2 rfl) ?_
              refine lv_aload_n hx hb dX6_swap_102 rfl (lv_at hl 0 rfl) ?_
              refine lv_iload_n hx hb dX6_swap_103 rfl (lv_at hl 1 rfl) ?_
              refine lv_iconst (v := 2) hx hb dX6_swap_104 (by decide) ?_
              obtain ⟨o7, hg⟩ := hg
              refine fRV (As := [.int x1, .int 2]) (rest := [.int x2, .ref h]) (st' := [.int (fX6_by n2.2 x1 2), .int x2, .ref h]) ⟨hx, hb, hml, hown, hts⟩ (kX6_by l D cI cC cT h a1 a2 a3 a4 a5 a6 a7 a8 n2.2 x1 2 o7) (cwV 2 hts gX6_swap_X6_by rfl rfl rfl (by decide +kernel) ⟨Nat.le_of_ble_eq_true rfl, Nat.le_of_ble_eq_true rfl⟩) hP hK [0, 1, 2, 3, 4, 5, 6, 7, 8] rfl 0 (ci := 7) rfl rfl rfl rfl hl.1 rfl rfl (Nat.le_of_ble_eq_true rfl) ⟨Nat.zero_le _, Nat.zero_le _⟩ dX6_swap_105 ?_
              obtain ⟨o8, hg⟩ := hg
              refine fRV (As := [.int x2, .int (fX6_by n2.2 x1 2)]) (rest := []) (st' := [.int (fX6_maySit n2.2 x2 (fX6_by n2.2 x1 2))]) ⟨hx, hb, hml, hown, hts⟩ (kX6_maySit l D cI cC cT h a1 a2 a3 a4 a5 a6 a7 a8 n2.2 x2 (fX6_by n2.2 x1 2) o8) (cwV 2 hts gX6_swap_X6_maySit rfl rfl rfl (by decide +kernel) ⟨Nat.le_of_ble_eq_true rfl, Nat.le_of_ble_eq_true rfl⟩) hP hK [0, 1, 2, 3, 4, 5, 6, 7, 8] rfl 0 (ci := 7) rfl rfl rfl rfl hl.1 rfl rfl (Nat.le_of_ble_eq_true rfl) ⟨Nat.zero_le _, Nat.zero_le _⟩ dX6_swap_108 ?_
              refine lv_if_ne (tgt := 127) hx hb dX6_swap_111 (by decide) (fun c_111_7 => ?_) (fun c_111_7 => ?_)
              · rw [if_neg c_111_7] at hg
                refine lv_aload_n hx hb dX6_swap_127 rfl (lv_at hl 0 rfl) ?_
                refine lv_aload_n hx hb dX6_swap_128 rfl (lv_at hl 0 rfl) ?_
                refine va_get (D := D) (ci := 7) (v := .ref a1) (C := RX6) (T := TX6) (N := 20) hx hb hts q1 hown hK hP 0 rfl rfl 0 (by decide) q0 (fun _ h9 => h9) rfl dX6_swap_129 ?_
                obtain ⟨n3, en3⟩ : ∃ z9, z9 = (fX6_keeps_g n2.2) := ⟨_, rfl⟩
                try rw [← en3] at hg
                obtain ⟨o9, hg⟩ := hg
                have k9 := (kX6_keeps_g l D cI cC cT h a1 a2 a3 a4 a5 a6 a7 a8 n2.2 o9)
                rw [← en3] at k9
                refine fUV (As := [.ref a1]) (rest := []) (st' := []) ⟨hx, hb, hml, hown, hts⟩ k9 (cwV 1 hts gX6_swap_X6_keeps rfl rfl rfl (by decide +kernel) ⟨Nat.le_of_ble_eq_true rfl, Nat.le_of_ble_eq_true rfl⟩) hP hK hD hS [0, 1, 2, 3, 4, 5, 6, 7, 8] rfl rfl (by decide) rfl (w6 cI cC h a1 a2 a3 a4 a5 a6 a7 a8 n3) rfl rfl 0 (ci := 7) rfl rfl rfl rfl hl.1 rfl rfl (Nat.le_of_ble_eq_true rfl) ⟨Nat.zero_le _, Nat.zero_le _⟩ dX6_swap_132 (fun H locs hP hD hS => ?_)
                refine lv_aload_n hx hb dX6_swap_135 rfl (lv_at hl 0 rfl) ?_
                refine lv_iload_n hx hb dX6_swap_136 rfl (lv_at hl 1 rfl) ?_
                refine lv_iload_n hx hb dX6_swap_137 rfl (lv_at hl 2 rfl) ?_
                obtain ⟨n4, en4⟩ : ∃ z9, z9 = (fX6_swaps n3 x1 x2) := ⟨_, rfl⟩
                try rw [← en4] at hg
                obtain ⟨o10, hg⟩ := hg
                have k9 := (kX6_swaps l D cI cC cT h a1 a2 a3 a4 a5 a6 a7 a8 n3 x1 x2 o10)
                rw [← en4] at k9
                refine fUV (As := [.int x1, .int x2]) (rest := []) (st' := []) ⟨hx, hb, hml, hown, hts⟩ k9 (cwV 2 hts gX6_swap_X6_swaps rfl rfl rfl (by decide +kernel) ⟨Nat.le_of_ble_eq_true rfl, Nat.le_of_ble_eq_true rfl⟩) hP hK hD hS [0, 1, 2, 3, 4, 5, 6, 7, 8] rfl rfl (by decide) rfl (w6 cI cC h a1 a2 a3 a4 a5 a6 a7 a8 n4) rfl rfl 0 (ci := 7) rfl rfl rfl rfl hl.1 rfl rfl (Nat.le_of_ble_eq_true rfl) ⟨Nat.zero_le _, Nat.zero_le _⟩ dX6_swap_138 (fun H locs hP hD hS => ?_)
                refine lv_aload_n hx hb dX6_swap_141 rfl (lv_at hl 0 rfl) ?_
                obtain ⟨n5, en5⟩ : ∃ z9, z9 = (fX6_takesSeats n4) := ⟨_, rfl⟩
                try rw [← en5] at hg
                obtain ⟨o11, hg⟩ := hg
                have k9 := (kX6_takesSeats l D cI cC cT h a1 a2 a3 a4 a5 a6 a7 a8 n4 o11)
                rw [← en5] at k9
                refine fUV (As := []) (rest := []) (st' := []) ⟨hx, hb, hml, hown, hts⟩ k9 (cwV 0 hts gX6_swap_X6_takesSeats rfl rfl rfl (by decide +kernel) ⟨Nat.le_of_ble_eq_true rfl, Nat.le_of_ble_eq_true rfl⟩) hP hK hD hS [0, 1, 2, 3, 4, 5, 6, 7, 8] rfl rfl (by decide) rfl (w6 cI cC h a1 a2 a3 a4 a5 a6 a7 a8 n5) rfl rfl 0 (ci := 7) rfl rfl rfl rfl hl.1 rfl rfl (Nat.le_of_ble_eq_true rfl) ⟨Nat.zero_le _, Nat.zero_le _⟩ dX6_swap_142 (fun H locs hP hD hS => ?_)
                refine lv_aload_n hx hb dX6_swap_145 rfl (lv_at hl 0 rfl) ?_
                obtain ⟨o12, hg⟩ := hg
                refine fRV (As := []) (rest := []) (st' := [.int (fX6_clashesTried n5)]) ⟨hx, hb, hml, hown, hts⟩ (kX6_clashesTried l D cI cC cT h a1 a2 a3 a4 a5 a6 a7 a8 n5 o12) (cwV 0 hts gX6_swap_X6_clashesTried rfl rfl rfl (by decide +kernel) ⟨Nat.le_of_ble_eq_true rfl, Nat.le_of_ble_eq_true rfl⟩) hP hK [0, 1, 2, 3, 4, 5, 6, 7, 8] rfl 0 (ci := 7) rfl rfl rfl rfl hl.1 rfl rfl (Nat.le_of_ble_eq_true rfl) ⟨Nat.zero_le _, Nat.zero_le _⟩ dX6_swap_146 ?_
                have e9 : fX6_swap S x1 x2 = ((fX6_clashesTried n5), n5) := by rw [fX6_swap, if_neg c_6_1, if_neg c_14_2, if_neg c_23_3, ← en2, if_pos c_45_4, if_pos c_62_5, if_neg c_84_6, if_neg c_111_7, ← en3, ← en4, ← en5]
                exact rUi hx hb hr hlk hQ hP hS (by rw [e9]) (congrArg (fun z9 : (Int32 × SV) => (w6 cI cC h a1 a2 a3 a4 a5 a6 a7 a8 z9.2 : va_W)) e9).symm rfl dX6_swap_149
              · rw [if_pos c_111_7] at hg
                refine lv_aload_n hx hb dX6_swap_114 rfl (lv_at hl 0 rfl) ?_
                refine lv_iconst (v := 3) hx hb dX6_swap_115 (by decide) ?_
                refine lv_iconst (v := 3) hx hb dX6_swap_116 (by decide) ?_
                refine lv_aload_n hx hb dX6_swap_117 rfl (lv_at hl 0 rfl) ?_
                refine lv_iload_n hx hb dX6_swap_118 rfl (lv_at hl 1 rfl) ?_
                refine lv_iconst (v := 2) hx hb dX6_swap_119 (by decide) ?_
                obtain ⟨o13, hg⟩ := hg
                refine fRV (As := [.int x1, .int 2]) (rest := [.int 3, .int 3, .ref h]) (st' := [.int (fX6_by n2.2 x1 2), .int 3, .int 3, .ref h]) ⟨hx, hb, hml, hown, hts⟩ (kX6_by l D cI cC cT h a1 a2 a3 a4 a5 a6 a7 a8 n2.2 x1 2 o13) (cwV 2 hts gX6_swap_X6_by rfl rfl rfl (by decide +kernel) ⟨Nat.le_of_ble_eq_true rfl, Nat.le_of_ble_eq_true rfl⟩) hP hK [0, 1, 2, 3, 4, 5, 6, 7, 8] rfl 0 (ci := 7) rfl rfl rfl rfl hl.1 rfl rfl (Nat.le_of_ble_eq_true rfl) ⟨Nat.zero_le _, Nat.zero_le _⟩ dX6_swap_120 ?_
                obtain ⟨n6, en6⟩ : ∃ z9, z9 = (fX6_refuses n2.2 3 3 (fX6_by n2.2 x1 2)) := ⟨_, rfl⟩
                try rw [← en6] at hg
                have k9 := (kX6_refuses l D cI cC cT h a1 a2 a3 a4 a5 a6 a7 a8 n2.2 3 3 (fX6_by n2.2 x1 2))
                rw [← en6] at k9
                refine fUV (As := [.int 3, .int 3, .int (fX6_by n2.2 x1 2)]) (rest := []) (st' := [.int n6.1]) ⟨hx, hb, hml, hown, hts⟩ k9 (cwV 3 hts gX6_swap_X6_refuses rfl rfl rfl (by decide +kernel) ⟨Nat.le_of_ble_eq_true rfl, Nat.le_of_ble_eq_true rfl⟩) hP hK hD hS [0, 1, 2, 3, 4, 5, 6, 7, 8] rfl rfl (by decide) rfl (w6 cI cC h a1 a2 a3 a4 a5 a6 a7 a8 n6.2) rfl rfl 0 (ci := 7) rfl rfl rfl rfl hl.1 rfl rfl (Nat.le_of_ble_eq_true rfl) ⟨Nat.zero_le _, Nat.zero_le _⟩ dX6_swap_123 (fun H locs hP hD hS => ?_)
                have e9 : fX6_swap S x1 x2 = (n6.1, n6.2) := by rw [fX6_swap, if_neg c_6_1, if_neg c_14_2, if_neg c_23_3, ← en2, if_pos c_45_4, if_pos c_62_5, if_neg c_84_6, if_pos c_111_7, ← en6]
                exact rUi hx hb hr hlk hQ hP hS (by rw [e9]) (congrArg (fun z9 : (Int32 × SV) => (w6 cI cC h a1 a2 a3 a4 a5 a6 a7 a8 z9.2 : va_W)) e9).symm rfl dX6_swap_126
            · rw [if_pos c_84_6] at hg
              refine lv_aload_n hx hb dX6_swap_87 rfl (lv_at hl 0 rfl) ?_
              refine lv_iconst (v := 3) hx hb dX6_swap_88 (by decide) ?_
              refine lv_iconst (v := 3) hx hb dX6_swap_89 (by decide) ?_
              refine lv_aload_n hx hb dX6_swap_90 rfl (lv_at hl 0 rfl) ?_
              refine lv_iload_n hx hb dX6_swap_91 rfl (lv_at hl 2 rfl) ?_
              refine lv_iconst (v := 2) hx hb dX6_swap_92 (by decide) ?_
              obtain ⟨o14, hg⟩ := hg
              refine fRV (As := [.int x2, .int 2]) (rest := [.int 3, .int 3, .ref h]) (st' := [.int (fX6_by n2.2 x2 2), .int 3, .int 3, .ref h]) ⟨hx, hb, hml, hown, hts⟩ (kX6_by l D cI cC cT h a1 a2 a3 a4 a5 a6 a7 a8 n2.2 x2 2 o14) (cwV 2 hts gX6_swap_X6_by rfl rfl rfl (by decide +kernel) ⟨Nat.le_of_ble_eq_true rfl, Nat.le_of_ble_eq_true rfl⟩) hP hK [0, 1, 2, 3, 4, 5, 6, 7, 8] rfl 0 (ci := 7) rfl rfl rfl rfl hl.1 rfl rfl (Nat.le_of_ble_eq_true rfl) ⟨Nat.zero_le _, Nat.zero_le _⟩ dX6_swap_93 ?_
              obtain ⟨n7, en7⟩ : ∃ z9, z9 = (fX6_refuses n2.2 3 3 (fX6_by n2.2 x2 2)) := ⟨_, rfl⟩
              try rw [← en7] at hg
              have k9 := (kX6_refuses l D cI cC cT h a1 a2 a3 a4 a5 a6 a7 a8 n2.2 3 3 (fX6_by n2.2 x2 2))
              rw [← en7] at k9
              refine fUV (As := [.int 3, .int 3, .int (fX6_by n2.2 x2 2)]) (rest := []) (st' := [.int n7.1]) ⟨hx, hb, hml, hown, hts⟩ k9 (cwV 3 hts gX6_swap_X6_refuses rfl rfl rfl (by decide +kernel) ⟨Nat.le_of_ble_eq_true rfl, Nat.le_of_ble_eq_true rfl⟩) hP hK hD hS [0, 1, 2, 3, 4, 5, 6, 7, 8] rfl rfl (by decide) rfl (w6 cI cC h a1 a2 a3 a4 a5 a6 a7 a8 n7.2) rfl rfl 0 (ci := 7) rfl rfl rfl rfl hl.1 rfl rfl (Nat.le_of_ble_eq_true rfl) ⟨Nat.zero_le _, Nat.zero_le _⟩ dX6_swap_96 (fun H locs hP hD hS => ?_)
              have e9 : fX6_swap S x1 x2 = (n7.1, n7.2) := by rw [fX6_swap, if_neg c_6_1, if_neg c_14_2, if_neg c_23_3, ← en2, if_pos c_45_4, if_pos c_62_5, if_pos c_84_6, ← en7]
              exact rUi hx hb hr hlk hQ hP hS (by rw [e9]) (congrArg (fun z9 : (Int32 × SV) => (w6 cI cC h a1 a2 a3 a4 a5 a6 a7 a8 z9.2 : va_W)) e9).symm rfl dX6_swap_99
          · rw [if_neg c_62_5] at hg
            refine lv_aload_n hx hb dX6_swap_65 rfl (lv_at hl 0 rfl) ?_
            refine lv_iconst (v := 3) hx hb dX6_swap_66 (by decide) ?_
            refine lv_iconst (v := 4) hx hb dX6_swap_67 (by decide) ?_
            refine lv_iload_n hx hb dX6_swap_68 rfl (lv_at hl 2 rfl) ?_
            obtain ⟨n8, en8⟩ : ∃ z9, z9 = (fX6_refuses n2.2 3 4 x2) := ⟨_, rfl⟩
            try rw [← en8] at hg
            have k9 := (kX6_refuses l D cI cC cT h a1 a2 a3 a4 a5 a6 a7 a8 n2.2 3 4 x2)
            rw [← en8] at k9
            refine fUV (As := [.int 3, .int 4, .int x2]) (rest := []) (st' := [.int n8.1]) ⟨hx, hb, hml, hown, hts⟩ k9 (cwV 3 hts gX6_swap_X6_refuses rfl rfl rfl (by decide +kernel) ⟨Nat.le_of_ble_eq_true rfl, Nat.le_of_ble_eq_true rfl⟩) hP hK hD hS [0, 1, 2, 3, 4, 5, 6, 7, 8] rfl rfl (by decide) rfl (w6 cI cC h a1 a2 a3 a4 a5 a6 a7 a8 n8.2) rfl rfl 0 (ci := 7) rfl rfl rfl rfl hl.1 rfl rfl (Nat.le_of_ble_eq_true rfl) ⟨Nat.zero_le _, Nat.zero_le _⟩ dX6_swap_69 (fun H locs hP hD hS => ?_)
            have e9 : fX6_swap S x1 x2 = (n8.1, n8.2) := by rw [fX6_swap, if_neg c_6_1, if_neg c_14_2, if_neg c_23_3, ← en2, if_pos c_45_4, if_neg c_62_5, ← en8]
            exact rUi hx hb hr hlk hQ hP hS (by rw [e9]) (congrArg (fun z9 : (Int32 × SV) => (w6 cI cC h a1 a2 a3 a4 a5 a6 a7 a8 z9.2 : va_W)) e9).symm rfl dX6_swap_72
        · rw [if_neg c_45_4] at hg
          refine lv_aload_n hx hb dX6_swap_48 rfl (lv_at hl 0 rfl) ?_
          refine lv_iconst (v := 3) hx hb dX6_swap_49 (by decide) ?_
          refine lv_iconst (v := 4) hx hb dX6_swap_50 (by decide) ?_
          refine lv_iload_n hx hb dX6_swap_51 rfl (lv_at hl 1 rfl) ?_
          obtain ⟨n9, en9⟩ : ∃ z9, z9 = (fX6_refuses n2.2 3 4 x1) := ⟨_, rfl⟩
          try rw [← en9] at hg
          have k9 := (kX6_refuses l D cI cC cT h a1 a2 a3 a4 a5 a6 a7 a8 n2.2 3 4 x1)
          rw [← en9] at k9
          refine fUV (As := [.int 3, .int 4, .int x1]) (rest := []) (st' := [.int n9.1]) ⟨hx, hb, hml, hown, hts⟩ k9 (cwV 3 hts gX6_swap_X6_refuses rfl rfl rfl (by decide +kernel) ⟨Nat.le_of_ble_eq_true rfl, Nat.le_of_ble_eq_true rfl⟩) hP hK hD hS [0, 1, 2, 3, 4, 5, 6, 7, 8] rfl rfl (by decide) rfl (w6 cI cC h a1 a2 a3 a4 a5 a6 a7 a8 n9.2) rfl rfl 0 (ci := 7) rfl rfl rfl rfl hl.1 rfl rfl (Nat.le_of_ble_eq_true rfl) ⟨Nat.zero_le _, Nat.zero_le _⟩ dX6_swap_52 (fun H locs hP hD hS => ?_)
          have e9 : fX6_swap S x1 x2 = (n9.1, n9.2) := by rw [fX6_swap, if_neg c_6_1, if_neg c_14_2, if_neg c_23_3, ← en2, if_neg c_45_4, ← en9]
          exact rUi hx hb hr hlk hQ hP hS (by rw [e9]) (congrArg (fun z9 : (Int32 × SV) => (w6 cI cC h a1 a2 a3 a4 a5 a6 a7 a8 z9.2 : va_W)) e9).symm rfl dX6_swap_55
      · rw [if_pos c_23_3] at hg
        refine lv_iconst (v := 2) hx hb dX6_swap_26 (by decide) ?_
        refine lv_goto (tgt := 31) hx hb dX6_swap_27 (by decide) ?_
        obtain ⟨n10, en10⟩ : ∃ z9, z9 = (fX6_fails S 2) := ⟨_, rfl⟩
        try rw [← en10] at hg
        have k9 := (kX6_fails l D cI cC cT h a1 a2 a3 a4 a5 a6 a7 a8 S 2)
        rw [← en10] at k9
        refine fUV (As := [.int 2]) (rest := []) (st' := [.int n10.1]) ⟨hx, hb, hml, hown, hts⟩ k9 (cwV 1 hts gX6_swap_X6_fails rfl rfl rfl (by decide +kernel) ⟨Nat.le_of_ble_eq_true rfl, Nat.le_of_ble_eq_true rfl⟩) hP hK hD hS [0, 1, 2, 3, 4, 5, 6, 7, 8] rfl rfl (by decide) rfl (w6 cI cC h a1 a2 a3 a4 a5 a6 a7 a8 n10.2) rfl rfl 0 (ci := 7) rfl rfl rfl rfl hl.1 rfl rfl (Nat.le_of_ble_eq_true rfl) ⟨Nat.zero_le _, Nat.zero_le _⟩ dX6_swap_31 (fun H locs hP hD hS => ?_)
        refine lv_if_eq (tgt := 39) hx hb dX6_swap_34 (by decide) (fun c_34 => absurd c_34 (by rw [en10, fails_2]; decide)) (fun c_34 => ?_)
        refine lv_iconst (v := 0) hx hb dX6_swap_37 (by decide) ?_
        have e9 : fX6_swap S x1 x2 = (0, n10.2) := by rw [fX6_swap, if_neg c_6_1, if_neg c_14_2, if_pos c_23_3, ← en10]
        exact rUi hx hb hr hlk hQ hP hS (by rw [e9]) (congrArg (fun z9 : (Int32 × SV) => (w6 cI cC h a1 a2 a3 a4 a5 a6 a7 a8 z9.2 : va_W)) e9).symm rfl dX6_swap_38
    · rw [if_pos c_14_2] at hg
      refine lv_iconst (v := 1) hx hb dX6_swap_17 (by decide) ?_
      refine lv_goto (tgt := 31) hx hb dX6_swap_18 (by decide) ?_
      obtain ⟨n11, en11⟩ : ∃ z9, z9 = (fX6_fails S 1) := ⟨_, rfl⟩
      try rw [← en11] at hg
      have k9 := (kX6_fails l D cI cC cT h a1 a2 a3 a4 a5 a6 a7 a8 S 1)
      rw [← en11] at k9
      refine fUV (As := [.int 1]) (rest := []) (st' := [.int n11.1]) ⟨hx, hb, hml, hown, hts⟩ k9 (cwV 1 hts gX6_swap_X6_fails rfl rfl rfl (by decide +kernel) ⟨Nat.le_of_ble_eq_true rfl, Nat.le_of_ble_eq_true rfl⟩) hP hK hD hS [0, 1, 2, 3, 4, 5, 6, 7, 8] rfl rfl (by decide) rfl (w6 cI cC h a1 a2 a3 a4 a5 a6 a7 a8 n11.2) rfl rfl 0 (ci := 7) rfl rfl rfl rfl hl.1 rfl rfl (Nat.le_of_ble_eq_true rfl) ⟨Nat.zero_le _, Nat.zero_le _⟩ dX6_swap_31 (fun H locs hP hD hS => ?_)
      refine lv_if_eq (tgt := 39) hx hb dX6_swap_34 (by decide) (fun c_34 => absurd c_34 (by rw [en11, fails_1]; decide)) (fun c_34 => ?_)
      refine lv_iconst (v := 0) hx hb dX6_swap_37 (by decide) ?_
      have e9 : fX6_swap S x1 x2 = (0, n11.2) := by rw [fX6_swap, if_neg c_6_1, if_pos c_14_2, ← en11]
      exact rUi hx hb hr hlk hQ hP hS (by rw [e9]) (congrArg (fun z9 : (Int32 × SV) => (w6 cI cC h a1 a2 a3 a4 a5 a6 a7 a8 z9.2 : va_W)) e9).symm rfl dX6_swap_38
def lX6_bestSwap_34 (v : (SV × Int32 × Int32 × Int32 × Int32)) (w : (SV × Int32 × Int32 × Int32 × Int32)) : (SV × Int32 × Int32 × Int32 × Int32) ⊕ ((SV × Int32 × Int32 × Int32 × Int32)) := (if (w.1.1 (1 : Int32).toNatClampNeg) ≤ w.2.2.2.2 then (.inr (w.1, w.2.1, w.2.2.1, w.2.2.2.1, w.2.2.2.2)) else (if (fX6_canSwap w.1 v.2.2.2.2 w.2.2.2.2) = 0 then (.inl (w.1, w.2.1, w.2.2.1, w.2.2.2.1, (w.2.2.2.2 + 1))) else (if (fX6_clashesTried (fX6_swaps w.1 v.2.2.2.2 w.2.2.2.2)) < w.2.1 then (.inl ((fX6_swaps w.1 v.2.2.2.2 w.2.2.2.2), (fX6_clashesTried (fX6_swaps w.1 v.2.2.2.2 w.2.2.2.2)), v.2.2.2.2, w.2.2.2.2, (w.2.2.2.2 + 1))) else (.inl ((fX6_swaps w.1 v.2.2.2.2 w.2.2.2.2), w.2.1, w.2.2.1, w.2.2.2.1, (w.2.2.2.2 + 1))))))
def glX6_bestSwap_34 (v : (SV × Int32 × Int32 × Int32 × Int32)) (w : (SV × Int32 × Int32 × Int32 × Int32)) : Prop := ((vp_in 1 114) ∧ (if (w.1.1 (1 : Int32).toNatClampNeg) ≤ w.2.2.2.2 then True else ((gX6_canSwap w.1 v.2.2.2.2 w.2.2.2.2) ∧ (if (fX6_canSwap w.1 v.2.2.2.2 w.2.2.2.2) = 0 then True else ((gX6_swaps w.1 v.2.2.2.2 w.2.2.2.2) ∧ (gX6_clashesTried (fX6_swaps w.1 v.2.2.2.2 w.2.2.2.2)) ∧ True)))))
def lX6_bestSwap_17  (v : (SV × Int32 × Int32 × Int32 × Int32)) : (SV × Int32 × Int32 × Int32 × Int32) ⊕ ((SV × Int32 × Int32 × Int32 × Int32)) := (if (v.1.1 (1 : Int32).toNatClampNeg) ≤ v.2.2.2.2 then (.inr (v.1, v.2.1, v.2.2.1, v.2.2.2.1, v.2.2.2.2)) else (.inl ((itv (v.1, v.2.1, v.2.2.1, v.2.2.2.1, (v.2.2.2.2 + 1)) (lX6_bestSwap_34 v) ((fun w : (SV × Int32 × Int32 × Int32 × Int32) => ((w.1.1 (1 : Int32).toNatClampNeg).toInt - w.2.2.2.2.toInt).toNat) (v.1, v.2.1, v.2.2.1, v.2.2.2.1, (v.2.2.2.2 + 1)) + 1) (v.1, v.2.1, v.2.2.1, v.2.2.2.1, (v.2.2.2.2 + 1))).1, (itv (v.1, v.2.1, v.2.2.1, v.2.2.2.1, (v.2.2.2.2 + 1)) (lX6_bestSwap_34 v) ((fun w : (SV × Int32 × Int32 × Int32 × Int32) => ((w.1.1 (1 : Int32).toNatClampNeg).toInt - w.2.2.2.2.toInt).toNat) (v.1, v.2.1, v.2.2.1, v.2.2.2.1, (v.2.2.2.2 + 1)) + 1) (v.1, v.2.1, v.2.2.1, v.2.2.2.1, (v.2.2.2.2 + 1))).2.1, (itv (v.1, v.2.1, v.2.2.1, v.2.2.2.1, (v.2.2.2.2 + 1)) (lX6_bestSwap_34 v) ((fun w : (SV × Int32 × Int32 × Int32 × Int32) => ((w.1.1 (1 : Int32).toNatClampNeg).toInt - w.2.2.2.2.toInt).toNat) (v.1, v.2.1, v.2.2.1, v.2.2.2.1, (v.2.2.2.2 + 1)) + 1) (v.1, v.2.1, v.2.2.1, v.2.2.2.1, (v.2.2.2.2 + 1))).2.2.1, (itv (v.1, v.2.1, v.2.2.1, v.2.2.2.1, (v.2.2.2.2 + 1)) (lX6_bestSwap_34 v) ((fun w : (SV × Int32 × Int32 × Int32 × Int32) => ((w.1.1 (1 : Int32).toNatClampNeg).toInt - w.2.2.2.2.toInt).toNat) (v.1, v.2.1, v.2.2.1, v.2.2.2.1, (v.2.2.2.2 + 1)) + 1) (v.1, v.2.1, v.2.2.1, v.2.2.2.1, (v.2.2.2.2 + 1))).2.2.2.1, (v.2.2.2.2 + 1))))
def glX6_bestSwap_17  (v : (SV × Int32 × Int32 × Int32 × Int32)) : Prop := ((vp_in 1 114) ∧ (if (v.1.1 (1 : Int32).toNatClampNeg) ≤ v.2.2.2.2 then True else ((∃ r9 : (SV × Int32 × Int32 × Int32 × Int32), lrun (lX6_bestSwap_34 v) (glX6_bestSwap_34 v) ((fun w : (SV × Int32 × Int32 × Int32 × Int32) => ((w.1.1 (1 : Int32).toNatClampNeg).toInt - w.2.2.2.2.toInt).toNat) (v.1, v.2.1, v.2.2.1, v.2.2.2.1, (v.2.2.2.2 + 1)) + 1) (v.1, v.2.1, v.2.2.1, v.2.2.2.1, (v.2.2.2.2 + 1)) r9) ∧ True)))
def fX6_bestSwap (S : SV) (x1 : Int32) : (Int32 × SV) := (if 0 ≤ (itv ((fX6_laysSeats S), (fX6_clashesTried (fX6_laysSeats S)), (-1), (-1), 0) lX6_bestSwap_17 ((fun v : (SV × Int32 × Int32 × Int32 × Int32) => ((v.1.1 (1 : Int32).toNatClampNeg).toInt - v.2.2.2.2.toInt).toNat) ((fX6_laysSeats S), (fX6_clashesTried (fX6_laysSeats S)), (-1), (-1), 0) + 1) ((fX6_laysSeats S), (fX6_clashesTried (fX6_laysSeats S)), (-1), (-1), 0)).2.2.1 then (if x1 = 0 then ((itv ((fX6_laysSeats S), (fX6_clashesTried (fX6_laysSeats S)), (-1), (-1), 0) lX6_bestSwap_17 ((fun v : (SV × Int32 × Int32 × Int32 × Int32) => ((v.1.1 (1 : Int32).toNatClampNeg).toInt - v.2.2.2.2.toInt).toNat) ((fX6_laysSeats S), (fX6_clashesTried (fX6_laysSeats S)), (-1), (-1), 0) + 1) ((fX6_laysSeats S), (fX6_clashesTried (fX6_laysSeats S)), (-1), (-1), 0)).2.2.1, (fX6_fails (itv ((fX6_laysSeats S), (fX6_clashesTried (fX6_laysSeats S)), (-1), (-1), 0) lX6_bestSwap_17 ((fun v : (SV × Int32 × Int32 × Int32 × Int32) => ((v.1.1 (1 : Int32).toNatClampNeg).toInt - v.2.2.2.2.toInt).toNat) ((fX6_laysSeats S), (fX6_clashesTried (fX6_laysSeats S)), (-1), (-1), 0) + 1) ((fX6_laysSeats S), (fX6_clashesTried (fX6_laysSeats S)), (-1), (-1), 0)).1 0).2) else ((itv ((fX6_laysSeats S), (fX6_clashesTried (fX6_laysSeats S)), (-1), (-1), 0) lX6_bestSwap_17 ((fun v : (SV × Int32 × Int32 × Int32 × Int32) => ((v.1.1 (1 : Int32).toNatClampNeg).toInt - v.2.2.2.2.toInt).toNat) ((fX6_laysSeats S), (fX6_clashesTried (fX6_laysSeats S)), (-1), (-1), 0) + 1) ((fX6_laysSeats S), (fX6_clashesTried (fX6_laysSeats S)), (-1), (-1), 0)).2.2.2.1, (fX6_fails (itv ((fX6_laysSeats S), (fX6_clashesTried (fX6_laysSeats S)), (-1), (-1), 0) lX6_bestSwap_17 ((fun v : (SV × Int32 × Int32 × Int32 × Int32) => ((v.1.1 (1 : Int32).toNatClampNeg).toInt - v.2.2.2.2.toInt).toNat) ((fX6_laysSeats S), (fX6_clashesTried (fX6_laysSeats S)), (-1), (-1), 0) + 1) ((fX6_laysSeats S), (fX6_clashesTried (fX6_laysSeats S)), (-1), (-1), 0)).1 0).2)) else (0, (fX6_fails (itv ((fX6_laysSeats S), (fX6_clashesTried (fX6_laysSeats S)), (-1), (-1), 0) lX6_bestSwap_17 ((fun v : (SV × Int32 × Int32 × Int32 × Int32) => ((v.1.1 (1 : Int32).toNatClampNeg).toInt - v.2.2.2.2.toInt).toNat) ((fX6_laysSeats S), (fX6_clashesTried (fX6_laysSeats S)), (-1), (-1), 0) + 1) ((fX6_laysSeats S), (fX6_clashesTried (fX6_laysSeats S)), (-1), (-1), 0)).1 1).2))
def gX6_bestSwap (S : SV) (x1 : Int32) : Prop := ((gX6_laysSeats S) ∧ (gX6_clashesTried (fX6_laysSeats S)) ∧ (∃ r9 : (SV × Int32 × Int32 × Int32 × Int32), lrun lX6_bestSwap_17 glX6_bestSwap_17 ((fun v : (SV × Int32 × Int32 × Int32 × Int32) => ((v.1.1 (1 : Int32).toNatClampNeg).toInt - v.2.2.2.2.toInt).toNat) ((fX6_laysSeats S), (fX6_clashesTried (fX6_laysSeats S)), (-1), (-1), 0) + 1) ((fX6_laysSeats S), (fX6_clashesTried (fX6_laysSeats S)), (-1), (-1), 0) r9) ∧ True)
abbrev rmX6_bestSwap : Room := { frames := 4, cells := 0, slots := 0, locals := 91 }
set_option maxHeartbeats 4000000 in
set_option maxRecDepth 100000 in
theorem kX6_bestSwap (l : Launch) (D : va_G) (cI cC cT : ClassId) (h a1 a2 a3 a4 a5 a6 a7 a8 : Nat) (S : SV) (x1 : Int32) (hg : gX6_bestSwap S x1) : mU l D (TY cI cC cT) yX6_bestSwap wsX6_bestSwap rmX6_bestSwap [.ref h, .int x1] (w6 cI cC h a1 a2 a3 a4 a5 a6 a7 a8 S) (some (.int (fX6_bestSwap S x1).1)) (w6 cI cC h a1 a2 a3 a4 a5 a6 a7 a8 (fX6_bestSwap S x1).2) := by
  refine mU.ofW (cc := cX6_bestSwap) (maxL := 8) (ret := (some .int)) (by decide) rfl (Nat.le_of_ble_eq_true rfl) ?_
  intro p e s m args below meth c Q ls A hx hb hml hr hlk hts hown hP hK hD hS hl hQ
  have hown : s.vm.findClass RX6 = some m.cls := hown
  have hP : va_P D vwCl (w6 cI cC h a1 a2 a3 a4 a5 a6 a7 a8 S) s.heap := hP
  have hD : va_D A (w6 cI cC h a1 a2 a3 a4 a5 a6 a7 a8 S) := hD
  have hl : lv_has ls 8 [(0, .ref h), (1, .int x1)] := hl
  have q0 := hts (Cond.fieldLink RX6 7 "TavernStoolsModel" "g" "[I") (by decide +kernel)
  have q1 : ∀ w ∈ u_ws RX6 TX6 20, w ∈ wsX6_bestSwap := by decide +kernel
  unfold gX6_bestSwap at hg
  generalize hHe : s.heap = H at hP ⊢
  have hS : va_S A s.heap H [] := hHe ▸ hS
  generalize hLe : ([] : List Loc) = locs at hS ⊢
  refine lv_aload_n hx hb dX6_bestSwap_0 rfl (lv_at hl 0 rfl) ?_
  obtain ⟨n1, en1⟩ : ∃ z9, z9 = (fX6_laysSeats S) := ⟨_, rfl⟩
  try rw [← en1] at hg
  obtain ⟨o1, hg⟩ := hg
  have k9 := (kX6_laysSeats l D cI cC cT h a1 a2 a3 a4 a5 a6 a7 a8 S o1)
  rw [← en1] at k9
  refine fUV (As := []) (rest := []) (st' := []) ⟨hx, hb, hml, hown, hts⟩ k9 (cwV 0 hts gX6_bestSwap_X6_laysSeats rfl rfl rfl (by decide +kernel) ⟨Nat.le_of_ble_eq_true rfl, Nat.le_of_ble_eq_true rfl⟩) hP hK hD hS [0, 1, 2, 3, 4, 5, 6, 7, 8] rfl rfl (by decide) rfl (w6 cI cC h a1 a2 a3 a4 a5 a6 a7 a8 n1) rfl rfl 0 (ci := 7) rfl rfl rfl rfl hl.1 rfl rfl (Nat.le_of_ble_eq_true rfl) ⟨Nat.zero_le _, Nat.zero_le _⟩ dX6_bestSwap_1 (fun H locs hP hD hS => ?_)
  refine lv_aload_n hx hb dX6_bestSwap_4 rfl (lv_at hl 0 rfl) ?_
  obtain ⟨o2, hg⟩ := hg
  refine fRV (As := []) (rest := []) (st' := [.int (fX6_clashesTried n1)]) ⟨hx, hb, hml, hown, hts⟩ (kX6_clashesTried l D cI cC cT h a1 a2 a3 a4 a5 a6 a7 a8 n1 o2) (cwV 0 hts gX6_bestSwap_X6_clashesTried rfl rfl rfl (by decide +kernel) ⟨Nat.le_of_ble_eq_true rfl, Nat.le_of_ble_eq_true rfl⟩) hP hK [0, 1, 2, 3, 4, 5, 6, 7, 8] rfl 0 (ci := 7) rfl rfl rfl rfl hl.1 rfl rfl (Nat.le_of_ble_eq_true rfl) ⟨Nat.zero_le _, Nat.zero_le _⟩ dX6_bestSwap_5 ?_
  refine lv_istore_n (lv' := [(2, .int (fX6_clashesTried n1)), (0, .ref h), (1, .int x1)]) hx hb dX6_bestSwap_8 rfl hl (by decide) rfl (fun ls hl => ?_)
  refine lv_iconst (v := (-1)) hx hb dX6_bestSwap_9 (by decide) ?_
  refine lv_istore_n (lv' := [(3, .int (-1)), (2, .int (fX6_clashesTried n1)), (0, .ref h), (1, .int x1)]) hx hb dX6_bestSwap_10 rfl hl (by decide) rfl (fun ls hl => ?_)
  refine lv_iconst (v := (-1)) hx hb dX6_bestSwap_11 (by decide) ?_
  refine lv_istore (lv' := [(4, .int (-1)), (3, .int (-1)), (2, .int (fX6_clashesTried n1)), (0, .ref h), (1, .int x1)]) hx hb dX6_bestSwap_12 hl (by decide) rfl (fun ls hl => ?_)
  refine lv_iconst (v := 0) hx hb dX6_bestSwap_14 (by decide) ?_
  refine lv_istore (lv' := [(5, .int 0), (4, .int (-1)), (3, .int (-1)), (2, .int (fX6_clashesTried n1)), (0, .ref h), (1, .int x1)]) hx hb dX6_bestSwap_15 hl (by decide) rfl (fun ls hl => ?_)
  obtain ⟨n4, en4⟩ : ∃ z9, z9 = (itv (n1, (fX6_clashesTried n1), (-1), (-1), 0) lX6_bestSwap_17 ((fun v : (SV × Int32 × Int32 × Int32 × Int32) => ((v.1.1 (1 : Int32).toNatClampNeg).toInt - v.2.2.2.2.toInt).toNat) (n1, (fX6_clashesTried n1), (-1), (-1), 0) + 1) (n1, (fX6_clashesTried n1), (-1), (-1), 0)) := ⟨_, rfl⟩
  try rw [← en4] at hg
  obtain ⟨o9, hg⟩ := hg
  have L9 := lrun_val (d := (n1, (fX6_clashesTried n1), (-1), (-1), 0)) o9
  rw [← en4] at L9
  refine loopWs lX6_bestSwap_17 glX6_bestSwap_17 (fun v : (SV × Int32 × Int32 × Int32 × Int32) => ∀ (H : Heap) (locs : List Loc) ls, va_P D vwCl (w6 cI cC h a1 a2 a3 a4 a5 a6 a7 a8 v.1) H → va_D A (w6 cI cC h a1 a2 a3 a4 a5 a6 a7 a8 v.1) → va_S A s.heap H locs → lv_has ls 8 [(0, .ref h), (1, .int x1), (2, .int v.2.1), (3, .int v.2.2.1), (4, .int v.2.2.2.1), (5, .int v.2.2.2.2)] → W p l e rmX6_bestSwap s m args below meth c H locs 0 0 Q (F0 m 17 ls [])) (fun r9 : (SV × Int32 × Int32 × Int32 × Int32) => ∀ (H : Heap) (locs : List Loc) ls, va_P D vwCl (w6 cI cC h a1 a2 a3 a4 a5 a6 a7 a8 r9.1) H → va_D A (w6 cI cC h a1 a2 a3 a4 a5 a6 a7 a8 r9.1) → va_S A s.heap H locs → lv_has ls 8 [(0, .ref h), (1, .int x1), (2, .int r9.2.1), (3, .int r9.2.2.1), (4, .int r9.2.2.2.1), (5, .int r9.2.2.2.2)] → W p l e rmX6_bestSwap s m args below meth c H locs 0 0 Q (F0 m 104 ls [])) ?_ _ (n1, (fX6_clashesTried n1), (-1), (-1), 0) n4 L9 ?_ _ _ ls hP hD hS (lv_sub hl [4, 5, 3, 2, 1, 0] rfl)
  · intro v hg kb kx H locs ls hP hD hS hl
    unfold glX6_bestSwap_17 at hg
    refine lv_iload hx hb dX6_bestSwap_17 (lv_at hl 5 rfl) ?_
    refine lv_aload_n hx hb dX6_bestSwap_19 rfl (lv_at hl 0 rfl) ?_
    refine va_get (D := D) (ci := 7) (v := .ref a1) (C := RX6) (T := TX6) (N := 20) hx hb hts q1 hown hK hP 0 rfl rfl 0 (by decide) q0 (fun _ h9 => h9) rfl dX6_bestSwap_20 ?_
    refine lv_iconst (v := 1) hx hb dX6_bestSwap_23 (by decide) ?_
    obtain ⟨o3, hg⟩ := hg
    refine va_iald hx hb hK hP 1 0 rfl rfl o3 dX6_bestSwap_24 ?_
    refine lv_icmp_ge (tgt := 104) hx hb dX6_bestSwap_25 (by decide) (fun c_25_1 => ?_) (fun c_25_1 => ?_)
    · rw [if_pos c_25_1] at hg
      exact kx (v.1, v.2.1, v.2.2.1, v.2.2.2.1, v.2.2.2.2) (by rw [lX6_bestSwap_17, if_pos c_25_1]) H locs ls hP hD hS (lv_sub hl [0, 1, 2, 3, 4, 5] rfl)
    · rw [if_neg c_25_1] at hg
      refine lv_iload hx hb dX6_bestSwap_28 (lv_at hl 5 rfl) ?_
      refine lv_iconst (v := 1) hx hb dX6_bestSwap_30 (by decide) ?_
      refine lv_iadd hx hb dX6_bestSwap_31 ?_
      refine lv_istore (lv' := [(6, .int (v.2.2.2.2 + 1)), (0, .ref h), (1, .int x1), (2, .int v.2.1), (3, .int v.2.2.1), (4, .int v.2.2.2.1), (5, .int v.2.2.2.2)]) hx hb dX6_bestSwap_32 hl (by decide) rfl (fun ls hl => ?_)
      obtain ⟨n3, en3⟩ : ∃ z9, z9 = (itv (v.1, v.2.1, v.2.2.1, v.2.2.2.1, (v.2.2.2.2 + 1)) (lX6_bestSwap_34 v) ((fun w : (SV × Int32 × Int32 × Int32 × Int32) => ((w.1.1 (1 : Int32).toNatClampNeg).toInt - w.2.2.2.2.toInt).toNat) (v.1, v.2.1, v.2.2.1, v.2.2.2.1, (v.2.2.2.2 + 1)) + 1) (v.1, v.2.1, v.2.2.1, v.2.2.2.1, (v.2.2.2.2 + 1))) := ⟨_, rfl⟩
      try rw [← en3] at hg
      obtain ⟨o8, hg⟩ := hg
      have L9 := lrun_val (d := (v.1, v.2.1, v.2.2.1, v.2.2.2.1, (v.2.2.2.2 + 1))) o8
      rw [← en3] at L9
      refine loopWs (lX6_bestSwap_34 v) (glX6_bestSwap_34 v) (fun w : (SV × Int32 × Int32 × Int32 × Int32) => ∀ (H : Heap) (locs : List Loc) ls, va_P D vwCl (w6 cI cC h a1 a2 a3 a4 a5 a6 a7 a8 w.1) H → va_D A (w6 cI cC h a1 a2 a3 a4 a5 a6 a7 a8 w.1) → va_S A s.heap H locs → lv_has ls 8 [(0, .ref h), (1, .int x1), (2, .int w.2.1), (3, .int w.2.2.1), (4, .int w.2.2.2.1), (5, .int v.2.2.2.2), (6, .int w.2.2.2.2)] → W p l e rmX6_bestSwap s m args below meth c H locs 0 0 Q (F0 m 34 ls [])) (fun r9 : (SV × Int32 × Int32 × Int32 × Int32) => ∀ (H : Heap) (locs : List Loc) ls, va_P D vwCl (w6 cI cC h a1 a2 a3 a4 a5 a6 a7 a8 r9.1) H → va_D A (w6 cI cC h a1 a2 a3 a4 a5 a6 a7 a8 r9.1) → va_S A s.heap H locs → lv_has ls 8 [(0, .ref h), (1, .int x1), (2, .int r9.2.1), (3, .int r9.2.2.1), (4, .int r9.2.2.2.1), (5, .int v.2.2.2.2), (6, .int r9.2.2.2.2)] → W p l e rmX6_bestSwap s m args below meth c H locs 0 0 Q (F0 m 98 ls [])) ?_ _ (v.1, v.2.1, v.2.2.1, v.2.2.2.1, (v.2.2.2.2 + 1)) n3 L9 ?_ _ _ ls hP hD hS (lv_sub hl [1, 2, 3, 4, 5, 6, 0] rfl)
      · intro w hg kb kx H locs ls hP hD hS hl
        unfold glX6_bestSwap_34 at hg
        refine lv_iload hx hb dX6_bestSwap_34 (lv_at hl 6 rfl) ?_
        refine lv_aload_n hx hb dX6_bestSwap_36 rfl (lv_at hl 0 rfl) ?_
        refine va_get (D := D) (ci := 7) (v := .ref a1) (C := RX6) (T := TX6) (N := 20) hx hb hts q1 hown hK hP 0 rfl rfl 0 (by decide) q0 (fun _ h9 => h9) rfl dX6_bestSwap_37 ?_
        refine lv_iconst (v := 1) hx hb dX6_bestSwap_40 (by decide) ?_
        obtain ⟨o4, hg⟩ := hg
        refine va_iald hx hb hK hP 1 0 rfl rfl o4 dX6_bestSwap_41 ?_
        refine lv_icmp_ge (tgt := 98) hx hb dX6_bestSwap_42 (by decide) (fun c_42_2 => ?_) (fun c_42_2 => ?_)
        · rw [if_pos c_42_2] at hg
          exact kx (w.1, w.2.1, w.2.2.1, w.2.2.2.1, w.2.2.2.2) (by rw [lX6_bestSwap_34, if_pos c_42_2]) H locs ls hP hD hS (lv_sub hl [0, 1, 2, 3, 4, 5, 6] rfl)
        · rw [if_neg c_42_2] at hg
          refine lv_aload_n hx hb dX6_bestSwap_45 rfl (lv_at hl 0 rfl) ?_
          refine lv_iload hx hb dX6_bestSwap_46 (lv_at hl 5 rfl) ?_
          refine lv_iload hx hb dX6_bestSwap_48 (lv_at hl 6 rfl) ?_
          obtain ⟨o5, hg⟩ := hg
          refine fRV (As := [.int v.2.2.2.2, .int w.2.2.2.2]) (rest := []) (st' := [.int (fX6_canSwap w.1 v.2.2.2.2 w.2.2.2.2)]) ⟨hx, hb, hml, hown, hts⟩ (kX6_canSwap l D cI cC cT h a1 a2 a3 a4 a5 a6 a7 a8 w.1 v.2.2.2.2 w.2.2.2.2 o5) (cwV 2 hts gX6_bestSwap_X6_canSwap rfl rfl rfl (by decide +kernel) ⟨Nat.le_of_ble_eq_true rfl, Nat.le_of_ble_eq_true rfl⟩) hP hK [0, 1, 2, 3, 4, 5, 6, 7, 8] rfl 0 (ci := 7) rfl rfl rfl rfl hl.1 rfl rfl (Nat.le_of_ble_eq_true rfl) ⟨Nat.zero_le _, Nat.zero_le _⟩ dX6_bestSwap_50 ?_
          refine lv_if_ne (tgt := 59) hx hb dX6_bestSwap_53 (by decide) (fun c_53_3 => ?_) (fun c_53_3 => ?_)
          · rw [if_neg c_53_3] at hg
            refine lv_aload_n hx hb dX6_bestSwap_59 rfl (lv_at hl 0 rfl) ?_
            refine lv_iload hx hb dX6_bestSwap_60 (lv_at hl 5 rfl) ?_
            refine lv_iload hx hb dX6_bestSwap_62 (lv_at hl 6 rfl) ?_
            obtain ⟨n2, en2⟩ : ∃ z9, z9 = (fX6_swaps w.1 v.2.2.2.2 w.2.2.2.2) := ⟨_, rfl⟩
            try rw [← en2] at hg
            obtain ⟨o6, hg⟩ := hg
            have k9 := (kX6_swaps l D cI cC cT h a1 a2 a3 a4 a5 a6 a7 a8 w.1 v.2.2.2.2 w.2.2.2.2 o6)
            rw [← en2] at k9
            refine fUV (As := [.int v.2.2.2.2, .int w.2.2.2.2]) (rest := []) (st' := []) ⟨hx, hb, hml, hown, hts⟩ k9 (cwV 2 hts gX6_bestSwap_X6_swaps rfl rfl rfl (by decide +kernel) ⟨Nat.le_of_ble_eq_true rfl, Nat.le_of_ble_eq_true rfl⟩) hP hK hD hS [0, 1, 2, 3, 4, 5, 6, 7, 8] rfl rfl (by decide) rfl (w6 cI cC h a1 a2 a3 a4 a5 a6 a7 a8 n2) rfl rfl 0 (ci := 7) rfl rfl rfl rfl hl.1 rfl rfl (Nat.le_of_ble_eq_true rfl) ⟨Nat.zero_le _, Nat.zero_le _⟩ dX6_bestSwap_64 (fun H locs hP hD hS => ?_)
            refine lv_aload_n hx hb dX6_bestSwap_67 rfl (lv_at hl 0 rfl) ?_
            obtain ⟨o7, hg⟩ := hg
            refine fRV (As := []) (rest := []) (st' := [.int (fX6_clashesTried n2)]) ⟨hx, hb, hml, hown, hts⟩ (kX6_clashesTried l D cI cC cT h a1 a2 a3 a4 a5 a6 a7 a8 n2 o7) (cwV 0 hts gX6_bestSwap_X6_clashesTried rfl rfl rfl (by decide +kernel) ⟨Nat.le_of_ble_eq_true rfl, Nat.le_of_ble_eq_true rfl⟩) hP hK [0, 1, 2, 3, 4, 5, 6, 7, 8] rfl 0 (ci := 7) rfl rfl rfl rfl hl.1 rfl rfl (Nat.le_of_ble_eq_true rfl) ⟨Nat.zero_le _, Nat.zero_le _⟩ dX6_bestSwap_68 ?_
            refine lv_istore (lv' := [(7, .int (fX6_clashesTried n2)), (0, .ref h), (1, .int x1), (2, .int w.2.1), (3, .int w.2.2.1), (4, .int w.2.2.2.1), (5, .int v.2.2.2.2), (6, .int w.2.2.2.2)]) hx hb dX6_bestSwap_71 hl (by decide) rfl (fun ls hl => ?_)
            refine lv_iload hx hb dX6_bestSwap_73 (lv_at hl 0 rfl) ?_
            refine lv_iload_n hx hb dX6_bestSwap_75 rfl (lv_at hl 3 rfl) ?_
            refine lv_icmp_lt (tgt := 82) hx hb dX6_bestSwap_76 (by decide) (fun c_76_4 => ?_) (fun c_76_4 => ?_)
            · refine lv_iload hx hb dX6_bestSwap_82 (lv_at hl 0 rfl) ?_
              refine lv_istore_n (lv' := [(2, .int (fX6_clashesTried n2)), (7, .int (fX6_clashesTried n2)), (0, .ref h), (1, .int x1), (3, .int w.2.2.1), (4, .int w.2.2.2.1), (5, .int v.2.2.2.2), (6, .int w.2.2.2.2)]) hx hb dX6_bestSwap_84 rfl hl (by decide) rfl (fun ls hl => ?_)
              refine lv_iload hx hb dX6_bestSwap_85 (lv_at hl 6 rfl) ?_
              refine lv_istore_n (lv' := [(3, .int v.2.2.2.2), (2, .int (fX6_clashesTried n2)), (7, .int (fX6_clashesTried n2)), (0, .ref h), (1, .int x1), (4, .int w.2.2.2.1), (5, .int v.2.2.2.2), (6, .int w.2.2.2.2)]) hx hb dX6_bestSwap_87 rfl hl (by decide) rfl (fun ls hl => ?_)
              refine lv_iload hx hb dX6_bestSwap_88 (lv_at hl 7 rfl) ?_
              refine lv_istore (lv' := [(4, .int w.2.2.2.2), (3, .int v.2.2.2.2), (2, .int (fX6_clashesTried n2)), (7, .int (fX6_clashesTried n2)), (0, .ref h), (1, .int x1), (5, .int v.2.2.2.2), (6, .int w.2.2.2.2)]) hx hb dX6_bestSwap_90 hl (by decide) rfl (fun ls hl => ?_)
              refine lv_iinc (v := (w.2.2.2.2 + 1)) (lv' := [(6, .int (w.2.2.2.2 + 1)), (4, .int w.2.2.2.2), (3, .int v.2.2.2.2), (2, .int (fX6_clashesTried n2)), (7, .int (fX6_clashesTried n2)), (0, .ref h), (1, .int x1), (5, .int v.2.2.2.2)]) hx hb dX6_bestSwap_92 hl (k := 7) rfl rfl (by decide) rfl (fun ls hl => ?_)
              refine lv_goto (tgt := 34) hx hb dX6_bestSwap_95 (by decide) ?_
              exact kb (n2, (fX6_clashesTried n2), v.2.2.2.2, w.2.2.2.2, (w.2.2.2.2 + 1)) (by rw [lX6_bestSwap_34, if_neg c_42_2, if_neg c_53_3, ← en2, if_pos c_76_4]) H locs ls hP hD hS (lv_sub hl [5, 6, 3, 2, 1, 7, 0] rfl)
            · refine lv_goto (tgt := 92) hx hb dX6_bestSwap_79 (by decide) ?_
              refine lv_iinc (v := (w.2.2.2.2 + 1)) (lv' := [(6, .int (w.2.2.2.2 + 1)), (7, .int (fX6_clashesTried n2)), (0, .ref h), (1, .int x1), (2, .int w.2.1), (3, .int w.2.2.1), (4, .int w.2.2.2.1), (5, .int v.2.2.2.2)]) hx hb dX6_bestSwap_92 hl (k := 7) rfl rfl (by decide) rfl (fun ls hl => ?_)
              refine lv_goto (tgt := 34) hx hb dX6_bestSwap_95 (by decide) ?_
              exact kb (n2, w.2.1, w.2.2.1, w.2.2.2.1, (w.2.2.2.2 + 1)) (by rw [lX6_bestSwap_34, if_neg c_42_2, if_neg c_53_3, ← en2, if_neg c_76_4]) H locs ls hP hD hS (lv_sub hl [2, 3, 4, 5, 6, 7, 0] rfl)
          · rw [if_pos c_53_3] at hg
            refine lv_goto (tgt := 92) hx hb dX6_bestSwap_56 (by decide) ?_
            refine lv_iinc (v := (w.2.2.2.2 + 1)) (lv' := [(6, .int (w.2.2.2.2 + 1)), (0, .ref h), (1, .int x1), (2, .int w.2.1), (3, .int w.2.2.1), (4, .int w.2.2.2.1), (5, .int v.2.2.2.2)]) hx hb dX6_bestSwap_92 hl (k := 6) rfl rfl (by decide) rfl (fun ls hl => ?_)
            refine lv_goto (tgt := 34) hx hb dX6_bestSwap_95 (by decide) ?_
            exact kb (w.1, w.2.1, w.2.2.1, w.2.2.2.1, (w.2.2.2.2 + 1)) (by rw [lX6_bestSwap_34, if_neg c_42_2, if_pos c_53_3]) H locs ls hP hD hS (lv_sub hl [1, 2, 3, 4, 5, 6, 0] rfl)
      · intro H locs ls hP hD hS hl
        refine lv_iinc (v := (v.2.2.2.2 + 1)) (lv' := [(5, .int (v.2.2.2.2 + 1)), (0, .ref h), (1, .int x1), (2, .int n3.2.1), (3, .int n3.2.2.1), (4, .int n3.2.2.2.1), (6, .int n3.2.2.2.2)]) hx hb dX6_bestSwap_98 hl (k := 5) rfl rfl (by decide) rfl (fun ls hl => ?_)
        refine lv_goto (tgt := 17) hx hb dX6_bestSwap_101 (by decide) ?_
        exact kb (n3.1, n3.2.1, n3.2.2.1, n3.2.2.2.1, (v.2.2.2.2 + 1)) (by rw [lX6_bestSwap_17, if_neg c_25_1, ← en3]) H locs ls hP hD hS (lv_sub hl [1, 2, 3, 4, 5, 0] rfl)
  · intro H locs ls hP hD hS hl
    refine lv_aload_n hx hb dX6_bestSwap_104 rfl (lv_at hl 0 rfl) ?_
    refine lv_iload_n hx hb dX6_bestSwap_105 rfl (lv_at hl 3 rfl) ?_
    refine lv_if_ge (tgt := 113) hx hb dX6_bestSwap_106 (by decide) (fun c_106_5 => ?_) (fun c_106_5 => ?_)
    · refine lv_iconst (v := 0) hx hb dX6_bestSwap_113 (by decide) ?_
      obtain ⟨n5, en5⟩ : ∃ z9, z9 = (fX6_fails n4.1 0) := ⟨_, rfl⟩
      try rw [← en5] at hg
      have k9 := (kX6_fails l D cI cC cT h a1 a2 a3 a4 a5 a6 a7 a8 n4.1 0)
      rw [← en5] at k9
      refine fUV (As := [.int 0]) (rest := []) (st' := [.int n5.1]) ⟨hx, hb, hml, hown, hts⟩ k9 (cwV 1 hts gX6_bestSwap_X6_fails rfl rfl rfl (by decide +kernel) ⟨Nat.le_of_ble_eq_true rfl, Nat.le_of_ble_eq_true rfl⟩) hP hK hD hS [0, 1, 2, 3, 4, 5, 6, 7, 8] rfl rfl (by decide) rfl (w6 cI cC h a1 a2 a3 a4 a5 a6 a7 a8 n5.2) rfl rfl 0 (ci := 7) rfl rfl rfl rfl hl.1 rfl rfl (Nat.le_of_ble_eq_true rfl) ⟨Nat.zero_le _, Nat.zero_le _⟩ dX6_bestSwap_114 (fun H locs hP hD hS => ?_)
      refine lv_if_eq (tgt := 124) hx hb dX6_bestSwap_117 (by decide) (fun c_117 => ?_) (fun c_117 => absurd (by rw [en5]; exact fails_0 _) c_117)
      refine lv_iload_n hx hb dX6_bestSwap_124 rfl (lv_at hl 1 rfl) ?_
      refine lv_if_eq (tgt := 133) hx hb dX6_bestSwap_125 (by decide) (fun c_125_6 => ?_) (fun c_125_6 => ?_)
      · refine lv_iload_n hx hb dX6_bestSwap_133 rfl (lv_at hl 3 rfl) ?_
        have e9 : fX6_bestSwap S x1 = (n4.2.2.1, n5.2) := by rw [fX6_bestSwap, ← en1, ← en4, if_pos c_106_5, ← en5, if_pos c_125_6]
        exact rUi hx hb hr hlk hQ hP hS (by rw [e9]) (congrArg (fun z9 : (Int32 × SV) => (w6 cI cC h a1 a2 a3 a4 a5 a6 a7 a8 z9.2 : va_W)) e9).symm rfl dX6_bestSwap_134
      · refine lv_iload hx hb dX6_bestSwap_128 (lv_at hl 4 rfl) ?_
        refine lv_goto (tgt := 134) hx hb dX6_bestSwap_130 (by decide) ?_
        have e9 : fX6_bestSwap S x1 = (n4.2.2.2.1, n5.2) := by rw [fX6_bestSwap, ← en1, ← en4, if_pos c_106_5, ← en5, if_neg c_125_6]
        exact rUi hx hb hr hlk hQ hP hS (by rw [e9]) (congrArg (fun z9 : (Int32 × SV) => (w6 cI cC h a1 a2 a3 a4 a5 a6 a7 a8 z9.2 : va_W)) e9).symm rfl dX6_bestSwap_134
    · refine lv_iconst (v := 1) hx hb dX6_bestSwap_109 (by decide) ?_
      refine lv_goto (tgt := 114) hx hb dX6_bestSwap_110 (by decide) ?_
      obtain ⟨n6, en6⟩ : ∃ z9, z9 = (fX6_fails n4.1 1) := ⟨_, rfl⟩
      try rw [← en6] at hg
      have k9 := (kX6_fails l D cI cC cT h a1 a2 a3 a4 a5 a6 a7 a8 n4.1 1)
      rw [← en6] at k9
      refine fUV (As := [.int 1]) (rest := []) (st' := [.int n6.1]) ⟨hx, hb, hml, hown, hts⟩ k9 (cwV 1 hts gX6_bestSwap_X6_fails rfl rfl rfl (by decide +kernel) ⟨Nat.le_of_ble_eq_true rfl, Nat.le_of_ble_eq_true rfl⟩) hP hK hD hS [0, 1, 2, 3, 4, 5, 6, 7, 8] rfl rfl (by decide) rfl (w6 cI cC h a1 a2 a3 a4 a5 a6 a7 a8 n6.2) rfl rfl 0 (ci := 7) rfl rfl rfl rfl hl.1 rfl rfl (Nat.le_of_ble_eq_true rfl) ⟨Nat.zero_le _, Nat.zero_le _⟩ dX6_bestSwap_114 (fun H locs hP hD hS => ?_)
      refine lv_if_eq (tgt := 124) hx hb dX6_bestSwap_117 (by decide) (fun c_117 => absurd c_117 (by rw [en6, fails_1]; decide)) (fun c_117 => ?_)
      refine lv_iconst (v := 0) hx hb dX6_bestSwap_120 (by decide) ?_
      refine lv_goto (tgt := 134) hx hb dX6_bestSwap_121 (by decide) ?_
      have e9 : fX6_bestSwap S x1 = (0, n6.2) := by rw [fX6_bestSwap, ← en1, ← en4, if_neg c_106_5, ← en6]
      exact rUi hx hb hr hlk hQ hP hS (by rw [e9]) (congrArg (fun z9 : (Int32 × SV) => (w6 cI cC h a1 a2 a3 a4 a5 a6 a7 a8 z9.2 : va_W)) e9).symm rfl dX6_bestSwap_134
