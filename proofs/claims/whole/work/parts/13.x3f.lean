theorem fn32 {r : UInt32} (h : FP.Core.fIsNaN r = false) : vf_n32 r := by
  unfold vf_n32
  rw [UInt32.le_iff_toNat_le, UInt32.toNat_and]
  have h1 : ¬ 2139095040 < r.toNat % 2 ^ 31 := fun z => by rw [(FP.Core.isNaN_bits32 r).mpr z] at h; cases h
  have e : (0x7fffffff : UInt32).toNat = 2 ^ 31 - 1 := by decide
  rw [e, Nat.and_two_pow_sub_one_eq_mod]
  have e2 : (0x7f800000 : UInt32).toNat = 2139095040 := by decide
  omega
theorem fn64 {r : UInt64} (h : FP.Core.dIsNaN r = false) : vf_n64 r := by
  unfold vf_n64
  rw [UInt64.le_iff_toNat_le, UInt64.toNat_and]
  have h1 : ¬ 9218868437227405312 < r.toNat % 2 ^ 63 := fun z => by rw [(FP.Core.isNaN_bits r).mpr z] at h; cases h
  have e : (0x7fffffffffffffff : UInt64).toNat = 2 ^ 63 - 1 := by decide
  rw [e, Nat.and_two_pow_sub_one_eq_mod]
  have e2 : (0x7ff0000000000000 : UInt64).toNat = 9218868437227405312 := by decide
  omega
theorem ne0_of_1le {x : Int32} (h : 1 ≤ x) : x ≠ 0 := fun e => absurd h (by rw [e]; decide)
theorem tl_mag (w h : Int32) (h0 : h ≠ 0) : (FP.fdiv (FP.i2f w) (FP.i2f h)).toNat % 2 ^ 31 < 161 * 2 ^ 23 := by
  have h1 := FP.Core.fdiv_mag (K := 160) (L := 127) (FP.Core.i2f_mag w) (FP.Core.i2f_big (FP.Core.int32_ne h0)).1 (FP.Core.i2f_big (FP.Core.int32_ne h0)).2 (by decide) (by decide)
  exact h1
theorem tl_fin {x : UInt32} {K : Nat} (h : x.toNat % 2 ^ 31 < K * 2 ^ 23) (hK : K ≤ 255) : FP.Core.fIsNaN x = false := (FP.Core.fin_of_lt32 h hK).notNaN
def fX3_tiltAt (T : TV) (x1 : Int32) : UInt32 := (if 1 ≤ (fX3_ofStool T x1 0) then (FP.fdiv (FP.i2f (fX3_ofStool T x1 2)) (FP.i2f (fX3_ofStool T x1 0))) else FP.fconst0)
abbrev rmX3_tiltAt : Room := { frames := 1, cells := 0, slots := 0, locals := 22 }
set_option maxHeartbeats 4000000 in
set_option maxRecDepth 100000 in
theorem kX3_tiltAt (l : Launch) (D : va_G) (cI cC cT : ClassId) (h a b : Nat) (T : TV) (x1 : Int32)  : mR l D (TY cI cC cT) yX3_tiltAt wsX3_tiltAt rmX3_tiltAt [.ref h, .int x1] (w3 cI h a b T) (some (.float (fX3_tiltAt T x1))) := by
  refine mR.ofW (cc := cX3_tiltAt) (maxL := 3) (ret := (some .float)) (by decide) rfl (Nat.le_of_ble_eq_true rfl) ?_
  intro p e s m args below meth c Q ls hx hb hml hr hlk hts hown hP hK hl hQ
  have hown : s.vm.findClass RX3 = some m.cls := hown
  have hP : va_P D vwCl [(h, .inr (4, [.ref a, .ref b, .int T.2.2.1, .int T.2.2.2.1, .int T.2.2.2.2.1, .int T.2.2.2.2.2.1, .int T.2.2.2.2.2.2.1, .int T.2.2.2.2.2.2.2])), (a, .inl (cI, 72, .inl T.1)), (b, .inl (cI, 36, .inl T.2.1))] s.heap := hP
  have hl : lv_has ls 3 [(0, .ref h), (1, .int x1)] := hl
  refine lv_aload_n hx hb dX3_tiltAt_0 rfl (lv_at hl 0 rfl) ?_
  refine lv_iload_n hx hb dX3_tiltAt_1 rfl (lv_at hl 1 rfl) ?_
  refine lv_iconst (v := 0) hx hb dX3_tiltAt_2 (by decide) ?_
  refine fRV (As := [.int x1, .int 0]) (rest := []) (st' := [.int (fX3_ofStool T x1 0)]) ⟨hx, hb, hml, hown, hts⟩ (kX3_ofStool l D cI cC cT h a b T x1 0) (cwV 2 hts gX3_tiltAt_X3_ofStool rfl rfl rfl (by decide +kernel) ⟨Nat.le_of_ble_eq_true rfl, Nat.le_of_ble_eq_true rfl⟩) hP hK [0, 1, 2] rfl 0 (ci := 4) rfl rfl rfl rfl hl.1 rfl rfl (Nat.le_of_ble_eq_true rfl) ⟨Nat.zero_le _, Nat.zero_le _⟩ dX3_tiltAt_3 ?_
  refine lv_istore_n (lv' := [(2, .int (fX3_ofStool T x1 0)), (0, .ref h), (1, .int x1)]) hx hb dX3_tiltAt_6 rfl hl (by decide) rfl (fun ls hl => ?_)
  refine lv_iload_n hx hb dX3_tiltAt_7 rfl (lv_at hl 0 rfl) ?_
  refine lv_iconst (v := 1) hx hb dX3_tiltAt_8 (by decide) ?_
  refine lv_icmp_ge (tgt := 16) hx hb dX3_tiltAt_9 (by decide) (fun c_9 => ?_) (fun c_9 => ?_)
  · refine lv_aload_n hx hb dX3_tiltAt_16 rfl (lv_at hl 1 rfl) ?_
    refine lv_iload_n hx hb dX3_tiltAt_17 rfl (lv_at hl 2 rfl) ?_
    refine lv_iconst (v := 2) hx hb dX3_tiltAt_18 (by decide) ?_
    refine fRV (As := [.int x1, .int 2]) (rest := []) (st' := [.int (fX3_ofStool T x1 2)]) ⟨hx, hb, hml, hown, hts⟩ (kX3_ofStool l D cI cC cT h a b T x1 2) (cwV 2 hts gX3_tiltAt_X3_ofStool rfl rfl rfl (by decide +kernel) ⟨Nat.le_of_ble_eq_true rfl, Nat.le_of_ble_eq_true rfl⟩) hP hK [0, 1, 2] rfl 0 (ci := 4) rfl rfl rfl rfl hl.1 rfl rfl (Nat.le_of_ble_eq_true rfl) ⟨Nat.zero_le _, Nat.zero_le _⟩ dX3_tiltAt_19 ?_
    refine lv_i2f hx hb dX3_tiltAt_22 ?_
    refine lv_iload_n hx hb dX3_tiltAt_23 rfl (lv_at hl 0 rfl) ?_
    refine lv_i2f hx hb dX3_tiltAt_24 ?_
    refine lv_fdiv hx hb dX3_tiltAt_25 (fn32 (tl_fin (tl_mag _ _ (ne0_of_1le c_9)) (by decide))) ?_
    exact rRf hx hb hr hlk hQ (by rw [fX3_tiltAt, if_pos c_9]) dX3_tiltAt_26
  · refine lv_fconst0 hx hb dX3_tiltAt_12 ?_
    refine lv_goto (tgt := 26) hx hb dX3_tiltAt_13 (by decide) ?_
    exact rRf hx hb hr hlk hQ (by rw [fX3_tiltAt, if_neg c_9]) dX3_tiltAt_26
theorem mX3_tiltAt (T : TV) (x1 : Int32) : (fX3_tiltAt T x1).toNat % 2 ^ 31 < 161 * 2 ^ 23 := by
  unfold fX3_tiltAt
  split
  · exact tl_mag _ _ (ne0_of_1le (by assumption))
  · decide
theorem mX3_one (x : UInt32) (h : x.toNat % 2 ^ 31 < 161 * 2 ^ 23) : (FP.fadd FP.fconst1 x).toNat % 2 ^ 31 < 163 * 2 ^ 23 :=
  FP.Core.fadd_mag (K := 161) (by decide) h (by decide)
theorem mX3_sq (q : Int32) (x : UInt32) (h : x.toNat % 2 ^ 31 < 163 * 2 ^ 23) : (FP.fmul (FP.i2f q) x).toNat % 2 ^ 31 < 197 * 2 ^ 23 :=
  FP.Core.fmul_mag (Ka := 160) (Kb := 163) (FP.Core.i2f_mag q) h (by decide) (by decide)
theorem mX3_wg (q : Int32) (x : UInt32) (h : x.toNat % 2 ^ 31 < 197 * 2 ^ 23) : (FP.fmul x (FP.i2f q)).toNat % 2 ^ 31 < 231 * 2 ^ 23 :=
  FP.Core.fmul_mag (Ka := 197) (Kb := 160) h (FP.Core.i2f_mag q) (by decide) (by decide)
def fX3_isMoreTilted (T : TV) (x1 : Int32) (x2 : Int32) : Int32 := (if 0 < (Op.cmpValue (FP.fcmp (fX3_tiltAt T x1) (fX3_tiltAt T x2)) .l) then 1 else (if (Op.cmpValue (FP.fcmp (fX3_tiltAt T x1) (fX3_tiltAt T x2)) .l) = 0 then (if x2 ≤ x1 then 0 else 1) else 0))
abbrev rmX3_isMoreTilted : Room := { frames := 2, cells := 0, slots := 0, locals := 44 }
set_option maxHeartbeats 4000000 in
set_option maxRecDepth 100000 in
theorem kX3_isMoreTilted (l : Launch) (D : va_G) (cI cC cT : ClassId) (h a b : Nat) (T : TV) (x1 : Int32) (x2 : Int32)  : mR l D (TY cI cC cT) yX3_isMoreTilted wsX3_isMoreTilted rmX3_isMoreTilted [.ref h, .int x1, .int x2] (w3 cI h a b T) (some (.int (fX3_isMoreTilted T x1 x2))) := by
  refine mR.ofW (cc := cX3_isMoreTilted) (maxL := 5) (ret := (some .boolean)) (by decide) rfl (Nat.le_of_ble_eq_true rfl) ?_
  intro p e s m args below meth c Q ls hx hb hml hr hlk hts hown hP hK hl hQ
  have hown : s.vm.findClass RX3 = some m.cls := hown
  have hP : va_P D vwCl [(h, .inr (4, [.ref a, .ref b, .int T.2.2.1, .int T.2.2.2.1, .int T.2.2.2.2.1, .int T.2.2.2.2.2.1, .int T.2.2.2.2.2.2.1, .int T.2.2.2.2.2.2.2])), (a, .inl (cI, 72, .inl T.1)), (b, .inl (cI, 36, .inl T.2.1))] s.heap := hP
  have hl : lv_has ls 5 [(0, .ref h), (1, .int x1), (2, .int x2)] := hl
  refine lv_aload_n hx hb dX3_isMoreTilted_0 rfl (lv_at hl 0 rfl) ?_
  refine lv_iload_n hx hb dX3_isMoreTilted_1 rfl (lv_at hl 1 rfl) ?_
  refine fRV (As := [.int x1]) (rest := []) (st' := [.float (fX3_tiltAt T x1)]) ⟨hx, hb, hml, hown, hts⟩ (kX3_tiltAt l D cI cC cT h a b T x1) (cwV 1 hts gX3_isMoreTilted_X3_tiltAt rfl rfl rfl (by decide +kernel) ⟨Nat.le_of_ble_eq_true rfl, Nat.le_of_ble_eq_true rfl⟩) hP hK [0, 1, 2] rfl 0 (ci := 4) rfl rfl rfl rfl hl.1 rfl rfl (Nat.le_of_ble_eq_true rfl) ⟨Nat.zero_le _, Nat.zero_le _⟩ dX3_isMoreTilted_2 ?_
  refine lv_fstore_n (lv' := [(3, .float (fX3_tiltAt T x1)), (0, .ref h), (1, .int x1), (2, .int x2)]) hx hb dX3_isMoreTilted_5 rfl hl (by decide) rfl (fun ls hl => ?_)
  refine lv_aload_n hx hb dX3_isMoreTilted_6 rfl (lv_at hl 1 rfl) ?_
  refine lv_iload_n hx hb dX3_isMoreTilted_7 rfl (lv_at hl 3 rfl) ?_
  refine fRV (As := [.int x2]) (rest := []) (st' := [.float (fX3_tiltAt T x2)]) ⟨hx, hb, hml, hown, hts⟩ (kX3_tiltAt l D cI cC cT h a b T x2) (cwV 1 hts gX3_isMoreTilted_X3_tiltAt rfl rfl rfl (by decide +kernel) ⟨Nat.le_of_ble_eq_true rfl, Nat.le_of_ble_eq_true rfl⟩) hP hK [0, 1, 2] rfl 0 (ci := 4) rfl rfl rfl rfl hl.1 rfl rfl (Nat.le_of_ble_eq_true rfl) ⟨Nat.zero_le _, Nat.zero_le _⟩ dX3_isMoreTilted_8 ?_
  refine lv_fstore (lv' := [(4, .float (fX3_tiltAt T x2)), (3, .float (fX3_tiltAt T x1)), (0, .ref h), (1, .int x1), (2, .int x2)]) hx hb dX3_isMoreTilted_11 hl (by decide) rfl (fun ls hl => ?_)
  refine lv_fload_n hx hb dX3_isMoreTilted_13 rfl (lv_at hl 1 rfl) ?_
  refine lv_fload hx hb dX3_isMoreTilted_14 (lv_at hl 0 rfl) ?_
  refine lv_fcmp hx hb dX3_isMoreTilted_16 ?_
  refine lv_if_gt (tgt := 32) hx hb dX3_isMoreTilted_17 (by decide) (fun c_17 => ?_) (fun c_17 => ?_)
  · refine lv_iconst (v := 1) hx hb dX3_isMoreTilted_32 (by decide) ?_
    refine lv_goto (tgt := 37) hx hb dX3_isMoreTilted_33 (by decide) ?_
    exact rRi hx hb hr hlk hQ (by rw [fX3_isMoreTilted, if_pos c_17]) rfl dX3_isMoreTilted_37
  · refine lv_fload_n hx hb dX3_isMoreTilted_20 rfl (lv_at hl 1 rfl) ?_
    refine lv_fload hx hb dX3_isMoreTilted_21 (lv_at hl 0 rfl) ?_
    refine lv_fcmp hx hb dX3_isMoreTilted_23 ?_
    refine lv_if_ne (tgt := 36) hx hb dX3_isMoreTilted_24 (by decide) (fun c_24 => ?_) (fun c_24 => ?_)
    · refine lv_iconst (v := 0) hx hb dX3_isMoreTilted_36 (by decide) ?_
      exact rRi hx hb hr hlk hQ (by rw [fX3_isMoreTilted, if_neg c_17, if_neg c_24]) rfl dX3_isMoreTilted_37
    · refine lv_iload_n hx hb dX3_isMoreTilted_27 rfl (lv_at hl 3 rfl) ?_
      refine lv_iload_n hx hb dX3_isMoreTilted_28 rfl (lv_at hl 4 rfl) ?_
      refine lv_icmp_ge (tgt := 36) hx hb dX3_isMoreTilted_29 (by decide) (fun c_29 => ?_) (fun c_29 => ?_)
      · refine lv_iconst (v := 0) hx hb dX3_isMoreTilted_36 (by decide) ?_
        exact rRi hx hb hr hlk hQ (by rw [fX3_isMoreTilted, if_neg c_17, if_pos c_24, if_pos c_29]) rfl dX3_isMoreTilted_37
      · refine lv_iconst (v := 1) hx hb dX3_isMoreTilted_32 (by decide) ?_
        refine lv_goto (tgt := 37) hx hb dX3_isMoreTilted_33 (by decide) ?_
        exact rRi hx hb hr hlk hQ (by rw [fX3_isMoreTilted, if_neg c_17, if_pos c_24, if_neg c_29]) rfl dX3_isMoreTilted_37
theorem zX3_isMoreTilted (T : TV) (x1 : Int32) (x2 : Int32) : (fX3_isMoreTilted T x1 x2) = 0 ∨ (fX3_isMoreTilted T x1 x2) = 1 := by
  unfold fX3_isMoreTilted
  repeat' split
  all_goals first | exact Or.inl rfl | exact Or.inr rfl
def lX3_tiltedAt_15 (T : TV) (x1 : Int32) (v : Int32) (w : (Int32 × Int32)) : (Int32 × Int32) ⊕ ((Int32 × Int32)) := (if T.2.2.1 ≤ w.2 then (.inr (w.1, w.2)) else (if (fX3_isMoreTilted T w.2 v) = 0 then (.inl ((w.1 + 0), (w.2 + 1))) else (.inl ((w.1 + 1), (w.2 + 1)))))
def lX3_tiltedAt_2 (T : TV) (x1 : Int32) (v : Int32) : Int32 ⊕ (Int32 ⊕ Int32) := (if T.2.2.1 ≤ v then (.inr (.inl v)) else (if (itv (0, 0) (lX3_tiltedAt_15 T x1 v) ((fun w : (Int32 × Int32) => (T.2.2.1.toInt - w.2.toInt).toNat) (0, 0) + 1) (0, 0)).1 = x1 then (.inr (.inr v)) else (.inl (v + 1))))
def fX3_tiltedAt (T : TV) (x1 : Int32) : Int32 := (Sum.elim (fun y9 => (-1)) (fun q9 => q9) (itv (.inl 0) (lX3_tiltedAt_2 T x1) ((fun v : Int32 => (T.2.2.1.toInt - v.toInt).toNat) 0 + 1) 0))
abbrev rmX3_tiltedAt : Room := { frames := 3, cells := 0, slots := 0, locals := 68 }
set_option maxHeartbeats 4000000 in
set_option maxRecDepth 100000 in
theorem kX3_tiltedAt (l : Launch) (D : va_G) (cI cC cT : ClassId) (h a b : Nat) (T : TV) (x1 : Int32)  : mR l D (TY cI cC cT) yX3_tiltedAt wsX3_tiltedAt rmX3_tiltedAt [.ref h, .int x1] (w3 cI h a b T) (some (.int (fX3_tiltedAt T x1))) := by
  refine mR.ofW (cc := cX3_tiltedAt) (maxL := 5) (ret := (some .int)) (by decide) rfl (Nat.le_of_ble_eq_true rfl) ?_
  intro p e s m args below meth c Q ls hx hb hml hr hlk hts hown hP hK hl hQ
  have hown : s.vm.findClass RX3 = some m.cls := hown
  have hP : va_P D vwCl [(h, .inr (4, [.ref a, .ref b, .int T.2.2.1, .int T.2.2.2.1, .int T.2.2.2.2.1, .int T.2.2.2.2.2.1, .int T.2.2.2.2.2.2.1, .int T.2.2.2.2.2.2.2])), (a, .inl (cI, 72, .inl T.1)), (b, .inl (cI, 36, .inl T.2.1))] s.heap := hP
  have hl : lv_has ls 5 [(0, .ref h), (1, .int x1)] := hl
  have q0 := hts (Cond.fieldLink RX3 18 "TavernStools$Tavern" "stools" "I") (by decide +kernel)
  have q1 : ∀ w ∈ u_ws RX3 TX3 8, w ∈ wsX3_tiltedAt := by decide +kernel
  refine lv_iconst (v := 0) hx hb dX3_tiltedAt_0 (by decide) ?_
  refine lv_istore_n (lv' := [(2, .int 0), (0, .ref h), (1, .int x1)]) hx hb dX3_tiltedAt_1 rfl hl (by decide) rfl (fun ls hl => ?_)
  have hE_2 : itr (lX3_tiltedAt_2 T x1) ((fun v : Int32 => (T.2.2.1.toInt - v.toInt).toNat) 0 + 1) 0 = .inr (itv (.inl 0) (lX3_tiltedAt_2 T x1) ((fun v : Int32 => (T.2.2.1.toInt - v.toInt).toNat) 0 + 1) 0) := by
    refine itv_ends (itr_ends (lX3_tiltedAt_2 T x1) (fun v : Int32 => True) (fun v : Int32 => (T.2.2.1.toInt - v.toInt).toNat) ?_ _ _ trivial (Nat.lt_succ_self _))
    intro a b h0 h
    unfold lX3_tiltedAt_2 at h
    repeat' split at h
    all_goals first | (cases h; done) | (cases h; exact ⟨trivial, rk_ge (by assumption)⟩) | (cases h; exact ⟨trivial, rk_gt (by assumption)⟩)
  refine loopW (lX3_tiltedAt_2 T x1) (fun v : Int32 => True) (fun v : Int32 => ∀ ls, lv_has ls 5 [(0, .ref h), (1, .int x1), (2, .int v)] → W p l e rmX3_tiltedAt s m args below meth c s.heap [] 0 0 Q (F0 m 2 ls [])) (fun r8 : Int32 ⊕ Int32 => Sum.elim (fun r9 : Int32 => ∀ ls, lv_has ls 5 [(0, .ref h), (1, .int x1), (2, .int r9)] → W p l e rmX3_tiltedAt s m args below meth c s.heap [] 0 0 Q (F0 m 61 ls [])) (fun q9 : Int32 => ∀ (pc : Nat) ls, decode cX3_tiltedAt pc = .ok (.ireturn, 1) → narrow (.int) (.int q9) = .int q9 → W p l e rmX3_tiltedAt s m args below meth c s.heap [] 0 0 Q (F0 m pc ls [.int q9])) r8) ?_ (fun _ _ _ _ => trivial) _ 0 (itv (.inl 0) (lX3_tiltedAt_2 T x1) ((fun v : Int32 => (T.2.2.1.toInt - v.toInt).toNat) 0 + 1) 0) trivial hE_2 ?_ ls (lv_sub hl [1, 2, 0] rfl)
  · intro v _ kb kx ls hl
    refine lv_iload_n hx hb dX3_tiltedAt_2 rfl (lv_at hl 2 rfl) ?_
    refine lv_aload_n hx hb dX3_tiltedAt_3 rfl (lv_at hl 0 rfl) ?_
    refine va_get (D := D) (ci := 4) (v := .int T.2.2.1) (C := RX3) (T := TX3) (N := 8) hx hb hts q1 hown hK hP 0 rfl rfl 2 (by decide) q0 (fun _ h9 => h9) rfl dX3_tiltedAt_4 ?_
    refine lv_icmp_ge (tgt := 61) hx hb dX3_tiltedAt_7 (by decide) (fun c_7 => ?_) (fun c_7 => ?_)
    · exact kx (.inl v) (by rw [lX3_tiltedAt_2, if_pos c_7]) ls (lv_sub hl [0, 1, 2] rfl)
    · refine lv_iconst (v := 0) hx hb dX3_tiltedAt_10 (by decide) ?_
      refine lv_istore_n (lv' := [(3, .int 0), (0, .ref h), (1, .int x1), (2, .int v)]) hx hb dX3_tiltedAt_11 rfl hl (by decide) rfl (fun ls hl => ?_)
      refine lv_iconst (v := 0) hx hb dX3_tiltedAt_12 (by decide) ?_
      refine lv_istore (lv' := [(4, .int 0), (3, .int 0), (0, .ref h), (1, .int x1), (2, .int v)]) hx hb dX3_tiltedAt_13 hl (by decide) rfl (fun ls hl => ?_)
      have hE_15_1 : itr (lX3_tiltedAt_15 T x1 v) ((fun w : (Int32 × Int32) => (T.2.2.1.toInt - w.2.toInt).toNat) (0, 0) + 1) (0, 0) = .inr (itv (0, 0) (lX3_tiltedAt_15 T x1 v) ((fun w : (Int32 × Int32) => (T.2.2.1.toInt - w.2.toInt).toNat) (0, 0) + 1) (0, 0)) := by
        refine itv_ends (itr_ends (lX3_tiltedAt_15 T x1 v) (fun w : (Int32 × Int32) => True) (fun w : (Int32 × Int32) => (T.2.2.1.toInt - w.2.toInt).toNat) ?_ _ _ trivial (Nat.lt_succ_self _))
        intro a b h0 h
        unfold lX3_tiltedAt_15 at h
        repeat' split at h
        all_goals first | (cases h; done) | (cases h; exact ⟨trivial, rk_ge (by assumption)⟩) | (cases h; exact ⟨trivial, rk_gt (by assumption)⟩)
      refine loopW (lX3_tiltedAt_15 T x1 v) (fun w : (Int32 × Int32) => True) (fun w : (Int32 × Int32) => ∀ ls, lv_has ls 5 [(0, .ref h), (1, .int x1), (2, .int v), (3, .int w.1), (4, .int w.2)] → W p l e rmX3_tiltedAt s m args below meth c s.heap [] 0 0 Q (F0 m 15 ls [])) (fun r9 : (Int32 × Int32) => ∀ ls, lv_has ls 5 [(0, .ref h), (1, .int x1), (2, .int v), (3, .int r9.1), (4, .int r9.2)] → W p l e rmX3_tiltedAt s m args below meth c s.heap [] 0 0 Q (F0 m 48 ls [])) ?_ (fun _ _ _ _ => trivial) _ (0, 0) (itv (0, 0) (lX3_tiltedAt_15 T x1 v) ((fun w : (Int32 × Int32) => (T.2.2.1.toInt - w.2.toInt).toNat) (0, 0) + 1) (0, 0)) trivial hE_15_1 ?_ ls (lv_sub hl [2, 3, 4, 1, 0] rfl)
      · intro w _ kb kx ls hl
        refine lv_iload hx hb dX3_tiltedAt_15 (lv_at hl 4 rfl) ?_
        refine lv_aload_n hx hb dX3_tiltedAt_17 rfl (lv_at hl 0 rfl) ?_
        refine va_get (D := D) (ci := 4) (v := .int T.2.2.1) (C := RX3) (T := TX3) (N := 8) hx hb hts q1 hown hK hP 0 rfl rfl 2 (by decide) q0 (fun _ h9 => h9) rfl dX3_tiltedAt_18 ?_
        refine lv_icmp_ge (tgt := 48) hx hb dX3_tiltedAt_21 (by decide) (fun c_21 => ?_) (fun c_21 => ?_)
        · exact kx (w.1, w.2) (by rw [lX3_tiltedAt_15, if_pos c_21]) ls (lv_sub hl [0, 1, 2, 3, 4] rfl)
        · refine lv_iload_n hx hb dX3_tiltedAt_24 rfl (lv_at hl 3 rfl) ?_
          refine lv_aload_n hx hb dX3_tiltedAt_25 rfl (lv_at hl 0 rfl) ?_
          refine lv_iload hx hb dX3_tiltedAt_26 (lv_at hl 4 rfl) ?_
          refine lv_iload_n hx hb dX3_tiltedAt_28 rfl (lv_at hl 2 rfl) ?_
          refine fRV (As := [.int w.2, .int v]) (rest := [.int w.1]) (st' := [.int (fX3_isMoreTilted T w.2 v), .int w.1]) ⟨hx, hb, hml, hown, hts⟩ (kX3_isMoreTilted l D cI cC cT h a b T w.2 v) (cwV 2 hts gX3_tiltedAt_X3_isMoreTilted rfl rfl rfl (by decide +kernel) ⟨Nat.le_of_ble_eq_true rfl, Nat.le_of_ble_eq_true rfl⟩) hP hK [0, 1, 2] rfl 0 (ci := 4) rfl rfl rfl rfl hl.1 rfl rfl (Nat.le_of_ble_eq_true rfl) ⟨Nat.zero_le _, Nat.zero_le _⟩ dX3_tiltedAt_29 ?_
          refine lv_if_eq (tgt := 39) hx hb dX3_tiltedAt_32 (by decide) (fun c_32 => ?_) (fun c_32 => ?_)
          · refine lv_iconst (v := 0) hx hb dX3_tiltedAt_39 (by decide) ?_
            refine lv_iadd hx hb dX3_tiltedAt_40 ?_
            refine lv_istore_n (lv' := [(3, .int (w.1 + 0)), (0, .ref h), (1, .int x1), (2, .int v), (4, .int w.2)]) hx hb dX3_tiltedAt_41 rfl hl (by decide) rfl (fun ls hl => ?_)
            refine lv_iinc (v := (w.2 + 1)) (lv' := [(4, .int (w.2 + 1)), (3, .int (w.1 + 0)), (0, .ref h), (1, .int x1), (2, .int v)]) hx hb dX3_tiltedAt_42 hl (k := 4) rfl rfl (by decide) rfl (fun ls hl => ?_)
            refine lv_goto (tgt := 15) hx hb dX3_tiltedAt_45 (by decide) ?_
            exact kb ((w.1 + 0), (w.2 + 1)) (by rw [lX3_tiltedAt_15, if_neg c_21, if_pos c_32]) ls (lv_sub hl [2, 3, 4, 1, 0] rfl)
          · refine lv_iconst (v := 1) hx hb dX3_tiltedAt_35 (by decide) ?_
            refine lv_goto (tgt := 40) hx hb dX3_tiltedAt_36 (by decide) ?_
            refine lv_iadd hx hb dX3_tiltedAt_40 ?_
            refine lv_istore_n (lv' := [(3, .int (w.1 + 1)), (0, .ref h), (1, .int x1), (2, .int v), (4, .int w.2)]) hx hb dX3_tiltedAt_41 rfl hl (by decide) rfl (fun ls hl => ?_)
            refine lv_iinc (v := (w.2 + 1)) (lv' := [(4, .int (w.2 + 1)), (3, .int (w.1 + 1)), (0, .ref h), (1, .int x1), (2, .int v)]) hx hb dX3_tiltedAt_42 hl (k := 4) rfl rfl (by decide) rfl (fun ls hl => ?_)
            refine lv_goto (tgt := 15) hx hb dX3_tiltedAt_45 (by decide) ?_
            exact kb ((w.1 + 1), (w.2 + 1)) (by rw [lX3_tiltedAt_15, if_neg c_21, if_neg c_32]) ls (lv_sub hl [2, 3, 4, 1, 0] rfl)
      · intro ls hl
        refine lv_iload_n hx hb dX3_tiltedAt_48 rfl (lv_at hl 3 rfl) ?_
        refine lv_iload_n hx hb dX3_tiltedAt_49 rfl (lv_at hl 1 rfl) ?_
        refine lv_icmp_ne (tgt := 55) hx hb dX3_tiltedAt_50 (by decide) (fun c_50 => ?_) (fun c_50 => ?_)
        · refine lv_iinc (v := (v + 1)) (lv' := [(2, .int (v + 1)), (0, .ref h), (1, .int x1), (3, .int (itv (0, 0) (lX3_tiltedAt_15 T x1 v) ((fun w : (Int32 × Int32) => (T.2.2.1.toInt - w.2.toInt).toNat) (0, 0) + 1) (0, 0)).1), (4, .int (itv (0, 0) (lX3_tiltedAt_15 T x1 v) ((fun w : (Int32 × Int32) => (T.2.2.1.toInt - w.2.toInt).toNat) (0, 0) + 1) (0, 0)).2)]) hx hb dX3_tiltedAt_55 hl (k := 2) rfl rfl (by decide) rfl (fun ls hl => ?_)
          refine lv_goto (tgt := 2) hx hb dX3_tiltedAt_58 (by decide) ?_
          exact kb (v + 1) (by rw [lX3_tiltedAt_2, if_neg c_7, if_neg c_50]) ls (lv_sub hl [1, 2, 0] rfl)
        · refine lv_iload_n hx hb dX3_tiltedAt_53 rfl (lv_at hl 2 rfl) ?_
          exact kx (.inr v) (by rw [lX3_tiltedAt_2, if_neg c_7, if_pos c_50]) 54 ls dX3_tiltedAt_54 rfl
  · cases hy_2 : (itv (.inl 0) (lX3_tiltedAt_2 T x1) ((fun v : Int32 => (T.2.2.1.toInt - v.toInt).toNat) 0 + 1) 0) with
    | inl y9 =>
      show ∀ ls, lv_has ls 5 [(0, .ref h), (1, .int x1), (2, .int y9)] → W p l e rmX3_tiltedAt s m args below meth c s.heap [] 0 0 Q (F0 m 61 ls [])
      intro ls hl
      refine lv_iconst (v := (-1)) hx hb dX3_tiltedAt_61 (by decide) ?_
      exact rRi hx hb hr hlk hQ (by rw [fX3_tiltedAt, hy_2, Sum.elim_inl]) rfl dX3_tiltedAt_62
    | inr q9 =>
      intro pc ls hd9 hn9
      exact rRi hx hb hr hlk hQ (by rw [fX3_tiltedAt, hy_2, Sum.elim_inr]) hn9 hd9
def fX3_noiseAt (T : TV) (x1 : Int32) : UInt32 := (if (fX3_ofStool T x1 5) = (-1) then FP.fconst0 else (FP.fmul (FP.fmul (FP.i2f (fX3_ofStool T x1 1)) (FP.fadd FP.fconst1 (fX3_tiltAt T x1))) (FP.i2f (fX3_ofSitter T (fX3_ofStool T x1 5) 1))))
abbrev rmX3_noiseAt : Room := { frames := 2, cells := 0, slots := 0, locals := 44 }
set_option maxHeartbeats 4000000 in
set_option maxRecDepth 100000 in
theorem kX3_noiseAt (l : Launch) (D : va_G) (cI cC cT : ClassId) (h a b : Nat) (T : TV) (x1 : Int32)  : mR l D (TY cI cC cT) yX3_noiseAt wsX3_noiseAt rmX3_noiseAt [.ref h, .int x1] (w3 cI h a b T) (some (.float (fX3_noiseAt T x1))) := by
  refine mR.ofW (cc := cX3_noiseAt) (maxL := 4) (ret := (some .float)) (by decide) rfl (Nat.le_of_ble_eq_true rfl) ?_
  intro p e s m args below meth c Q ls hx hb hml hr hlk hts hown hP hK hl hQ
  have hown : s.vm.findClass RX3 = some m.cls := hown
  have hP : va_P D vwCl [(h, .inr (4, [.ref a, .ref b, .int T.2.2.1, .int T.2.2.2.1, .int T.2.2.2.2.1, .int T.2.2.2.2.2.1, .int T.2.2.2.2.2.2.1, .int T.2.2.2.2.2.2.2])), (a, .inl (cI, 72, .inl T.1)), (b, .inl (cI, 36, .inl T.2.1))] s.heap := hP
  have hl : lv_has ls 4 [(0, .ref h), (1, .int x1)] := hl
  refine lv_aload_n hx hb dX3_noiseAt_0 rfl (lv_at hl 0 rfl) ?_
  refine lv_iload_n hx hb dX3_noiseAt_1 rfl (lv_at hl 1 rfl) ?_
  refine lv_iconst (v := 5) hx hb dX3_noiseAt_2 (by decide) ?_
  refine fRV (As := [.int x1, .int 5]) (rest := []) (st' := [.int (fX3_ofStool T x1 5)]) ⟨hx, hb, hml, hown, hts⟩ (kX3_ofStool l D cI cC cT h a b T x1 5) (cwV 2 hts gX3_noiseAt_X3_ofStool rfl rfl rfl (by decide +kernel) ⟨Nat.le_of_ble_eq_true rfl, Nat.le_of_ble_eq_true rfl⟩) hP hK [0, 1, 2] rfl 0 (ci := 4) rfl rfl rfl rfl hl.1 rfl rfl (Nat.le_of_ble_eq_true rfl) ⟨Nat.zero_le _, Nat.zero_le _⟩ dX3_noiseAt_3 ?_
  refine lv_istore_n (lv' := [(2, .int (fX3_ofStool T x1 5)), (0, .ref h), (1, .int x1)]) hx hb dX3_noiseAt_6 rfl hl (by decide) rfl (fun ls hl => ?_)
  refine lv_iload_n hx hb dX3_noiseAt_7 rfl (lv_at hl 0 rfl) ?_
  refine lv_iconst (v := (-1)) hx hb dX3_noiseAt_8 (by decide) ?_
  refine lv_icmp_ne (tgt := 14) hx hb dX3_noiseAt_9 (by decide) (fun c_9 => ?_) (fun c_9 => ?_)
  · refine lv_aload_n hx hb dX3_noiseAt_14 rfl (lv_at hl 1 rfl) ?_
    refine lv_iload_n hx hb dX3_noiseAt_15 rfl (lv_at hl 2 rfl) ?_
    refine lv_iconst (v := 1) hx hb dX3_noiseAt_16 (by decide) ?_
    refine fRV (As := [.int x1, .int 1]) (rest := []) (st' := [.int (fX3_ofStool T x1 1)]) ⟨hx, hb, hml, hown, hts⟩ (kX3_ofStool l D cI cC cT h a b T x1 1) (cwV 2 hts gX3_noiseAt_X3_ofStool rfl rfl rfl (by decide +kernel) ⟨Nat.le_of_ble_eq_true rfl, Nat.le_of_ble_eq_true rfl⟩) hP hK [0, 1, 2] rfl 0 (ci := 4) rfl rfl rfl rfl hl.1 rfl rfl (Nat.le_of_ble_eq_true rfl) ⟨Nat.zero_le _, Nat.zero_le _⟩ dX3_noiseAt_17 ?_
    refine lv_i2f hx hb dX3_noiseAt_20 ?_
    refine lv_fconst1 hx hb dX3_noiseAt_21 ?_
    refine lv_aload_n hx hb dX3_noiseAt_22 rfl (lv_at hl 1 rfl) ?_
    refine lv_iload_n hx hb dX3_noiseAt_23 rfl (lv_at hl 2 rfl) ?_
    refine fRV (As := [.int x1]) (rest := [.float FP.fconst1, .float (FP.i2f (fX3_ofStool T x1 1))]) (st' := [.float (fX3_tiltAt T x1), .float FP.fconst1, .float (FP.i2f (fX3_ofStool T x1 1))]) ⟨hx, hb, hml, hown, hts⟩ (kX3_tiltAt l D cI cC cT h a b T x1) (cwV 1 hts gX3_noiseAt_X3_tiltAt rfl rfl rfl (by decide +kernel) ⟨Nat.le_of_ble_eq_true rfl, Nat.le_of_ble_eq_true rfl⟩) hP hK [0, 1, 2] rfl 0 (ci := 4) rfl rfl rfl rfl hl.1 rfl rfl (Nat.le_of_ble_eq_true rfl) ⟨Nat.zero_le _, Nat.zero_le _⟩ dX3_noiseAt_24 ?_
    refine lv_fadd hx hb dX3_noiseAt_27 (fn32 (tl_fin (mX3_one _ (mX3_tiltAt _ _)) (by decide))) ?_
    refine lv_fmul hx hb dX3_noiseAt_28 (fn32 (tl_fin (mX3_sq _ _ (mX3_one _ (mX3_tiltAt _ _))) (by decide))) ?_
    refine lv_fstore_n (lv' := [(3, .float (FP.fmul (FP.i2f (fX3_ofStool T x1 1)) (FP.fadd FP.fconst1 (fX3_tiltAt T x1)))), (2, .int (fX3_ofStool T x1 5)), (0, .ref h), (1, .int x1)]) hx hb dX3_noiseAt_29 rfl hl (by decide) rfl (fun ls hl => ?_)
    refine lv_fload_n hx hb dX3_noiseAt_30 rfl (lv_at hl 0 rfl) ?_
    refine lv_aload_n hx hb dX3_noiseAt_31 rfl (lv_at hl 2 rfl) ?_
    refine lv_iload_n hx hb dX3_noiseAt_32 rfl (lv_at hl 1 rfl) ?_
    refine lv_iconst (v := 1) hx hb dX3_noiseAt_33 (by decide) ?_
    refine fRV (As := [.int (fX3_ofStool T x1 5), .int 1]) (rest := [.float (FP.fmul (FP.i2f (fX3_ofStool T x1 1)) (FP.fadd FP.fconst1 (fX3_tiltAt T x1)))]) (st' := [.int (fX3_ofSitter T (fX3_ofStool T x1 5) 1), .float (FP.fmul (FP.i2f (fX3_ofStool T x1 1)) (FP.fadd FP.fconst1 (fX3_tiltAt T x1)))]) ⟨hx, hb, hml, hown, hts⟩ (kX3_ofSitter l D cI cC cT h a b T (fX3_ofStool T x1 5) 1) (cwV 2 hts gX3_noiseAt_X3_ofSitter rfl rfl rfl (by decide +kernel) ⟨Nat.le_of_ble_eq_true rfl, Nat.le_of_ble_eq_true rfl⟩) hP hK [0, 1, 2] rfl 0 (ci := 4) rfl rfl rfl rfl hl.1 rfl rfl (Nat.le_of_ble_eq_true rfl) ⟨Nat.zero_le _, Nat.zero_le _⟩ dX3_noiseAt_34 ?_
    refine lv_i2f hx hb dX3_noiseAt_37 ?_
    refine lv_fmul hx hb dX3_noiseAt_38 (fn32 (tl_fin (mX3_wg _ _ (mX3_sq _ _ (mX3_one _ (mX3_tiltAt _ _)))) (by decide))) ?_
    exact rRf hx hb hr hlk hQ (by rw [fX3_noiseAt, if_neg c_9]) dX3_noiseAt_39
  · refine lv_fconst0 hx hb dX3_noiseAt_12 ?_
    exact rRf hx hb hr hlk hQ (by rw [fX3_noiseAt, if_pos c_9]) dX3_noiseAt_13
theorem mX3_noiseAt (T : TV) (x1 : Int32) : (fX3_noiseAt T x1).toNat % 2 ^ 31 < 231 * 2 ^ 23 := by
  unfold fX3_noiseAt
  split
  · decide
  · exact mX3_wg _ _ (mX3_sq _ _ (mX3_one _ (mX3_tiltAt _ _)))
def lX3_noiseOfAll_4 (T : TV) (v : (UInt32 × Int32)) : (UInt32 × Int32) ⊕ ((UInt32 × Int32)) := (if T.2.2.1 ≤ v.2 then (.inr (v.1, v.2)) else (.inl ((FP.fadd v.1 (fX3_noiseAt T v.2)), (v.2 + 1))))
def fX3_noiseOfAll (T : TV)  : UInt32 := (itv (FP.fconst0, 0) (lX3_noiseOfAll_4 T) ((fun v : (UInt32 × Int32) => (T.2.2.1.toInt - v.2.toInt).toNat) (FP.fconst0, 0) + 1) (FP.fconst0, 0)).1
abbrev rmX3_noiseOfAll : Room := { frames := 3, cells := 0, slots := 0, locals := 67 }
set_option maxHeartbeats 4000000 in
set_option maxRecDepth 100000 in
theorem kX3_noiseOfAll (l : Launch) (D : va_G) (cI cC cT : ClassId) (h a b : Nat) (T : TV)   : mR l D (TY cI cC cT) yX3_noiseOfAll wsX3_noiseOfAll rmX3_noiseOfAll [.ref h] (w3 cI h a b T) (some (.float (fX3_noiseOfAll T))) := by
  refine mR.ofW (cc := cX3_noiseOfAll) (maxL := 3) (ret := (some .float)) (by decide) rfl (Nat.le_of_ble_eq_true rfl) ?_
  intro p e s m args below meth c Q ls hx hb hml hr hlk hts hown hP hK hl hQ
  have hown : s.vm.findClass RX3 = some m.cls := hown
  have hP : va_P D vwCl [(h, .inr (4, [.ref a, .ref b, .int T.2.2.1, .int T.2.2.2.1, .int T.2.2.2.2.1, .int T.2.2.2.2.2.1, .int T.2.2.2.2.2.2.1, .int T.2.2.2.2.2.2.2])), (a, .inl (cI, 72, .inl T.1)), (b, .inl (cI, 36, .inl T.2.1))] s.heap := hP
  have hl : lv_has ls 3 [(0, .ref h)] := hl
  have q0 := hts (Cond.fieldLink RX3 18 "TavernStools$Tavern" "stools" "I") (by decide +kernel)
  have q1 : ∀ w ∈ u_ws RX3 TX3 8, w ∈ wsX3_noiseOfAll := by decide +kernel
  refine lv_fconst0 hx hb dX3_noiseOfAll_0 ?_
  refine lv_fstore_n (lv' := [(1, .float FP.fconst0), (0, .ref h)]) hx hb dX3_noiseOfAll_1 rfl hl (by decide) rfl (fun ls hl => ?_)
  refine lv_iconst (v := 0) hx hb dX3_noiseOfAll_2 (by decide) ?_
  refine lv_istore_n (lv' := [(2, .int 0), (1, .float FP.fconst0), (0, .ref h)]) hx hb dX3_noiseOfAll_3 rfl hl (by decide) rfl (fun ls hl => ?_)
  have hE_4 : itr (lX3_noiseOfAll_4 T) ((fun v : (UInt32 × Int32) => (T.2.2.1.toInt - v.2.toInt).toNat) (FP.fconst0, 0) + 1) (FP.fconst0, 0) = .inr (itv (FP.fconst0, 0) (lX3_noiseOfAll_4 T) ((fun v : (UInt32 × Int32) => (T.2.2.1.toInt - v.2.toInt).toNat) (FP.fconst0, 0) + 1) (FP.fconst0, 0)) := by
    refine itv_ends (itr_ends (lX3_noiseOfAll_4 T) (fun v : (UInt32 × Int32) => FP.Core.fIsNaN v.1 = false) (fun v : (UInt32 × Int32) => (T.2.2.1.toInt - v.2.toInt).toNat) ?_ _ _ (by decide) (Nat.lt_succ_self _))
    intro a b h0 h
    unfold lX3_noiseOfAll_4 at h
    split at h
    · cases h
    · cases h; exact ⟨FP.Core.fadd_out h0 (FP.Core.fin_of_lt32 (mX3_noiseAt _ _) (by decide)), rk_ge (by assumption)⟩
  refine loopW (lX3_noiseOfAll_4 T) (fun v : (UInt32 × Int32) => FP.Core.fIsNaN v.1 = false) (fun v : (UInt32 × Int32) => ∀ ls, lv_has ls 3 [(0, .ref h), (1, .float v.1), (2, .int v.2)] → W p l e rmX3_noiseOfAll s m args below meth c s.heap [] 0 0 Q (F0 m 4 ls [])) (fun r9 : (UInt32 × Int32) => ∀ ls, lv_has ls 3 [(0, .ref h), (1, .float r9.1), (2, .int r9.2)] → W p l e rmX3_noiseOfAll s m args below meth c s.heap [] 0 0 Q (F0 m 26 ls [])) ?_ (fun a b h0 h => by unfold lX3_noiseOfAll_4 at h; split at h <;> first | (cases h; done) | (cases h; exact FP.Core.fadd_out h0 (FP.Core.fin_of_lt32 (mX3_noiseAt _ _) (by decide)))) _ (FP.fconst0, 0) (itv (FP.fconst0, 0) (lX3_noiseOfAll_4 T) ((fun v : (UInt32 × Int32) => (T.2.2.1.toInt - v.2.toInt).toNat) (FP.fconst0, 0) + 1) (FP.fconst0, 0)) (by decide) hE_4 ?_ ls (lv_sub hl [2, 1, 0] rfl)
  · intro v h0 kb kx ls hl
    refine lv_iload_n hx hb dX3_noiseOfAll_4 rfl (lv_at hl 2 rfl) ?_
    refine lv_aload_n hx hb dX3_noiseOfAll_5 rfl (lv_at hl 0 rfl) ?_
    refine va_get (D := D) (ci := 4) (v := .int T.2.2.1) (C := RX3) (T := TX3) (N := 8) hx hb hts q1 hown hK hP 0 rfl rfl 2 (by decide) q0 (fun _ h9 => h9) rfl dX3_noiseOfAll_6 ?_
    refine lv_icmp_ge (tgt := 26) hx hb dX3_noiseOfAll_9 (by decide) (fun c_9 => ?_) (fun c_9 => ?_)
    · exact kx (v.1, v.2) (by rw [lX3_noiseOfAll_4, if_pos c_9]) ls (lv_sub hl [0, 1, 2] rfl)
    · refine lv_fload_n hx hb dX3_noiseOfAll_12 rfl (lv_at hl 1 rfl) ?_
      refine lv_aload_n hx hb dX3_noiseOfAll_13 rfl (lv_at hl 0 rfl) ?_
      refine lv_iload_n hx hb dX3_noiseOfAll_14 rfl (lv_at hl 2 rfl) ?_
      refine fRV (As := [.int v.2]) (rest := [.float v.1]) (st' := [.float (fX3_noiseAt T v.2), .float v.1]) ⟨hx, hb, hml, hown, hts⟩ (kX3_noiseAt l D cI cC cT h a b T v.2) (cwV 1 hts gX3_noiseOfAll_X3_noiseAt rfl rfl rfl (by decide +kernel) ⟨Nat.le_of_ble_eq_true rfl, Nat.le_of_ble_eq_true rfl⟩) hP hK [0, 1, 2] rfl 0 (ci := 4) rfl rfl rfl rfl hl.1 rfl rfl (Nat.le_of_ble_eq_true rfl) ⟨Nat.zero_le _, Nat.zero_le _⟩ dX3_noiseOfAll_15 ?_
      refine lv_fadd hx hb dX3_noiseOfAll_18 (fn32 (FP.Core.fadd_out h0 (FP.Core.fin_of_lt32 (mX3_noiseAt _ _) (by decide)))) ?_
      refine lv_fstore_n (lv' := [(1, .float (FP.fadd v.1 (fX3_noiseAt T v.2))), (0, .ref h), (2, .int v.2)]) hx hb dX3_noiseOfAll_19 rfl hl (by decide) rfl (fun ls hl => ?_)
      refine lv_iinc (v := (v.2 + 1)) (lv' := [(2, .int (v.2 + 1)), (1, .float (FP.fadd v.1 (fX3_noiseAt T v.2))), (0, .ref h)]) hx hb dX3_noiseOfAll_20 hl (k := 2) rfl rfl (by decide) rfl (fun ls hl => ?_)
      refine lv_goto (tgt := 4) hx hb dX3_noiseOfAll_23 (by decide) ?_
      exact kb ((FP.fadd v.1 (fX3_noiseAt T v.2)), (v.2 + 1)) (by rw [lX3_noiseOfAll_4, if_neg c_9]) ls (lv_sub hl [2, 1, 0] rfl)
  · intro ls hl
    refine lv_fload_n hx hb dX3_noiseOfAll_26 rfl (lv_at hl 1 rfl) ?_
    exact rRf hx hb hr hlk hQ (by rw [fX3_noiseOfAll]) dX3_noiseOfAll_27
