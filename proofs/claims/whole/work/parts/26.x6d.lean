def fJxf58ca_isNaN_12338  (x1 : UInt32) : Int32 := (if (Op.cmpValue (FP.fcmp x1 x1) .l) = 0 then 0 else 1)
abbrev rmJxf58ca_isNaN_12338 : Room := { frames := 0, cells := 0, slots := 0, locals := 0 }
set_option maxHeartbeats 4000000 in
set_option maxRecDepth 100000 in
theorem kJxf58ca_isNaN_12338 (l : Launch) (D : va_G) (cI cC cT : ClassId)  (x1 : UInt32)  : mR l D (TY cI cC cT) yJxf58ca_isNaN_12338 wsJxf58ca_isNaN_12338 rmJxf58ca_isNaN_12338 [.float x1] ([]) (some (.int (fJxf58ca_isNaN_12338 x1))) := by
  refine mR.ofWF (cc := cJxf58ca_isNaN_12338) (maxL := 1) (ret := (some .boolean)) (by decide +kernel) rfl (Nat.le_of_ble_eq_true rfl) ?_
  intro p e s m args below meth c Q ls hx hb hml hr hlk hts hown hP hK hl hQ
  have hown : s.vm.findClass RJxf58ca = some m.cls := hown
  have hP : va_P D vwCl [] s.heap := hP
  have hl : lv_has ls 1 [(0, .float x1)] := hl
  refine lv_fload_n hx hb dJxf58ca_isNaN_12338_0 rfl (lv_at hl 0 rfl) ?_
  refine lv_fload_n hx hb dJxf58ca_isNaN_12338_1 rfl (lv_at hl 0 rfl) ?_
  refine lv_fcmp hx hb dJxf58ca_isNaN_12338_2 ?_
  refine lv_if_eq (tgt := 10) hx hb dJxf58ca_isNaN_12338_3 (by decide) (fun c_3_1 => ?_) (fun c_3_1 => ?_)
  · refine lv_iconst (v := 0) hx hb dJxf58ca_isNaN_12338_10 (by decide) ?_
    exact rRi hx hb hr hlk hQ (by rw [fJxf58ca_isNaN_12338, if_pos c_3_1]) rfl dJxf58ca_isNaN_12338_11
  · refine lv_iconst (v := 1) hx hb dJxf58ca_isNaN_12338_6 (by decide) ?_
    refine lv_goto (tgt := 11) hx hb dJxf58ca_isNaN_12338_7 (by decide) ?_
    exact rRi hx hb hr hlk hQ (by rw [fJxf58ca_isNaN_12338, if_neg c_3_1]) rfl dJxf58ca_isNaN_12338_11
theorem zJxf58ca_isNaN_12338  (x1 : UInt32) : (fJxf58ca_isNaN_12338 x1) = 0 ∨ (fJxf58ca_isNaN_12338 x1) = 1 := by
  unfold fJxf58ca_isNaN_12338
  repeat' split
  all_goals first | exact Or.inl rfl | exact Or.inr rfl
def fJxf58ca_floatToIntBits_5c35a  (x1 : UInt32) : Int32 := (if (fJxf58ca_isNaN_12338 x1) = 0 then (x1.toInt32) else 2143289344)
abbrev rmJxf58ca_floatToIntBits_5c35a : Room := { frames := 1, cells := 0, slots := 0, locals := 24 }
set_option maxHeartbeats 4000000 in
set_option maxRecDepth 100000 in
theorem kJxf58ca_floatToIntBits_5c35a (l : Launch) (D : va_G) (cI cC cT : ClassId)  (x1 : UInt32)  : mR l D (TY cI cC cT) yJxf58ca_floatToIntBits_5c35a wsJxf58ca_floatToIntBits_5c35a rmJxf58ca_floatToIntBits_5c35a [.float x1] ([]) (some (.int (fJxf58ca_floatToIntBits_5c35a x1))) := by
  refine mR.ofWF (cc := cJxf58ca_floatToIntBits_5c35a) (maxL := 1) (ret := (some .int)) (by decide +kernel) rfl (Nat.le_of_ble_eq_true rfl) ?_
  intro p e s m args below meth c Q ls hx hb hml hr hlk hts hown hP hK hl hQ
  have hown : s.vm.findClass RJxf58ca = some m.cls := hown
  have hP : va_P D vwCl [] s.heap := hP
  have hl : lv_has ls 1 [(0, .float x1)] := hl
  have q0 := hts (Cond.constant RJxf58ca 77 (2143289344)) (by decide +kernel)
  have q1 := hts (Cond.methodLink RJxf58ca 74 ⟨"java/lang/Float", "floatToRawIntBits", "(F)I"⟩) (by decide +kernel)
  have q2 := hts (Cond.native ⟨"java/lang/Float", "floatToRawIntBits", "(F)I"⟩) (by decide +kernel)
  have q3 := hts (Cond.static ⟨"java/lang/Float", "floatToRawIntBits", "(F)I"⟩) (by decide +kernel)
  have q4 := hts (Cond.initialized "java/lang/Float") (by decide +kernel)
  refine lv_fload_n hx hb dJxf58ca_floatToIntBits_5c35a_0 rfl (lv_at hl 0 rfl) ?_
  refine fRS (As := [.float x1]) (rest := []) (st' := [.int (fJxf58ca_isNaN_12338 x1)]) ⟨hx, hb, hml, hown, hts⟩ (kJxf58ca_isNaN_12338 l D cI cC cT x1) (va_cwS 1 hts gJxf58ca_floatToIntBits_5c35a_Jxf58ca_isNaN_12338 rfl rfl rfl (by decide +kernel) ⟨Nat.le_of_ble_eq_true rfl, Nat.le_of_ble_eq_true rfl⟩) hP hK [] rfl rfl hl.1 rfl rfl (Nat.le_of_ble_eq_true rfl) ⟨Nat.zero_le _, Nat.zero_le _⟩ dJxf58ca_floatToIntBits_5c35a_1 ?_
  refine lv_if_ne (tgt := 12) hx hb dJxf58ca_floatToIntBits_5c35a_4 (by decide) (fun c_4_1 => ?_) (fun c_4_1 => ?_)
  · refine lv_ldc (v := 2143289344) hx hb hown q0 dJxf58ca_floatToIntBits_5c35a_12 ?_
    exact rRi hx hb hr hlk hQ (by rw [fJxf58ca_floatToIntBits_5c35a, if_neg c_4_1]) rfl dJxf58ca_floatToIntBits_5c35a_14
  · refine lv_fload_n hx hb dJxf58ca_floatToIntBits_5c35a_7 rfl (lv_at hl 0 rfl) ?_
    refine vn_f2i (b := x1) hx hb (hml.trans hl.1.symm) hown q1 q2 q3 q4 (Nat.le_of_ble_eq_true rfl) (Nat.le_of_ble_eq_true rfl) dJxf58ca_floatToIntBits_5c35a_8 ?_
    exact rRi hx hb hr hlk hQ (by rw [fJxf58ca_floatToIntBits_5c35a, if_pos c_4_1]) rfl dJxf58ca_floatToIntBits_5c35a_11
def lX6_underStools_4 (S : SV) (v : (Int32 × Int32)) : (Int32 × Int32) ⊕ ((Int32 × Int32)) := (if (S.1 (0 : Int32).toNatClampNeg) ≤ v.2 then (.inr (v.1, v.2)) else (.inl ((v.1 + (fX6_of S v.2 4)), (v.2 + 1))))
def glX6_underStools_4 (S : SV) (v : (Int32 × Int32)) : Prop := ((vp_in 0 114) ∧ (if (S.1 (0 : Int32).toNatClampNeg) ≤ v.2 then True else ((gX6_of S v.2 4) ∧ True)))
def fX6_underStools (S : SV)  : Int32 := (itv (0, 0) (lX6_underStools_4 S) ((fun v : (Int32 × Int32) => ((S.1 (0 : Int32).toNatClampNeg).toInt - v.2.toInt).toNat) (0, 0) + 1) (0, 0)).1
def gX6_underStools (S : SV)  : Prop := ((∃ r9 : (Int32 × Int32), lrun (lX6_underStools_4 S) (glX6_underStools_4 S) ((fun v : (Int32 × Int32) => ((S.1 (0 : Int32).toNatClampNeg).toInt - v.2.toInt).toNat) (0, 0) + 1) (0, 0) r9) ∧ True)
abbrev rmX6_underStools : Room := { frames := 1, cells := 0, slots := 0, locals := 22 }
set_option maxHeartbeats 4000000 in
set_option maxRecDepth 100000 in
theorem kX6_underStools (l : Launch) (D : va_G) (cI cC cT : ClassId) (h a1 a2 a3 a4 a5 a6 a7 a8 : Nat) (S : SV)  (hg : gX6_underStools S) : mR l D (TY cI cC cT) yX6_underStools wsX6_underStools rmX6_underStools [.ref h] (w6 cI cC h a1 a2 a3 a4 a5 a6 a7 a8 S) (some (.int (fX6_underStools S))) := by
  refine mR.ofW (cc := cX6_underStools) (maxL := 3) (ret := (some .int)) (by decide) rfl (Nat.le_of_ble_eq_true rfl) ?_
  intro p e s m args below meth c Q ls hx hb hml hr hlk hts hown hP hK hl hQ
  have hown : s.vm.findClass RX6 = some m.cls := hown
  have hP : va_P D vwCl (w6 cI cC h a1 a2 a3 a4 a5 a6 a7 a8 S) s.heap := hP
  have hl : lv_has ls 3 [(0, .ref h)] := hl
  have q0 := hts (Cond.fieldLink RX6 7 "TavernStoolsModel" "g" "[I") (by decide +kernel)
  have q1 : ∀ w ∈ u_ws RX6 TX6 20, w ∈ wsX6_underStools := by decide +kernel
  unfold gX6_underStools at hg
  refine lv_iconst (v := 0) hx hb dX6_underStools_0 (by decide) ?_
  refine lv_istore_n (lv' := [(1, .int 0), (0, .ref h)]) hx hb dX6_underStools_1 rfl hl (by decide) rfl (fun ls hl => ?_)
  refine lv_iconst (v := 0) hx hb dX6_underStools_2 (by decide) ?_
  refine lv_istore_n (lv' := [(2, .int 0), (1, .int 0), (0, .ref h)]) hx hb dX6_underStools_3 rfl hl (by decide) rfl (fun ls hl => ?_)
  obtain ⟨n1, en1⟩ : ∃ z9, z9 = (itv (0, 0) (lX6_underStools_4 S) ((fun v : (Int32 × Int32) => ((S.1 (0 : Int32).toNatClampNeg).toInt - v.2.toInt).toNat) (0, 0) + 1) (0, 0)) := ⟨_, rfl⟩
  try rw [← en1] at hg
  obtain ⟨o3, hg⟩ := hg
  have L9 := lrun_val (d := (0, 0)) o3
  rw [← en1] at L9
  refine loopWs (lX6_underStools_4 S) (glX6_underStools_4 S) (fun v : (Int32 × Int32) => ∀ ls, lv_has ls 3 [(0, .ref h), (1, .int v.1), (2, .int v.2)] → W p l e rmX6_underStools s m args below meth c s.heap [] 0 0 Q (F0 m 4 ls [])) (fun r9 : (Int32 × Int32) => ∀ ls, lv_has ls 3 [(0, .ref h), (1, .int r9.1), (2, .int r9.2)] → W p l e rmX6_underStools s m args below meth c s.heap [] 0 0 Q (F0 m 29 ls [])) ?_ _ (0, 0) n1 L9 ?_ ls (lv_sub hl [2, 1, 0] rfl)
  · intro v hg kb kx ls hl
    unfold glX6_underStools_4 at hg
    refine lv_iload_n hx hb dX6_underStools_4 rfl (lv_at hl 2 rfl) ?_
    refine lv_aload_n hx hb dX6_underStools_5 rfl (lv_at hl 0 rfl) ?_
    refine va_get (D := D) (ci := 7) (v := .ref a1) (C := RX6) (T := TX6) (N := 20) hx hb hts q1 hown hK hP 0 rfl rfl 0 (by decide) q0 (fun _ h9 => h9) rfl dX6_underStools_6 ?_
    refine lv_iconst (v := 0) hx hb dX6_underStools_9 (by decide) ?_
    obtain ⟨o1, hg⟩ := hg
    refine va_iald hx hb hK hP 1 0 rfl rfl o1 dX6_underStools_10 ?_
    refine lv_icmp_ge (tgt := 29) hx hb dX6_underStools_11 (by decide) (fun c_11_1 => ?_) (fun c_11_1 => ?_)
    · rw [if_pos c_11_1] at hg
      exact kx (v.1, v.2) (by rw [lX6_underStools_4, if_pos c_11_1]) ls (lv_sub hl [0, 1, 2] rfl)
    · rw [if_neg c_11_1] at hg
      refine lv_iload_n hx hb dX6_underStools_14 rfl (lv_at hl 1 rfl) ?_
      refine lv_aload_n hx hb dX6_underStools_15 rfl (lv_at hl 0 rfl) ?_
      refine lv_iload_n hx hb dX6_underStools_16 rfl (lv_at hl 2 rfl) ?_
      refine lv_iconst (v := 4) hx hb dX6_underStools_17 (by decide) ?_
      obtain ⟨o2, hg⟩ := hg
      refine fRV (As := [.int v.2, .int 4]) (rest := [.int v.1]) (st' := [.int (fX6_of S v.2 4), .int v.1]) ⟨hx, hb, hml, hown, hts⟩ (kX6_of l D cI cC cT h a1 a2 a3 a4 a5 a6 a7 a8 S v.2 4 o2) (cwV 2 hts gX6_underStools_X6_of rfl rfl rfl (by decide +kernel) ⟨Nat.le_of_ble_eq_true rfl, Nat.le_of_ble_eq_true rfl⟩) hP hK [0, 1, 2, 3, 4, 5, 6, 7, 8] rfl 0 (ci := 7) rfl rfl rfl rfl hl.1 rfl rfl (Nat.le_of_ble_eq_true rfl) ⟨Nat.zero_le _, Nat.zero_le _⟩ dX6_underStools_18 ?_
      refine lv_iadd hx hb dX6_underStools_21 ?_
      refine lv_istore_n (lv' := [(1, .int (v.1 + (fX6_of S v.2 4))), (0, .ref h), (2, .int v.2)]) hx hb dX6_underStools_22 rfl hl (by decide) rfl (fun ls hl => ?_)
      refine lv_iinc (v := (v.2 + 1)) (lv' := [(2, .int (v.2 + 1)), (1, .int (v.1 + (fX6_of S v.2 4))), (0, .ref h)]) hx hb dX6_underStools_23 hl (k := 2) rfl rfl (by decide) rfl (fun ls hl => ?_)
      refine lv_goto (tgt := 4) hx hb dX6_underStools_26 (by decide) ?_
      exact kb ((v.1 + (fX6_of S v.2 4)), (v.2 + 1)) (by rw [lX6_underStools_4, if_neg c_11_1]) ls (lv_sub hl [2, 1, 0] rfl)
  · intro ls hl
    refine lv_iload_n hx hb dX6_underStools_29 rfl (lv_at hl 1 rfl) ?_
    exact rRi hx hb hr hlk hQ (by rw [fX6_underStools, ← en1]) rfl dX6_underStools_30
def fX6_coin (S : SV) (x1 : Int32) : (Int32 × SV) := (if (fX6_isStool S x1) = 0 then (0, (fX6_fails S 1).2) else (if ((fX6_fails S 0).2.1 (2 : Int32).toNatClampNeg) = 0 then ((fX6_refuses (fX6_fails S 0).2 2 5 (fX6_underStools (fX6_fails S 0).2)).1, (fX6_refuses (fX6_fails S 0).2 2 5 (fX6_underStools (fX6_fails S 0).2)).2) else (if (fX6_of (fX6_fails S 0).2 x1 2) = 0 then ((fX6_refuses (fX6_fails S 0).2 2 6 (fX6_of (fX6_fails S 0).2 x1 4)).1, (fX6_refuses (fX6_fails S 0).2 2 6 (fX6_of (fX6_fails S 0).2 x1 4)).2) else ((fX6_of (fX6_lays (fX6_lays (sS0 (upd (fX6_keeps_g (fX6_fails S 0).2).1 (2 : Int32).toNatClampNeg (((fX6_keeps_g (fX6_fails S 0).2).1 (2 : Int32).toNatClampNeg) - 1)) (fX6_keeps_g (fX6_fails S 0).2)) x1 4 ((fX6_of (sS0 (upd (fX6_keeps_g (fX6_fails S 0).2).1 (2 : Int32).toNatClampNeg (((fX6_keeps_g (fX6_fails S 0).2).1 (2 : Int32).toNatClampNeg) - 1)) (fX6_keeps_g (fX6_fails S 0).2)) x1 4) + 1)) x1 2 ((fX6_of (fX6_lays (sS0 (upd (fX6_keeps_g (fX6_fails S 0).2).1 (2 : Int32).toNatClampNeg (((fX6_keeps_g (fX6_fails S 0).2).1 (2 : Int32).toNatClampNeg) - 1)) (fX6_keeps_g (fX6_fails S 0).2)) x1 4 ((fX6_of (sS0 (upd (fX6_keeps_g (fX6_fails S 0).2).1 (2 : Int32).toNatClampNeg (((fX6_keeps_g (fX6_fails S 0).2).1 (2 : Int32).toNatClampNeg) - 1)) (fX6_keeps_g (fX6_fails S 0).2)) x1 4) + 1)) x1 2) - 1)) x1 2), (fX6_lays (fX6_lays (sS0 (upd (fX6_keeps_g (fX6_fails S 0).2).1 (2 : Int32).toNatClampNeg (((fX6_keeps_g (fX6_fails S 0).2).1 (2 : Int32).toNatClampNeg) - 1)) (fX6_keeps_g (fX6_fails S 0).2)) x1 4 ((fX6_of (sS0 (upd (fX6_keeps_g (fX6_fails S 0).2).1 (2 : Int32).toNatClampNeg (((fX6_keeps_g (fX6_fails S 0).2).1 (2 : Int32).toNatClampNeg) - 1)) (fX6_keeps_g (fX6_fails S 0).2)) x1 4) + 1)) x1 2 ((fX6_of (fX6_lays (sS0 (upd (fX6_keeps_g (fX6_fails S 0).2).1 (2 : Int32).toNatClampNeg (((fX6_keeps_g (fX6_fails S 0).2).1 (2 : Int32).toNatClampNeg) - 1)) (fX6_keeps_g (fX6_fails S 0).2)) x1 4 ((fX6_of (sS0 (upd (fX6_keeps_g (fX6_fails S 0).2).1 (2 : Int32).toNatClampNeg (((fX6_keeps_g (fX6_fails S 0).2).1 (2 : Int32).toNatClampNeg) - 1)) (fX6_keeps_g (fX6_fails S 0).2)) x1 4) + 1)) x1 2) - 1))))))
def gX6_coin (S : SV) (x1 : Int32) : Prop := ((gX6_isStool S x1) ∧ (if (fX6_isStool S x1) = 0 then True else ((vp_in 2 114) ∧ (if ((fX6_fails S 0).2.1 (2 : Int32).toNatClampNeg) = 0 then ((gX6_underStools (fX6_fails S 0).2) ∧ True) else ((gX6_of (fX6_fails S 0).2 x1 2) ∧ (if (fX6_of (fX6_fails S 0).2 x1 2) = 0 then ((gX6_of (fX6_fails S 0).2 x1 4) ∧ True) else ((gX6_keeps_g (fX6_fails S 0).2) ∧ (vp_in 2 114) ∧ (vp_in 2 114) ∧ (gX6_of (sS0 (upd (fX6_keeps_g (fX6_fails S 0).2).1 (2 : Int32).toNatClampNeg (((fX6_keeps_g (fX6_fails S 0).2).1 (2 : Int32).toNatClampNeg) - 1)) (fX6_keeps_g (fX6_fails S 0).2)) x1 4) ∧ (gX6_lays (sS0 (upd (fX6_keeps_g (fX6_fails S 0).2).1 (2 : Int32).toNatClampNeg (((fX6_keeps_g (fX6_fails S 0).2).1 (2 : Int32).toNatClampNeg) - 1)) (fX6_keeps_g (fX6_fails S 0).2)) x1 4 ((fX6_of (sS0 (upd (fX6_keeps_g (fX6_fails S 0).2).1 (2 : Int32).toNatClampNeg (((fX6_keeps_g (fX6_fails S 0).2).1 (2 : Int32).toNatClampNeg) - 1)) (fX6_keeps_g (fX6_fails S 0).2)) x1 4) + 1)) ∧ (gX6_of (fX6_lays (sS0 (upd (fX6_keeps_g (fX6_fails S 0).2).1 (2 : Int32).toNatClampNeg (((fX6_keeps_g (fX6_fails S 0).2).1 (2 : Int32).toNatClampNeg) - 1)) (fX6_keeps_g (fX6_fails S 0).2)) x1 4 ((fX6_of (sS0 (upd (fX6_keeps_g (fX6_fails S 0).2).1 (2 : Int32).toNatClampNeg (((fX6_keeps_g (fX6_fails S 0).2).1 (2 : Int32).toNatClampNeg) - 1)) (fX6_keeps_g (fX6_fails S 0).2)) x1 4) + 1)) x1 2) ∧ (gX6_lays (fX6_lays (sS0 (upd (fX6_keeps_g (fX6_fails S 0).2).1 (2 : Int32).toNatClampNeg (((fX6_keeps_g (fX6_fails S 0).2).1 (2 : Int32).toNatClampNeg) - 1)) (fX6_keeps_g (fX6_fails S 0).2)) x1 4 ((fX6_of (sS0 (upd (fX6_keeps_g (fX6_fails S 0).2).1 (2 : Int32).toNatClampNeg (((fX6_keeps_g (fX6_fails S 0).2).1 (2 : Int32).toNatClampNeg) - 1)) (fX6_keeps_g (fX6_fails S 0).2)) x1 4) + 1)) x1 2 ((fX6_of (fX6_lays (sS0 (upd (fX6_keeps_g (fX6_fails S 0).2).1 (2 : Int32).toNatClampNeg (((fX6_keeps_g (fX6_fails S 0).2).1 (2 : Int32).toNatClampNeg) - 1)) (fX6_keeps_g (fX6_fails S 0).2)) x1 4 ((fX6_of (sS0 (upd (fX6_keeps_g (fX6_fails S 0).2).1 (2 : Int32).toNatClampNeg (((fX6_keeps_g (fX6_fails S 0).2).1 (2 : Int32).toNatClampNeg) - 1)) (fX6_keeps_g (fX6_fails S 0).2)) x1 4) + 1)) x1 2) - 1)) ∧ (gX6_of (fX6_lays (fX6_lays (sS0 (upd (fX6_keeps_g (fX6_fails S 0).2).1 (2 : Int32).toNatClampNeg (((fX6_keeps_g (fX6_fails S 0).2).1 (2 : Int32).toNatClampNeg) - 1)) (fX6_keeps_g (fX6_fails S 0).2)) x1 4 ((fX6_of (sS0 (upd (fX6_keeps_g (fX6_fails S 0).2).1 (2 : Int32).toNatClampNeg (((fX6_keeps_g (fX6_fails S 0).2).1 (2 : Int32).toNatClampNeg) - 1)) (fX6_keeps_g (fX6_fails S 0).2)) x1 4) + 1)) x1 2 ((fX6_of (fX6_lays (sS0 (upd (fX6_keeps_g (fX6_fails S 0).2).1 (2 : Int32).toNatClampNeg (((fX6_keeps_g (fX6_fails S 0).2).1 (2 : Int32).toNatClampNeg) - 1)) (fX6_keeps_g (fX6_fails S 0).2)) x1 4 ((fX6_of (sS0 (upd (fX6_keeps_g (fX6_fails S 0).2).1 (2 : Int32).toNatClampNeg (((fX6_keeps_g (fX6_fails S 0).2).1 (2 : Int32).toNatClampNeg) - 1)) (fX6_keeps_g (fX6_fails S 0).2)) x1 4) + 1)) x1 2) - 1)) x1 2) ∧ True)))))))
abbrev rmX6_coin : Room := { frames := 2, cells := 0, slots := 0, locals := 46 }
set_option maxHeartbeats 4000000 in
set_option maxRecDepth 100000 in
theorem kX6_coin (l : Launch) (D : va_G) (cI cC cT : ClassId) (h a1 a2 a3 a4 a5 a6 a7 a8 : Nat) (S : SV) (x1 : Int32) (hg : gX6_coin S x1) : mU l D (TY cI cC cT) yX6_coin wsX6_coin rmX6_coin [.ref h, .int x1] (w6 cI cC h a1 a2 a3 a4 a5 a6 a7 a8 S) (some (.int (fX6_coin S x1).1)) (w6 cI cC h a1 a2 a3 a4 a5 a6 a7 a8 (fX6_coin S x1).2) := by
  refine mU.ofW (cc := cX6_coin) (maxL := 2) (ret := (some .int)) (by decide) rfl (Nat.le_of_ble_eq_true rfl) ?_
  intro p e s m args below meth c Q ls A hx hb hml hr hlk hts hown hP hK hD hS hl hQ
  have hown : s.vm.findClass RX6 = some m.cls := hown
  have hP : va_P D vwCl (w6 cI cC h a1 a2 a3 a4 a5 a6 a7 a8 S) s.heap := hP
  have hD : va_D A (w6 cI cC h a1 a2 a3 a4 a5 a6 a7 a8 S) := hD
  have hl : lv_has ls 2 [(0, .ref h), (1, .int x1)] := hl
  have q0 := hts (Cond.fieldLink RX6 7 "TavernStoolsModel" "g" "[I") (by decide +kernel)
  have q1 : ∀ w ∈ u_ws RX6 TX6 20, w ∈ wsX6_coin := by decide +kernel
  unfold gX6_coin at hg
  generalize hHe : s.heap = H at hP ⊢
  have hS : va_S A s.heap H [] := hHe ▸ hS
  generalize hLe : ([] : List Loc) = locs at hS ⊢
  refine lv_aload_n hx hb dX6_coin_0 rfl (lv_at hl 0 rfl) ?_
  refine lv_aload_n hx hb dX6_coin_1 rfl (lv_at hl 0 rfl) ?_
  refine lv_iload_n hx hb dX6_coin_2 rfl (lv_at hl 1 rfl) ?_
  obtain ⟨o1, hg⟩ := hg
  refine fRV (As := [.int x1]) (rest := [.ref h]) (st' := [.int (fX6_isStool S x1), .ref h]) ⟨hx, hb, hml, hown, hts⟩ (kX6_isStool l D cI cC cT h a1 a2 a3 a4 a5 a6 a7 a8 S x1 o1) (cwV 1 hts gX6_coin_X6_isStool rfl rfl rfl (by decide +kernel) ⟨Nat.le_of_ble_eq_true rfl, Nat.le_of_ble_eq_true rfl⟩) hP hK [0, 1, 2, 3, 4, 5, 6, 7, 8] rfl 0 (ci := 7) rfl rfl rfl rfl hl.1 rfl rfl (Nat.le_of_ble_eq_true rfl) ⟨Nat.zero_le _, Nat.zero_le _⟩ dX6_coin_3 ?_
  refine lv_if_eq (tgt := 13) hx hb dX6_coin_6 (by decide) (fun c_6_1 => ?_) (fun c_6_1 => ?_)
  · rw [if_pos c_6_1] at hg
    refine lv_iconst (v := 1) hx hb dX6_coin_13 (by decide) ?_
    obtain ⟨n1, en1⟩ : ∃ z9, z9 = (fX6_fails S 1) := ⟨_, rfl⟩
    try rw [← en1] at hg
    have k9 := (kX6_fails l D cI cC cT h a1 a2 a3 a4 a5 a6 a7 a8 S 1)
    rw [← en1] at k9
    refine fUV (As := [.int 1]) (rest := []) (st' := [.int n1.1]) ⟨hx, hb, hml, hown, hts⟩ k9 (cwV 1 hts gX6_coin_X6_fails rfl rfl rfl (by decide +kernel) ⟨Nat.le_of_ble_eq_true rfl, Nat.le_of_ble_eq_true rfl⟩) hP hK hD hS [0, 1, 2, 3, 4, 5, 6, 7, 8] rfl rfl (by decide) rfl (w6 cI cC h a1 a2 a3 a4 a5 a6 a7 a8 n1.2) rfl rfl 0 (ci := 7) rfl rfl rfl rfl hl.1 rfl rfl (Nat.le_of_ble_eq_true rfl) ⟨Nat.zero_le _, Nat.zero_le _⟩ dX6_coin_14 (fun H locs hP hD hS => ?_)
    refine lv_if_eq (tgt := 22) hx hb dX6_coin_17 (by decide) (fun c_17 => absurd c_17 (by rw [en1, fails_1]; decide)) (fun c_17 => ?_)
    refine lv_iconst (v := 0) hx hb dX6_coin_20 (by decide) ?_
    have e9 : fX6_coin S x1 = (0, n1.2) := by rw [fX6_coin, if_pos c_6_1, ← en1]
    exact rUi hx hb hr hlk hQ hP hS (by rw [e9]) (congrArg (fun z9 : (Int32 × SV) => (w6 cI cC h a1 a2 a3 a4 a5 a6 a7 a8 z9.2 : va_W)) e9).symm rfl dX6_coin_21
  · rw [if_neg c_6_1] at hg
    refine lv_iconst (v := 0) hx hb dX6_coin_9 (by decide) ?_
    refine lv_goto (tgt := 14) hx hb dX6_coin_10 (by decide) ?_
    obtain ⟨n2, en2⟩ : ∃ z9, z9 = (fX6_fails S 0) := ⟨_, rfl⟩
    try rw [← en2] at hg
    have k9 := (kX6_fails l D cI cC cT h a1 a2 a3 a4 a5 a6 a7 a8 S 0)
    rw [← en2] at k9
    refine fUV (As := [.int 0]) (rest := []) (st' := [.int n2.1]) ⟨hx, hb, hml, hown, hts⟩ k9 (cwV 1 hts gX6_coin_X6_fails rfl rfl rfl (by decide +kernel) ⟨Nat.le_of_ble_eq_true rfl, Nat.le_of_ble_eq_true rfl⟩) hP hK hD hS [0, 1, 2, 3, 4, 5, 6, 7, 8] rfl rfl (by decide) rfl (w6 cI cC h a1 a2 a3 a4 a5 a6 a7 a8 n2.2) rfl rfl 0 (ci := 7) rfl rfl rfl rfl hl.1 rfl rfl (Nat.le_of_ble_eq_true rfl) ⟨Nat.zero_le _, Nat.zero_le _⟩ dX6_coin_14 (fun H locs hP hD hS => ?_)
    refine lv_if_eq (tgt := 22) hx hb dX6_coin_17 (by decide) (fun c_17 => ?_) (fun c_17 => absurd (by rw [en2]; exact fails_0 _) c_17)
    refine lv_aload_n hx hb dX6_coin_22 rfl (lv_at hl 0 rfl) ?_
    refine va_get (D := D) (ci := 7) (v := .ref a1) (C := RX6) (T := TX6) (N := 20) hx hb hts q1 hown hK hP 0 rfl rfl 0 (by decide) q0 (fun _ h9 => h9) rfl dX6_coin_23 ?_
    refine lv_iconst (v := 2) hx hb dX6_coin_26 (by decide) ?_
    obtain ⟨o2, hg⟩ := hg
    refine va_iald hx hb hK hP 1 0 rfl rfl o2 dX6_coin_27 ?_
    refine lv_if_ne (tgt := 42) hx hb dX6_coin_28 (by decide) (fun c_28_2 => ?_) (fun c_28_2 => ?_)
    · rw [if_neg c_28_2] at hg
      refine lv_aload_n hx hb dX6_coin_42 rfl (lv_at hl 0 rfl) ?_
      refine lv_iload_n hx hb dX6_coin_43 rfl (lv_at hl 1 rfl) ?_
      refine lv_iconst (v := 2) hx hb dX6_coin_44 (by decide) ?_
      obtain ⟨o3, hg⟩ := hg
      refine fRV (As := [.int x1, .int 2]) (rest := []) (st' := [.int (fX6_of n2.2 x1 2)]) ⟨hx, hb, hml, hown, hts⟩ (kX6_of l D cI cC cT h a1 a2 a3 a4 a5 a6 a7 a8 n2.2 x1 2 o3) (cwV 2 hts gX6_coin_X6_of rfl rfl rfl (by decide +kernel) ⟨Nat.le_of_ble_eq_true rfl, Nat.le_of_ble_eq_true rfl⟩) hP hK [0, 1, 2, 3, 4, 5, 6, 7, 8] rfl 0 (ci := 7) rfl rfl rfl rfl hl.1 rfl rfl (Nat.le_of_ble_eq_true rfl) ⟨Nat.zero_le _, Nat.zero_le _⟩ dX6_coin_45 ?_
      refine lv_if_ne (tgt := 65) hx hb dX6_coin_48 (by decide) (fun c_48_3 => ?_) (fun c_48_3 => ?_)
      · rw [if_neg c_48_3] at hg
        refine lv_aload_n hx hb dX6_coin_65 rfl (lv_at hl 0 rfl) ?_
        refine lv_aload_n hx hb dX6_coin_66 rfl (lv_at hl 0 rfl) ?_
        refine va_get (D := D) (ci := 7) (v := .ref a1) (C := RX6) (T := TX6) (N := 20) hx hb hts q1 hown hK hP 0 rfl rfl 0 (by decide) q0 (fun _ h9 => h9) rfl dX6_coin_67 ?_
        obtain ⟨n3, en3⟩ : ∃ z9, z9 = (fX6_keeps_g n2.2) := ⟨_, rfl⟩
        try rw [← en3] at hg
        obtain ⟨o4, hg⟩ := hg
        have k9 := (kX6_keeps_g l D cI cC cT h a1 a2 a3 a4 a5 a6 a7 a8 n2.2 o4)
        rw [← en3] at k9
        refine fUV (As := [.ref a1]) (rest := []) (st' := []) ⟨hx, hb, hml, hown, hts⟩ k9 (cwV 1 hts gX6_coin_X6_keeps rfl rfl rfl (by decide +kernel) ⟨Nat.le_of_ble_eq_true rfl, Nat.le_of_ble_eq_true rfl⟩) hP hK hD hS [0, 1, 2, 3, 4, 5, 6, 7, 8] rfl rfl (by decide) rfl (w6 cI cC h a1 a2 a3 a4 a5 a6 a7 a8 n3) rfl rfl 0 (ci := 7) rfl rfl rfl rfl hl.1 rfl rfl (Nat.le_of_ble_eq_true rfl) ⟨Nat.zero_le _, Nat.zero_le _⟩ dX6_coin_70 (fun H locs hP hD hS => ?_)
        refine lv_aload_n hx hb dX6_coin_73 rfl (lv_at hl 0 rfl) ?_
        refine va_get (D := D) (ci := 7) (v := .ref a1) (C := RX6) (T := TX6) (N := 20) hx hb hts q1 hown hK hP 0 rfl rfl 0 (by decide) q0 (fun _ h9 => h9) rfl dX6_coin_74 ?_
        refine lv_iconst (v := 2) hx hb dX6_coin_77 (by decide) ?_
        refine lv_dup2_11 hx hb dX6_coin_78 rfl rfl ?_
        obtain ⟨o5, hg⟩ := hg
        refine va_iald hx hb hK hP 1 0 rfl rfl o5 dX6_coin_79 ?_
        refine lv_iconst (v := 1) hx hb dX6_coin_80 (by decide) ?_
        refine lv_isub hx hb dX6_coin_81 ?_
        obtain ⟨o6, hg⟩ := hg
        refine va_iast hx hb hK hP hD hS 1 0 rfl rfl o6 dX6_coin_82 (fun H locs hP hD hS => ?_)
        have hP : va_P D vwCl (w6 cI cC h a1 a2 a3 a4 a5 a6 a7 a8 (sS0 (upd n3.1 (2 : Int32).toNatClampNeg ((n3.1 (2 : Int32).toNatClampNeg) - 1)) n3)) H := w6p_0 hP
        have hD : va_D A (w6 cI cC h a1 a2 a3 a4 a5 a6 a7 a8 (sS0 (upd n3.1 (2 : Int32).toNatClampNeg ((n3.1 (2 : Int32).toNatClampNeg) - 1)) n3)) := w6d_0 hD
        refine lv_aload_n hx hb dX6_coin_83 rfl (lv_at hl 0 rfl) ?_
        refine lv_iload_n hx hb dX6_coin_84 rfl (lv_at hl 1 rfl) ?_
        refine lv_iconst (v := 4) hx hb dX6_coin_85 (by decide) ?_
        refine lv_aload_n hx hb dX6_coin_86 rfl (lv_at hl 0 rfl) ?_
        refine lv_iload_n hx hb dX6_coin_87 rfl (lv_at hl 1 rfl) ?_
        refine lv_iconst (v := 4) hx hb dX6_coin_88 (by decide) ?_
        obtain ⟨o7, hg⟩ := hg
        refine fRV (As := [.int x1, .int 4]) (rest := [.int 4, .int x1, .ref h]) (st' := [.int (fX6_of (sS0 (upd n3.1 (2 : Int32).toNatClampNeg ((n3.1 (2 : Int32).toNatClampNeg) - 1)) n3) x1 4), .int 4, .int x1, .ref h]) ⟨hx, hb, hml, hown, hts⟩ (kX6_of l D cI cC cT h a1 a2 a3 a4 a5 a6 a7 a8 (sS0 (upd n3.1 (2 : Int32).toNatClampNeg ((n3.1 (2 : Int32).toNatClampNeg) - 1)) n3) x1 4 o7) (cwV 2 hts gX6_coin_X6_of rfl rfl rfl (by decide +kernel) ⟨Nat.le_of_ble_eq_true rfl, Nat.le_of_ble_eq_true rfl⟩) hP hK [0, 1, 2, 3, 4, 5, 6, 7, 8] rfl 0 (ci := 7) rfl rfl rfl rfl hl.1 rfl rfl (Nat.le_of_ble_eq_true rfl) ⟨Nat.zero_le _, Nat.zero_le _⟩ dX6_coin_89 ?_
        refine lv_iconst (v := 1) hx hb dX6_coin_92 (by decide) ?_
        refine lv_iadd hx hb dX6_coin_93 ?_
        obtain ⟨n4, en4⟩ : ∃ z9, z9 = (fX6_lays (sS0 (upd n3.1 (2 : Int32).toNatClampNeg ((n3.1 (2 : Int32).toNatClampNeg) - 1)) n3) x1 4 ((fX6_of (sS0 (upd n3.1 (2 : Int32).toNatClampNeg ((n3.1 (2 : Int32).toNatClampNeg) - 1)) n3) x1 4) + 1)) := ⟨_, rfl⟩
        try rw [← en4] at hg
        obtain ⟨o8, hg⟩ := hg
        have k9 := (kX6_lays l D cI cC cT h a1 a2 a3 a4 a5 a6 a7 a8 (sS0 (upd n3.1 (2 : Int32).toNatClampNeg ((n3.1 (2 : Int32).toNatClampNeg) - 1)) n3) x1 4 ((fX6_of (sS0 (upd n3.1 (2 : Int32).toNatClampNeg ((n3.1 (2 : Int32).toNatClampNeg) - 1)) n3) x1 4) + 1) o8)
        rw [← en4] at k9
        refine fUV (As := [.int x1, .int 4, .int ((fX6_of (sS0 (upd n3.1 (2 : Int32).toNatClampNeg ((n3.1 (2 : Int32).toNatClampNeg) - 1)) n3) x1 4) + 1)]) (rest := []) (st' := []) ⟨hx, hb, hml, hown, hts⟩ k9 (cwV 3 hts gX6_coin_X6_lays rfl rfl rfl (by decide +kernel) ⟨Nat.le_of_ble_eq_true rfl, Nat.le_of_ble_eq_true rfl⟩) hP hK hD hS [0, 1, 2, 3, 4, 5, 6, 7, 8] rfl rfl (by decide) rfl (w6 cI cC h a1 a2 a3 a4 a5 a6 a7 a8 n4) rfl rfl 0 (ci := 7) rfl rfl rfl rfl hl.1 rfl rfl (Nat.le_of_ble_eq_true rfl) ⟨Nat.zero_le _, Nat.zero_le _⟩ dX6_coin_94 (fun H locs hP hD hS => ?_)
        refine lv_aload_n hx hb dX6_coin_97 rfl (lv_at hl 0 rfl) ?_
        refine lv_iload_n hx hb dX6_coin_98 rfl (lv_at hl 1 rfl) ?_
        refine lv_iconst (v := 2) hx hb dX6_coin_99 (by decide) ?_
        refine lv_aload_n hx hb dX6_coin_100 rfl (lv_at hl 0 rfl) ?_
        refine lv_iload_n hx hb dX6_coin_101 rfl (lv_at hl 1 rfl) ?_
        refine lv_iconst (v := 2) hx hb dX6_coin_102 (by decide) ?_
        obtain ⟨o9, hg⟩ := hg
        refine fRV (As := [.int x1, .int 2]) (rest := [.int 2, .int x1, .ref h]) (st' := [.int (fX6_of n4 x1 2), .int 2, .int x1, .ref h]) ⟨hx, hb, hml, hown, hts⟩ (kX6_of l D cI cC cT h a1 a2 a3 a4 a5 a6 a7 a8 n4 x1 2 o9) (cwV 2 hts gX6_coin_X6_of rfl rfl rfl (by decide +kernel) ⟨Nat.le_of_ble_eq_true rfl, Nat.le_of_ble_eq_true rfl⟩) hP hK [0, 1, 2, 3, 4, 5, 6, 7, 8] rfl 0 (ci := 7) rfl rfl rfl rfl hl.1 rfl rfl (Nat.le_of_ble_eq_true rfl) ⟨Nat.zero_le _, Nat.zero_le _⟩ dX6_coin_103 ?_
        refine lv_iconst (v := 1) hx hb dX6_coin_106 (by decide) ?_
        refine lv_isub hx hb dX6_coin_107 ?_
        obtain ⟨n5, en5⟩ : ∃ z9, z9 = (fX6_lays n4 x1 2 ((fX6_of n4 x1 2) - 1)) := ⟨_, rfl⟩
        try rw [← en5] at hg
        obtain ⟨o10, hg⟩ := hg
        have k9 := (kX6_lays l D cI cC cT h a1 a2 a3 a4 a5 a6 a7 a8 n4 x1 2 ((fX6_of n4 x1 2) - 1) o10)
        rw [← en5] at k9
        refine fUV (As := [.int x1, .int 2, .int ((fX6_of n4 x1 2) - 1)]) (rest := []) (st' := []) ⟨hx, hb, hml, hown, hts⟩ k9 (cwV 3 hts gX6_coin_X6_lays rfl rfl rfl (by decide +kernel) ⟨Nat.le_of_ble_eq_true rfl, Nat.le_of_ble_eq_true rfl⟩) hP hK hD hS [0, 1, 2, 3, 4, 5, 6, 7, 8] rfl rfl (by decide) rfl (w6 cI cC h a1 a2 a3 a4 a5 a6 a7 a8 n5) rfl rfl 0 (ci := 7) rfl rfl rfl rfl hl.1 rfl rfl (Nat.le_of_ble_eq_true rfl) ⟨Nat.zero_le _, Nat.zero_le _⟩ dX6_coin_108 (fun H locs hP hD hS => ?_)
        refine lv_aload_n hx hb dX6_coin_111 rfl (lv_at hl 0 rfl) ?_
        refine lv_iload_n hx hb dX6_coin_112 rfl (lv_at hl 1 rfl) ?_
        refine lv_iconst (v := 2) hx hb dX6_coin_113 (by decide) ?_
        obtain ⟨o11, hg⟩ := hg
        refine fRV (As := [.int x1, .int 2]) (rest := []) (st' := [.int (fX6_of n5 x1 2)]) ⟨hx, hb, hml, hown, hts⟩ (kX6_of l D cI cC cT h a1 a2 a3 a4 a5 a6 a7 a8 n5 x1 2 o11) (cwV 2 hts gX6_coin_X6_of rfl rfl rfl (by decide +kernel) ⟨Nat.le_of_ble_eq_true rfl, Nat.le_of_ble_eq_true rfl⟩) hP hK [0, 1, 2, 3, 4, 5, 6, 7, 8] rfl 0 (ci := 7) rfl rfl rfl rfl hl.1 rfl rfl (Nat.le_of_ble_eq_true rfl) ⟨Nat.zero_le _, Nat.zero_le _⟩ dX6_coin_114 ?_
        have e9 : fX6_coin S x1 = ((fX6_of n5 x1 2), n5) := by rw [fX6_coin, if_neg c_6_1, ← en2, if_neg c_28_2, if_neg c_48_3, ← en3, ← en4, ← en5]
        exact rUi hx hb hr hlk hQ hP hS (by rw [e9]) (congrArg (fun z9 : (Int32 × SV) => (w6 cI cC h a1 a2 a3 a4 a5 a6 a7 a8 z9.2 : va_W)) e9).symm rfl dX6_coin_117
      · rw [if_pos c_48_3] at hg
        refine lv_aload_n hx hb dX6_coin_51 rfl (lv_at hl 0 rfl) ?_
        refine lv_iconst (v := 2) hx hb dX6_coin_52 (by decide) ?_
        refine lv_bipush (v := 6) hx hb dX6_coin_53 (by decide) ?_
        refine lv_aload_n hx hb dX6_coin_55 rfl (lv_at hl 0 rfl) ?_
        refine lv_iload_n hx hb dX6_coin_56 rfl (lv_at hl 1 rfl) ?_
        refine lv_iconst (v := 4) hx hb dX6_coin_57 (by decide) ?_
        obtain ⟨o12, hg⟩ := hg
        refine fRV (As := [.int x1, .int 4]) (rest := [.int 6, .int 2, .ref h]) (st' := [.int (fX6_of n2.2 x1 4), .int 6, .int 2, .ref h]) ⟨hx, hb, hml, hown, hts⟩ (kX6_of l D cI cC cT h a1 a2 a3 a4 a5 a6 a7 a8 n2.2 x1 4 o12) (cwV 2 hts gX6_coin_X6_of rfl rfl rfl (by decide +kernel) ⟨Nat.le_of_ble_eq_true rfl, Nat.le_of_ble_eq_true rfl⟩) hP hK [0, 1, 2, 3, 4, 5, 6, 7, 8] rfl 0 (ci := 7) rfl rfl rfl rfl hl.1 rfl rfl (Nat.le_of_ble_eq_true rfl) ⟨Nat.zero_le _, Nat.zero_le _⟩ dX6_coin_58 ?_
        obtain ⟨n6, en6⟩ : ∃ z9, z9 = (fX6_refuses n2.2 2 6 (fX6_of n2.2 x1 4)) := ⟨_, rfl⟩
        try rw [← en6] at hg
        have k9 := (kX6_refuses l D cI cC cT h a1 a2 a3 a4 a5 a6 a7 a8 n2.2 2 6 (fX6_of n2.2 x1 4))
        rw [← en6] at k9
        refine fUV (As := [.int 2, .int 6, .int (fX6_of n2.2 x1 4)]) (rest := []) (st' := [.int n6.1]) ⟨hx, hb, hml, hown, hts⟩ k9 (cwV 3 hts gX6_coin_X6_refuses rfl rfl rfl (by decide +kernel) ⟨Nat.le_of_ble_eq_true rfl, Nat.le_of_ble_eq_true rfl⟩) hP hK hD hS [0, 1, 2, 3, 4, 5, 6, 7, 8] rfl rfl (by decide) rfl (w6 cI cC h a1 a2 a3 a4 a5 a6 a7 a8 n6.2) rfl rfl 0 (ci := 7) rfl rfl rfl rfl hl.1 rfl rfl (Nat.le_of_ble_eq_true rfl) ⟨Nat.zero_le _, Nat.zero_le _⟩ dX6_coin_61 (fun H locs hP hD hS => ?_)
        have e9 : fX6_coin S x1 = (n6.1, n6.2) := by rw [fX6_coin, if_neg c_6_1, ← en2, if_neg c_28_2, if_pos c_48_3, ← en6]
        exact rUi hx hb hr hlk hQ hP hS (by rw [e9]) (congrArg (fun z9 : (Int32 × SV) => (w6 cI cC h a1 a2 a3 a4 a5 a6 a7 a8 z9.2 : va_W)) e9).symm rfl dX6_coin_64
    · rw [if_pos c_28_2] at hg
      refine lv_aload_n hx hb dX6_coin_31 rfl (lv_at hl 0 rfl) ?_
      refine lv_iconst (v := 2) hx hb dX6_coin_32 (by decide) ?_
      refine lv_iconst (v := 5) hx hb dX6_coin_33 (by decide) ?_
      refine lv_aload_n hx hb dX6_coin_34 rfl (lv_at hl 0 rfl) ?_
      obtain ⟨o13, hg⟩ := hg
      refine fRV (As := []) (rest := [.int 5, .int 2, .ref h]) (st' := [.int (fX6_underStools n2.2), .int 5, .int 2, .ref h]) ⟨hx, hb, hml, hown, hts⟩ (kX6_underStools l D cI cC cT h a1 a2 a3 a4 a5 a6 a7 a8 n2.2 o13) (cwV 0 hts gX6_coin_X6_underStools rfl rfl rfl (by decide +kernel) ⟨Nat.le_of_ble_eq_true rfl, Nat.le_of_ble_eq_true rfl⟩) hP hK [0, 1, 2, 3, 4, 5, 6, 7, 8] rfl 0 (ci := 7) rfl rfl rfl rfl hl.1 rfl rfl (Nat.le_of_ble_eq_true rfl) ⟨Nat.zero_le _, Nat.zero_le _⟩ dX6_coin_35 ?_
      obtain ⟨n7, en7⟩ : ∃ z9, z9 = (fX6_refuses n2.2 2 5 (fX6_underStools n2.2)) := ⟨_, rfl⟩
      try rw [← en7] at hg
      have k9 := (kX6_refuses l D cI cC cT h a1 a2 a3 a4 a5 a6 a7 a8 n2.2 2 5 (fX6_underStools n2.2))
      rw [← en7] at k9
      refine fUV (As := [.int 2, .int 5, .int (fX6_underStools n2.2)]) (rest := []) (st' := [.int n7.1]) ⟨hx, hb, hml, hown, hts⟩ k9 (cwV 3 hts gX6_coin_X6_refuses rfl rfl rfl (by decide +kernel) ⟨Nat.le_of_ble_eq_true rfl, Nat.le_of_ble_eq_true rfl⟩) hP hK hD hS [0, 1, 2, 3, 4, 5, 6, 7, 8] rfl rfl (by decide) rfl (w6 cI cC h a1 a2 a3 a4 a5 a6 a7 a8 n7.2) rfl rfl 0 (ci := 7) rfl rfl rfl rfl hl.1 rfl rfl (Nat.le_of_ble_eq_true rfl) ⟨Nat.zero_le _, Nat.zero_le _⟩ dX6_coin_38 (fun H locs hP hD hS => ?_)
      have e9 : fX6_coin S x1 = (n7.1, n7.2) := by rw [fX6_coin, if_neg c_6_1, ← en2, if_pos c_28_2, ← en7]
      exact rUi hx hb hr hlk hQ hP hS (by rw [e9]) (congrArg (fun z9 : (Int32 × SV) => (w6 cI cC h a1 a2 a3 a4 a5 a6 a7 a8 z9.2 : va_W)) e9).symm rfl dX6_coin_41
def fX6_takeCoin (S : SV) (x1 : Int32) : (Int32 × SV) := (if (fX6_isStool S x1) = 0 then (0, (fX6_fails S 1).2) else (if (fX6_of (fX6_fails S 0).2 x1 4) = 0 then ((fX6_refuses (fX6_fails S 0).2 2 7 (fX6_of (fX6_fails S 0).2 x1 2)).1, (fX6_refuses (fX6_fails S 0).2 2 7 (fX6_of (fX6_fails S 0).2 x1 2)).2) else ((fX6_of (fX6_lays (fX6_lays (sS0 (upd (fX6_keeps_g (fX6_fails S 0).2).1 (2 : Int32).toNatClampNeg (((fX6_keeps_g (fX6_fails S 0).2).1 (2 : Int32).toNatClampNeg) + 1)) (fX6_keeps_g (fX6_fails S 0).2)) x1 4 ((fX6_of (sS0 (upd (fX6_keeps_g (fX6_fails S 0).2).1 (2 : Int32).toNatClampNeg (((fX6_keeps_g (fX6_fails S 0).2).1 (2 : Int32).toNatClampNeg) + 1)) (fX6_keeps_g (fX6_fails S 0).2)) x1 4) - 1)) x1 2 (fX6_atMost ((fX6_of (fX6_lays (sS0 (upd (fX6_keeps_g (fX6_fails S 0).2).1 (2 : Int32).toNatClampNeg (((fX6_keeps_g (fX6_fails S 0).2).1 (2 : Int32).toNatClampNeg) + 1)) (fX6_keeps_g (fX6_fails S 0).2)) x1 4 ((fX6_of (sS0 (upd (fX6_keeps_g (fX6_fails S 0).2).1 (2 : Int32).toNatClampNeg (((fX6_keeps_g (fX6_fails S 0).2).1 (2 : Int32).toNatClampNeg) + 1)) (fX6_keeps_g (fX6_fails S 0).2)) x1 4) - 1)) x1 2) + 1) 9)) x1 2), (fX6_lays (fX6_lays (sS0 (upd (fX6_keeps_g (fX6_fails S 0).2).1 (2 : Int32).toNatClampNeg (((fX6_keeps_g (fX6_fails S 0).2).1 (2 : Int32).toNatClampNeg) + 1)) (fX6_keeps_g (fX6_fails S 0).2)) x1 4 ((fX6_of (sS0 (upd (fX6_keeps_g (fX6_fails S 0).2).1 (2 : Int32).toNatClampNeg (((fX6_keeps_g (fX6_fails S 0).2).1 (2 : Int32).toNatClampNeg) + 1)) (fX6_keeps_g (fX6_fails S 0).2)) x1 4) - 1)) x1 2 (fX6_atMost ((fX6_of (fX6_lays (sS0 (upd (fX6_keeps_g (fX6_fails S 0).2).1 (2 : Int32).toNatClampNeg (((fX6_keeps_g (fX6_fails S 0).2).1 (2 : Int32).toNatClampNeg) + 1)) (fX6_keeps_g (fX6_fails S 0).2)) x1 4 ((fX6_of (sS0 (upd (fX6_keeps_g (fX6_fails S 0).2).1 (2 : Int32).toNatClampNeg (((fX6_keeps_g (fX6_fails S 0).2).1 (2 : Int32).toNatClampNeg) + 1)) (fX6_keeps_g (fX6_fails S 0).2)) x1 4) - 1)) x1 2) + 1) 9)))))
def gX6_takeCoin (S : SV) (x1 : Int32) : Prop := ((gX6_isStool S x1) ∧ (if (fX6_isStool S x1) = 0 then True else ((gX6_of (fX6_fails S 0).2 x1 4) ∧ (if (fX6_of (fX6_fails S 0).2 x1 4) = 0 then ((gX6_of (fX6_fails S 0).2 x1 2) ∧ True) else ((gX6_keeps_g (fX6_fails S 0).2) ∧ (vp_in 2 114) ∧ (vp_in 2 114) ∧ (gX6_of (sS0 (upd (fX6_keeps_g (fX6_fails S 0).2).1 (2 : Int32).toNatClampNeg (((fX6_keeps_g (fX6_fails S 0).2).1 (2 : Int32).toNatClampNeg) + 1)) (fX6_keeps_g (fX6_fails S 0).2)) x1 4) ∧ (gX6_lays (sS0 (upd (fX6_keeps_g (fX6_fails S 0).2).1 (2 : Int32).toNatClampNeg (((fX6_keeps_g (fX6_fails S 0).2).1 (2 : Int32).toNatClampNeg) + 1)) (fX6_keeps_g (fX6_fails S 0).2)) x1 4 ((fX6_of (sS0 (upd (fX6_keeps_g (fX6_fails S 0).2).1 (2 : Int32).toNatClampNeg (((fX6_keeps_g (fX6_fails S 0).2).1 (2 : Int32).toNatClampNeg) + 1)) (fX6_keeps_g (fX6_fails S 0).2)) x1 4) - 1)) ∧ (gX6_of (fX6_lays (sS0 (upd (fX6_keeps_g (fX6_fails S 0).2).1 (2 : Int32).toNatClampNeg (((fX6_keeps_g (fX6_fails S 0).2).1 (2 : Int32).toNatClampNeg) + 1)) (fX6_keeps_g (fX6_fails S 0).2)) x1 4 ((fX6_of (sS0 (upd (fX6_keeps_g (fX6_fails S 0).2).1 (2 : Int32).toNatClampNeg (((fX6_keeps_g (fX6_fails S 0).2).1 (2 : Int32).toNatClampNeg) + 1)) (fX6_keeps_g (fX6_fails S 0).2)) x1 4) - 1)) x1 2) ∧ (gX6_lays (fX6_lays (sS0 (upd (fX6_keeps_g (fX6_fails S 0).2).1 (2 : Int32).toNatClampNeg (((fX6_keeps_g (fX6_fails S 0).2).1 (2 : Int32).toNatClampNeg) + 1)) (fX6_keeps_g (fX6_fails S 0).2)) x1 4 ((fX6_of (sS0 (upd (fX6_keeps_g (fX6_fails S 0).2).1 (2 : Int32).toNatClampNeg (((fX6_keeps_g (fX6_fails S 0).2).1 (2 : Int32).toNatClampNeg) + 1)) (fX6_keeps_g (fX6_fails S 0).2)) x1 4) - 1)) x1 2 (fX6_atMost ((fX6_of (fX6_lays (sS0 (upd (fX6_keeps_g (fX6_fails S 0).2).1 (2 : Int32).toNatClampNeg (((fX6_keeps_g (fX6_fails S 0).2).1 (2 : Int32).toNatClampNeg) + 1)) (fX6_keeps_g (fX6_fails S 0).2)) x1 4 ((fX6_of (sS0 (upd (fX6_keeps_g (fX6_fails S 0).2).1 (2 : Int32).toNatClampNeg (((fX6_keeps_g (fX6_fails S 0).2).1 (2 : Int32).toNatClampNeg) + 1)) (fX6_keeps_g (fX6_fails S 0).2)) x1 4) - 1)) x1 2) + 1) 9)) ∧ (gX6_of (fX6_lays (fX6_lays (sS0 (upd (fX6_keeps_g (fX6_fails S 0).2).1 (2 : Int32).toNatClampNeg (((fX6_keeps_g (fX6_fails S 0).2).1 (2 : Int32).toNatClampNeg) + 1)) (fX6_keeps_g (fX6_fails S 0).2)) x1 4 ((fX6_of (sS0 (upd (fX6_keeps_g (fX6_fails S 0).2).1 (2 : Int32).toNatClampNeg (((fX6_keeps_g (fX6_fails S 0).2).1 (2 : Int32).toNatClampNeg) + 1)) (fX6_keeps_g (fX6_fails S 0).2)) x1 4) - 1)) x1 2 (fX6_atMost ((fX6_of (fX6_lays (sS0 (upd (fX6_keeps_g (fX6_fails S 0).2).1 (2 : Int32).toNatClampNeg (((fX6_keeps_g (fX6_fails S 0).2).1 (2 : Int32).toNatClampNeg) + 1)) (fX6_keeps_g (fX6_fails S 0).2)) x1 4 ((fX6_of (sS0 (upd (fX6_keeps_g (fX6_fails S 0).2).1 (2 : Int32).toNatClampNeg (((fX6_keeps_g (fX6_fails S 0).2).1 (2 : Int32).toNatClampNeg) + 1)) (fX6_keeps_g (fX6_fails S 0).2)) x1 4) - 1)) x1 2) + 1) 9)) x1 2) ∧ True)))))
abbrev rmX6_takeCoin : Room := { frames := 2, cells := 0, slots := 0, locals := 46 }
set_option maxHeartbeats 4000000 in
set_option maxRecDepth 100000 in
theorem kX6_takeCoin (l : Launch) (D : va_G) (cI cC cT : ClassId) (h a1 a2 a3 a4 a5 a6 a7 a8 : Nat) (S : SV) (x1 : Int32) (hg : gX6_takeCoin S x1) : mU l D (TY cI cC cT) yX6_takeCoin wsX6_takeCoin rmX6_takeCoin [.ref h, .int x1] (w6 cI cC h a1 a2 a3 a4 a5 a6 a7 a8 S) (some (.int (fX6_takeCoin S x1).1)) (w6 cI cC h a1 a2 a3 a4 a5 a6 a7 a8 (fX6_takeCoin S x1).2) := by
  refine mU.ofW (cc := cX6_takeCoin) (maxL := 2) (ret := (some .int)) (by decide) rfl (Nat.le_of_ble_eq_true rfl) ?_
  intro p e s m args below meth c Q ls A hx hb hml hr hlk hts hown hP hK hD hS hl hQ
  have hown : s.vm.findClass RX6 = some m.cls := hown
  have hP : va_P D vwCl (w6 cI cC h a1 a2 a3 a4 a5 a6 a7 a8 S) s.heap := hP
  have hD : va_D A (w6 cI cC h a1 a2 a3 a4 a5 a6 a7 a8 S) := hD
  have hl : lv_has ls 2 [(0, .ref h), (1, .int x1)] := hl
  have q0 := hts (Cond.fieldLink RX6 7 "TavernStoolsModel" "g" "[I") (by decide +kernel)
  have q1 : ∀ w ∈ u_ws RX6 TX6 20, w ∈ wsX6_takeCoin := by decide +kernel
  unfold gX6_takeCoin at hg
  generalize hHe : s.heap = H at hP ⊢
  have hS : va_S A s.heap H [] := hHe ▸ hS
  generalize hLe : ([] : List Loc) = locs at hS ⊢
  refine lv_aload_n hx hb dX6_takeCoin_0 rfl (lv_at hl 0 rfl) ?_
  refine lv_aload_n hx hb dX6_takeCoin_1 rfl (lv_at hl 0 rfl) ?_
  refine lv_iload_n hx hb dX6_takeCoin_2 rfl (lv_at hl 1 rfl) ?_
  obtain ⟨o1, hg⟩ := hg
  refine fRV (As := [.int x1]) (rest := [.ref h]) (st' := [.int (fX6_isStool S x1), .ref h]) ⟨hx, hb, hml, hown, hts⟩ (kX6_isStool l D cI cC cT h a1 a2 a3 a4 a5 a6 a7 a8 S x1 o1) (cwV 1 hts gX6_takeCoin_X6_isStool rfl rfl rfl (by decide +kernel) ⟨Nat.le_of_ble_eq_true rfl, Nat.le_of_ble_eq_true rfl⟩) hP hK [0, 1, 2, 3, 4, 5, 6, 7, 8] rfl 0 (ci := 7) rfl rfl rfl rfl hl.1 rfl rfl (Nat.le_of_ble_eq_true rfl) ⟨Nat.zero_le _, Nat.zero_le _⟩ dX6_takeCoin_3 ?_
  refine lv_if_eq (tgt := 13) hx hb dX6_takeCoin_6 (by decide) (fun c_6_1 => ?_) (fun c_6_1 => ?_)
  · rw [if_pos c_6_1] at hg
    refine lv_iconst (v := 1) hx hb dX6_takeCoin_13 (by decide) ?_
    obtain ⟨n1, en1⟩ : ∃ z9, z9 = (fX6_fails S 1) := ⟨_, rfl⟩
    try rw [← en1] at hg
    have k9 := (kX6_fails l D cI cC cT h a1 a2 a3 a4 a5 a6 a7 a8 S 1)
    rw [← en1] at k9
    refine fUV (As := [.int 1]) (rest := []) (st' := [.int n1.1]) ⟨hx, hb, hml, hown, hts⟩ k9 (cwV 1 hts gX6_takeCoin_X6_fails rfl rfl rfl (by decide +kernel) ⟨Nat.le_of_ble_eq_true rfl, Nat.le_of_ble_eq_true rfl⟩) hP hK hD hS [0, 1, 2, 3, 4, 5, 6, 7, 8] rfl rfl (by decide) rfl (w6 cI cC h a1 a2 a3 a4 a5 a6 a7 a8 n1.2) rfl rfl 0 (ci := 7) rfl rfl rfl rfl hl.1 rfl rfl (Nat.le_of_ble_eq_true rfl) ⟨Nat.zero_le _, Nat.zero_le _⟩ dX6_takeCoin_14 (fun H locs hP hD hS => ?_)
    refine lv_if_eq (tgt := 22) hx hb dX6_takeCoin_17 (by decide) (fun c_17 => absurd c_17 (by rw [en1, fails_1]; decide)) (fun c_17 => ?_)
    refine lv_iconst (v := 0) hx hb dX6_takeCoin_20 (by decide) ?_
    have e9 : fX6_takeCoin S x1 = (0, n1.2) := by rw [fX6_takeCoin, if_pos c_6_1, ← en1]
    exact rUi hx hb hr hlk hQ hP hS (by rw [e9]) (congrArg (fun z9 : (Int32 × SV) => (w6 cI cC h a1 a2 a3 a4 a5 a6 a7 a8 z9.2 : va_W)) e9).symm rfl dX6_takeCoin_21
  · rw [if_neg c_6_1] at hg
    refine lv_iconst (v := 0) hx hb dX6_takeCoin_9 (by decide) ?_
    refine lv_goto (tgt := 14) hx hb dX6_takeCoin_10 (by decide) ?_
    obtain ⟨n2, en2⟩ : ∃ z9, z9 = (fX6_fails S 0) := ⟨_, rfl⟩
    try rw [← en2] at hg
    have k9 := (kX6_fails l D cI cC cT h a1 a2 a3 a4 a5 a6 a7 a8 S 0)
    rw [← en2] at k9
    refine fUV (As := [.int 0]) (rest := []) (st' := [.int n2.1]) ⟨hx, hb, hml, hown, hts⟩ k9 (cwV 1 hts gX6_takeCoin_X6_fails rfl rfl rfl (by decide +kernel) ⟨Nat.le_of_ble_eq_true rfl, Nat.le_of_ble_eq_true rfl⟩) hP hK hD hS [0, 1, 2, 3, 4, 5, 6, 7, 8] rfl rfl (by decide) rfl (w6 cI cC h a1 a2 a3 a4 a5 a6 a7 a8 n2.2) rfl rfl 0 (ci := 7) rfl rfl rfl rfl hl.1 rfl rfl (Nat.le_of_ble_eq_true rfl) ⟨Nat.zero_le _, Nat.zero_le _⟩ dX6_takeCoin_14 (fun H locs hP hD hS => ?_)
    refine lv_if_eq (tgt := 22) hx hb dX6_takeCoin_17 (by decide) (fun c_17 => ?_) (fun c_17 => absurd (by rw [en2]; exact fails_0 _) c_17)
    refine lv_aload_n hx hb dX6_takeCoin_22 rfl (lv_at hl 0 rfl) ?_
    refine lv_iload_n hx hb dX6_takeCoin_23 rfl (lv_at hl 1 rfl) ?_
    refine lv_iconst (v := 4) hx hb dX6_takeCoin_24 (by decide) ?_
    obtain ⟨o2, hg⟩ := hg
    refine fRV (As := [.int x1, .int 4]) (rest := []) (st' := [.int (fX6_of n2.2 x1 4)]) ⟨hx, hb, hml, hown, hts⟩ (kX6_of l D cI cC cT h a1 a2 a3 a4 a5 a6 a7 a8 n2.2 x1 4 o2) (cwV 2 hts gX6_takeCoin_X6_of rfl rfl rfl (by decide +kernel) ⟨Nat.le_of_ble_eq_true rfl, Nat.le_of_ble_eq_true rfl⟩) hP hK [0, 1, 2, 3, 4, 5, 6, 7, 8] rfl 0 (ci := 7) rfl rfl rfl rfl hl.1 rfl rfl (Nat.le_of_ble_eq_true rfl) ⟨Nat.zero_le _, Nat.zero_le _⟩ dX6_takeCoin_25 ?_
    refine lv_if_ne (tgt := 45) hx hb dX6_takeCoin_28 (by decide) (fun c_28_2 => ?_) (fun c_28_2 => ?_)
    · rw [if_neg c_28_2] at hg
      refine lv_aload_n hx hb dX6_takeCoin_45 rfl (lv_at hl 0 rfl) ?_
      refine lv_aload_n hx hb dX6_takeCoin_46 rfl (lv_at hl 0 rfl) ?_
      refine va_get (D := D) (ci := 7) (v := .ref a1) (C := RX6) (T := TX6) (N := 20) hx hb hts q1 hown hK hP 0 rfl rfl 0 (by decide) q0 (fun _ h9 => h9) rfl dX6_takeCoin_47 ?_
      obtain ⟨n3, en3⟩ : ∃ z9, z9 = (fX6_keeps_g n2.2) := ⟨_, rfl⟩
      try rw [← en3] at hg
      obtain ⟨o3, hg⟩ := hg
      have k9 := (kX6_keeps_g l D cI cC cT h a1 a2 a3 a4 a5 a6 a7 a8 n2.2 o3)
      rw [← en3] at k9
      refine fUV (As := [.ref a1]) (rest := []) (st' := []) ⟨hx, hb, hml, hown, hts⟩ k9 (cwV 1 hts gX6_takeCoin_X6_keeps rfl rfl rfl (by decide +kernel) ⟨Nat.le_of_ble_eq_true rfl, Nat.le_of_ble_eq_true rfl⟩) hP hK hD hS [0, 1, 2, 3, 4, 5, 6, 7, 8] rfl rfl (by decide) rfl (w6 cI cC h a1 a2 a3 a4 a5 a6 a7 a8 n3) rfl rfl 0 (ci := 7) rfl rfl rfl rfl hl.1 rfl rfl (Nat.le_of_ble_eq_true rfl) ⟨Nat.zero_le _, Nat.zero_le _⟩ dX6_takeCoin_50 (fun H locs hP hD hS => ?_)
      refine lv_aload_n hx hb dX6_takeCoin_53 rfl (lv_at hl 0 rfl) ?_
      refine va_get (D := D) (ci := 7) (v := .ref a1) (C := RX6) (T := TX6) (N := 20) hx hb hts q1 hown hK hP 0 rfl rfl 0 (by decide) q0 (fun _ h9 => h9) rfl dX6_takeCoin_54 ?_
      refine lv_iconst (v := 2) hx hb dX6_takeCoin_57 (by decide) ?_
      refine lv_dup2_11 hx hb dX6_takeCoin_58 rfl rfl ?_
      obtain ⟨o4, hg⟩ := hg
      refine va_iald hx hb hK hP 1 0 rfl rfl o4 dX6_takeCoin_59 ?_
      refine lv_iconst (v := 1) hx hb dX6_takeCoin_60 (by decide) ?_
      refine lv_iadd hx hb dX6_takeCoin_61 ?_
      obtain ⟨o5, hg⟩ := hg
      refine va_iast hx hb hK hP hD hS 1 0 rfl rfl o5 dX6_takeCoin_62 (fun H locs hP hD hS => ?_)
      have hP : va_P D vwCl (w6 cI cC h a1 a2 a3 a4 a5 a6 a7 a8 (sS0 (upd n3.1 (2 : Int32).toNatClampNeg ((n3.1 (2 : Int32).toNatClampNeg) + 1)) n3)) H := w6p_0 hP
      have hD : va_D A (w6 cI cC h a1 a2 a3 a4 a5 a6 a7 a8 (sS0 (upd n3.1 (2 : Int32).toNatClampNeg ((n3.1 (2 : Int32).toNatClampNeg) + 1)) n3)) := w6d_0 hD
      refine lv_aload_n hx hb dX6_takeCoin_63 rfl (lv_at hl 0 rfl) ?_
      refine lv_iload_n hx hb dX6_takeCoin_64 rfl (lv_at hl 1 rfl) ?_
      refine lv_iconst (v := 4) hx hb dX6_takeCoin_65 (by decide) ?_
      refine lv_aload_n hx hb dX6_takeCoin_66 rfl (lv_at hl 0 rfl) ?_
      refine lv_iload_n hx hb dX6_takeCoin_67 rfl (lv_at hl 1 rfl) ?_
      refine lv_iconst (v := 4) hx hb dX6_takeCoin_68 (by decide) ?_
      obtain ⟨o6, hg⟩ := hg
      refine fRV (As := [.int x1, .int 4]) (rest := [.int 4, .int x1, .ref h]) (st' := [.int (fX6_of (sS0 (upd n3.1 (2 : Int32).toNatClampNeg ((n3.1 (2 : Int32).toNatClampNeg) + 1)) n3) x1 4), .int 4, .int x1, .ref h]) ⟨hx, hb, hml, hown, hts⟩ (kX6_of l D cI cC cT h a1 a2 a3 a4 a5 a6 a7 a8 (sS0 (upd n3.1 (2 : Int32).toNatClampNeg ((n3.1 (2 : Int32).toNatClampNeg) + 1)) n3) x1 4 o6) (cwV 2 hts gX6_takeCoin_X6_of rfl rfl rfl (by decide +kernel) ⟨Nat.le_of_ble_eq_true rfl, Nat.le_of_ble_eq_true rfl⟩) hP hK [0, 1, 2, 3, 4, 5, 6, 7, 8] rfl 0 (ci := 7) rfl rfl rfl rfl hl.1 rfl rfl (Nat.le_of_ble_eq_true rfl) ⟨Nat.zero_le _, Nat.zero_le _⟩ dX6_takeCoin_69 ?_
      refine lv_iconst (v := 1) hx hb dX6_takeCoin_72 (by decide) ?_
      refine lv_isub hx hb dX6_takeCoin_73 ?_
      obtain ⟨n4, en4⟩ : ∃ z9, z9 = (fX6_lays (sS0 (upd n3.1 (2 : Int32).toNatClampNeg ((n3.1 (2 : Int32).toNatClampNeg) + 1)) n3) x1 4 ((fX6_of (sS0 (upd n3.1 (2 : Int32).toNatClampNeg ((n3.1 (2 : Int32).toNatClampNeg) + 1)) n3) x1 4) - 1)) := ⟨_, rfl⟩
      try rw [← en4] at hg
      obtain ⟨o7, hg⟩ := hg
      have k9 := (kX6_lays l D cI cC cT h a1 a2 a3 a4 a5 a6 a7 a8 (sS0 (upd n3.1 (2 : Int32).toNatClampNeg ((n3.1 (2 : Int32).toNatClampNeg) + 1)) n3) x1 4 ((fX6_of (sS0 (upd n3.1 (2 : Int32).toNatClampNeg ((n3.1 (2 : Int32).toNatClampNeg) + 1)) n3) x1 4) - 1) o7)
      rw [← en4] at k9
      refine fUV (As := [.int x1, .int 4, .int ((fX6_of (sS0 (upd n3.1 (2 : Int32).toNatClampNeg ((n3.1 (2 : Int32).toNatClampNeg) + 1)) n3) x1 4) - 1)]) (rest := []) (st' := []) ⟨hx, hb, hml, hown, hts⟩ k9 (cwV 3 hts gX6_takeCoin_X6_lays rfl rfl rfl (by decide +kernel) ⟨Nat.le_of_ble_eq_true rfl, Nat.le_of_ble_eq_true rfl⟩) hP hK hD hS [0, 1, 2, 3, 4, 5, 6, 7, 8] rfl rfl (by decide) rfl (w6 cI cC h a1 a2 a3 a4 a5 a6 a7 a8 n4) rfl rfl 0 (ci := 7) rfl rfl rfl rfl hl.1 rfl rfl (Nat.le_of_ble_eq_true rfl) ⟨Nat.zero_le _, Nat.zero_le _⟩ dX6_takeCoin_74 (fun H locs hP hD hS => ?_)
      refine lv_aload_n hx hb dX6_takeCoin_77 rfl (lv_at hl 0 rfl) ?_
      refine lv_iload_n hx hb dX6_takeCoin_78 rfl (lv_at hl 1 rfl) ?_
      refine lv_iconst (v := 2) hx hb dX6_takeCoin_79 (by decide) ?_
      refine lv_aload_n hx hb dX6_takeCoin_80 rfl (lv_at hl 0 rfl) ?_
      refine lv_iload_n hx hb dX6_takeCoin_81 rfl (lv_at hl 1 rfl) ?_
      refine lv_iconst (v := 2) hx hb dX6_takeCoin_82 (by decide) ?_
      obtain ⟨o8, hg⟩ := hg
      refine fRV (As := [.int x1, .int 2]) (rest := [.int 2, .int x1, .ref h]) (st' := [.int (fX6_of n4 x1 2), .int 2, .int x1, .ref h]) ⟨hx, hb, hml, hown, hts⟩ (kX6_of l D cI cC cT h a1 a2 a3 a4 a5 a6 a7 a8 n4 x1 2 o8) (cwV 2 hts gX6_takeCoin_X6_of rfl rfl rfl (by decide +kernel) ⟨Nat.le_of_ble_eq_true rfl, Nat.le_of_ble_eq_true rfl⟩) hP hK [0, 1, 2, 3, 4, 5, 6, 7, 8] rfl 0 (ci := 7) rfl rfl rfl rfl hl.1 rfl rfl (Nat.le_of_ble_eq_true rfl) ⟨Nat.zero_le _, Nat.zero_le _⟩ dX6_takeCoin_83 ?_
      refine lv_iconst (v := 1) hx hb dX6_takeCoin_86 (by decide) ?_
      refine lv_iadd hx hb dX6_takeCoin_87 ?_
      refine lv_bipush (v := 9) hx hb dX6_takeCoin_88 (by decide) ?_
      refine fRS (As := [.int ((fX6_of n4 x1 2) + 1), .int 9]) (rest := [.int 2, .int x1, .ref h]) (st' := [.int (fX6_atMost ((fX6_of n4 x1 2) + 1) 9), .int 2, .int x1, .ref h]) ⟨hx, hb, hml, hown, hts⟩ (kX6_atMost l D cI cC cT ((fX6_of n4 x1 2) + 1) 9) (va_cwS 2 hts gX6_takeCoin_X6_atMost rfl rfl rfl (by decide +kernel) ⟨Nat.le_of_ble_eq_true rfl, Nat.le_of_ble_eq_true rfl⟩) hP hK [] rfl rfl hl.1 rfl rfl (Nat.le_of_ble_eq_true rfl) ⟨Nat.zero_le _, Nat.zero_le _⟩ dX6_takeCoin_90 ?_
      obtain ⟨n5, en5⟩ : ∃ z9, z9 = (fX6_lays n4 x1 2 (fX6_atMost ((fX6_of n4 x1 2) + 1) 9)) := ⟨_, rfl⟩
      try rw [← en5] at hg
      obtain ⟨o9, hg⟩ := hg
      have k9 := (kX6_lays l D cI cC cT h a1 a2 a3 a4 a5 a6 a7 a8 n4 x1 2 (fX6_atMost ((fX6_of n4 x1 2) + 1) 9) o9)
      rw [← en5] at k9
      refine fUV (As := [.int x1, .int 2, .int (fX6_atMost ((fX6_of n4 x1 2) + 1) 9)]) (rest := []) (st' := []) ⟨hx, hb, hml, hown, hts⟩ k9 (cwV 3 hts gX6_takeCoin_X6_lays rfl rfl rfl (by decide +kernel) ⟨Nat.le_of_ble_eq_true rfl, Nat.le_of_ble_eq_true rfl⟩) hP hK hD hS [0, 1, 2, 3, 4, 5, 6, 7, 8] rfl rfl (by decide) rfl (w6 cI cC h a1 a2 a3 a4 a5 a6 a7 a8 n5) rfl rfl 0 (ci := 7) rfl rfl rfl rfl hl.1 rfl rfl (Nat.le_of_ble_eq_true rfl) ⟨Nat.zero_le _, Nat.zero_le _⟩ dX6_takeCoin_93 (fun H locs hP hD hS => ?_)
      refine lv_aload_n hx hb dX6_takeCoin_96 rfl (lv_at hl 0 rfl) ?_
      refine lv_iload_n hx hb dX6_takeCoin_97 rfl (lv_at hl 1 rfl) ?_
      refine lv_iconst (v := 2) hx hb dX6_takeCoin_98 (by decide) ?_
      obtain ⟨o10, hg⟩ := hg
      refine fRV (As := [.int x1, .int 2]) (rest := []) (st' := [.int (fX6_of n5 x1 2)]) ⟨hx, hb, hml, hown, hts⟩ (kX6_of l D cI cC cT h a1 a2 a3 a4 a5 a6 a7 a8 n5 x1 2 o10) (cwV 2 hts gX6_takeCoin_X6_of rfl rfl rfl (by decide +kernel) ⟨Nat.le_of_ble_eq_true rfl, Nat.le_of_ble_eq_true rfl⟩) hP hK [0, 1, 2, 3, 4, 5, 6, 7, 8] rfl 0 (ci := 7) rfl rfl rfl rfl hl.1 rfl rfl (Nat.le_of_ble_eq_true rfl) ⟨Nat.zero_le _, Nat.zero_le _⟩ dX6_takeCoin_99 ?_
      have e9 : fX6_takeCoin S x1 = ((fX6_of n5 x1 2), n5) := by rw [fX6_takeCoin, if_neg c_6_1, ← en2, if_neg c_28_2, ← en3, ← en4, ← en5]
      exact rUi hx hb hr hlk hQ hP hS (by rw [e9]) (congrArg (fun z9 : (Int32 × SV) => (w6 cI cC h a1 a2 a3 a4 a5 a6 a7 a8 z9.2 : va_W)) e9).symm rfl dX6_takeCoin_102
    · rw [if_pos c_28_2] at hg
      refine lv_aload_n hx hb dX6_takeCoin_31 rfl (lv_at hl 0 rfl) ?_
      refine lv_iconst (v := 2) hx hb dX6_takeCoin_32 (by decide) ?_
      refine lv_bipush (v := 7) hx hb dX6_takeCoin_33 (by decide) ?_
      refine lv_aload_n hx hb dX6_takeCoin_35 rfl (lv_at hl 0 rfl) ?_
      refine lv_iload_n hx hb dX6_takeCoin_36 rfl (lv_at hl 1 rfl) ?_
      refine lv_iconst (v := 2) hx hb dX6_takeCoin_37 (by decide) ?_
      obtain ⟨o11, hg⟩ := hg
      refine fRV (As := [.int x1, .int 2]) (rest := [.int 7, .int 2, .ref h]) (st' := [.int (fX6_of n2.2 x1 2), .int 7, .int 2, .ref h]) ⟨hx, hb, hml, hown, hts⟩ (kX6_of l D cI cC cT h a1 a2 a3 a4 a5 a6 a7 a8 n2.2 x1 2 o11) (cwV 2 hts gX6_takeCoin_X6_of rfl rfl rfl (by decide +kernel) ⟨Nat.le_of_ble_eq_true rfl, Nat.le_of_ble_eq_true rfl⟩) hP hK [0, 1, 2, 3, 4, 5, 6, 7, 8] rfl 0 (ci := 7) rfl rfl rfl rfl hl.1 rfl rfl (Nat.le_of_ble_eq_true rfl) ⟨Nat.zero_le _, Nat.zero_le _⟩ dX6_takeCoin_38 ?_
      obtain ⟨n6, en6⟩ : ∃ z9, z9 = (fX6_refuses n2.2 2 7 (fX6_of n2.2 x1 2)) := ⟨_, rfl⟩
      try rw [← en6] at hg
      have k9 := (kX6_refuses l D cI cC cT h a1 a2 a3 a4 a5 a6 a7 a8 n2.2 2 7 (fX6_of n2.2 x1 2))
      rw [← en6] at k9
      refine fUV (As := [.int 2, .int 7, .int (fX6_of n2.2 x1 2)]) (rest := []) (st' := [.int n6.1]) ⟨hx, hb, hml, hown, hts⟩ k9 (cwV 3 hts gX6_takeCoin_X6_refuses rfl rfl rfl (by decide +kernel) ⟨Nat.le_of_ble_eq_true rfl, Nat.le_of_ble_eq_true rfl⟩) hP hK hD hS [0, 1, 2, 3, 4, 5, 6, 7, 8] rfl rfl (by decide) rfl (w6 cI cC h a1 a2 a3 a4 a5 a6 a7 a8 n6.2) rfl rfl 0 (ci := 7) rfl rfl rfl rfl hl.1 rfl rfl (Nat.le_of_ble_eq_true rfl) ⟨Nat.zero_le _, Nat.zero_le _⟩ dX6_takeCoin_41 (fun H locs hP hD hS => ?_)
      have e9 : fX6_takeCoin S x1 = (n6.1, n6.2) := by rw [fX6_takeCoin, if_neg c_6_1, ← en2, if_pos c_28_2, ← en6]
      exact rUi hx hb hr hlk hQ hP hS (by rw [e9]) (congrArg (fun z9 : (Int32 × SV) => (w6 cI cC h a1 a2 a3 a4 a5 a6 a7 a8 z9.2 : va_W)) e9).symm rfl dX6_takeCoin_44
def fX6_tiltOf (S : SV) (x1 : Int32) : UInt32 := (FP.fdiv (FP.i2f (fX6_of S x1 2)) (FP.i2f (fX6_of S x1 0)))
def gX6_tiltOf (S : SV) (x1 : Int32) : Prop := ((gX6_of S x1 2) ∧ (gX6_of S x1 0) ∧ (vf_n32 (FP.fdiv (FP.i2f (fX6_of S x1 2)) (FP.i2f (fX6_of S x1 0)))) ∧ True)
abbrev rmX6_tiltOf : Room := { frames := 1, cells := 0, slots := 0, locals := 22 }
set_option maxHeartbeats 4000000 in
set_option maxRecDepth 100000 in
theorem kX6_tiltOf (l : Launch) (D : va_G) (cI cC cT : ClassId) (h a1 a2 a3 a4 a5 a6 a7 a8 : Nat) (S : SV) (x1 : Int32) (hg : gX6_tiltOf S x1) : mR l D (TY cI cC cT) yX6_tiltOf wsX6_tiltOf rmX6_tiltOf [.ref h, .int x1] (w6 cI cC h a1 a2 a3 a4 a5 a6 a7 a8 S) (some (.float (fX6_tiltOf S x1))) := by
  refine mR.ofW (cc := cX6_tiltOf) (maxL := 2) (ret := (some .float)) (by decide) rfl (Nat.le_of_ble_eq_true rfl) ?_
  intro p e s m args below meth c Q ls hx hb hml hr hlk hts hown hP hK hl hQ
  have hown : s.vm.findClass RX6 = some m.cls := hown
  have hP : va_P D vwCl (w6 cI cC h a1 a2 a3 a4 a5 a6 a7 a8 S) s.heap := hP
  have hl : lv_has ls 2 [(0, .ref h), (1, .int x1)] := hl
  unfold gX6_tiltOf at hg
  refine lv_aload_n hx hb dX6_tiltOf_0 rfl (lv_at hl 0 rfl) ?_
  refine lv_iload_n hx hb dX6_tiltOf_1 rfl (lv_at hl 1 rfl) ?_
  refine lv_iconst (v := 2) hx hb dX6_tiltOf_2 (by decide) ?_
  obtain ⟨o1, hg⟩ := hg
  refine fRV (As := [.int x1, .int 2]) (rest := []) (st' := [.int (fX6_of S x1 2)]) ⟨hx, hb, hml, hown, hts⟩ (kX6_of l D cI cC cT h a1 a2 a3 a4 a5 a6 a7 a8 S x1 2 o1) (cwV 2 hts gX6_tiltOf_X6_of rfl rfl rfl (by decide +kernel) ⟨Nat.le_of_ble_eq_true rfl, Nat.le_of_ble_eq_true rfl⟩) hP hK [0, 1, 2, 3, 4, 5, 6, 7, 8] rfl 0 (ci := 7) rfl rfl rfl rfl hl.1 rfl rfl (Nat.le_of_ble_eq_true rfl) ⟨Nat.zero_le _, Nat.zero_le _⟩ dX6_tiltOf_3 ?_
  refine lv_i2f hx hb dX6_tiltOf_6 ?_
  refine lv_aload_n hx hb dX6_tiltOf_7 rfl (lv_at hl 0 rfl) ?_
  refine lv_iload_n hx hb dX6_tiltOf_8 rfl (lv_at hl 1 rfl) ?_
  refine lv_iconst (v := 0) hx hb dX6_tiltOf_9 (by decide) ?_
  obtain ⟨o2, hg⟩ := hg
  refine fRV (As := [.int x1, .int 0]) (rest := [.float (FP.i2f (fX6_of S x1 2))]) (st' := [.int (fX6_of S x1 0), .float (FP.i2f (fX6_of S x1 2))]) ⟨hx, hb, hml, hown, hts⟩ (kX6_of l D cI cC cT h a1 a2 a3 a4 a5 a6 a7 a8 S x1 0 o2) (cwV 2 hts gX6_tiltOf_X6_of rfl rfl rfl (by decide +kernel) ⟨Nat.le_of_ble_eq_true rfl, Nat.le_of_ble_eq_true rfl⟩) hP hK [0, 1, 2, 3, 4, 5, 6, 7, 8] rfl 0 (ci := 7) rfl rfl rfl rfl hl.1 rfl rfl (Nat.le_of_ble_eq_true rfl) ⟨Nat.zero_le _, Nat.zero_le _⟩ dX6_tiltOf_10 ?_
  refine lv_i2f hx hb dX6_tiltOf_13 ?_
  obtain ⟨o3, hg⟩ := hg
  refine lv_fdiv hx hb dX6_tiltOf_14 o3 ?_
  exact rRf hx hb hr hlk hQ (by rw [fX6_tiltOf]) dX6_tiltOf_15
def fX6_tilt (S : SV) (x1 : Int32) : (UInt32 × SV) := (if (fX6_isStool S x1) = 0 then (FP.fconst0, (fX6_fails S 1).2) else ((fX6_tiltOf (fX6_fails S 0).2 x1), (fX6_fails S 0).2))
def gX6_tilt (S : SV) (x1 : Int32) : Prop := ((gX6_isStool S x1) ∧ (if (fX6_isStool S x1) = 0 then True else ((gX6_tiltOf (fX6_fails S 0).2 x1) ∧ True)))
abbrev rmX6_tilt : Room := { frames := 2, cells := 0, slots := 0, locals := 43 }
set_option maxHeartbeats 4000000 in
set_option maxRecDepth 100000 in
theorem kX6_tilt (l : Launch) (D : va_G) (cI cC cT : ClassId) (h a1 a2 a3 a4 a5 a6 a7 a8 : Nat) (S : SV) (x1 : Int32) (hg : gX6_tilt S x1) : mU l D (TY cI cC cT) yX6_tilt wsX6_tilt rmX6_tilt [.ref h, .int x1] (w6 cI cC h a1 a2 a3 a4 a5 a6 a7 a8 S) (some (.float (fX6_tilt S x1).1)) (w6 cI cC h a1 a2 a3 a4 a5 a6 a7 a8 (fX6_tilt S x1).2) := by
  refine mU.ofW (cc := cX6_tilt) (maxL := 2) (ret := (some .float)) (by decide) rfl (Nat.le_of_ble_eq_true rfl) ?_
  intro p e s m args below meth c Q ls A hx hb hml hr hlk hts hown hP hK hD hS hl hQ
  have hown : s.vm.findClass RX6 = some m.cls := hown
  have hP : va_P D vwCl (w6 cI cC h a1 a2 a3 a4 a5 a6 a7 a8 S) s.heap := hP
  have hD : va_D A (w6 cI cC h a1 a2 a3 a4 a5 a6 a7 a8 S) := hD
  have hl : lv_has ls 2 [(0, .ref h), (1, .int x1)] := hl
  unfold gX6_tilt at hg
  generalize hHe : s.heap = H at hP ⊢
  have hS : va_S A s.heap H [] := hHe ▸ hS
  generalize hLe : ([] : List Loc) = locs at hS ⊢
  refine lv_aload_n hx hb dX6_tilt_0 rfl (lv_at hl 0 rfl) ?_
  refine lv_aload_n hx hb dX6_tilt_1 rfl (lv_at hl 0 rfl) ?_
  refine lv_iload_n hx hb dX6_tilt_2 rfl (lv_at hl 1 rfl) ?_
  obtain ⟨o1, hg⟩ := hg
  refine fRV (As := [.int x1]) (rest := [.ref h]) (st' := [.int (fX6_isStool S x1), .ref h]) ⟨hx, hb, hml, hown, hts⟩ (kX6_isStool l D cI cC cT h a1 a2 a3 a4 a5 a6 a7 a8 S x1 o1) (cwV 1 hts gX6_tilt_X6_isStool rfl rfl rfl (by decide +kernel) ⟨Nat.le_of_ble_eq_true rfl, Nat.le_of_ble_eq_true rfl⟩) hP hK [0, 1, 2, 3, 4, 5, 6, 7, 8] rfl 0 (ci := 7) rfl rfl rfl rfl hl.1 rfl rfl (Nat.le_of_ble_eq_true rfl) ⟨Nat.zero_le _, Nat.zero_le _⟩ dX6_tilt_3 ?_
  refine lv_if_eq (tgt := 13) hx hb dX6_tilt_6 (by decide) (fun c_6_1 => ?_) (fun c_6_1 => ?_)
  · rw [if_pos c_6_1] at hg
    refine lv_iconst (v := 1) hx hb dX6_tilt_13 (by decide) ?_
    obtain ⟨n1, en1⟩ : ∃ z9, z9 = (fX6_fails S 1) := ⟨_, rfl⟩
    try rw [← en1] at hg
    have k9 := (kX6_fails l D cI cC cT h a1 a2 a3 a4 a5 a6 a7 a8 S 1)
    rw [← en1] at k9
    refine fUV (As := [.int 1]) (rest := []) (st' := [.int n1.1]) ⟨hx, hb, hml, hown, hts⟩ k9 (cwV 1 hts gX6_tilt_X6_fails rfl rfl rfl (by decide +kernel) ⟨Nat.le_of_ble_eq_true rfl, Nat.le_of_ble_eq_true rfl⟩) hP hK hD hS [0, 1, 2, 3, 4, 5, 6, 7, 8] rfl rfl (by decide) rfl (w6 cI cC h a1 a2 a3 a4 a5 a6 a7 a8 n1.2) rfl rfl 0 (ci := 7) rfl rfl rfl rfl hl.1 rfl rfl (Nat.le_of_ble_eq_true rfl) ⟨Nat.zero_le _, Nat.zero_le _⟩ dX6_tilt_14 (fun H locs hP hD hS => ?_)
    refine lv_if_eq (tgt := 24) hx hb dX6_tilt_17 (by decide) (fun c_17 => absurd c_17 (by rw [en1, fails_1]; decide)) (fun c_17 => ?_)
    refine lv_fconst0 hx hb dX6_tilt_20 ?_
    refine lv_goto (tgt := 29) hx hb dX6_tilt_21 (by decide) ?_
    have e9 : fX6_tilt S x1 = (FP.fconst0, n1.2) := by rw [fX6_tilt, if_pos c_6_1, ← en1]
    exact rUf hx hb hr hlk hQ hP hS (by rw [e9]) (congrArg (fun z9 : (UInt32 × SV) => (w6 cI cC h a1 a2 a3 a4 a5 a6 a7 a8 z9.2 : va_W)) e9).symm dX6_tilt_29
  · rw [if_neg c_6_1] at hg
    refine lv_iconst (v := 0) hx hb dX6_tilt_9 (by decide) ?_
    refine lv_goto (tgt := 14) hx hb dX6_tilt_10 (by decide) ?_
    obtain ⟨n2, en2⟩ : ∃ z9, z9 = (fX6_fails S 0) := ⟨_, rfl⟩
    try rw [← en2] at hg
    have k9 := (kX6_fails l D cI cC cT h a1 a2 a3 a4 a5 a6 a7 a8 S 0)
    rw [← en2] at k9
    refine fUV (As := [.int 0]) (rest := []) (st' := [.int n2.1]) ⟨hx, hb, hml, hown, hts⟩ k9 (cwV 1 hts gX6_tilt_X6_fails rfl rfl rfl (by decide +kernel) ⟨Nat.le_of_ble_eq_true rfl, Nat.le_of_ble_eq_true rfl⟩) hP hK hD hS [0, 1, 2, 3, 4, 5, 6, 7, 8] rfl rfl (by decide) rfl (w6 cI cC h a1 a2 a3 a4 a5 a6 a7 a8 n2.2) rfl rfl 0 (ci := 7) rfl rfl rfl rfl hl.1 rfl rfl (Nat.le_of_ble_eq_true rfl) ⟨Nat.zero_le _, Nat.zero_le _⟩ dX6_tilt_14 (fun H locs hP hD hS => ?_)
    refine lv_if_eq (tgt := 24) hx hb dX6_tilt_17 (by decide) (fun c_17 => ?_) (fun c_17 => absurd (by rw [en2]; exact fails_0 _) c_17)
    refine lv_aload_n hx hb dX6_tilt_24 rfl (lv_at hl 0 rfl) ?_
    refine lv_iload_n hx hb dX6_tilt_25 rfl (lv_at hl 1 rfl) ?_
    obtain ⟨o2, hg⟩ := hg
    refine fRV (As := [.int x1]) (rest := []) (st' := [.float (fX6_tiltOf n2.2 x1)]) ⟨hx, hb, hml, hown, hts⟩ (kX6_tiltOf l D cI cC cT h a1 a2 a3 a4 a5 a6 a7 a8 n2.2 x1 o2) (cwV 1 hts gX6_tilt_X6_tiltOf rfl rfl rfl (by decide +kernel) ⟨Nat.le_of_ble_eq_true rfl, Nat.le_of_ble_eq_true rfl⟩) hP hK [0, 1, 2, 3, 4, 5, 6, 7, 8] rfl 0 (ci := 7) rfl rfl rfl rfl hl.1 rfl rfl (Nat.le_of_ble_eq_true rfl) ⟨Nat.zero_le _, Nat.zero_le _⟩ dX6_tilt_26 ?_
    have e9 : fX6_tilt S x1 = ((fX6_tiltOf n2.2 x1), n2.2) := by rw [fX6_tilt, if_neg c_6_1, ← en2]
    exact rUf hx hb hr hlk hQ hP hS (by rw [e9]) (congrArg (fun z9 : (UInt32 × SV) => (w6 cI cC h a1 a2 a3 a4 a5 a6 a7 a8 z9.2 : va_W)) e9).symm dX6_tilt_29
def fX6_tiltBits (S : SV) (x1 : Int32) : (Int32 × SV) := (if (fX6_isStool S x1) = 0 then (0, (fX6_fails S 1).2) else ((fJxf58ca_floatToIntBits_5c35a (fX6_tiltOf (fX6_fails S 0).2 x1)), (fX6_fails S 0).2))
def gX6_tiltBits (S : SV) (x1 : Int32) : Prop := ((gX6_isStool S x1) ∧ (if (fX6_isStool S x1) = 0 then True else ((gX6_tiltOf (fX6_fails S 0).2 x1) ∧ True)))
abbrev rmX6_tiltBits : Room := { frames := 2, cells := 0, slots := 0, locals := 44 }
set_option maxHeartbeats 4000000 in
set_option maxRecDepth 100000 in
theorem kX6_tiltBits (l : Launch) (D : va_G) (cI cC cT : ClassId) (h a1 a2 a3 a4 a5 a6 a7 a8 : Nat) (S : SV) (x1 : Int32) (hg : gX6_tiltBits S x1) : mU l D (TY cI cC cT) yX6_tiltBits wsX6_tiltBits rmX6_tiltBits [.ref h, .int x1] (w6 cI cC h a1 a2 a3 a4 a5 a6 a7 a8 S) (some (.int (fX6_tiltBits S x1).1)) (w6 cI cC h a1 a2 a3 a4 a5 a6 a7 a8 (fX6_tiltBits S x1).2) := by
  refine mU.ofW (cc := cX6_tiltBits) (maxL := 2) (ret := (some .int)) (by decide) rfl (Nat.le_of_ble_eq_true rfl) ?_
  intro p e s m args below meth c Q ls A hx hb hml hr hlk hts hown hP hK hD hS hl hQ
  have hown : s.vm.findClass RX6 = some m.cls := hown
  have hP : va_P D vwCl (w6 cI cC h a1 a2 a3 a4 a5 a6 a7 a8 S) s.heap := hP
  have hD : va_D A (w6 cI cC h a1 a2 a3 a4 a5 a6 a7 a8 S) := hD
  have hl : lv_has ls 2 [(0, .ref h), (1, .int x1)] := hl
  unfold gX6_tiltBits at hg
  generalize hHe : s.heap = H at hP ⊢
  have hS : va_S A s.heap H [] := hHe ▸ hS
  generalize hLe : ([] : List Loc) = locs at hS ⊢
  refine lv_aload_n hx hb dX6_tiltBits_0 rfl (lv_at hl 0 rfl) ?_
  refine lv_aload_n hx hb dX6_tiltBits_1 rfl (lv_at hl 0 rfl) ?_
  refine lv_iload_n hx hb dX6_tiltBits_2 rfl (lv_at hl 1 rfl) ?_
  obtain ⟨o1, hg⟩ := hg
  refine fRV (As := [.int x1]) (rest := [.ref h]) (st' := [.int (fX6_isStool S x1), .ref h]) ⟨hx, hb, hml, hown, hts⟩ (kX6_isStool l D cI cC cT h a1 a2 a3 a4 a5 a6 a7 a8 S x1 o1) (cwV 1 hts gX6_tiltBits_X6_isStool rfl rfl rfl (by decide +kernel) ⟨Nat.le_of_ble_eq_true rfl, Nat.le_of_ble_eq_true rfl⟩) hP hK [0, 1, 2, 3, 4, 5, 6, 7, 8] rfl 0 (ci := 7) rfl rfl rfl rfl hl.1 rfl rfl (Nat.le_of_ble_eq_true rfl) ⟨Nat.zero_le _, Nat.zero_le _⟩ dX6_tiltBits_3 ?_
  refine lv_if_eq (tgt := 13) hx hb dX6_tiltBits_6 (by decide) (fun c_6_1 => ?_) (fun c_6_1 => ?_)
  · rw [if_pos c_6_1] at hg
    refine lv_iconst (v := 1) hx hb dX6_tiltBits_13 (by decide) ?_
    obtain ⟨n1, en1⟩ : ∃ z9, z9 = (fX6_fails S 1) := ⟨_, rfl⟩
    try rw [← en1] at hg
    have k9 := (kX6_fails l D cI cC cT h a1 a2 a3 a4 a5 a6 a7 a8 S 1)
    rw [← en1] at k9
    refine fUV (As := [.int 1]) (rest := []) (st' := [.int n1.1]) ⟨hx, hb, hml, hown, hts⟩ k9 (cwV 1 hts gX6_tiltBits_X6_fails rfl rfl rfl (by decide +kernel) ⟨Nat.le_of_ble_eq_true rfl, Nat.le_of_ble_eq_true rfl⟩) hP hK hD hS [0, 1, 2, 3, 4, 5, 6, 7, 8] rfl rfl (by decide) rfl (w6 cI cC h a1 a2 a3 a4 a5 a6 a7 a8 n1.2) rfl rfl 0 (ci := 7) rfl rfl rfl rfl hl.1 rfl rfl (Nat.le_of_ble_eq_true rfl) ⟨Nat.zero_le _, Nat.zero_le _⟩ dX6_tiltBits_14 (fun H locs hP hD hS => ?_)
    refine lv_if_eq (tgt := 24) hx hb dX6_tiltBits_17 (by decide) (fun c_17 => absurd c_17 (by rw [en1, fails_1]; decide)) (fun c_17 => ?_)
    refine lv_iconst (v := 0) hx hb dX6_tiltBits_20 (by decide) ?_
    refine lv_goto (tgt := 32) hx hb dX6_tiltBits_21 (by decide) ?_
    have e9 : fX6_tiltBits S x1 = (0, n1.2) := by rw [fX6_tiltBits, if_pos c_6_1, ← en1]
    exact rUi hx hb hr hlk hQ hP hS (by rw [e9]) (congrArg (fun z9 : (Int32 × SV) => (w6 cI cC h a1 a2 a3 a4 a5 a6 a7 a8 z9.2 : va_W)) e9).symm rfl dX6_tiltBits_32
  · rw [if_neg c_6_1] at hg
    refine lv_iconst (v := 0) hx hb dX6_tiltBits_9 (by decide) ?_
    refine lv_goto (tgt := 14) hx hb dX6_tiltBits_10 (by decide) ?_
    obtain ⟨n2, en2⟩ : ∃ z9, z9 = (fX6_fails S 0) := ⟨_, rfl⟩
    try rw [← en2] at hg
    have k9 := (kX6_fails l D cI cC cT h a1 a2 a3 a4 a5 a6 a7 a8 S 0)
    rw [← en2] at k9
    refine fUV (As := [.int 0]) (rest := []) (st' := [.int n2.1]) ⟨hx, hb, hml, hown, hts⟩ k9 (cwV 1 hts gX6_tiltBits_X6_fails rfl rfl rfl (by decide +kernel) ⟨Nat.le_of_ble_eq_true rfl, Nat.le_of_ble_eq_true rfl⟩) hP hK hD hS [0, 1, 2, 3, 4, 5, 6, 7, 8] rfl rfl (by decide) rfl (w6 cI cC h a1 a2 a3 a4 a5 a6 a7 a8 n2.2) rfl rfl 0 (ci := 7) rfl rfl rfl rfl hl.1 rfl rfl (Nat.le_of_ble_eq_true rfl) ⟨Nat.zero_le _, Nat.zero_le _⟩ dX6_tiltBits_14 (fun H locs hP hD hS => ?_)
    refine lv_if_eq (tgt := 24) hx hb dX6_tiltBits_17 (by decide) (fun c_17 => ?_) (fun c_17 => absurd (by rw [en2]; exact fails_0 _) c_17)
    refine lv_aload_n hx hb dX6_tiltBits_24 rfl (lv_at hl 0 rfl) ?_
    refine lv_iload_n hx hb dX6_tiltBits_25 rfl (lv_at hl 1 rfl) ?_
    obtain ⟨o2, hg⟩ := hg
    refine fRV (As := [.int x1]) (rest := []) (st' := [.float (fX6_tiltOf n2.2 x1)]) ⟨hx, hb, hml, hown, hts⟩ (kX6_tiltOf l D cI cC cT h a1 a2 a3 a4 a5 a6 a7 a8 n2.2 x1 o2) (cwV 1 hts gX6_tiltBits_X6_tiltOf rfl rfl rfl (by decide +kernel) ⟨Nat.le_of_ble_eq_true rfl, Nat.le_of_ble_eq_true rfl⟩) hP hK [0, 1, 2, 3, 4, 5, 6, 7, 8] rfl 0 (ci := 7) rfl rfl rfl rfl hl.1 rfl rfl (Nat.le_of_ble_eq_true rfl) ⟨Nat.zero_le _, Nat.zero_le _⟩ dX6_tiltBits_26 ?_
    refine fRS (As := [.float (fX6_tiltOf n2.2 x1)]) (rest := []) (st' := [.int (fJxf58ca_floatToIntBits_5c35a (fX6_tiltOf n2.2 x1))]) ⟨hx, hb, hml, hown, hts⟩ (kJxf58ca_floatToIntBits_5c35a l D cI cC cT (fX6_tiltOf n2.2 x1)) (va_cwS 1 hts gX6_tiltBits_Jxf58ca_floatToIntBits_5c35a rfl rfl rfl (by decide +kernel) ⟨Nat.le_of_ble_eq_true rfl, Nat.le_of_ble_eq_true rfl⟩) hP hK [] rfl rfl hl.1 rfl rfl (Nat.le_of_ble_eq_true rfl) ⟨Nat.zero_le _, Nat.zero_le _⟩ dX6_tiltBits_29 ?_
    have e9 : fX6_tiltBits S x1 = ((fJxf58ca_floatToIntBits_5c35a (fX6_tiltOf n2.2 x1)), n2.2) := by rw [fX6_tiltBits, if_neg c_6_1, ← en2]
    exact rUi hx hb hr hlk hQ hP hS (by rw [e9]) (congrArg (fun z9 : (Int32 × SV) => (w6 cI cC h a1 a2 a3 a4 a5 a6 a7 a8 z9.2 : va_W)) e9).symm rfl dX6_tiltBits_32
def fX6_plusTilt (S : SV) (x1 : Int32) (x2 : Int32) : (Int32 × SV) := (if (fX6_isStool S x2) = 0 then (0, (fX6_fails S 1).2) else (if (fX6_in x1 0 1232348159) = 0 then (0, (fX6_fails S 2).2) else ((fJxf58ca_floatToIntBits_5c35a (FP.fadd (x1.toUInt32) (fX6_tiltOf (fX6_fails S 0).2 x2))), (fX6_fails S 0).2)))
def gX6_plusTilt (S : SV) (x1 : Int32) (x2 : Int32) : Prop := ((gX6_isStool S x2) ∧ (if (fX6_isStool S x2) = 0 then True else (if (fX6_in x1 0 1232348159) = 0 then True else ((vn_sni2f x1 = false) ∧ (gX6_tiltOf (fX6_fails S 0).2 x2) ∧ (vf_n32 (FP.fadd (x1.toUInt32) (fX6_tiltOf (fX6_fails S 0).2 x2))) ∧ True))))
abbrev rmX6_plusTilt : Room := { frames := 2, cells := 0, slots := 0, locals := 44 }
set_option maxHeartbeats 4000000 in
set_option maxRecDepth 100000 in
theorem kX6_plusTilt (l : Launch) (D : va_G) (cI cC cT : ClassId) (h a1 a2 a3 a4 a5 a6 a7 a8 : Nat) (S : SV) (x1 : Int32) (x2 : Int32) (hg : gX6_plusTilt S x1 x2) : mU l D (TY cI cC cT) yX6_plusTilt wsX6_plusTilt rmX6_plusTilt [.ref h, .int x1, .int x2] (w6 cI cC h a1 a2 a3 a4 a5 a6 a7 a8 S) (some (.int (fX6_plusTilt S x1 x2).1)) (w6 cI cC h a1 a2 a3 a4 a5 a6 a7 a8 (fX6_plusTilt S x1 x2).2) := by
  refine mU.ofW (cc := cX6_plusTilt) (maxL := 3) (ret := (some .int)) (by decide) rfl (Nat.le_of_ble_eq_true rfl) ?_
  intro p e s m args below meth c Q ls A hx hb hml hr hlk hts hown hP hK hD hS hl hQ
  have hown : s.vm.findClass RX6 = some m.cls := hown
  have hP : va_P D vwCl (w6 cI cC h a1 a2 a3 a4 a5 a6 a7 a8 S) s.heap := hP
  have hD : va_D A (w6 cI cC h a1 a2 a3 a4 a5 a6 a7 a8 S) := hD
  have hl : lv_has ls 3 [(0, .ref h), (1, .int x1), (2, .int x2)] := hl
  have q0 := hts (Cond.constant RX6 163 (1232348159)) (by decide +kernel)
  have q1 := hts (Cond.methodLink RX6 164 ⟨"java/lang/Float", "intBitsToFloat", "(I)F"⟩) (by decide +kernel)
  have q2 := hts (Cond.native ⟨"java/lang/Float", "intBitsToFloat", "(I)F"⟩) (by decide +kernel)
  have q3 := hts (Cond.static ⟨"java/lang/Float", "intBitsToFloat", "(I)F"⟩) (by decide +kernel)
  have q4 := hts (Cond.initialized "java/lang/Float") (by decide +kernel)
  unfold gX6_plusTilt at hg
  generalize hHe : s.heap = H at hP ⊢
  have hS : va_S A s.heap H [] := hHe ▸ hS
  generalize hLe : ([] : List Loc) = locs at hS ⊢
  refine lv_aload_n hx hb dX6_plusTilt_0 rfl (lv_at hl 0 rfl) ?_
  refine lv_aload_n hx hb dX6_plusTilt_1 rfl (lv_at hl 0 rfl) ?_
  refine lv_iload_n hx hb dX6_plusTilt_2 rfl (lv_at hl 2 rfl) ?_
  obtain ⟨o1, hg⟩ := hg
  refine fRV (As := [.int x2]) (rest := [.ref h]) (st' := [.int (fX6_isStool S x2), .ref h]) ⟨hx, hb, hml, hown, hts⟩ (kX6_isStool l D cI cC cT h a1 a2 a3 a4 a5 a6 a7 a8 S x2 o1) (cwV 1 hts gX6_plusTilt_X6_isStool rfl rfl rfl (by decide +kernel) ⟨Nat.le_of_ble_eq_true rfl, Nat.le_of_ble_eq_true rfl⟩) hP hK [0, 1, 2, 3, 4, 5, 6, 7, 8] rfl 0 (ci := 7) rfl rfl rfl rfl hl.1 rfl rfl (Nat.le_of_ble_eq_true rfl) ⟨Nat.zero_le _, Nat.zero_le _⟩ dX6_plusTilt_3 ?_
  refine lv_if_ne (tgt := 13) hx hb dX6_plusTilt_6 (by decide) (fun c_6_1 => ?_) (fun c_6_1 => ?_)
  · rw [if_neg c_6_1] at hg
    refine lv_iload_n hx hb dX6_plusTilt_13 rfl (lv_at hl 1 rfl) ?_
    refine lv_iconst (v := 0) hx hb dX6_plusTilt_14 (by decide) ?_
    refine lv_ldc (v := 1232348159) hx hb hown q0 dX6_plusTilt_15 ?_
    refine fRS (As := [.int x1, .int 0, .int 1232348159]) (rest := [.ref h]) (st' := [.int (fX6_in x1 0 1232348159), .ref h]) ⟨hx, hb, hml, hown, hts⟩ (kX6_in l D cI cC cT x1 0 1232348159) (va_cwS 3 hts gX6_plusTilt_X6_in rfl rfl rfl (by decide +kernel) ⟨Nat.le_of_ble_eq_true rfl, Nat.le_of_ble_eq_true rfl⟩) hP hK [] rfl rfl hl.1 rfl rfl (Nat.le_of_ble_eq_true rfl) ⟨Nat.zero_le _, Nat.zero_le _⟩ dX6_plusTilt_17 ?_
    refine lv_if_eq (tgt := 27) hx hb dX6_plusTilt_20 (by decide) (fun c_20_2 => ?_) (fun c_20_2 => ?_)
    · rw [if_pos c_20_2] at hg
      refine lv_iconst (v := 2) hx hb dX6_plusTilt_27 (by decide) ?_
      obtain ⟨n1, en1⟩ : ∃ z9, z9 = (fX6_fails S 2) := ⟨_, rfl⟩
      try rw [← en1] at hg
      have k9 := (kX6_fails l D cI cC cT h a1 a2 a3 a4 a5 a6 a7 a8 S 2)
      rw [← en1] at k9
      refine fUV (As := [.int 2]) (rest := []) (st' := [.int n1.1]) ⟨hx, hb, hml, hown, hts⟩ k9 (cwV 1 hts gX6_plusTilt_X6_fails rfl rfl rfl (by decide +kernel) ⟨Nat.le_of_ble_eq_true rfl, Nat.le_of_ble_eq_true rfl⟩) hP hK hD hS [0, 1, 2, 3, 4, 5, 6, 7, 8] rfl rfl (by decide) rfl (w6 cI cC h a1 a2 a3 a4 a5 a6 a7 a8 n1.2) rfl rfl 0 (ci := 7) rfl rfl rfl rfl hl.1 rfl rfl (Nat.le_of_ble_eq_true rfl) ⟨Nat.zero_le _, Nat.zero_le _⟩ dX6_plusTilt_28 (fun H locs hP hD hS => ?_)
      refine lv_if_eq (tgt := 36) hx hb dX6_plusTilt_31 (by decide) (fun c_31 => absurd c_31 (by rw [en1, fails_2]; decide)) (fun c_31 => ?_)
      refine lv_iconst (v := 0) hx hb dX6_plusTilt_34 (by decide) ?_
      have e9 : fX6_plusTilt S x1 x2 = (0, n1.2) := by rw [fX6_plusTilt, if_neg c_6_1, if_pos c_20_2, ← en1]
      exact rUi hx hb hr hlk hQ hP hS (by rw [e9]) (congrArg (fun z9 : (Int32 × SV) => (w6 cI cC h a1 a2 a3 a4 a5 a6 a7 a8 z9.2 : va_W)) e9).symm rfl dX6_plusTilt_35
    · rw [if_neg c_20_2] at hg
      refine lv_iconst (v := 0) hx hb dX6_plusTilt_23 (by decide) ?_
      refine lv_goto (tgt := 28) hx hb dX6_plusTilt_24 (by decide) ?_
      obtain ⟨n2, en2⟩ : ∃ z9, z9 = (fX6_fails S 0) := ⟨_, rfl⟩
      try rw [← en2] at hg
      have k9 := (kX6_fails l D cI cC cT h a1 a2 a3 a4 a5 a6 a7 a8 S 0)
      rw [← en2] at k9
      refine fUV (As := [.int 0]) (rest := []) (st' := [.int n2.1]) ⟨hx, hb, hml, hown, hts⟩ k9 (cwV 1 hts gX6_plusTilt_X6_fails rfl rfl rfl (by decide +kernel) ⟨Nat.le_of_ble_eq_true rfl, Nat.le_of_ble_eq_true rfl⟩) hP hK hD hS [0, 1, 2, 3, 4, 5, 6, 7, 8] rfl rfl (by decide) rfl (w6 cI cC h a1 a2 a3 a4 a5 a6 a7 a8 n2.2) rfl rfl 0 (ci := 7) rfl rfl rfl rfl hl.1 rfl rfl (Nat.le_of_ble_eq_true rfl) ⟨Nat.zero_le _, Nat.zero_le _⟩ dX6_plusTilt_28 (fun H locs hP hD hS => ?_)
      refine lv_if_eq (tgt := 36) hx hb dX6_plusTilt_31 (by decide) (fun c_31 => ?_) (fun c_31 => absurd (by rw [en2]; exact fails_0 _) c_31)
      refine lv_iload_n hx hb dX6_plusTilt_36 rfl (lv_at hl 1 rfl) ?_
      obtain ⟨o2, hg⟩ := hg
      refine vn_i2f (b := x1) hx hb (hml.trans hl.1.symm) hown q1 q2 q3 q4 o2 (Nat.le_of_ble_eq_true rfl) (Nat.le_of_ble_eq_true rfl) dX6_plusTilt_37 ?_
      refine lv_aload_n hx hb dX6_plusTilt_40 rfl (lv_at hl 0 rfl) ?_
      refine lv_iload_n hx hb dX6_plusTilt_41 rfl (lv_at hl 2 rfl) ?_
      obtain ⟨o3, hg⟩ := hg
      refine fRV (As := [.int x2]) (rest := [.float (x1.toUInt32)]) (st' := [.float (fX6_tiltOf n2.2 x2), .float (x1.toUInt32)]) ⟨hx, hb, hml, hown, hts⟩ (kX6_tiltOf l D cI cC cT h a1 a2 a3 a4 a5 a6 a7 a8 n2.2 x2 o3) (cwV 1 hts gX6_plusTilt_X6_tiltOf rfl rfl rfl (by decide +kernel) ⟨Nat.le_of_ble_eq_true rfl, Nat.le_of_ble_eq_true rfl⟩) hP hK [0, 1, 2, 3, 4, 5, 6, 7, 8] rfl 0 (ci := 7) rfl rfl rfl rfl hl.1 rfl rfl (Nat.le_of_ble_eq_true rfl) ⟨Nat.zero_le _, Nat.zero_le _⟩ dX6_plusTilt_42 ?_
      obtain ⟨o4, hg⟩ := hg
      refine lv_fadd hx hb dX6_plusTilt_45 o4 ?_
      refine fRS (As := [.float (FP.fadd (x1.toUInt32) (fX6_tiltOf n2.2 x2))]) (rest := []) (st' := [.int (fJxf58ca_floatToIntBits_5c35a (FP.fadd (x1.toUInt32) (fX6_tiltOf n2.2 x2)))]) ⟨hx, hb, hml, hown, hts⟩ (kJxf58ca_floatToIntBits_5c35a l D cI cC cT (FP.fadd (x1.toUInt32) (fX6_tiltOf n2.2 x2))) (va_cwS 1 hts gX6_plusTilt_Jxf58ca_floatToIntBits_5c35a rfl rfl rfl (by decide +kernel) ⟨Nat.le_of_ble_eq_true rfl, Nat.le_of_ble_eq_true rfl⟩) hP hK [] rfl rfl hl.1 rfl rfl (Nat.le_of_ble_eq_true rfl) ⟨Nat.zero_le _, Nat.zero_le _⟩ dX6_plusTilt_46 ?_
      have e9 : fX6_plusTilt S x1 x2 = ((fJxf58ca_floatToIntBits_5c35a (FP.fadd (x1.toUInt32) (fX6_tiltOf n2.2 x2))), n2.2) := by rw [fX6_plusTilt, if_neg c_6_1, if_neg c_20_2, ← en2]
      exact rUi hx hb hr hlk hQ hP hS (by rw [e9]) (congrArg (fun z9 : (Int32 × SV) => (w6 cI cC h a1 a2 a3 a4 a5 a6 a7 a8 z9.2 : va_W)) e9).symm rfl dX6_plusTilt_49
  · rw [if_pos c_6_1] at hg
    refine lv_iconst (v := 1) hx hb dX6_plusTilt_9 (by decide) ?_
    refine lv_goto (tgt := 28) hx hb dX6_plusTilt_10 (by decide) ?_
    obtain ⟨n3, en3⟩ : ∃ z9, z9 = (fX6_fails S 1) := ⟨_, rfl⟩
    try rw [← en3] at hg
    have k9 := (kX6_fails l D cI cC cT h a1 a2 a3 a4 a5 a6 a7 a8 S 1)
    rw [← en3] at k9
    refine fUV (As := [.int 1]) (rest := []) (st' := [.int n3.1]) ⟨hx, hb, hml, hown, hts⟩ k9 (cwV 1 hts gX6_plusTilt_X6_fails rfl rfl rfl (by decide +kernel) ⟨Nat.le_of_ble_eq_true rfl, Nat.le_of_ble_eq_true rfl⟩) hP hK hD hS [0, 1, 2, 3, 4, 5, 6, 7, 8] rfl rfl (by decide) rfl (w6 cI cC h a1 a2 a3 a4 a5 a6 a7 a8 n3.2) rfl rfl 0 (ci := 7) rfl rfl rfl rfl hl.1 rfl rfl (Nat.le_of_ble_eq_true rfl) ⟨Nat.zero_le _, Nat.zero_le _⟩ dX6_plusTilt_28 (fun H locs hP hD hS => ?_)
    refine lv_if_eq (tgt := 36) hx hb dX6_plusTilt_31 (by decide) (fun c_31 => absurd c_31 (by rw [en3, fails_1]; decide)) (fun c_31 => ?_)
    refine lv_iconst (v := 0) hx hb dX6_plusTilt_34 (by decide) ?_
    have e9 : fX6_plusTilt S x1 x2 = (0, n3.2) := by rw [fX6_plusTilt, if_pos c_6_1, ← en3]
    exact rUi hx hb hr hlk hQ hP hS (by rw [e9]) (congrArg (fun z9 : (Int32 × SV) => (w6 cI cC h a1 a2 a3 a4 a5 a6 a7 a8 z9.2 : va_W)) e9).symm rfl dX6_plusTilt_35
def fX6_noiseOn (S : SV) (x1 : Int32) : UInt32 := (FP.fmul (FP.fmul (FP.i2f (fX6_of S x1 1)) (FP.fadd FP.fconst1 (fX6_tiltOf S x1))) (FP.i2f (fX6_by S (fX6_of S x1 5) 1)))
def gX6_noiseOn (S : SV) (x1 : Int32) : Prop := ((gX6_of S x1 1) ∧ (gX6_tiltOf S x1) ∧ (vf_n32 (FP.fadd FP.fconst1 (fX6_tiltOf S x1))) ∧ (vf_n32 (FP.fmul (FP.i2f (fX6_of S x1 1)) (FP.fadd FP.fconst1 (fX6_tiltOf S x1)))) ∧ (gX6_of S x1 5) ∧ (gX6_by S (fX6_of S x1 5) 1) ∧ (vf_n32 (FP.fmul (FP.fmul (FP.i2f (fX6_of S x1 1)) (FP.fadd FP.fconst1 (fX6_tiltOf S x1))) (FP.i2f (fX6_by S (fX6_of S x1 5) 1)))) ∧ True)
abbrev rmX6_noiseOn : Room := { frames := 2, cells := 0, slots := 0, locals := 43 }
set_option maxHeartbeats 4000000 in
set_option maxRecDepth 100000 in
theorem kX6_noiseOn (l : Launch) (D : va_G) (cI cC cT : ClassId) (h a1 a2 a3 a4 a5 a6 a7 a8 : Nat) (S : SV) (x1 : Int32) (hg : gX6_noiseOn S x1) : mR l D (TY cI cC cT) yX6_noiseOn wsX6_noiseOn rmX6_noiseOn [.ref h, .int x1] (w6 cI cC h a1 a2 a3 a4 a5 a6 a7 a8 S) (some (.float (fX6_noiseOn S x1))) := by
  refine mR.ofW (cc := cX6_noiseOn) (maxL := 3) (ret := (some .float)) (by decide) rfl (Nat.le_of_ble_eq_true rfl) ?_
  intro p e s m args below meth c Q ls hx hb hml hr hlk hts hown hP hK hl hQ
  have hown : s.vm.findClass RX6 = some m.cls := hown
  have hP : va_P D vwCl (w6 cI cC h a1 a2 a3 a4 a5 a6 a7 a8 S) s.heap := hP
  have hl : lv_has ls 3 [(0, .ref h), (1, .int x1)] := hl
  unfold gX6_noiseOn at hg
  refine lv_aload_n hx hb dX6_noiseOn_0 rfl (lv_at hl 0 rfl) ?_
  refine lv_iload_n hx hb dX6_noiseOn_1 rfl (lv_at hl 1 rfl) ?_
  refine lv_iconst (v := 1) hx hb dX6_noiseOn_2 (by decide) ?_
  obtain ⟨o1, hg⟩ := hg
  refine fRV (As := [.int x1, .int 1]) (rest := []) (st' := [.int (fX6_of S x1 1)]) ⟨hx, hb, hml, hown, hts⟩ (kX6_of l D cI cC cT h a1 a2 a3 a4 a5 a6 a7 a8 S x1 1 o1) (cwV 2 hts gX6_noiseOn_X6_of rfl rfl rfl (by decide +kernel) ⟨Nat.le_of_ble_eq_true rfl, Nat.le_of_ble_eq_true rfl⟩) hP hK [0, 1, 2, 3, 4, 5, 6, 7, 8] rfl 0 (ci := 7) rfl rfl rfl rfl hl.1 rfl rfl (Nat.le_of_ble_eq_true rfl) ⟨Nat.zero_le _, Nat.zero_le _⟩ dX6_noiseOn_3 ?_
  refine lv_i2f hx hb dX6_noiseOn_6 ?_
  refine lv_fconst1 hx hb dX6_noiseOn_7 ?_
  refine lv_aload_n hx hb dX6_noiseOn_8 rfl (lv_at hl 0 rfl) ?_
  refine lv_iload_n hx hb dX6_noiseOn_9 rfl (lv_at hl 1 rfl) ?_
  obtain ⟨o2, hg⟩ := hg
  refine fRV (As := [.int x1]) (rest := [.float FP.fconst1, .float (FP.i2f (fX6_of S x1 1))]) (st' := [.float (fX6_tiltOf S x1), .float FP.fconst1, .float (FP.i2f (fX6_of S x1 1))]) ⟨hx, hb, hml, hown, hts⟩ (kX6_tiltOf l D cI cC cT h a1 a2 a3 a4 a5 a6 a7 a8 S x1 o2) (cwV 1 hts gX6_noiseOn_X6_tiltOf rfl rfl rfl (by decide +kernel) ⟨Nat.le_of_ble_eq_true rfl, Nat.le_of_ble_eq_true rfl⟩) hP hK [0, 1, 2, 3, 4, 5, 6, 7, 8] rfl 0 (ci := 7) rfl rfl rfl rfl hl.1 rfl rfl (Nat.le_of_ble_eq_true rfl) ⟨Nat.zero_le _, Nat.zero_le _⟩ dX6_noiseOn_10 ?_
  obtain ⟨o3, hg⟩ := hg
  refine lv_fadd hx hb dX6_noiseOn_13 o3 ?_
  obtain ⟨o4, hg⟩ := hg
  refine lv_fmul hx hb dX6_noiseOn_14 o4 ?_
  refine lv_fstore_n (lv' := [(2, .float (FP.fmul (FP.i2f (fX6_of S x1 1)) (FP.fadd FP.fconst1 (fX6_tiltOf S x1)))), (0, .ref h), (1, .int x1)]) hx hb dX6_noiseOn_15 rfl hl (by decide) rfl (fun ls hl => ?_)
  refine lv_fload_n hx hb dX6_noiseOn_16 rfl (lv_at hl 0 rfl) ?_
  refine lv_aload_n hx hb dX6_noiseOn_17 rfl (lv_at hl 1 rfl) ?_
  refine lv_aload_n hx hb dX6_noiseOn_18 rfl (lv_at hl 1 rfl) ?_
  refine lv_iload_n hx hb dX6_noiseOn_19 rfl (lv_at hl 2 rfl) ?_
  refine lv_iconst (v := 5) hx hb dX6_noiseOn_20 (by decide) ?_
  obtain ⟨o5, hg⟩ := hg
  refine fRV (As := [.int x1, .int 5]) (rest := [.ref h, .float (FP.fmul (FP.i2f (fX6_of S x1 1)) (FP.fadd FP.fconst1 (fX6_tiltOf S x1)))]) (st' := [.int (fX6_of S x1 5), .ref h, .float (FP.fmul (FP.i2f (fX6_of S x1 1)) (FP.fadd FP.fconst1 (fX6_tiltOf S x1)))]) ⟨hx, hb, hml, hown, hts⟩ (kX6_of l D cI cC cT h a1 a2 a3 a4 a5 a6 a7 a8 S x1 5 o5) (cwV 2 hts gX6_noiseOn_X6_of rfl rfl rfl (by decide +kernel) ⟨Nat.le_of_ble_eq_true rfl, Nat.le_of_ble_eq_true rfl⟩) hP hK [0, 1, 2, 3, 4, 5, 6, 7, 8] rfl 0 (ci := 7) rfl rfl rfl rfl hl.1 rfl rfl (Nat.le_of_ble_eq_true rfl) ⟨Nat.zero_le _, Nat.zero_le _⟩ dX6_noiseOn_21 ?_
  refine lv_iconst (v := 1) hx hb dX6_noiseOn_24 (by decide) ?_
  obtain ⟨o6, hg⟩ := hg
  refine fRV (As := [.int (fX6_of S x1 5), .int 1]) (rest := [.float (FP.fmul (FP.i2f (fX6_of S x1 1)) (FP.fadd FP.fconst1 (fX6_tiltOf S x1)))]) (st' := [.int (fX6_by S (fX6_of S x1 5) 1), .float (FP.fmul (FP.i2f (fX6_of S x1 1)) (FP.fadd FP.fconst1 (fX6_tiltOf S x1)))]) ⟨hx, hb, hml, hown, hts⟩ (kX6_by l D cI cC cT h a1 a2 a3 a4 a5 a6 a7 a8 S (fX6_of S x1 5) 1 o6) (cwV 2 hts gX6_noiseOn_X6_by rfl rfl rfl (by decide +kernel) ⟨Nat.le_of_ble_eq_true rfl, Nat.le_of_ble_eq_true rfl⟩) hP hK [0, 1, 2, 3, 4, 5, 6, 7, 8] rfl 0 (ci := 7) rfl rfl rfl rfl hl.1 rfl rfl (Nat.le_of_ble_eq_true rfl) ⟨Nat.zero_le _, Nat.zero_le _⟩ dX6_noiseOn_25 ?_
  refine lv_i2f hx hb dX6_noiseOn_28 ?_
  obtain ⟨o7, hg⟩ := hg
  refine lv_fmul hx hb dX6_noiseOn_29 o7 ?_
  exact rRf hx hb hr hlk hQ (by rw [fX6_noiseOn]) dX6_noiseOn_30
def fX6_noiseOf (S : SV) (x1 : Int32) : (UInt32 × SV) := (if (fX6_isSitter S x1) = 0 then (FP.fconst0, (fX6_fails S 1).2) else (if 0 ≤ (fX6_by (fX6_fails S 0).2 x1 2) then ((fX6_noiseOn (fX6_fails S 0).2 (fX6_by (fX6_fails S 0).2 x1 2)), (fX6_fails S 0).2) else (FP.fconst0, (fX6_fails S 0).2)))
def gX6_noiseOf (S : SV) (x1 : Int32) : Prop := ((gX6_isSitter S x1) ∧ (if (fX6_isSitter S x1) = 0 then True else ((gX6_by (fX6_fails S 0).2 x1 2) ∧ (if 0 ≤ (fX6_by (fX6_fails S 0).2 x1 2) then ((gX6_by (fX6_fails S 0).2 x1 2) ∧ (gX6_noiseOn (fX6_fails S 0).2 (fX6_by (fX6_fails S 0).2 x1 2)) ∧ True) else True))))
abbrev rmX6_noiseOf : Room := { frames := 3, cells := 0, slots := 0, locals := 65 }
set_option maxHeartbeats 4000000 in
set_option maxRecDepth 100000 in
theorem kX6_noiseOf (l : Launch) (D : va_G) (cI cC cT : ClassId) (h a1 a2 a3 a4 a5 a6 a7 a8 : Nat) (S : SV) (x1 : Int32) (hg : gX6_noiseOf S x1) : mU l D (TY cI cC cT) yX6_noiseOf wsX6_noiseOf rmX6_noiseOf [.ref h, .int x1] (w6 cI cC h a1 a2 a3 a4 a5 a6 a7 a8 S) (some (.float (fX6_noiseOf S x1).1)) (w6 cI cC h a1 a2 a3 a4 a5 a6 a7 a8 (fX6_noiseOf S x1).2) := by
  refine mU.ofW (cc := cX6_noiseOf) (maxL := 2) (ret := (some .float)) (by decide) rfl (Nat.le_of_ble_eq_true rfl) ?_
  intro p e s m args below meth c Q ls A hx hb hml hr hlk hts hown hP hK hD hS hl hQ
  have hown : s.vm.findClass RX6 = some m.cls := hown
  have hP : va_P D vwCl (w6 cI cC h a1 a2 a3 a4 a5 a6 a7 a8 S) s.heap := hP
  have hD : va_D A (w6 cI cC h a1 a2 a3 a4 a5 a6 a7 a8 S) := hD
  have hl : lv_has ls 2 [(0, .ref h), (1, .int x1)] := hl
  unfold gX6_noiseOf at hg
  generalize hHe : s.heap = H at hP ⊢
  have hS : va_S A s.heap H [] := hHe ▸ hS
  generalize hLe : ([] : List Loc) = locs at hS ⊢
  refine lv_aload_n hx hb dX6_noiseOf_0 rfl (lv_at hl 0 rfl) ?_
  refine lv_aload_n hx hb dX6_noiseOf_1 rfl (lv_at hl 0 rfl) ?_
  refine lv_iload_n hx hb dX6_noiseOf_2 rfl (lv_at hl 1 rfl) ?_
  obtain ⟨o1, hg⟩ := hg
  refine fRV (As := [.int x1]) (rest := [.ref h]) (st' := [.int (fX6_isSitter S x1), .ref h]) ⟨hx, hb, hml, hown, hts⟩ (kX6_isSitter l D cI cC cT h a1 a2 a3 a4 a5 a6 a7 a8 S x1 o1) (cwV 1 hts gX6_noiseOf_X6_isSitter rfl rfl rfl (by decide +kernel) ⟨Nat.le_of_ble_eq_true rfl, Nat.le_of_ble_eq_true rfl⟩) hP hK [0, 1, 2, 3, 4, 5, 6, 7, 8] rfl 0 (ci := 7) rfl rfl rfl rfl hl.1 rfl rfl (Nat.le_of_ble_eq_true rfl) ⟨Nat.zero_le _, Nat.zero_le _⟩ dX6_noiseOf_3 ?_
  refine lv_if_eq (tgt := 13) hx hb dX6_noiseOf_6 (by decide) (fun c_6_1 => ?_) (fun c_6_1 => ?_)
  · rw [if_pos c_6_1] at hg
    refine lv_iconst (v := 1) hx hb dX6_noiseOf_13 (by decide) ?_
    obtain ⟨n1, en1⟩ : ∃ z9, z9 = (fX6_fails S 1) := ⟨_, rfl⟩
    try rw [← en1] at hg
    have k9 := (kX6_fails l D cI cC cT h a1 a2 a3 a4 a5 a6 a7 a8 S 1)
    rw [← en1] at k9
    refine fUV (As := [.int 1]) (rest := []) (st' := [.int n1.1]) ⟨hx, hb, hml, hown, hts⟩ k9 (cwV 1 hts gX6_noiseOf_X6_fails rfl rfl rfl (by decide +kernel) ⟨Nat.le_of_ble_eq_true rfl, Nat.le_of_ble_eq_true rfl⟩) hP hK hD hS [0, 1, 2, 3, 4, 5, 6, 7, 8] rfl rfl (by decide) rfl (w6 cI cC h a1 a2 a3 a4 a5 a6 a7 a8 n1.2) rfl rfl 0 (ci := 7) rfl rfl rfl rfl hl.1 rfl rfl (Nat.le_of_ble_eq_true rfl) ⟨Nat.zero_le _, Nat.zero_le _⟩ dX6_noiseOf_14 (fun H locs hP hD hS => ?_)
    refine lv_if_ne (tgt := 29) hx hb dX6_noiseOf_17 (by decide) (fun c_17 => ?_) (fun c_17 => absurd c_17 (by rw [en1, fails_1]; decide))
    refine lv_fconst0 hx hb dX6_noiseOf_29 ?_
    refine lv_goto (tgt := 43) hx hb dX6_noiseOf_30 (by decide) ?_
    have e9 : fX6_noiseOf S x1 = (FP.fconst0, n1.2) := by rw [fX6_noiseOf, if_pos c_6_1, ← en1]
    exact rUf hx hb hr hlk hQ hP hS (by rw [e9]) (congrArg (fun z9 : (UInt32 × SV) => (w6 cI cC h a1 a2 a3 a4 a5 a6 a7 a8 z9.2 : va_W)) e9).symm dX6_noiseOf_43
  · rw [if_neg c_6_1] at hg
    refine lv_iconst (v := 0) hx hb dX6_noiseOf_9 (by decide) ?_
    refine lv_goto (tgt := 14) hx hb dX6_noiseOf_10 (by decide) ?_
    obtain ⟨n2, en2⟩ : ∃ z9, z9 = (fX6_fails S 0) := ⟨_, rfl⟩
    try rw [← en2] at hg
    have k9 := (kX6_fails l D cI cC cT h a1 a2 a3 a4 a5 a6 a7 a8 S 0)
    rw [← en2] at k9
    refine fUV (As := [.int 0]) (rest := []) (st' := [.int n2.1]) ⟨hx, hb, hml, hown, hts⟩ k9 (cwV 1 hts gX6_noiseOf_X6_fails rfl rfl rfl (by decide +kernel) ⟨Nat.le_of_ble_eq_true rfl, Nat.le_of_ble_eq_true rfl⟩) hP hK hD hS [0, 1, 2, 3, 4, 5, 6, 7, 8] rfl rfl (by decide) rfl (w6 cI cC h a1 a2 a3 a4 a5 a6 a7 a8 n2.2) rfl rfl 0 (ci := 7) rfl rfl rfl rfl hl.1 rfl rfl (Nat.le_of_ble_eq_true rfl) ⟨Nat.zero_le _, Nat.zero_le _⟩ dX6_noiseOf_14 (fun H locs hP hD hS => ?_)
    refine lv_if_ne (tgt := 29) hx hb dX6_noiseOf_17 (by decide) (fun c_17 => absurd (by rw [en2]; exact fails_0 _) c_17) (fun c_17 => ?_)
    refine lv_aload_n hx hb dX6_noiseOf_20 rfl (lv_at hl 0 rfl) ?_
    refine lv_iload_n hx hb dX6_noiseOf_21 rfl (lv_at hl 1 rfl) ?_
    refine lv_iconst (v := 2) hx hb dX6_noiseOf_22 (by decide) ?_
    obtain ⟨o2, hg⟩ := hg
    refine fRV (As := [.int x1, .int 2]) (rest := []) (st' := [.int (fX6_by n2.2 x1 2)]) ⟨hx, hb, hml, hown, hts⟩ (kX6_by l D cI cC cT h a1 a2 a3 a4 a5 a6 a7 a8 n2.2 x1 2 o2) (cwV 2 hts gX6_noiseOf_X6_by rfl rfl rfl (by decide +kernel) ⟨Nat.le_of_ble_eq_true rfl, Nat.le_of_ble_eq_true rfl⟩) hP hK [0, 1, 2, 3, 4, 5, 6, 7, 8] rfl 0 (ci := 7) rfl rfl rfl rfl hl.1 rfl rfl (Nat.le_of_ble_eq_true rfl) ⟨Nat.zero_le _, Nat.zero_le _⟩ dX6_noiseOf_23 ?_
    refine lv_if_ge (tgt := 33) hx hb dX6_noiseOf_26 (by decide) (fun c_26_2 => ?_) (fun c_26_2 => ?_)
    · rw [if_pos c_26_2] at hg
      refine lv_aload_n hx hb dX6_noiseOf_33 rfl (lv_at hl 0 rfl) ?_
      refine lv_aload_n hx hb dX6_noiseOf_34 rfl (lv_at hl 0 rfl) ?_
      refine lv_iload_n hx hb dX6_noiseOf_35 rfl (lv_at hl 1 rfl) ?_
      refine lv_iconst (v := 2) hx hb dX6_noiseOf_36 (by decide) ?_
      obtain ⟨o3, hg⟩ := hg
      refine fRV (As := [.int x1, .int 2]) (rest := [.ref h]) (st' := [.int (fX6_by n2.2 x1 2), .ref h]) ⟨hx, hb, hml, hown, hts⟩ (kX6_by l D cI cC cT h a1 a2 a3 a4 a5 a6 a7 a8 n2.2 x1 2 o3) (cwV 2 hts gX6_noiseOf_X6_by rfl rfl rfl (by decide +kernel) ⟨Nat.le_of_ble_eq_true rfl, Nat.le_of_ble_eq_true rfl⟩) hP hK [0, 1, 2, 3, 4, 5, 6, 7, 8] rfl 0 (ci := 7) rfl rfl rfl rfl hl.1 rfl rfl (Nat.le_of_ble_eq_true rfl) ⟨Nat.zero_le _, Nat.zero_le _⟩ dX6_noiseOf_37 ?_
      obtain ⟨o4, hg⟩ := hg
      refine fRV (As := [.int (fX6_by n2.2 x1 2)]) (rest := []) (st' := [.float (fX6_noiseOn n2.2 (fX6_by n2.2 x1 2))]) ⟨hx, hb, hml, hown, hts⟩ (kX6_noiseOn l D cI cC cT h a1 a2 a3 a4 a5 a6 a7 a8 n2.2 (fX6_by n2.2 x1 2) o4) (cwV 1 hts gX6_noiseOf_X6_noiseOn rfl rfl rfl (by decide +kernel) ⟨Nat.le_of_ble_eq_true rfl, Nat.le_of_ble_eq_true rfl⟩) hP hK [0, 1, 2, 3, 4, 5, 6, 7, 8] rfl 0 (ci := 7) rfl rfl rfl rfl hl.1 rfl rfl (Nat.le_of_ble_eq_true rfl) ⟨Nat.zero_le _, Nat.zero_le _⟩ dX6_noiseOf_40 ?_
      have e9 : fX6_noiseOf S x1 = ((fX6_noiseOn n2.2 (fX6_by n2.2 x1 2)), n2.2) := by rw [fX6_noiseOf, if_neg c_6_1, ← en2, if_pos c_26_2]
      exact rUf hx hb hr hlk hQ hP hS (by rw [e9]) (congrArg (fun z9 : (UInt32 × SV) => (w6 cI cC h a1 a2 a3 a4 a5 a6 a7 a8 z9.2 : va_W)) e9).symm dX6_noiseOf_43
    · rw [if_neg c_26_2] at hg
      refine lv_fconst0 hx hb dX6_noiseOf_29 ?_
      refine lv_goto (tgt := 43) hx hb dX6_noiseOf_30 (by decide) ?_
      have e9 : fX6_noiseOf S x1 = (FP.fconst0, n2.2) := by rw [fX6_noiseOf, if_neg c_6_1, ← en2, if_neg c_26_2]
      exact rUf hx hb hr hlk hQ hP hS (by rw [e9]) (congrArg (fun z9 : (UInt32 × SV) => (w6 cI cC h a1 a2 a3 a4 a5 a6 a7 a8 z9.2 : va_W)) e9).symm dX6_noiseOf_43
def lX6_noiseBits_9 (S : SV) (v : (UInt32 × Int32)) : (UInt32 × Int32) ⊕ ((UInt32 × Int32)) := (if (S.1 (0 : Int32).toNatClampNeg) ≤ v.2 then (.inr (v.1, v.2)) else (if (fX6_of (sS12 0 S) v.2 5) < 0 then (.inl (v.1, (v.2 + 1))) else (.inl ((FP.fadd v.1 (fX6_noiseOn (sS12 0 S) v.2)), (v.2 + 1)))))
def glX6_noiseBits_9 (S : SV) (v : (UInt32 × Int32)) : Prop := ((vp_in 0 114) ∧ (if (S.1 (0 : Int32).toNatClampNeg) ≤ v.2 then True else ((gX6_of (sS12 0 S) v.2 5) ∧ (if (fX6_of (sS12 0 S) v.2 5) < 0 then True else ((gX6_noiseOn (sS12 0 S) v.2) ∧ (vf_n32 (FP.fadd v.1 (fX6_noiseOn (sS12 0 S) v.2))) ∧ True)))))
def fX6_noiseBits (S : SV)  : (Int32 × SV) := ((fJxf58ca_floatToIntBits_5c35a (itv (FP.fconst0, 0) (lX6_noiseBits_9 S) ((fun v : (UInt32 × Int32) => ((S.1 (0 : Int32).toNatClampNeg).toInt - v.2.toInt).toNat) (FP.fconst0, 0) + 1) (FP.fconst0, 0)).1), (sS12 0 S))
def gX6_noiseBits (S : SV)  : Prop := ((∃ r9 : (UInt32 × Int32), lrun (lX6_noiseBits_9 S) (glX6_noiseBits_9 S) ((fun v : (UInt32 × Int32) => ((S.1 (0 : Int32).toNatClampNeg).toInt - v.2.toInt).toNat) (FP.fconst0, 0) + 1) (FP.fconst0, 0) r9) ∧ True)
abbrev rmX6_noiseBits : Room := { frames := 3, cells := 0, slots := 0, locals := 65 }
set_option maxHeartbeats 4000000 in
set_option maxRecDepth 100000 in
theorem kX6_noiseBits (l : Launch) (D : va_G) (cI cC cT : ClassId) (h a1 a2 a3 a4 a5 a6 a7 a8 : Nat) (S : SV)  (hg : gX6_noiseBits S) : mU l D (TY cI cC cT) yX6_noiseBits wsX6_noiseBits rmX6_noiseBits [.ref h] (w6 cI cC h a1 a2 a3 a4 a5 a6 a7 a8 S) (some (.int (fX6_noiseBits S).1)) (w6 cI cC h a1 a2 a3 a4 a5 a6 a7 a8 (fX6_noiseBits S).2) := by
  refine mU.ofW (cc := cX6_noiseBits) (maxL := 3) (ret := (some .int)) (by decide) rfl (Nat.le_of_ble_eq_true rfl) ?_
  intro p e s m args below meth c Q ls A hx hb hml hr hlk hts hown hP hK hD hS hl hQ
  have hown : s.vm.findClass RX6 = some m.cls := hown
  have hP : va_P D vwCl (w6 cI cC h a1 a2 a3 a4 a5 a6 a7 a8 S) s.heap := hP
  have hD : va_D A (w6 cI cC h a1 a2 a3 a4 a5 a6 a7 a8 S) := hD
  have hl : lv_has ls 3 [(0, .ref h)] := hl
  have q0 := hts (Cond.fieldLink RX6 39 "TavernStoolsModel" "code" "I") (by decide +kernel)
  have q1 : ∀ w ∈ u_ws RX6 TX6 20, w ∈ wsX6_noiseBits := by decide +kernel
  have q2 := hts (Cond.fieldLink RX6 7 "TavernStoolsModel" "g" "[I") (by decide +kernel)
  unfold gX6_noiseBits at hg
  generalize hHe : s.heap = H at hP ⊢
  have hS : va_S A s.heap H [] := hHe ▸ hS
  generalize hLe : ([] : List Loc) = locs at hS ⊢
  refine lv_aload_n hx hb dX6_noiseBits_0 rfl (lv_at hl 0 rfl) ?_
  refine lv_iconst (v := 0) hx hb dX6_noiseBits_1 (by decide) ?_
  refine va_put (D := D) (ci := 7) (v := .int 0) (ty := .int) (C := RX6) (T := TX6) (N := 20) hx hb hts q1 tyX6 tyX6_ok nmX6 hown hK hP hD hS 0 rfl rfl 8 (by decide) q0 (fun _ h9 => h9) rfl (by decide +kernel) rfl rfl (Nat.le_of_ble_eq_true rfl) dX6_noiseBits_2 (fun H locs hP hD hS => ?_)
  have hP : va_P D vwCl (w6 cI cC h a1 a2 a3 a4 a5 a6 a7 a8 (sS12 0 S)) H := w6p_12 hP
  have hD : va_D A (w6 cI cC h a1 a2 a3 a4 a5 a6 a7 a8 (sS12 0 S)) := w6d_12 hD
  refine lv_fconst0 hx hb dX6_noiseBits_5 ?_
  refine lv_fstore_n (lv' := [(1, .float FP.fconst0), (0, .ref h)]) hx hb dX6_noiseBits_6 rfl hl (by decide) rfl (fun ls hl => ?_)
  refine lv_iconst (v := 0) hx hb dX6_noiseBits_7 (by decide) ?_
  refine lv_istore_n (lv' := [(2, .int 0), (1, .float FP.fconst0), (0, .ref h)]) hx hb dX6_noiseBits_8 rfl hl (by decide) rfl (fun ls hl => ?_)
  obtain ⟨n1, en1⟩ : ∃ z9, z9 = (itv (FP.fconst0, 0) (lX6_noiseBits_9 S) ((fun v : (UInt32 × Int32) => ((S.1 (0 : Int32).toNatClampNeg).toInt - v.2.toInt).toNat) (FP.fconst0, 0) + 1) (FP.fconst0, 0)) := ⟨_, rfl⟩
  try rw [← en1] at hg
  obtain ⟨o5, hg⟩ := hg
  have L9 := lrun_val (d := (FP.fconst0, 0)) o5
  rw [← en1] at L9
  refine loopWs (lX6_noiseBits_9 S) (glX6_noiseBits_9 S) (fun v : (UInt32 × Int32) => ∀ (H : Heap) (locs : List Loc) ls, va_P D vwCl (w6 cI cC h a1 a2 a3 a4 a5 a6 a7 a8 (sS12 0 S)) H → va_D A (w6 cI cC h a1 a2 a3 a4 a5 a6 a7 a8 (sS12 0 S)) → va_S A s.heap H locs → lv_has ls 3 [(0, .ref h), (1, .float v.1), (2, .int v.2)] → W p l e rmX6_noiseBits s m args below meth c H locs 0 0 Q (F0 m 9 ls [])) (fun r9 : (UInt32 × Int32) => ∀ (H : Heap) (locs : List Loc) ls, va_P D vwCl (w6 cI cC h a1 a2 a3 a4 a5 a6 a7 a8 (sS12 0 S)) H → va_D A (w6 cI cC h a1 a2 a3 a4 a5 a6 a7 a8 (sS12 0 S)) → va_S A s.heap H locs → lv_has ls 3 [(0, .ref h), (1, .float r9.1), (2, .int r9.2)] → W p l e rmX6_noiseBits s m args below meth c H locs 0 0 Q (F0 m 42 ls [])) ?_ _ (FP.fconst0, 0) n1 L9 ?_ _ _ ls hP hD hS (lv_sub hl [2, 1, 0] rfl)
  · intro v hg kb kx H locs ls hP hD hS hl
    unfold glX6_noiseBits_9 at hg
    refine lv_iload_n hx hb dX6_noiseBits_9 rfl (lv_at hl 2 rfl) ?_
    refine lv_aload_n hx hb dX6_noiseBits_10 rfl (lv_at hl 0 rfl) ?_
    refine va_get (D := D) (ci := 7) (v := .ref a1) (C := RX6) (T := TX6) (N := 20) hx hb hts q1 hown hK hP 0 rfl rfl 0 (by decide) q2 (fun _ h9 => h9) rfl dX6_noiseBits_11 ?_
    refine lv_iconst (v := 0) hx hb dX6_noiseBits_14 (by decide) ?_
    obtain ⟨o1, hg⟩ := hg
    refine va_iald hx hb hK hP 1 0 rfl rfl o1 dX6_noiseBits_15 ?_
    try rw [show (sS12 0 S).1 = S.1 from rfl]
    refine lv_icmp_ge (tgt := 42) hx hb dX6_noiseBits_16 (by decide) (fun c_16_1 => ?_) (fun c_16_1 => ?_)
    · rw [if_pos c_16_1] at hg
      exact kx (v.1, v.2) (by rw [lX6_noiseBits_9, if_pos c_16_1]) H locs ls hP hD hS (lv_sub hl [0, 1, 2] rfl)
    · rw [if_neg c_16_1] at hg
      refine lv_aload_n hx hb dX6_noiseBits_19 rfl (lv_at hl 0 rfl) ?_
      refine lv_iload_n hx hb dX6_noiseBits_20 rfl (lv_at hl 2 rfl) ?_
      refine lv_iconst (v := 5) hx hb dX6_noiseBits_21 (by decide) ?_
      obtain ⟨o2, hg⟩ := hg
      refine fRV (As := [.int v.2, .int 5]) (rest := []) (st' := [.int (fX6_of (sS12 0 S) v.2 5)]) ⟨hx, hb, hml, hown, hts⟩ (kX6_of l D cI cC cT h a1 a2 a3 a4 a5 a6 a7 a8 (sS12 0 S) v.2 5 o2) (cwV 2 hts gX6_noiseBits_X6_of rfl rfl rfl (by decide +kernel) ⟨Nat.le_of_ble_eq_true rfl, Nat.le_of_ble_eq_true rfl⟩) hP hK [0, 1, 2, 3, 4, 5, 6, 7, 8] rfl 0 (ci := 7) rfl rfl rfl rfl hl.1 rfl rfl (Nat.le_of_ble_eq_true rfl) ⟨Nat.zero_le _, Nat.zero_le _⟩ dX6_noiseBits_22 ?_
      refine lv_if_lt (tgt := 36) hx hb dX6_noiseBits_25 (by decide) (fun c_25_2 => ?_) (fun c_25_2 => ?_)
      · rw [if_pos c_25_2] at hg
        refine lv_iinc (v := (v.2 + 1)) (lv' := [(2, .int (v.2 + 1)), (0, .ref h), (1, .float v.1)]) hx hb dX6_noiseBits_36 hl (k := 2) rfl rfl (by decide) rfl (fun ls hl => ?_)
        refine lv_goto (tgt := 9) hx hb dX6_noiseBits_39 (by decide) ?_
        exact kb (v.1, (v.2 + 1)) (by rw [lX6_noiseBits_9, if_neg c_16_1, if_pos c_25_2]) H locs ls hP hD hS (lv_sub hl [1, 2, 0] rfl)
      · rw [if_neg c_25_2] at hg
        refine lv_fload_n hx hb dX6_noiseBits_28 rfl (lv_at hl 1 rfl) ?_
        refine lv_aload_n hx hb dX6_noiseBits_29 rfl (lv_at hl 0 rfl) ?_
        refine lv_iload_n hx hb dX6_noiseBits_30 rfl (lv_at hl 2 rfl) ?_
        obtain ⟨o3, hg⟩ := hg
        refine fRV (As := [.int v.2]) (rest := [.float v.1]) (st' := [.float (fX6_noiseOn (sS12 0 S) v.2), .float v.1]) ⟨hx, hb, hml, hown, hts⟩ (kX6_noiseOn l D cI cC cT h a1 a2 a3 a4 a5 a6 a7 a8 (sS12 0 S) v.2 o3) (cwV 1 hts gX6_noiseBits_X6_noiseOn rfl rfl rfl (by decide +kernel) ⟨Nat.le_of_ble_eq_true rfl, Nat.le_of_ble_eq_true rfl⟩) hP hK [0, 1, 2, 3, 4, 5, 6, 7, 8] rfl 0 (ci := 7) rfl rfl rfl rfl hl.1 rfl rfl (Nat.le_of_ble_eq_true rfl) ⟨Nat.zero_le _, Nat.zero_le _⟩ dX6_noiseBits_31 ?_
        obtain ⟨o4, hg⟩ := hg
        refine lv_fadd hx hb dX6_noiseBits_34 o4 ?_
        refine lv_fstore_n (lv' := [(1, .float (FP.fadd v.1 (fX6_noiseOn (sS12 0 S) v.2))), (0, .ref h), (2, .int v.2)]) hx hb dX6_noiseBits_35 rfl hl (by decide) rfl (fun ls hl => ?_)
        refine lv_iinc (v := (v.2 + 1)) (lv' := [(2, .int (v.2 + 1)), (1, .float (FP.fadd v.1 (fX6_noiseOn (sS12 0 S) v.2))), (0, .ref h)]) hx hb dX6_noiseBits_36 hl (k := 2) rfl rfl (by decide) rfl (fun ls hl => ?_)
        refine lv_goto (tgt := 9) hx hb dX6_noiseBits_39 (by decide) ?_
        exact kb ((FP.fadd v.1 (fX6_noiseOn (sS12 0 S) v.2)), (v.2 + 1)) (by rw [lX6_noiseBits_9, if_neg c_16_1, if_neg c_25_2]) H locs ls hP hD hS (lv_sub hl [2, 1, 0] rfl)
  · intro H locs ls hP hD hS hl
    refine lv_fload_n hx hb dX6_noiseBits_42 rfl (lv_at hl 1 rfl) ?_
    refine fRS (As := [.float n1.1]) (rest := []) (st' := [.int (fJxf58ca_floatToIntBits_5c35a n1.1)]) ⟨hx, hb, hml, hown, hts⟩ (kJxf58ca_floatToIntBits_5c35a l D cI cC cT n1.1) (va_cwS 1 hts gX6_noiseBits_Jxf58ca_floatToIntBits_5c35a rfl rfl rfl (by decide +kernel) ⟨Nat.le_of_ble_eq_true rfl, Nat.le_of_ble_eq_true rfl⟩) hP hK [] rfl rfl hl.1 rfl rfl (Nat.le_of_ble_eq_true rfl) ⟨Nat.zero_le _, Nat.zero_le _⟩ dX6_noiseBits_43 ?_
    have e9 : fX6_noiseBits S = ((fJxf58ca_floatToIntBits_5c35a n1.1), (sS12 0 S)) := by rw [fX6_noiseBits, ← en1]
    exact rUi hx hb hr hlk hQ hP hS (by rw [e9]) (congrArg (fun z9 : (Int32 × SV) => (w6 cI cC h a1 a2 a3 a4 a5 a6 a7 a8 z9.2 : va_W)) e9).symm rfl dX6_noiseBits_46
def lX6_night_12  (v : (SV × Int32 × Int32)) : (SV × Int32 × Int32) ⊕ ((SV × Int32 × Int32)) := (if (v.1.1 (0 : Int32).toNatClampNeg) ≤ v.2.2 then (.inr (v.1, v.2.1, v.2.2)) else (if 0 ≤ (fX6_of v.1 v.2.2 5) then (if (fX6_of v.1 v.2.2 2) = 0 then (if (fX6_isCat v.1 (fX6_of v.1 v.2.2 5)) = 0 then (if (fX6_by v.1 (fX6_of v.1 v.2.2 5) 1) ≤ 100 then (if (fX6_of v.1 v.2.2 2) ≤ 0 then (.inl (v.1, (v.2.1 + 1), (v.2.2 + 1))) else (.inl ((fX6_lays v.1 v.2.2 1 (fX6_atMost ((fX6_of v.1 v.2.2 1) + 1) 9)), (v.2.1 + 1), (v.2.2 + 1)))) else (if (fX6_of (fX6_lays v.1 v.2.2 2 (fX6_atMost ((fX6_of v.1 v.2.2 2) + 1) 9)) v.2.2 2) ≤ 0 then (.inl ((fX6_lays v.1 v.2.2 2 (fX6_atMost ((fX6_of v.1 v.2.2 2) + 1) 9)), (v.2.1 + 1), (v.2.2 + 1))) else (.inl ((fX6_lays (fX6_lays v.1 v.2.2 2 (fX6_atMost ((fX6_of v.1 v.2.2 2) + 1) 9)) v.2.2 1 (fX6_atMost ((fX6_of (fX6_lays v.1 v.2.2 2 (fX6_atMost ((fX6_of v.1 v.2.2 2) + 1) 9)) v.2.2 1) + 1) 9)), (v.2.1 + 1), (v.2.2 + 1))))) else (if (fX6_by v.1 (fX6_of v.1 v.2.2 5) 1) ≤ 100 then (if (fX6_of v.1 v.2.2 2) ≤ 0 then (.inl (v.1, (v.2.1 + 0), (v.2.2 + 1))) else (.inl ((fX6_lays v.1 v.2.2 1 (fX6_atMost ((fX6_of v.1 v.2.2 1) + 1) 9)), (v.2.1 + 0), (v.2.2 + 1)))) else (if (fX6_of (fX6_lays v.1 v.2.2 2 (fX6_atMost ((fX6_of v.1 v.2.2 2) + 1) 9)) v.2.2 2) ≤ 0 then (.inl ((fX6_lays v.1 v.2.2 2 (fX6_atMost ((fX6_of v.1 v.2.2 2) + 1) 9)), (v.2.1 + 0), (v.2.2 + 1))) else (.inl ((fX6_lays (fX6_lays v.1 v.2.2 2 (fX6_atMost ((fX6_of v.1 v.2.2 2) + 1) 9)) v.2.2 1 (fX6_atMost ((fX6_of (fX6_lays v.1 v.2.2 2 (fX6_atMost ((fX6_of v.1 v.2.2 2) + 1) 9)) v.2.2 1) + 1) 9)), (v.2.1 + 0), (v.2.2 + 1)))))) else (if (fX6_by v.1 (fX6_of v.1 v.2.2 5) 1) ≤ 100 then (if (fX6_of v.1 v.2.2 2) ≤ 0 then (.inl (v.1, (v.2.1 + 0), (v.2.2 + 1))) else (.inl ((fX6_lays v.1 v.2.2 1 (fX6_atMost ((fX6_of v.1 v.2.2 1) + 1) 9)), (v.2.1 + 0), (v.2.2 + 1)))) else (if (fX6_of (fX6_lays v.1 v.2.2 2 (fX6_atMost ((fX6_of v.1 v.2.2 2) + 1) 9)) v.2.2 2) ≤ 0 then (.inl ((fX6_lays v.1 v.2.2 2 (fX6_atMost ((fX6_of v.1 v.2.2 2) + 1) 9)), (v.2.1 + 0), (v.2.2 + 1))) else (.inl ((fX6_lays (fX6_lays v.1 v.2.2 2 (fX6_atMost ((fX6_of v.1 v.2.2 2) + 1) 9)) v.2.2 1 (fX6_atMost ((fX6_of (fX6_lays v.1 v.2.2 2 (fX6_atMost ((fX6_of v.1 v.2.2 2) + 1) 9)) v.2.2 1) + 1) 9)), (v.2.1 + 0), (v.2.2 + 1)))))) else (.inl (v.1, v.2.1, (v.2.2 + 1)))))
def glX6_night_12  (v : (SV × Int32 × Int32)) : Prop := ((vp_in 0 114) ∧ (if (v.1.1 (0 : Int32).toNatClampNeg) ≤ v.2.2 then True else ((gX6_of v.1 v.2.2 5) ∧ (if 0 ≤ (fX6_of v.1 v.2.2 5) then ((gX6_of v.1 v.2.2 2) ∧ (if (fX6_of v.1 v.2.2 2) = 0 then ((gX6_of v.1 v.2.2 5) ∧ (gX6_isCat v.1 (fX6_of v.1 v.2.2 5)) ∧ (if (fX6_isCat v.1 (fX6_of v.1 v.2.2 5)) = 0 then ((gX6_of v.1 v.2.2 5) ∧ (gX6_by v.1 (fX6_of v.1 v.2.2 5) 1) ∧ (if (fX6_by v.1 (fX6_of v.1 v.2.2 5) 1) ≤ 100 then ((gX6_of v.1 v.2.2 2) ∧ (if (fX6_of v.1 v.2.2 2) ≤ 0 then True else ((gX6_of v.1 v.2.2 1) ∧ (gX6_lays v.1 v.2.2 1 (fX6_atMost ((fX6_of v.1 v.2.2 1) + 1) 9)) ∧ True))) else ((gX6_of v.1 v.2.2 2) ∧ (gX6_lays v.1 v.2.2 2 (fX6_atMost ((fX6_of v.1 v.2.2 2) + 1) 9)) ∧ (gX6_of (fX6_lays v.1 v.2.2 2 (fX6_atMost ((fX6_of v.1 v.2.2 2) + 1) 9)) v.2.2 2) ∧ (if (fX6_of (fX6_lays v.1 v.2.2 2 (fX6_atMost ((fX6_of v.1 v.2.2 2) + 1) 9)) v.2.2 2) ≤ 0 then True else ((gX6_of (fX6_lays v.1 v.2.2 2 (fX6_atMost ((fX6_of v.1 v.2.2 2) + 1) 9)) v.2.2 1) ∧ (gX6_lays (fX6_lays v.1 v.2.2 2 (fX6_atMost ((fX6_of v.1 v.2.2 2) + 1) 9)) v.2.2 1 (fX6_atMost ((fX6_of (fX6_lays v.1 v.2.2 2 (fX6_atMost ((fX6_of v.1 v.2.2 2) + 1) 9)) v.2.2 1) + 1) 9)) ∧ True))))) else ((gX6_of v.1 v.2.2 5) ∧ (gX6_by v.1 (fX6_of v.1 v.2.2 5) 1) ∧ (if (fX6_by v.1 (fX6_of v.1 v.2.2 5) 1) ≤ 100 then ((gX6_of v.1 v.2.2 2) ∧ (if (fX6_of v.1 v.2.2 2) ≤ 0 then True else ((gX6_of v.1 v.2.2 1) ∧ (gX6_lays v.1 v.2.2 1 (fX6_atMost ((fX6_of v.1 v.2.2 1) + 1) 9)) ∧ True))) else ((gX6_of v.1 v.2.2 2) ∧ (gX6_lays v.1 v.2.2 2 (fX6_atMost ((fX6_of v.1 v.2.2 2) + 1) 9)) ∧ (gX6_of (fX6_lays v.1 v.2.2 2 (fX6_atMost ((fX6_of v.1 v.2.2 2) + 1) 9)) v.2.2 2) ∧ (if (fX6_of (fX6_lays v.1 v.2.2 2 (fX6_atMost ((fX6_of v.1 v.2.2 2) + 1) 9)) v.2.2 2) ≤ 0 then True else ((gX6_of (fX6_lays v.1 v.2.2 2 (fX6_atMost ((fX6_of v.1 v.2.2 2) + 1) 9)) v.2.2 1) ∧ (gX6_lays (fX6_lays v.1 v.2.2 2 (fX6_atMost ((fX6_of v.1 v.2.2 2) + 1) 9)) v.2.2 1 (fX6_atMost ((fX6_of (fX6_lays v.1 v.2.2 2 (fX6_atMost ((fX6_of v.1 v.2.2 2) + 1) 9)) v.2.2 1) + 1) 9)) ∧ True))))))) else ((gX6_of v.1 v.2.2 5) ∧ (gX6_by v.1 (fX6_of v.1 v.2.2 5) 1) ∧ (if (fX6_by v.1 (fX6_of v.1 v.2.2 5) 1) ≤ 100 then ((gX6_of v.1 v.2.2 2) ∧ (if (fX6_of v.1 v.2.2 2) ≤ 0 then True else ((gX6_of v.1 v.2.2 1) ∧ (gX6_lays v.1 v.2.2 1 (fX6_atMost ((fX6_of v.1 v.2.2 1) + 1) 9)) ∧ True))) else ((gX6_of v.1 v.2.2 2) ∧ (gX6_lays v.1 v.2.2 2 (fX6_atMost ((fX6_of v.1 v.2.2 2) + 1) 9)) ∧ (gX6_of (fX6_lays v.1 v.2.2 2 (fX6_atMost ((fX6_of v.1 v.2.2 2) + 1) 9)) v.2.2 2) ∧ (if (fX6_of (fX6_lays v.1 v.2.2 2 (fX6_atMost ((fX6_of v.1 v.2.2 2) + 1) 9)) v.2.2 2) ≤ 0 then True else ((gX6_of (fX6_lays v.1 v.2.2 2 (fX6_atMost ((fX6_of v.1 v.2.2 2) + 1) 9)) v.2.2 1) ∧ (gX6_lays (fX6_lays v.1 v.2.2 2 (fX6_atMost ((fX6_of v.1 v.2.2 2) + 1) 9)) v.2.2 1 (fX6_atMost ((fX6_of (fX6_lays v.1 v.2.2 2 (fX6_atMost ((fX6_of v.1 v.2.2 2) + 1) 9)) v.2.2 1) + 1) 9)) ∧ True))))))) else True))))
def fX6_night (S : SV)  : (Int32 × SV) := ((itv ((fX6_keeps_g S), 0, 0) lX6_night_12 ((fun v : (SV × Int32 × Int32) => ((v.1.1 (0 : Int32).toNatClampNeg).toInt - v.2.2.toInt).toNat) ((fX6_keeps_g S), 0, 0) + 1) ((fX6_keeps_g S), 0, 0)).2.1, (sS0 (upd (upd (upd (itv ((fX6_keeps_g S), 0, 0) lX6_night_12 ((fun v : (SV × Int32 × Int32) => ((v.1.1 (0 : Int32).toNatClampNeg).toInt - v.2.2.toInt).toNat) ((fX6_keeps_g S), 0, 0) + 1) ((fX6_keeps_g S), 0, 0)).1.1 (2 : Int32).toNatClampNeg (((itv ((fX6_keeps_g S), 0, 0) lX6_night_12 ((fun v : (SV × Int32 × Int32) => ((v.1.1 (0 : Int32).toNatClampNeg).toInt - v.2.2.toInt).toNat) ((fX6_keeps_g S), 0, 0) + 1) ((fX6_keeps_g S), 0, 0)).1.1 (2 : Int32).toNatClampNeg) + (itv ((fX6_keeps_g S), 0, 0) lX6_night_12 ((fun v : (SV × Int32 × Int32) => ((v.1.1 (0 : Int32).toNatClampNeg).toInt - v.2.2.toInt).toNat) ((fX6_keeps_g S), 0, 0) + 1) ((fX6_keeps_g S), 0, 0)).2.1)) (5 : Int32).toNatClampNeg (((upd (itv ((fX6_keeps_g S), 0, 0) lX6_night_12 ((fun v : (SV × Int32 × Int32) => ((v.1.1 (0 : Int32).toNatClampNeg).toInt - v.2.2.toInt).toNat) ((fX6_keeps_g S), 0, 0) + 1) ((fX6_keeps_g S), 0, 0)).1.1 (2 : Int32).toNatClampNeg (((itv ((fX6_keeps_g S), 0, 0) lX6_night_12 ((fun v : (SV × Int32 × Int32) => ((v.1.1 (0 : Int32).toNatClampNeg).toInt - v.2.2.toInt).toNat) ((fX6_keeps_g S), 0, 0) + 1) ((fX6_keeps_g S), 0, 0)).1.1 (2 : Int32).toNatClampNeg) + (itv ((fX6_keeps_g S), 0, 0) lX6_night_12 ((fun v : (SV × Int32 × Int32) => ((v.1.1 (0 : Int32).toNatClampNeg).toInt - v.2.2.toInt).toNat) ((fX6_keeps_g S), 0, 0) + 1) ((fX6_keeps_g S), 0, 0)).2.1)) (5 : Int32).toNatClampNeg) + (itv ((fX6_keeps_g S), 0, 0) lX6_night_12 ((fun v : (SV × Int32 × Int32) => ((v.1.1 (0 : Int32).toNatClampNeg).toInt - v.2.2.toInt).toNat) ((fX6_keeps_g S), 0, 0) + 1) ((fX6_keeps_g S), 0, 0)).2.1)) (3 : Int32).toNatClampNeg (((upd (upd (itv ((fX6_keeps_g S), 0, 0) lX6_night_12 ((fun v : (SV × Int32 × Int32) => ((v.1.1 (0 : Int32).toNatClampNeg).toInt - v.2.2.toInt).toNat) ((fX6_keeps_g S), 0, 0) + 1) ((fX6_keeps_g S), 0, 0)).1.1 (2 : Int32).toNatClampNeg (((itv ((fX6_keeps_g S), 0, 0) lX6_night_12 ((fun v : (SV × Int32 × Int32) => ((v.1.1 (0 : Int32).toNatClampNeg).toInt - v.2.2.toInt).toNat) ((fX6_keeps_g S), 0, 0) + 1) ((fX6_keeps_g S), 0, 0)).1.1 (2 : Int32).toNatClampNeg) + (itv ((fX6_keeps_g S), 0, 0) lX6_night_12 ((fun v : (SV × Int32 × Int32) => ((v.1.1 (0 : Int32).toNatClampNeg).toInt - v.2.2.toInt).toNat) ((fX6_keeps_g S), 0, 0) + 1) ((fX6_keeps_g S), 0, 0)).2.1)) (5 : Int32).toNatClampNeg (((upd (itv ((fX6_keeps_g S), 0, 0) lX6_night_12 ((fun v : (SV × Int32 × Int32) => ((v.1.1 (0 : Int32).toNatClampNeg).toInt - v.2.2.toInt).toNat) ((fX6_keeps_g S), 0, 0) + 1) ((fX6_keeps_g S), 0, 0)).1.1 (2 : Int32).toNatClampNeg (((itv ((fX6_keeps_g S), 0, 0) lX6_night_12 ((fun v : (SV × Int32 × Int32) => ((v.1.1 (0 : Int32).toNatClampNeg).toInt - v.2.2.toInt).toNat) ((fX6_keeps_g S), 0, 0) + 1) ((fX6_keeps_g S), 0, 0)).1.1 (2 : Int32).toNatClampNeg) + (itv ((fX6_keeps_g S), 0, 0) lX6_night_12 ((fun v : (SV × Int32 × Int32) => ((v.1.1 (0 : Int32).toNatClampNeg).toInt - v.2.2.toInt).toNat) ((fX6_keeps_g S), 0, 0) + 1) ((fX6_keeps_g S), 0, 0)).2.1)) (5 : Int32).toNatClampNeg) + (itv ((fX6_keeps_g S), 0, 0) lX6_night_12 ((fun v : (SV × Int32 × Int32) => ((v.1.1 (0 : Int32).toNatClampNeg).toInt - v.2.2.toInt).toNat) ((fX6_keeps_g S), 0, 0) + 1) ((fX6_keeps_g S), 0, 0)).2.1)) (3 : Int32).toNatClampNeg) + 1)) (sS0 (upd (upd (itv ((fX6_keeps_g S), 0, 0) lX6_night_12 ((fun v : (SV × Int32 × Int32) => ((v.1.1 (0 : Int32).toNatClampNeg).toInt - v.2.2.toInt).toNat) ((fX6_keeps_g S), 0, 0) + 1) ((fX6_keeps_g S), 0, 0)).1.1 (2 : Int32).toNatClampNeg (((itv ((fX6_keeps_g S), 0, 0) lX6_night_12 ((fun v : (SV × Int32 × Int32) => ((v.1.1 (0 : Int32).toNatClampNeg).toInt - v.2.2.toInt).toNat) ((fX6_keeps_g S), 0, 0) + 1) ((fX6_keeps_g S), 0, 0)).1.1 (2 : Int32).toNatClampNeg) + (itv ((fX6_keeps_g S), 0, 0) lX6_night_12 ((fun v : (SV × Int32 × Int32) => ((v.1.1 (0 : Int32).toNatClampNeg).toInt - v.2.2.toInt).toNat) ((fX6_keeps_g S), 0, 0) + 1) ((fX6_keeps_g S), 0, 0)).2.1)) (5 : Int32).toNatClampNeg (((upd (itv ((fX6_keeps_g S), 0, 0) lX6_night_12 ((fun v : (SV × Int32 × Int32) => ((v.1.1 (0 : Int32).toNatClampNeg).toInt - v.2.2.toInt).toNat) ((fX6_keeps_g S), 0, 0) + 1) ((fX6_keeps_g S), 0, 0)).1.1 (2 : Int32).toNatClampNeg (((itv ((fX6_keeps_g S), 0, 0) lX6_night_12 ((fun v : (SV × Int32 × Int32) => ((v.1.1 (0 : Int32).toNatClampNeg).toInt - v.2.2.toInt).toNat) ((fX6_keeps_g S), 0, 0) + 1) ((fX6_keeps_g S), 0, 0)).1.1 (2 : Int32).toNatClampNeg) + (itv ((fX6_keeps_g S), 0, 0) lX6_night_12 ((fun v : (SV × Int32 × Int32) => ((v.1.1 (0 : Int32).toNatClampNeg).toInt - v.2.2.toInt).toNat) ((fX6_keeps_g S), 0, 0) + 1) ((fX6_keeps_g S), 0, 0)).2.1)) (5 : Int32).toNatClampNeg) + (itv ((fX6_keeps_g S), 0, 0) lX6_night_12 ((fun v : (SV × Int32 × Int32) => ((v.1.1 (0 : Int32).toNatClampNeg).toInt - v.2.2.toInt).toNat) ((fX6_keeps_g S), 0, 0) + 1) ((fX6_keeps_g S), 0, 0)).2.1)) (sS0 (upd (itv ((fX6_keeps_g S), 0, 0) lX6_night_12 ((fun v : (SV × Int32 × Int32) => ((v.1.1 (0 : Int32).toNatClampNeg).toInt - v.2.2.toInt).toNat) ((fX6_keeps_g S), 0, 0) + 1) ((fX6_keeps_g S), 0, 0)).1.1 (2 : Int32).toNatClampNeg (((itv ((fX6_keeps_g S), 0, 0) lX6_night_12 ((fun v : (SV × Int32 × Int32) => ((v.1.1 (0 : Int32).toNatClampNeg).toInt - v.2.2.toInt).toNat) ((fX6_keeps_g S), 0, 0) + 1) ((fX6_keeps_g S), 0, 0)).1.1 (2 : Int32).toNatClampNeg) + (itv ((fX6_keeps_g S), 0, 0) lX6_night_12 ((fun v : (SV × Int32 × Int32) => ((v.1.1 (0 : Int32).toNatClampNeg).toInt - v.2.2.toInt).toNat) ((fX6_keeps_g S), 0, 0) + 1) ((fX6_keeps_g S), 0, 0)).2.1)) (itv ((fX6_keeps_g S), 0, 0) lX6_night_12 ((fun v : (SV × Int32 × Int32) => ((v.1.1 (0 : Int32).toNatClampNeg).toInt - v.2.2.toInt).toNat) ((fX6_keeps_g S), 0, 0) + 1) ((fX6_keeps_g S), 0, 0)).1))))
def gX6_night (S : SV)  : Prop := ((gX6_keeps_g S) ∧ (∃ r9 : (SV × Int32 × Int32), lrun lX6_night_12 glX6_night_12 ((fun v : (SV × Int32 × Int32) => ((v.1.1 (0 : Int32).toNatClampNeg).toInt - v.2.2.toInt).toNat) ((fX6_keeps_g S), 0, 0) + 1) ((fX6_keeps_g S), 0, 0) r9) ∧ ((vp_in 2 114) ∧ (vp_in 2 114) ∧ (vp_in 5 114) ∧ (vp_in 5 114) ∧ (vp_in 3 114) ∧ (vp_in 3 114) ∧ True))
abbrev rmX6_night : Room := { frames := 2, cells := 0, slots := 0, locals := 46 }
set_option maxHeartbeats 4000000 in
set_option maxRecDepth 100000 in
theorem kX6_night (l : Launch) (D : va_G) (cI cC cT : ClassId) (h a1 a2 a3 a4 a5 a6 a7 a8 : Nat) (S : SV)  (hg : gX6_night S) : mU l D (TY cI cC cT) yX6_night wsX6_night rmX6_night [.ref h] (w6 cI cC h a1 a2 a3 a4 a5 a6 a7 a8 S) (some (.int (fX6_night S).1)) (w6 cI cC h a1 a2 a3 a4 a5 a6 a7 a8 (fX6_night S).2) := by
  refine mU.ofW (cc := cX6_night) (maxL := 3) (ret := (some .int)) (by decide) rfl (Nat.le_of_ble_eq_true rfl) ?_
  intro p e s m args below meth c Q ls A hx hb hml hr hlk hts hown hP hK hD hS hl hQ
  have hown : s.vm.findClass RX6 = some m.cls := hown
  have hP : va_P D vwCl (w6 cI cC h a1 a2 a3 a4 a5 a6 a7 a8 S) s.heap := hP
  have hD : va_D A (w6 cI cC h a1 a2 a3 a4 a5 a6 a7 a8 S) := hD
  have hl : lv_has ls 3 [(0, .ref h)] := hl
  have q0 := hts (Cond.fieldLink RX6 7 "TavernStoolsModel" "g" "[I") (by decide +kernel)
  have q1 : ∀ w ∈ u_ws RX6 TX6 20, w ∈ wsX6_night := by decide +kernel
  unfold gX6_night at hg
  generalize hHe : s.heap = H at hP ⊢
  have hS : va_S A s.heap H [] := hHe ▸ hS
  generalize hLe : ([] : List Loc) = locs at hS ⊢
  refine lv_aload_n hx hb dX6_night_0 rfl (lv_at hl 0 rfl) ?_
  refine lv_aload_n hx hb dX6_night_1 rfl (lv_at hl 0 rfl) ?_
  refine va_get (D := D) (ci := 7) (v := .ref a1) (C := RX6) (T := TX6) (N := 20) hx hb hts q1 hown hK hP 0 rfl rfl 0 (by decide) q0 (fun _ h9 => h9) rfl dX6_night_2 ?_
  obtain ⟨n1, en1⟩ : ∃ z9, z9 = (fX6_keeps_g S) := ⟨_, rfl⟩
  try rw [← en1] at hg
  obtain ⟨o1, hg⟩ := hg
  have k9 := (kX6_keeps_g l D cI cC cT h a1 a2 a3 a4 a5 a6 a7 a8 S o1)
  rw [← en1] at k9
  refine fUV (As := [.ref a1]) (rest := []) (st' := []) ⟨hx, hb, hml, hown, hts⟩ k9 (cwV 1 hts gX6_night_X6_keeps rfl rfl rfl (by decide +kernel) ⟨Nat.le_of_ble_eq_true rfl, Nat.le_of_ble_eq_true rfl⟩) hP hK hD hS [0, 1, 2, 3, 4, 5, 6, 7, 8] rfl rfl (by decide) rfl (w6 cI cC h a1 a2 a3 a4 a5 a6 a7 a8 n1) rfl rfl 0 (ci := 7) rfl rfl rfl rfl hl.1 rfl rfl (Nat.le_of_ble_eq_true rfl) ⟨Nat.zero_le _, Nat.zero_le _⟩ dX6_night_5 (fun H locs hP hD hS => ?_)
  refine lv_iconst (v := 0) hx hb dX6_night_8 (by decide) ?_
  refine lv_istore_n (lv' := [(1, .int 0), (0, .ref h)]) hx hb dX6_night_9 rfl hl (by decide) rfl (fun ls hl => ?_)
  refine lv_iconst (v := 0) hx hb dX6_night_10 (by decide) ?_
  refine lv_istore_n (lv' := [(2, .int 0), (1, .int 0), (0, .ref h)]) hx hb dX6_night_11 rfl hl (by decide) rfl (fun ls hl => ?_)
  obtain ⟨n11, en11⟩ : ∃ z9, z9 = (itv (n1, 0, 0) lX6_night_12 ((fun v : (SV × Int32 × Int32) => ((v.1.1 (0 : Int32).toNatClampNeg).toInt - v.2.2.toInt).toNat) (n1, 0, 0) + 1) (n1, 0, 0)) := ⟨_, rfl⟩
  try rw [← en11] at hg
  obtain ⟨o37, hg⟩ := hg
  have L9 := lrun_val (d := (n1, 0, 0)) o37
  rw [← en11] at L9
  refine loopWs lX6_night_12 glX6_night_12 (fun v : (SV × Int32 × Int32) => ∀ (H : Heap) (locs : List Loc) ls, va_P D vwCl (w6 cI cC h a1 a2 a3 a4 a5 a6 a7 a8 v.1) H → va_D A (w6 cI cC h a1 a2 a3 a4 a5 a6 a7 a8 v.1) → va_S A s.heap H locs → lv_has ls 3 [(0, .ref h), (1, .int v.2.1), (2, .int v.2.2)] → W p l e rmX6_night s m args below meth c H locs 0 0 Q (F0 m 12 ls [])) (fun r9 : (SV × Int32 × Int32) => ∀ (H : Heap) (locs : List Loc) ls, va_P D vwCl (w6 cI cC h a1 a2 a3 a4 a5 a6 a7 a8 r9.1) H → va_D A (w6 cI cC h a1 a2 a3 a4 a5 a6 a7 a8 r9.1) → va_S A s.heap H locs → lv_has ls 3 [(0, .ref h), (1, .int r9.2.1), (2, .int r9.2.2)] → W p l e rmX6_night s m args below meth c H locs 0 0 Q (F0 m 133 ls [])) ?_ _ (n1, 0, 0) n11 L9 ?_ _ _ ls hP hD hS (lv_sub hl [2, 1, 0] rfl)
  · intro v hg kb kx H locs ls hP hD hS hl
    unfold glX6_night_12 at hg
    refine lv_iload_n hx hb dX6_night_12 rfl (lv_at hl 2 rfl) ?_
    refine lv_aload_n hx hb dX6_night_13 rfl (lv_at hl 0 rfl) ?_
    refine va_get (D := D) (ci := 7) (v := .ref a1) (C := RX6) (T := TX6) (N := 20) hx hb hts q1 hown hK hP 0 rfl rfl 0 (by decide) q0 (fun _ h9 => h9) rfl dX6_night_14 ?_
    refine lv_iconst (v := 0) hx hb dX6_night_17 (by decide) ?_
    obtain ⟨o2, hg⟩ := hg
    refine va_iald hx hb hK hP 1 0 rfl rfl o2 dX6_night_18 ?_
    refine lv_icmp_ge (tgt := 133) hx hb dX6_night_19 (by decide) (fun c_19_1 => ?_) (fun c_19_1 => ?_)
    · rw [if_pos c_19_1] at hg
      exact kx (v.1, v.2.1, v.2.2) (by rw [lX6_night_12, if_pos c_19_1]) H locs ls hP hD hS (lv_sub hl [0, 1, 2] rfl)
    · rw [if_neg c_19_1] at hg
      refine lv_aload_n hx hb dX6_night_22 rfl (lv_at hl 0 rfl) ?_
      refine lv_iload_n hx hb dX6_night_23 rfl (lv_at hl 2 rfl) ?_
      refine lv_iconst (v := 5) hx hb dX6_night_24 (by decide) ?_
      obtain ⟨o3, hg⟩ := hg
      refine fRV (As := [.int v.2.2, .int 5]) (rest := []) (st' := [.int (fX6_of v.1 v.2.2 5)]) ⟨hx, hb, hml, hown, hts⟩ (kX6_of l D cI cC cT h a1 a2 a3 a4 a5 a6 a7 a8 v.1 v.2.2 5 o3) (cwV 2 hts gX6_night_X6_of rfl rfl rfl (by decide +kernel) ⟨Nat.le_of_ble_eq_true rfl, Nat.le_of_ble_eq_true rfl⟩) hP hK [0, 1, 2, 3, 4, 5, 6, 7, 8] rfl 0 (ci := 7) rfl rfl rfl rfl hl.1 rfl rfl (Nat.le_of_ble_eq_true rfl) ⟨Nat.zero_le _, Nat.zero_le _⟩ dX6_night_25 ?_
      refine lv_if_ge (tgt := 34) hx hb dX6_night_28 (by decide) (fun c_28_2 => ?_) (fun c_28_2 => ?_)
      · rw [if_pos c_28_2] at hg
        refine lv_iload_n hx hb dX6_night_34 rfl (lv_at hl 1 rfl) ?_
        refine lv_aload_n hx hb dX6_night_35 rfl (lv_at hl 0 rfl) ?_
        refine lv_iload_n hx hb dX6_night_36 rfl (lv_at hl 2 rfl) ?_
        refine lv_iconst (v := 2) hx hb dX6_night_37 (by decide) ?_
        obtain ⟨o4, hg⟩ := hg
        refine fRV (As := [.int v.2.2, .int 2]) (rest := [.int v.2.1]) (st' := [.int (fX6_of v.1 v.2.2 2), .int v.2.1]) ⟨hx, hb, hml, hown, hts⟩ (kX6_of l D cI cC cT h a1 a2 a3 a4 a5 a6 a7 a8 v.1 v.2.2 2 o4) (cwV 2 hts gX6_night_X6_of rfl rfl rfl (by decide +kernel) ⟨Nat.le_of_ble_eq_true rfl, Nat.le_of_ble_eq_true rfl⟩) hP hK [0, 1, 2, 3, 4, 5, 6, 7, 8] rfl 0 (ci := 7) rfl rfl rfl rfl hl.1 rfl rfl (Nat.le_of_ble_eq_true rfl) ⟨Nat.zero_le _, Nat.zero_le _⟩ dX6_night_38 ?_
        refine lv_if_ne (tgt := 61) hx hb dX6_night_41 (by decide) (fun c_41_3 => ?_) (fun c_41_3 => ?_)
        · rw [if_neg c_41_3] at hg
          refine lv_iconst (v := 0) hx hb dX6_night_61 (by decide) ?_
          refine lv_iadd hx hb dX6_night_62 ?_
          refine lv_istore_n (lv' := [(1, .int (v.2.1 + 0)), (0, .ref h), (2, .int v.2.2)]) hx hb dX6_night_63 rfl hl (by decide) rfl (fun ls hl => ?_)
          refine lv_aload_n hx hb dX6_night_64 rfl (lv_at hl 1 rfl) ?_
          refine lv_aload_n hx hb dX6_night_65 rfl (lv_at hl 1 rfl) ?_
          refine lv_iload_n hx hb dX6_night_66 rfl (lv_at hl 2 rfl) ?_
          refine lv_iconst (v := 5) hx hb dX6_night_67 (by decide) ?_
          obtain ⟨o5, hg⟩ := hg
          refine fRV (As := [.int v.2.2, .int 5]) (rest := [.ref h]) (st' := [.int (fX6_of v.1 v.2.2 5), .ref h]) ⟨hx, hb, hml, hown, hts⟩ (kX6_of l D cI cC cT h a1 a2 a3 a4 a5 a6 a7 a8 v.1 v.2.2 5 o5) (cwV 2 hts gX6_night_X6_of rfl rfl rfl (by decide +kernel) ⟨Nat.le_of_ble_eq_true rfl, Nat.le_of_ble_eq_true rfl⟩) hP hK [0, 1, 2, 3, 4, 5, 6, 7, 8] rfl 0 (ci := 7) rfl rfl rfl rfl hl.1 rfl rfl (Nat.le_of_ble_eq_true rfl) ⟨Nat.zero_le _, Nat.zero_le _⟩ dX6_night_68 ?_
          refine lv_iconst (v := 1) hx hb dX6_night_71 (by decide) ?_
          obtain ⟨o6, hg⟩ := hg
          refine fRV (As := [.int (fX6_of v.1 v.2.2 5), .int 1]) (rest := []) (st' := [.int (fX6_by v.1 (fX6_of v.1 v.2.2 5) 1)]) ⟨hx, hb, hml, hown, hts⟩ (kX6_by l D cI cC cT h a1 a2 a3 a4 a5 a6 a7 a8 v.1 (fX6_of v.1 v.2.2 5) 1 o6) (cwV 2 hts gX6_night_X6_by rfl rfl rfl (by decide +kernel) ⟨Nat.le_of_ble_eq_true rfl, Nat.le_of_ble_eq_true rfl⟩) hP hK [0, 1, 2, 3, 4, 5, 6, 7, 8] rfl 0 (ci := 7) rfl rfl rfl rfl hl.1 rfl rfl (Nat.le_of_ble_eq_true rfl) ⟨Nat.zero_le _, Nat.zero_le _⟩ dX6_night_72 ?_
          refine lv_bipush (v := 100) hx hb dX6_night_75 (by decide) ?_
          refine lv_icmp_le (tgt := 99) hx hb dX6_night_77 (by decide) (fun c_77_4 => ?_) (fun c_77_4 => ?_)
          · rw [if_pos c_77_4] at hg
            refine lv_aload_n hx hb dX6_night_99 rfl (lv_at hl 1 rfl) ?_
            refine lv_iload_n hx hb dX6_night_100 rfl (lv_at hl 2 rfl) ?_
            refine lv_iconst (v := 2) hx hb dX6_night_101 (by decide) ?_
            obtain ⟨o7, hg⟩ := hg
            refine fRV (As := [.int v.2.2, .int 2]) (rest := []) (st' := [.int (fX6_of v.1 v.2.2 2)]) ⟨hx, hb, hml, hown, hts⟩ (kX6_of l D cI cC cT h a1 a2 a3 a4 a5 a6 a7 a8 v.1 v.2.2 2 o7) (cwV 2 hts gX6_night_X6_of rfl rfl rfl (by decide +kernel) ⟨Nat.le_of_ble_eq_true rfl, Nat.le_of_ble_eq_true rfl⟩) hP hK [0, 1, 2, 3, 4, 5, 6, 7, 8] rfl 0 (ci := 7) rfl rfl rfl rfl hl.1 rfl rfl (Nat.le_of_ble_eq_true rfl) ⟨Nat.zero_le _, Nat.zero_le _⟩ dX6_night_102 ?_
            refine lv_if_le (tgt := 127) hx hb dX6_night_105 (by decide) (fun c_105_5 => ?_) (fun c_105_5 => ?_)
            · rw [if_pos c_105_5] at hg
              refine lv_iinc (v := (v.2.2 + 1)) (lv' := [(2, .int (v.2.2 + 1)), (1, .int (v.2.1 + 0)), (0, .ref h)]) hx hb dX6_night_127 hl (k := 2) rfl rfl (by decide) rfl (fun ls hl => ?_)
              refine lv_goto (tgt := 12) hx hb dX6_night_130 (by decide) ?_
              exact kb (v.1, (v.2.1 + 0), (v.2.2 + 1)) (by rw [lX6_night_12, if_neg c_19_1, if_pos c_28_2, if_neg c_41_3, if_pos c_77_4, if_pos c_105_5]) H locs ls hP hD hS (lv_sub hl [2, 1, 0] rfl)
            · rw [if_neg c_105_5] at hg
              refine lv_aload_n hx hb dX6_night_108 rfl (lv_at hl 1 rfl) ?_
              refine lv_iload_n hx hb dX6_night_109 rfl (lv_at hl 2 rfl) ?_
              refine lv_iconst (v := 1) hx hb dX6_night_110 (by decide) ?_
              refine lv_aload_n hx hb dX6_night_111 rfl (lv_at hl 1 rfl) ?_
              refine lv_iload_n hx hb dX6_night_112 rfl (lv_at hl 2 rfl) ?_
              refine lv_iconst (v := 1) hx hb dX6_night_113 (by decide) ?_
              obtain ⟨o8, hg⟩ := hg
              refine fRV (As := [.int v.2.2, .int 1]) (rest := [.int 1, .int v.2.2, .ref h]) (st' := [.int (fX6_of v.1 v.2.2 1), .int 1, .int v.2.2, .ref h]) ⟨hx, hb, hml, hown, hts⟩ (kX6_of l D cI cC cT h a1 a2 a3 a4 a5 a6 a7 a8 v.1 v.2.2 1 o8) (cwV 2 hts gX6_night_X6_of rfl rfl rfl (by decide +kernel) ⟨Nat.le_of_ble_eq_true rfl, Nat.le_of_ble_eq_true rfl⟩) hP hK [0, 1, 2, 3, 4, 5, 6, 7, 8] rfl 0 (ci := 7) rfl rfl rfl rfl hl.1 rfl rfl (Nat.le_of_ble_eq_true rfl) ⟨Nat.zero_le _, Nat.zero_le _⟩ dX6_night_114 ?_
              refine lv_iconst (v := 1) hx hb dX6_night_117 (by decide) ?_
              refine lv_iadd hx hb dX6_night_118 ?_
              refine lv_bipush (v := 9) hx hb dX6_night_119 (by decide) ?_
              refine fRS (As := [.int ((fX6_of v.1 v.2.2 1) + 1), .int 9]) (rest := [.int 1, .int v.2.2, .ref h]) (st' := [.int (fX6_atMost ((fX6_of v.1 v.2.2 1) + 1) 9), .int 1, .int v.2.2, .ref h]) ⟨hx, hb, hml, hown, hts⟩ (kX6_atMost l D cI cC cT ((fX6_of v.1 v.2.2 1) + 1) 9) (va_cwS 2 hts gX6_night_X6_atMost rfl rfl rfl (by decide +kernel) ⟨Nat.le_of_ble_eq_true rfl, Nat.le_of_ble_eq_true rfl⟩) hP hK [] rfl rfl hl.1 rfl rfl (Nat.le_of_ble_eq_true rfl) ⟨Nat.zero_le _, Nat.zero_le _⟩ dX6_night_121 ?_
              obtain ⟨n2, en2⟩ : ∃ z9, z9 = (fX6_lays v.1 v.2.2 1 (fX6_atMost ((fX6_of v.1 v.2.2 1) + 1) 9)) := ⟨_, rfl⟩
              try rw [← en2] at hg
              obtain ⟨o9, hg⟩ := hg
              have k9 := (kX6_lays l D cI cC cT h a1 a2 a3 a4 a5 a6 a7 a8 v.1 v.2.2 1 (fX6_atMost ((fX6_of v.1 v.2.2 1) + 1) 9) o9)
              rw [← en2] at k9
              refine fUV (As := [.int v.2.2, .int 1, .int (fX6_atMost ((fX6_of v.1 v.2.2 1) + 1) 9)]) (rest := []) (st' := []) ⟨hx, hb, hml, hown, hts⟩ k9 (cwV 3 hts gX6_night_X6_lays rfl rfl rfl (by decide +kernel) ⟨Nat.le_of_ble_eq_true rfl, Nat.le_of_ble_eq_true rfl⟩) hP hK hD hS [0, 1, 2, 3, 4, 5, 6, 7, 8] rfl rfl (by decide) rfl (w6 cI cC h a1 a2 a3 a4 a5 a6 a7 a8 n2) rfl rfl 0 (ci := 7) rfl rfl rfl rfl hl.1 rfl rfl (Nat.le_of_ble_eq_true rfl) ⟨Nat.zero_le _, Nat.zero_le _⟩ dX6_night_124 (fun H locs hP hD hS => ?_)
              refine lv_iinc (v := (v.2.2 + 1)) (lv' := [(2, .int (v.2.2 + 1)), (1, .int (v.2.1 + 0)), (0, .ref h)]) hx hb dX6_night_127 hl (k := 2) rfl rfl (by decide) rfl (fun ls hl => ?_)
              refine lv_goto (tgt := 12) hx hb dX6_night_130 (by decide) ?_
              exact kb (n2, (v.2.1 + 0), (v.2.2 + 1)) (by rw [lX6_night_12, if_neg c_19_1, if_pos c_28_2, if_neg c_41_3, if_pos c_77_4, if_neg c_105_5, ← en2]) H locs ls hP hD hS (lv_sub hl [2, 1, 0] rfl)
          · rw [if_neg c_77_4] at hg
            refine lv_aload_n hx hb dX6_night_80 rfl (lv_at hl 1 rfl) ?_
            refine lv_iload_n hx hb dX6_night_81 rfl (lv_at hl 2 rfl) ?_
            refine lv_iconst (v := 2) hx hb dX6_night_82 (by decide) ?_
            refine lv_aload_n hx hb dX6_night_83 rfl (lv_at hl 1 rfl) ?_
            refine lv_iload_n hx hb dX6_night_84 rfl (lv_at hl 2 rfl) ?_
            refine lv_iconst (v := 2) hx hb dX6_night_85 (by decide) ?_
            obtain ⟨o10, hg⟩ := hg
            refine fRV (As := [.int v.2.2, .int 2]) (rest := [.int 2, .int v.2.2, .ref h]) (st' := [.int (fX6_of v.1 v.2.2 2), .int 2, .int v.2.2, .ref h]) ⟨hx, hb, hml, hown, hts⟩ (kX6_of l D cI cC cT h a1 a2 a3 a4 a5 a6 a7 a8 v.1 v.2.2 2 o10) (cwV 2 hts gX6_night_X6_of rfl rfl rfl (by decide +kernel) ⟨Nat.le_of_ble_eq_true rfl, Nat.le_of_ble_eq_true rfl⟩) hP hK [0, 1, 2, 3, 4, 5, 6, 7, 8] rfl 0 (ci := 7) rfl rfl rfl rfl hl.1 rfl rfl (Nat.le_of_ble_eq_true rfl) ⟨Nat.zero_le _, Nat.zero_le _⟩ dX6_night_86 ?_
            refine lv_iconst (v := 1) hx hb dX6_night_89 (by decide) ?_
            refine lv_iadd hx hb dX6_night_90 ?_
            refine lv_bipush (v := 9) hx hb dX6_night_91 (by decide) ?_
            refine fRS (As := [.int ((fX6_of v.1 v.2.2 2) + 1), .int 9]) (rest := [.int 2, .int v.2.2, .ref h]) (st' := [.int (fX6_atMost ((fX6_of v.1 v.2.2 2) + 1) 9), .int 2, .int v.2.2, .ref h]) ⟨hx, hb, hml, hown, hts⟩ (kX6_atMost l D cI cC cT ((fX6_of v.1 v.2.2 2) + 1) 9) (va_cwS 2 hts gX6_night_X6_atMost rfl rfl rfl (by decide +kernel) ⟨Nat.le_of_ble_eq_true rfl, Nat.le_of_ble_eq_true rfl⟩) hP hK [] rfl rfl hl.1 rfl rfl (Nat.le_of_ble_eq_true rfl) ⟨Nat.zero_le _, Nat.zero_le _⟩ dX6_night_93 ?_
            obtain ⟨n3, en3⟩ : ∃ z9, z9 = (fX6_lays v.1 v.2.2 2 (fX6_atMost ((fX6_of v.1 v.2.2 2) + 1) 9)) := ⟨_, rfl⟩
            try rw [← en3] at hg
            obtain ⟨o11, hg⟩ := hg
            have k9 := (kX6_lays l D cI cC cT h a1 a2 a3 a4 a5 a6 a7 a8 v.1 v.2.2 2 (fX6_atMost ((fX6_of v.1 v.2.2 2) + 1) 9) o11)
            rw [← en3] at k9
            refine fUV (As := [.int v.2.2, .int 2, .int (fX6_atMost ((fX6_of v.1 v.2.2 2) + 1) 9)]) (rest := []) (st' := []) ⟨hx, hb, hml, hown, hts⟩ k9 (cwV 3 hts gX6_night_X6_lays rfl rfl rfl (by decide +kernel) ⟨Nat.le_of_ble_eq_true rfl, Nat.le_of_ble_eq_true rfl⟩) hP hK hD hS [0, 1, 2, 3, 4, 5, 6, 7, 8] rfl rfl (by decide) rfl (w6 cI cC h a1 a2 a3 a4 a5 a6 a7 a8 n3) rfl rfl 0 (ci := 7) rfl rfl rfl rfl hl.1 rfl rfl (Nat.le_of_ble_eq_true rfl) ⟨Nat.zero_le _, Nat.zero_le _⟩ dX6_night_96 (fun H locs hP hD hS => ?_)
            refine lv_aload_n hx hb dX6_night_99 rfl (lv_at hl 1 rfl) ?_
            refine lv_iload_n hx hb dX6_night_100 rfl (lv_at hl 2 rfl) ?_
            refine lv_iconst (v := 2) hx hb dX6_night_101 (by decide) ?_
            obtain ⟨o12, hg⟩ := hg
            refine fRV (As := [.int v.2.2, .int 2]) (rest := []) (st' := [.int (fX6_of n3 v.2.2 2)]) ⟨hx, hb, hml, hown, hts⟩ (kX6_of l D cI cC cT h a1 a2 a3 a4 a5 a6 a7 a8 n3 v.2.2 2 o12) (cwV 2 hts gX6_night_X6_of rfl rfl rfl (by decide +kernel) ⟨Nat.le_of_ble_eq_true rfl, Nat.le_of_ble_eq_true rfl⟩) hP hK [0, 1, 2, 3, 4, 5, 6, 7, 8] rfl 0 (ci := 7) rfl rfl rfl rfl hl.1 rfl rfl (Nat.le_of_ble_eq_true rfl) ⟨Nat.zero_le _, Nat.zero_le _⟩ dX6_night_102 ?_
            refine lv_if_le (tgt := 127) hx hb dX6_night_105 (by decide) (fun c_105_6 => ?_) (fun c_105_6 => ?_)
            · rw [if_pos c_105_6] at hg
              refine lv_iinc (v := (v.2.2 + 1)) (lv' := [(2, .int (v.2.2 + 1)), (1, .int (v.2.1 + 0)), (0, .ref h)]) hx hb dX6_night_127 hl (k := 2) rfl rfl (by decide) rfl (fun ls hl => ?_)
              refine lv_goto (tgt := 12) hx hb dX6_night_130 (by decide) ?_
              exact kb (n3, (v.2.1 + 0), (v.2.2 + 1)) (by rw [lX6_night_12, if_neg c_19_1, if_pos c_28_2, if_neg c_41_3, if_neg c_77_4, ← en3, if_pos c_105_6]) H locs ls hP hD hS (lv_sub hl [2, 1, 0] rfl)
            · rw [if_neg c_105_6] at hg
              refine lv_aload_n hx hb dX6_night_108 rfl (lv_at hl 1 rfl) ?_
              refine lv_iload_n hx hb dX6_night_109 rfl (lv_at hl 2 rfl) ?_
              refine lv_iconst (v := 1) hx hb dX6_night_110 (by decide) ?_
              refine lv_aload_n hx hb dX6_night_111 rfl (lv_at hl 1 rfl) ?_
              refine lv_iload_n hx hb dX6_night_112 rfl (lv_at hl 2 rfl) ?_
              refine lv_iconst (v := 1) hx hb dX6_night_113 (by decide) ?_
              obtain ⟨o13, hg⟩ := hg
              refine fRV (As := [.int v.2.2, .int 1]) (rest := [.int 1, .int v.2.2, .ref h]) (st' := [.int (fX6_of n3 v.2.2 1), .int 1, .int v.2.2, .ref h]) ⟨hx, hb, hml, hown, hts⟩ (kX6_of l D cI cC cT h a1 a2 a3 a4 a5 a6 a7 a8 n3 v.2.2 1 o13) (cwV 2 hts gX6_night_X6_of rfl rfl rfl (by decide +kernel) ⟨Nat.le_of_ble_eq_true rfl, Nat.le_of_ble_eq_true rfl⟩) hP hK [0, 1, 2, 3, 4, 5, 6, 7, 8] rfl 0 (ci := 7) rfl rfl rfl rfl hl.1 rfl rfl (Nat.le_of_ble_eq_true rfl) ⟨Nat.zero_le _, Nat.zero_le _⟩ dX6_night_114 ?_
              refine lv_iconst (v := 1) hx hb dX6_night_117 (by decide) ?_
              refine lv_iadd hx hb dX6_night_118 ?_
              refine lv_bipush (v := 9) hx hb dX6_night_119 (by decide) ?_
              refine fRS (As := [.int ((fX6_of n3 v.2.2 1) + 1), .int 9]) (rest := [.int 1, .int v.2.2, .ref h]) (st' := [.int (fX6_atMost ((fX6_of n3 v.2.2 1) + 1) 9), .int 1, .int v.2.2, .ref h]) ⟨hx, hb, hml, hown, hts⟩ (kX6_atMost l D cI cC cT ((fX6_of n3 v.2.2 1) + 1) 9) (va_cwS 2 hts gX6_night_X6_atMost rfl rfl rfl (by decide +kernel) ⟨Nat.le_of_ble_eq_true rfl, Nat.le_of_ble_eq_true rfl⟩) hP hK [] rfl rfl hl.1 rfl rfl (Nat.le_of_ble_eq_true rfl) ⟨Nat.zero_le _, Nat.zero_le _⟩ dX6_night_121 ?_
              obtain ⟨n4, en4⟩ : ∃ z9, z9 = (fX6_lays n3 v.2.2 1 (fX6_atMost ((fX6_of n3 v.2.2 1) + 1) 9)) := ⟨_, rfl⟩
              try rw [← en4] at hg
              obtain ⟨o14, hg⟩ := hg
              have k9 := (kX6_lays l D cI cC cT h a1 a2 a3 a4 a5 a6 a7 a8 n3 v.2.2 1 (fX6_atMost ((fX6_of n3 v.2.2 1) + 1) 9) o14)
              rw [← en4] at k9
              refine fUV (As := [.int v.2.2, .int 1, .int (fX6_atMost ((fX6_of n3 v.2.2 1) + 1) 9)]) (rest := []) (st' := []) ⟨hx, hb, hml, hown, hts⟩ k9 (cwV 3 hts gX6_night_X6_lays rfl rfl rfl (by decide +kernel) ⟨Nat.le_of_ble_eq_true rfl, Nat.le_of_ble_eq_true rfl⟩) hP hK hD hS [0, 1, 2, 3, 4, 5, 6, 7, 8] rfl rfl (by decide) rfl (w6 cI cC h a1 a2 a3 a4 a5 a6 a7 a8 n4) rfl rfl 0 (ci := 7) rfl rfl rfl rfl hl.1 rfl rfl (Nat.le_of_ble_eq_true rfl) ⟨Nat.zero_le _, Nat.zero_le _⟩ dX6_night_124 (fun H locs hP hD hS => ?_)
              refine lv_iinc (v := (v.2.2 + 1)) (lv' := [(2, .int (v.2.2 + 1)), (1, .int (v.2.1 + 0)), (0, .ref h)]) hx hb dX6_night_127 hl (k := 2) rfl rfl (by decide) rfl (fun ls hl => ?_)
              refine lv_goto (tgt := 12) hx hb dX6_night_130 (by decide) ?_
              exact kb (n4, (v.2.1 + 0), (v.2.2 + 1)) (by rw [lX6_night_12, if_neg c_19_1, if_pos c_28_2, if_neg c_41_3, if_neg c_77_4, ← en3, if_neg c_105_6, ← en4]) H locs ls hP hD hS (lv_sub hl [2, 1, 0] rfl)
        · rw [if_pos c_41_3] at hg
          refine lv_aload_n hx hb dX6_night_44 rfl (lv_at hl 0 rfl) ?_
          refine lv_aload_n hx hb dX6_night_45 rfl (lv_at hl 0 rfl) ?_
          refine lv_iload_n hx hb dX6_night_46 rfl (lv_at hl 2 rfl) ?_
          refine lv_iconst (v := 5) hx hb dX6_night_47 (by decide) ?_
          obtain ⟨o15, hg⟩ := hg
          refine fRV (As := [.int v.2.2, .int 5]) (rest := [.ref h, .int v.2.1]) (st' := [.int (fX6_of v.1 v.2.2 5), .ref h, .int v.2.1]) ⟨hx, hb, hml, hown, hts⟩ (kX6_of l D cI cC cT h a1 a2 a3 a4 a5 a6 a7 a8 v.1 v.2.2 5 o15) (cwV 2 hts gX6_night_X6_of rfl rfl rfl (by decide +kernel) ⟨Nat.le_of_ble_eq_true rfl, Nat.le_of_ble_eq_true rfl⟩) hP hK [0, 1, 2, 3, 4, 5, 6, 7, 8] rfl 0 (ci := 7) rfl rfl rfl rfl hl.1 rfl rfl (Nat.le_of_ble_eq_true rfl) ⟨Nat.zero_le _, Nat.zero_le _⟩ dX6_night_48 ?_
          obtain ⟨o16, hg⟩ := hg
          refine fRV (As := [.int (fX6_of v.1 v.2.2 5)]) (rest := [.int v.2.1]) (st' := [.int (fX6_isCat v.1 (fX6_of v.1 v.2.2 5)), .int v.2.1]) ⟨hx, hb, hml, hown, hts⟩ (kX6_isCat l D cI cC cT h a1 a2 a3 a4 a5 a6 a7 a8 v.1 (fX6_of v.1 v.2.2 5) o16) (cwV 1 hts gX6_night_X6_isCat rfl rfl rfl (by decide +kernel) ⟨Nat.le_of_ble_eq_true rfl, Nat.le_of_ble_eq_true rfl⟩) hP hK [0, 1, 2, 3, 4, 5, 6, 7, 8] rfl 0 (ci := 7) rfl rfl rfl rfl hl.1 rfl rfl (Nat.le_of_ble_eq_true rfl) ⟨Nat.zero_le _, Nat.zero_le _⟩ dX6_night_51 ?_
          refine lv_if_ne (tgt := 61) hx hb dX6_night_54 (by decide) (fun c_54_7 => ?_) (fun c_54_7 => ?_)
          · rw [if_neg c_54_7] at hg
            refine lv_iconst (v := 0) hx hb dX6_night_61 (by decide) ?_
            refine lv_iadd hx hb dX6_night_62 ?_
            refine lv_istore_n (lv' := [(1, .int (v.2.1 + 0)), (0, .ref h), (2, .int v.2.2)]) hx hb dX6_night_63 rfl hl (by decide) rfl (fun ls hl => ?_)
            refine lv_aload_n hx hb dX6_night_64 rfl (lv_at hl 1 rfl) ?_
            refine lv_aload_n hx hb dX6_night_65 rfl (lv_at hl 1 rfl) ?_
            refine lv_iload_n hx hb dX6_night_66 rfl (lv_at hl 2 rfl) ?_
            refine lv_iconst (v := 5) hx hb dX6_night_67 (by decide) ?_
            obtain ⟨o17, hg⟩ := hg
            refine fRV (As := [.int v.2.2, .int 5]) (rest := [.ref h]) (st' := [.int (fX6_of v.1 v.2.2 5), .ref h]) ⟨hx, hb, hml, hown, hts⟩ (kX6_of l D cI cC cT h a1 a2 a3 a4 a5 a6 a7 a8 v.1 v.2.2 5 o17) (cwV 2 hts gX6_night_X6_of rfl rfl rfl (by decide +kernel) ⟨Nat.le_of_ble_eq_true rfl, Nat.le_of_ble_eq_true rfl⟩) hP hK [0, 1, 2, 3, 4, 5, 6, 7, 8] rfl 0 (ci := 7) rfl rfl rfl rfl hl.1 rfl rfl (Nat.le_of_ble_eq_true rfl) ⟨Nat.zero_le _, Nat.zero_le _⟩ dX6_night_68 ?_
            refine lv_iconst (v := 1) hx hb dX6_night_71 (by decide) ?_
            obtain ⟨o18, hg⟩ := hg
            refine fRV (As := [.int (fX6_of v.1 v.2.2 5), .int 1]) (rest := []) (st' := [.int (fX6_by v.1 (fX6_of v.1 v.2.2 5) 1)]) ⟨hx, hb, hml, hown, hts⟩ (kX6_by l D cI cC cT h a1 a2 a3 a4 a5 a6 a7 a8 v.1 (fX6_of v.1 v.2.2 5) 1 o18) (cwV 2 hts gX6_night_X6_by rfl rfl rfl (by decide +kernel) ⟨Nat.le_of_ble_eq_true rfl, Nat.le_of_ble_eq_true rfl⟩) hP hK [0, 1, 2, 3, 4, 5, 6, 7, 8] rfl 0 (ci := 7) rfl rfl rfl rfl hl.1 rfl rfl (Nat.le_of_ble_eq_true rfl) ⟨Nat.zero_le _, Nat.zero_le _⟩ dX6_night_72 ?_
            refine lv_bipush (v := 100) hx hb dX6_night_75 (by decide) ?_
            refine lv_icmp_le (tgt := 99) hx hb dX6_night_77 (by decide) (fun c_77_8 => ?_) (fun c_77_8 => ?_)
            · rw [if_pos c_77_8] at hg
              refine lv_aload_n hx hb dX6_night_99 rfl (lv_at hl 1 rfl) ?_
              refine lv_iload_n hx hb dX6_night_100 rfl (lv_at hl 2 rfl) ?_
              refine lv_iconst (v := 2) hx hb dX6_night_101 (by decide) ?_
              obtain ⟨o19, hg⟩ := hg
              refine fRV (As := [.int v.2.2, .int 2]) (rest := []) (st' := [.int (fX6_of v.1 v.2.2 2)]) ⟨hx, hb, hml, hown, hts⟩ (kX6_of l D cI cC cT h a1 a2 a3 a4 a5 a6 a7 a8 v.1 v.2.2 2 o19) (cwV 2 hts gX6_night_X6_of rfl rfl rfl (by decide +kernel) ⟨Nat.le_of_ble_eq_true rfl, Nat.le_of_ble_eq_true rfl⟩) hP hK [0, 1, 2, 3, 4, 5, 6, 7, 8] rfl 0 (ci := 7) rfl rfl rfl rfl hl.1 rfl rfl (Nat.le_of_ble_eq_true rfl) ⟨Nat.zero_le _, Nat.zero_le _⟩ dX6_night_102 ?_
              refine lv_if_le (tgt := 127) hx hb dX6_night_105 (by decide) (fun c_105_9 => ?_) (fun c_105_9 => ?_)
              · rw [if_pos c_105_9] at hg
                refine lv_iinc (v := (v.2.2 + 1)) (lv' := [(2, .int (v.2.2 + 1)), (1, .int (v.2.1 + 0)), (0, .ref h)]) hx hb dX6_night_127 hl (k := 2) rfl rfl (by decide) rfl (fun ls hl => ?_)
                refine lv_goto (tgt := 12) hx hb dX6_night_130 (by decide) ?_
                exact kb (v.1, (v.2.1 + 0), (v.2.2 + 1)) (by rw [lX6_night_12, if_neg c_19_1, if_pos c_28_2, if_pos c_41_3, if_neg c_54_7, if_pos c_77_8, if_pos c_105_9]) H locs ls hP hD hS (lv_sub hl [2, 1, 0] rfl)
              · rw [if_neg c_105_9] at hg
                refine lv_aload_n hx hb dX6_night_108 rfl (lv_at hl 1 rfl) ?_
                refine lv_iload_n hx hb dX6_night_109 rfl (lv_at hl 2 rfl) ?_
                refine lv_iconst (v := 1) hx hb dX6_night_110 (by decide) ?_
                refine lv_aload_n hx hb dX6_night_111 rfl (lv_at hl 1 rfl) ?_
                refine lv_iload_n hx hb dX6_night_112 rfl (lv_at hl 2 rfl) ?_
                refine lv_iconst (v := 1) hx hb dX6_night_113 (by decide) ?_
                obtain ⟨o20, hg⟩ := hg
                refine fRV (As := [.int v.2.2, .int 1]) (rest := [.int 1, .int v.2.2, .ref h]) (st' := [.int (fX6_of v.1 v.2.2 1), .int 1, .int v.2.2, .ref h]) ⟨hx, hb, hml, hown, hts⟩ (kX6_of l D cI cC cT h a1 a2 a3 a4 a5 a6 a7 a8 v.1 v.2.2 1 o20) (cwV 2 hts gX6_night_X6_of rfl rfl rfl (by decide +kernel) ⟨Nat.le_of_ble_eq_true rfl, Nat.le_of_ble_eq_true rfl⟩) hP hK [0, 1, 2, 3, 4, 5, 6, 7, 8] rfl 0 (ci := 7) rfl rfl rfl rfl hl.1 rfl rfl (Nat.le_of_ble_eq_true rfl) ⟨Nat.zero_le _, Nat.zero_le _⟩ dX6_night_114 ?_
                refine lv_iconst (v := 1) hx hb dX6_night_117 (by decide) ?_
                refine lv_iadd hx hb dX6_night_118 ?_
                refine lv_bipush (v := 9) hx hb dX6_night_119 (by decide) ?_
                refine fRS (As := [.int ((fX6_of v.1 v.2.2 1) + 1), .int 9]) (rest := [.int 1, .int v.2.2, .ref h]) (st' := [.int (fX6_atMost ((fX6_of v.1 v.2.2 1) + 1) 9), .int 1, .int v.2.2, .ref h]) ⟨hx, hb, hml, hown, hts⟩ (kX6_atMost l D cI cC cT ((fX6_of v.1 v.2.2 1) + 1) 9) (va_cwS 2 hts gX6_night_X6_atMost rfl rfl rfl (by decide +kernel) ⟨Nat.le_of_ble_eq_true rfl, Nat.le_of_ble_eq_true rfl⟩) hP hK [] rfl rfl hl.1 rfl rfl (Nat.le_of_ble_eq_true rfl) ⟨Nat.zero_le _, Nat.zero_le _⟩ dX6_night_121 ?_
                obtain ⟨n5, en5⟩ : ∃ z9, z9 = (fX6_lays v.1 v.2.2 1 (fX6_atMost ((fX6_of v.1 v.2.2 1) + 1) 9)) := ⟨_, rfl⟩
                try rw [← en5] at hg
                obtain ⟨o21, hg⟩ := hg
                have k9 := (kX6_lays l D cI cC cT h a1 a2 a3 a4 a5 a6 a7 a8 v.1 v.2.2 1 (fX6_atMost ((fX6_of v.1 v.2.2 1) + 1) 9) o21)
                rw [← en5] at k9
                refine fUV (As := [.int v.2.2, .int 1, .int (fX6_atMost ((fX6_of v.1 v.2.2 1) + 1) 9)]) (rest := []) (st' := []) ⟨hx, hb, hml, hown, hts⟩ k9 (cwV 3 hts gX6_night_X6_lays rfl rfl rfl (by decide +kernel) ⟨Nat.le_of_ble_eq_true rfl, Nat.le_of_ble_eq_true rfl⟩) hP hK hD hS [0, 1, 2, 3, 4, 5, 6, 7, 8] rfl rfl (by decide) rfl (w6 cI cC h a1 a2 a3 a4 a5 a6 a7 a8 n5) rfl rfl 0 (ci := 7) rfl rfl rfl rfl hl.1 rfl rfl (Nat.le_of_ble_eq_true rfl) ⟨Nat.zero_le _, Nat.zero_le _⟩ dX6_night_124 (fun H locs hP hD hS => ?_)
                refine lv_iinc (v := (v.2.2 + 1)) (lv' := [(2, .int (v.2.2 + 1)), (1, .int (v.2.1 + 0)), (0, .ref h)]) hx hb dX6_night_127 hl (k := 2) rfl rfl (by decide) rfl (fun ls hl => ?_)
                refine lv_goto (tgt := 12) hx hb dX6_night_130 (by decide) ?_
                exact kb (n5, (v.2.1 + 0), (v.2.2 + 1)) (by rw [lX6_night_12, if_neg c_19_1, if_pos c_28_2, if_pos c_41_3, if_neg c_54_7, if_pos c_77_8, if_neg c_105_9, ← en5]) H locs ls hP hD hS (lv_sub hl [2, 1, 0] rfl)
            · rw [if_neg c_77_8] at hg
              refine lv_aload_n hx hb dX6_night_80 rfl (lv_at hl 1 rfl) ?_
              refine lv_iload_n hx hb dX6_night_81 rfl (lv_at hl 2 rfl) ?_
              refine lv_iconst (v := 2) hx hb dX6_night_82 (by decide) ?_
              refine lv_aload_n hx hb dX6_night_83 rfl (lv_at hl 1 rfl) ?_
              refine lv_iload_n hx hb dX6_night_84 rfl (lv_at hl 2 rfl) ?_
              refine lv_iconst (v := 2) hx hb dX6_night_85 (by decide) ?_
              obtain ⟨o22, hg⟩ := hg
              refine fRV (As := [.int v.2.2, .int 2]) (rest := [.int 2, .int v.2.2, .ref h]) (st' := [.int (fX6_of v.1 v.2.2 2), .int 2, .int v.2.2, .ref h]) ⟨hx, hb, hml, hown, hts⟩ (kX6_of l D cI cC cT h a1 a2 a3 a4 a5 a6 a7 a8 v.1 v.2.2 2 o22) (cwV 2 hts gX6_night_X6_of rfl rfl rfl (by decide +kernel) ⟨Nat.le_of_ble_eq_true rfl, Nat.le_of_ble_eq_true rfl⟩) hP hK [0, 1, 2, 3, 4, 5, 6, 7, 8] rfl 0 (ci := 7) rfl rfl rfl rfl hl.1 rfl rfl (Nat.le_of_ble_eq_true rfl) ⟨Nat.zero_le _, Nat.zero_le _⟩ dX6_night_86 ?_
              refine lv_iconst (v := 1) hx hb dX6_night_89 (by decide) ?_
              refine lv_iadd hx hb dX6_night_90 ?_
              refine lv_bipush (v := 9) hx hb dX6_night_91 (by decide) ?_
              refine fRS (As := [.int ((fX6_of v.1 v.2.2 2) + 1), .int 9]) (rest := [.int 2, .int v.2.2, .ref h]) (st' := [.int (fX6_atMost ((fX6_of v.1 v.2.2 2) + 1) 9), .int 2, .int v.2.2, .ref h]) ⟨hx, hb, hml, hown, hts⟩ (kX6_atMost l D cI cC cT ((fX6_of v.1 v.2.2 2) + 1) 9) (va_cwS 2 hts gX6_night_X6_atMost rfl rfl rfl (by decide +kernel) ⟨Nat.le_of_ble_eq_true rfl, Nat.le_of_ble_eq_true rfl⟩) hP hK [] rfl rfl hl.1 rfl rfl (Nat.le_of_ble_eq_true rfl) ⟨Nat.zero_le _, Nat.zero_le _⟩ dX6_night_93 ?_
              obtain ⟨n6, en6⟩ : ∃ z9, z9 = (fX6_lays v.1 v.2.2 2 (fX6_atMost ((fX6_of v.1 v.2.2 2) + 1) 9)) := ⟨_, rfl⟩
              try rw [← en6] at hg
              obtain ⟨o23, hg⟩ := hg
              have k9 := (kX6_lays l D cI cC cT h a1 a2 a3 a4 a5 a6 a7 a8 v.1 v.2.2 2 (fX6_atMost ((fX6_of v.1 v.2.2 2) + 1) 9) o23)
              rw [← en6] at k9
              refine fUV (As := [.int v.2.2, .int 2, .int (fX6_atMost ((fX6_of v.1 v.2.2 2) + 1) 9)]) (rest := []) (st' := []) ⟨hx, hb, hml, hown, hts⟩ k9 (cwV 3 hts gX6_night_X6_lays rfl rfl rfl (by decide +kernel) ⟨Nat.le_of_ble_eq_true rfl, Nat.le_of_ble_eq_true rfl⟩) hP hK hD hS [0, 1, 2, 3, 4, 5, 6, 7, 8] rfl rfl (by decide) rfl (w6 cI cC h a1 a2 a3 a4 a5 a6 a7 a8 n6) rfl rfl 0 (ci := 7) rfl rfl rfl rfl hl.1 rfl rfl (Nat.le_of_ble_eq_true rfl) ⟨Nat.zero_le _, Nat.zero_le _⟩ dX6_night_96 (fun H locs hP hD hS => ?_)
              refine lv_aload_n hx hb dX6_night_99 rfl (lv_at hl 1 rfl) ?_
              refine lv_iload_n hx hb dX6_night_100 rfl (lv_at hl 2 rfl) ?_
              refine lv_iconst (v := 2) hx hb dX6_night_101 (by decide) ?_
              obtain ⟨o24, hg⟩ := hg
              refine fRV (As := [.int v.2.2, .int 2]) (rest := []) (st' := [.int (fX6_of n6 v.2.2 2)]) ⟨hx, hb, hml, hown, hts⟩ (kX6_of l D cI cC cT h a1 a2 a3 a4 a5 a6 a7 a8 n6 v.2.2 2 o24) (cwV 2 hts gX6_night_X6_of rfl rfl rfl (by decide +kernel) ⟨Nat.le_of_ble_eq_true rfl, Nat.le_of_ble_eq_true rfl⟩) hP hK [0, 1, 2, 3, 4, 5, 6, 7, 8] rfl 0 (ci := 7) rfl rfl rfl rfl hl.1 rfl rfl (Nat.le_of_ble_eq_true rfl) ⟨Nat.zero_le _, Nat.zero_le _⟩ dX6_night_102 ?_
              refine lv_if_le (tgt := 127) hx hb dX6_night_105 (by decide) (fun c_105_10 => ?_) (fun c_105_10 => ?_)
              · rw [if_pos c_105_10] at hg
                refine lv_iinc (v := (v.2.2 + 1)) (lv' := [(2, .int (v.2.2 + 1)), (1, .int (v.2.1 + 0)), (0, .ref h)]) hx hb dX6_night_127 hl (k := 2) rfl rfl (by decide) rfl (fun ls hl => ?_)
                refine lv_goto (tgt := 12) hx hb dX6_night_130 (by decide) ?_
                exact kb (n6, (v.2.1 + 0), (v.2.2 + 1)) (by rw [lX6_night_12, if_neg c_19_1, if_pos c_28_2, if_pos c_41_3, if_neg c_54_7, if_neg c_77_8, ← en6, if_pos c_105_10]) H locs ls hP hD hS (lv_sub hl [2, 1, 0] rfl)
              · rw [if_neg c_105_10] at hg
                refine lv_aload_n hx hb dX6_night_108 rfl (lv_at hl 1 rfl) ?_
                refine lv_iload_n hx hb dX6_night_109 rfl (lv_at hl 2 rfl) ?_
                refine lv_iconst (v := 1) hx hb dX6_night_110 (by decide) ?_
                refine lv_aload_n hx hb dX6_night_111 rfl (lv_at hl 1 rfl) ?_
                refine lv_iload_n hx hb dX6_night_112 rfl (lv_at hl 2 rfl) ?_
                refine lv_iconst (v := 1) hx hb dX6_night_113 (by decide) ?_
                obtain ⟨o25, hg⟩ := hg
                refine fRV (As := [.int v.2.2, .int 1]) (rest := [.int 1, .int v.2.2, .ref h]) (st' := [.int (fX6_of n6 v.2.2 1), .int 1, .int v.2.2, .ref h]) ⟨hx, hb, hml, hown, hts⟩ (kX6_of l D cI cC cT h a1 a2 a3 a4 a5 a6 a7 a8 n6 v.2.2 1 o25) (cwV 2 hts gX6_night_X6_of rfl rfl rfl (by decide +kernel) ⟨Nat.le_of_ble_eq_true rfl, Nat.le_of_ble_eq_true rfl⟩) hP hK [0, 1, 2, 3, 4, 5, 6, 7, 8] rfl 0 (ci := 7) rfl rfl rfl rfl hl.1 rfl rfl (Nat.le_of_ble_eq_true rfl) ⟨Nat.zero_le _, Nat.zero_le _⟩ dX6_night_114 ?_
                refine lv_iconst (v := 1) hx hb dX6_night_117 (by decide) ?_
                refine lv_iadd hx hb dX6_night_118 ?_
                refine lv_bipush (v := 9) hx hb dX6_night_119 (by decide) ?_
                refine fRS (As := [.int ((fX6_of n6 v.2.2 1) + 1), .int 9]) (rest := [.int 1, .int v.2.2, .ref h]) (st' := [.int (fX6_atMost ((fX6_of n6 v.2.2 1) + 1) 9), .int 1, .int v.2.2, .ref h]) ⟨hx, hb, hml, hown, hts⟩ (kX6_atMost l D cI cC cT ((fX6_of n6 v.2.2 1) + 1) 9) (va_cwS 2 hts gX6_night_X6_atMost rfl rfl rfl (by decide +kernel) ⟨Nat.le_of_ble_eq_true rfl, Nat.le_of_ble_eq_true rfl⟩) hP hK [] rfl rfl hl.1 rfl rfl (Nat.le_of_ble_eq_true rfl) ⟨Nat.zero_le _, Nat.zero_le _⟩ dX6_night_121 ?_
                obtain ⟨n7, en7⟩ : ∃ z9, z9 = (fX6_lays n6 v.2.2 1 (fX6_atMost ((fX6_of n6 v.2.2 1) + 1) 9)) := ⟨_, rfl⟩
                try rw [← en7] at hg
                obtain ⟨o26, hg⟩ := hg
                have k9 := (kX6_lays l D cI cC cT h a1 a2 a3 a4 a5 a6 a7 a8 n6 v.2.2 1 (fX6_atMost ((fX6_of n6 v.2.2 1) + 1) 9) o26)
                rw [← en7] at k9
                refine fUV (As := [.int v.2.2, .int 1, .int (fX6_atMost ((fX6_of n6 v.2.2 1) + 1) 9)]) (rest := []) (st' := []) ⟨hx, hb, hml, hown, hts⟩ k9 (cwV 3 hts gX6_night_X6_lays rfl rfl rfl (by decide +kernel) ⟨Nat.le_of_ble_eq_true rfl, Nat.le_of_ble_eq_true rfl⟩) hP hK hD hS [0, 1, 2, 3, 4, 5, 6, 7, 8] rfl rfl (by decide) rfl (w6 cI cC h a1 a2 a3 a4 a5 a6 a7 a8 n7) rfl rfl 0 (ci := 7) rfl rfl rfl rfl hl.1 rfl rfl (Nat.le_of_ble_eq_true rfl) ⟨Nat.zero_le _, Nat.zero_le _⟩ dX6_night_124 (fun H locs hP hD hS => ?_)
                refine lv_iinc (v := (v.2.2 + 1)) (lv' := [(2, .int (v.2.2 + 1)), (1, .int (v.2.1 + 0)), (0, .ref h)]) hx hb dX6_night_127 hl (k := 2) rfl rfl (by decide) rfl (fun ls hl => ?_)
                refine lv_goto (tgt := 12) hx hb dX6_night_130 (by decide) ?_
                exact kb (n7, (v.2.1 + 0), (v.2.2 + 1)) (by rw [lX6_night_12, if_neg c_19_1, if_pos c_28_2, if_pos c_41_3, if_neg c_54_7, if_neg c_77_8, ← en6, if_neg c_105_10, ← en7]) H locs ls hP hD hS (lv_sub hl [2, 1, 0] rfl)
          · rw [if_pos c_54_7] at hg
            refine lv_iconst (v := 1) hx hb dX6_night_57 (by decide) ?_
            refine lv_goto (tgt := 62) hx hb dX6_night_58 (by decide) ?_
            refine lv_iadd hx hb dX6_night_62 ?_
            refine lv_istore_n (lv' := [(1, .int (v.2.1 + 1)), (0, .ref h), (2, .int v.2.2)]) hx hb dX6_night_63 rfl hl (by decide) rfl (fun ls hl => ?_)
            refine lv_aload_n hx hb dX6_night_64 rfl (lv_at hl 1 rfl) ?_
            refine lv_aload_n hx hb dX6_night_65 rfl (lv_at hl 1 rfl) ?_
            refine lv_iload_n hx hb dX6_night_66 rfl (lv_at hl 2 rfl) ?_
            refine lv_iconst (v := 5) hx hb dX6_night_67 (by decide) ?_
            obtain ⟨o27, hg⟩ := hg
            refine fRV (As := [.int v.2.2, .int 5]) (rest := [.ref h]) (st' := [.int (fX6_of v.1 v.2.2 5), .ref h]) ⟨hx, hb, hml, hown, hts⟩ (kX6_of l D cI cC cT h a1 a2 a3 a4 a5 a6 a7 a8 v.1 v.2.2 5 o27) (cwV 2 hts gX6_night_X6_of rfl rfl rfl (by decide +kernel) ⟨Nat.le_of_ble_eq_true rfl, Nat.le_of_ble_eq_true rfl⟩) hP hK [0, 1, 2, 3, 4, 5, 6, 7, 8] rfl 0 (ci := 7) rfl rfl rfl rfl hl.1 rfl rfl (Nat.le_of_ble_eq_true rfl) ⟨Nat.zero_le _, Nat.zero_le _⟩ dX6_night_68 ?_
            refine lv_iconst (v := 1) hx hb dX6_night_71 (by decide) ?_
            obtain ⟨o28, hg⟩ := hg
            refine fRV (As := [.int (fX6_of v.1 v.2.2 5), .int 1]) (rest := []) (st' := [.int (fX6_by v.1 (fX6_of v.1 v.2.2 5) 1)]) ⟨hx, hb, hml, hown, hts⟩ (kX6_by l D cI cC cT h a1 a2 a3 a4 a5 a6 a7 a8 v.1 (fX6_of v.1 v.2.2 5) 1 o28) (cwV 2 hts gX6_night_X6_by rfl rfl rfl (by decide +kernel) ⟨Nat.le_of_ble_eq_true rfl, Nat.le_of_ble_eq_true rfl⟩) hP hK [0, 1, 2, 3, 4, 5, 6, 7, 8] rfl 0 (ci := 7) rfl rfl rfl rfl hl.1 rfl rfl (Nat.le_of_ble_eq_true rfl) ⟨Nat.zero_le _, Nat.zero_le _⟩ dX6_night_72 ?_
            refine lv_bipush (v := 100) hx hb dX6_night_75 (by decide) ?_
            refine lv_icmp_le (tgt := 99) hx hb dX6_night_77 (by decide) (fun c_77_11 => ?_) (fun c_77_11 => ?_)
            · rw [if_pos c_77_11] at hg
              refine lv_aload_n hx hb dX6_night_99 rfl (lv_at hl 1 rfl) ?_
              refine lv_iload_n hx hb dX6_night_100 rfl (lv_at hl 2 rfl) ?_
              refine lv_iconst (v := 2) hx hb dX6_night_101 (by decide) ?_
              obtain ⟨o29, hg⟩ := hg
              refine fRV (As := [.int v.2.2, .int 2]) (rest := []) (st' := [.int (fX6_of v.1 v.2.2 2)]) ⟨hx, hb, hml, hown, hts⟩ (kX6_of l D cI cC cT h a1 a2 a3 a4 a5 a6 a7 a8 v.1 v.2.2 2 o29) (cwV 2 hts gX6_night_X6_of rfl rfl rfl (by decide +kernel) ⟨Nat.le_of_ble_eq_true rfl, Nat.le_of_ble_eq_true rfl⟩) hP hK [0, 1, 2, 3, 4, 5, 6, 7, 8] rfl 0 (ci := 7) rfl rfl rfl rfl hl.1 rfl rfl (Nat.le_of_ble_eq_true rfl) ⟨Nat.zero_le _, Nat.zero_le _⟩ dX6_night_102 ?_
              refine lv_if_le (tgt := 127) hx hb dX6_night_105 (by decide) (fun c_105_12 => ?_) (fun c_105_12 => ?_)
              · rw [if_pos c_105_12] at hg
                refine lv_iinc (v := (v.2.2 + 1)) (lv' := [(2, .int (v.2.2 + 1)), (1, .int (v.2.1 + 1)), (0, .ref h)]) hx hb dX6_night_127 hl (k := 2) rfl rfl (by decide) rfl (fun ls hl => ?_)
                refine lv_goto (tgt := 12) hx hb dX6_night_130 (by decide) ?_
                exact kb (v.1, (v.2.1 + 1), (v.2.2 + 1)) (by rw [lX6_night_12, if_neg c_19_1, if_pos c_28_2, if_pos c_41_3, if_pos c_54_7, if_pos c_77_11, if_pos c_105_12]) H locs ls hP hD hS (lv_sub hl [2, 1, 0] rfl)
              · rw [if_neg c_105_12] at hg
                refine lv_aload_n hx hb dX6_night_108 rfl (lv_at hl 1 rfl) ?_
                refine lv_iload_n hx hb dX6_night_109 rfl (lv_at hl 2 rfl) ?_
                refine lv_iconst (v := 1) hx hb dX6_night_110 (by decide) ?_
                refine lv_aload_n hx hb dX6_night_111 rfl (lv_at hl 1 rfl) ?_
                refine lv_iload_n hx hb dX6_night_112 rfl (lv_at hl 2 rfl) ?_
                refine lv_iconst (v := 1) hx hb dX6_night_113 (by decide) ?_
                obtain ⟨o30, hg⟩ := hg
                refine fRV (As := [.int v.2.2, .int 1]) (rest := [.int 1, .int v.2.2, .ref h]) (st' := [.int (fX6_of v.1 v.2.2 1), .int 1, .int v.2.2, .ref h]) ⟨hx, hb, hml, hown, hts⟩ (kX6_of l D cI cC cT h a1 a2 a3 a4 a5 a6 a7 a8 v.1 v.2.2 1 o30) (cwV 2 hts gX6_night_X6_of rfl rfl rfl (by decide +kernel) ⟨Nat.le_of_ble_eq_true rfl, Nat.le_of_ble_eq_true rfl⟩) hP hK [0, 1, 2, 3, 4, 5, 6, 7, 8] rfl 0 (ci := 7) rfl rfl rfl rfl hl.1 rfl rfl (Nat.le_of_ble_eq_true rfl) ⟨Nat.zero_le _, Nat.zero_le _⟩ dX6_night_114 ?_
                refine lv_iconst (v := 1) hx hb dX6_night_117 (by decide) ?_
                refine lv_iadd hx hb dX6_night_118 ?_
                refine lv_bipush (v := 9) hx hb dX6_night_119 (by decide) ?_
                refine fRS (As := [.int ((fX6_of v.1 v.2.2 1) + 1), .int 9]) (rest := [.int 1, .int v.2.2, .ref h]) (st' := [.int (fX6_atMost ((fX6_of v.1 v.2.2 1) + 1) 9), .int 1, .int v.2.2, .ref h]) ⟨hx, hb, hml, hown, hts⟩ (kX6_atMost l D cI cC cT ((fX6_of v.1 v.2.2 1) + 1) 9) (va_cwS 2 hts gX6_night_X6_atMost rfl rfl rfl (by decide +kernel) ⟨Nat.le_of_ble_eq_true rfl, Nat.le_of_ble_eq_true rfl⟩) hP hK [] rfl rfl hl.1 rfl rfl (Nat.le_of_ble_eq_true rfl) ⟨Nat.zero_le _, Nat.zero_le _⟩ dX6_night_121 ?_
                obtain ⟨n8, en8⟩ : ∃ z9, z9 = (fX6_lays v.1 v.2.2 1 (fX6_atMost ((fX6_of v.1 v.2.2 1) + 1) 9)) := ⟨_, rfl⟩
                try rw [← en8] at hg
                obtain ⟨o31, hg⟩ := hg
                have k9 := (kX6_lays l D cI cC cT h a1 a2 a3 a4 a5 a6 a7 a8 v.1 v.2.2 1 (fX6_atMost ((fX6_of v.1 v.2.2 1) + 1) 9) o31)
                rw [← en8] at k9
                refine fUV (As := [.int v.2.2, .int 1, .int (fX6_atMost ((fX6_of v.1 v.2.2 1) + 1) 9)]) (rest := []) (st' := []) ⟨hx, hb, hml, hown, hts⟩ k9 (cwV 3 hts gX6_night_X6_lays rfl rfl rfl (by decide +kernel) ⟨Nat.le_of_ble_eq_true rfl, Nat.le_of_ble_eq_true rfl⟩) hP hK hD hS [0, 1, 2, 3, 4, 5, 6, 7, 8] rfl rfl (by decide) rfl (w6 cI cC h a1 a2 a3 a4 a5 a6 a7 a8 n8) rfl rfl 0 (ci := 7) rfl rfl rfl rfl hl.1 rfl rfl (Nat.le_of_ble_eq_true rfl) ⟨Nat.zero_le _, Nat.zero_le _⟩ dX6_night_124 (fun H locs hP hD hS => ?_)
                refine lv_iinc (v := (v.2.2 + 1)) (lv' := [(2, .int (v.2.2 + 1)), (1, .int (v.2.1 + 1)), (0, .ref h)]) hx hb dX6_night_127 hl (k := 2) rfl rfl (by decide) rfl (fun ls hl => ?_)
                refine lv_goto (tgt := 12) hx hb dX6_night_130 (by decide) ?_
                exact kb (n8, (v.2.1 + 1), (v.2.2 + 1)) (by rw [lX6_night_12, if_neg c_19_1, if_pos c_28_2, if_pos c_41_3, if_pos c_54_7, if_pos c_77_11, if_neg c_105_12, ← en8]) H locs ls hP hD hS (lv_sub hl [2, 1, 0] rfl)
            · rw [if_neg c_77_11] at hg
              refine lv_aload_n hx hb dX6_night_80 rfl (lv_at hl 1 rfl) ?_
              refine lv_iload_n hx hb dX6_night_81 rfl (lv_at hl 2 rfl) ?_
              refine lv_iconst (v := 2) hx hb dX6_night_82 (by decide) ?_
              refine lv_aload_n hx hb dX6_night_83 rfl (lv_at hl 1 rfl) ?_
              refine lv_iload_n hx hb dX6_night_84 rfl (lv_at hl 2 rfl) ?_
              refine lv_iconst (v := 2) hx hb dX6_night_85 (by decide) ?_
              obtain ⟨o32, hg⟩ := hg
              refine fRV (As := [.int v.2.2, .int 2]) (rest := [.int 2, .int v.2.2, .ref h]) (st' := [.int (fX6_of v.1 v.2.2 2), .int 2, .int v.2.2, .ref h]) ⟨hx, hb, hml, hown, hts⟩ (kX6_of l D cI cC cT h a1 a2 a3 a4 a5 a6 a7 a8 v.1 v.2.2 2 o32) (cwV 2 hts gX6_night_X6_of rfl rfl rfl (by decide +kernel) ⟨Nat.le_of_ble_eq_true rfl, Nat.le_of_ble_eq_true rfl⟩) hP hK [0, 1, 2, 3, 4, 5, 6, 7, 8] rfl 0 (ci := 7) rfl rfl rfl rfl hl.1 rfl rfl (Nat.le_of_ble_eq_true rfl) ⟨Nat.zero_le _, Nat.zero_le _⟩ dX6_night_86 ?_
              refine lv_iconst (v := 1) hx hb dX6_night_89 (by decide) ?_
              refine lv_iadd hx hb dX6_night_90 ?_
              refine lv_bipush (v := 9) hx hb dX6_night_91 (by decide) ?_
              refine fRS (As := [.int ((fX6_of v.1 v.2.2 2) + 1), .int 9]) (rest := [.int 2, .int v.2.2, .ref h]) (st' := [.int (fX6_atMost ((fX6_of v.1 v.2.2 2) + 1) 9), .int 2, .int v.2.2, .ref h]) ⟨hx, hb, hml, hown, hts⟩ (kX6_atMost l D cI cC cT ((fX6_of v.1 v.2.2 2) + 1) 9) (va_cwS 2 hts gX6_night_X6_atMost rfl rfl rfl (by decide +kernel) ⟨Nat.le_of_ble_eq_true rfl, Nat.le_of_ble_eq_true rfl⟩) hP hK [] rfl rfl hl.1 rfl rfl (Nat.le_of_ble_eq_true rfl) ⟨Nat.zero_le _, Nat.zero_le _⟩ dX6_night_93 ?_
              obtain ⟨n9, en9⟩ : ∃ z9, z9 = (fX6_lays v.1 v.2.2 2 (fX6_atMost ((fX6_of v.1 v.2.2 2) + 1) 9)) := ⟨_, rfl⟩
              try rw [← en9] at hg
              obtain ⟨o33, hg⟩ := hg
              have k9 := (kX6_lays l D cI cC cT h a1 a2 a3 a4 a5 a6 a7 a8 v.1 v.2.2 2 (fX6_atMost ((fX6_of v.1 v.2.2 2) + 1) 9) o33)
              rw [← en9] at k9
              refine fUV (As := [.int v.2.2, .int 2, .int (fX6_atMost ((fX6_of v.1 v.2.2 2) + 1) 9)]) (rest := []) (st' := []) ⟨hx, hb, hml, hown, hts⟩ k9 (cwV 3 hts gX6_night_X6_lays rfl rfl rfl (by decide +kernel) ⟨Nat.le_of_ble_eq_true rfl, Nat.le_of_ble_eq_true rfl⟩) hP hK hD hS [0, 1, 2, 3, 4, 5, 6, 7, 8] rfl rfl (by decide) rfl (w6 cI cC h a1 a2 a3 a4 a5 a6 a7 a8 n9) rfl rfl 0 (ci := 7) rfl rfl rfl rfl hl.1 rfl rfl (Nat.le_of_ble_eq_true rfl) ⟨Nat.zero_le _, Nat.zero_le _⟩ dX6_night_96 (fun H locs hP hD hS => ?_)
              refine lv_aload_n hx hb dX6_night_99 rfl (lv_at hl 1 rfl) ?_
              refine lv_iload_n hx hb dX6_night_100 rfl (lv_at hl 2 rfl) ?_
              refine lv_iconst (v := 2) hx hb dX6_night_101 (by decide) ?_
              obtain ⟨o34, hg⟩ := hg
              refine fRV (As := [.int v.2.2, .int 2]) (rest := []) (st' := [.int (fX6_of n9 v.2.2 2)]) ⟨hx, hb, hml, hown, hts⟩ (kX6_of l D cI cC cT h a1 a2 a3 a4 a5 a6 a7 a8 n9 v.2.2 2 o34) (cwV 2 hts gX6_night_X6_of rfl rfl rfl (by decide +kernel) ⟨Nat.le_of_ble_eq_true rfl, Nat.le_of_ble_eq_true rfl⟩) hP hK [0, 1, 2, 3, 4, 5, 6, 7, 8] rfl 0 (ci := 7) rfl rfl rfl rfl hl.1 rfl rfl (Nat.le_of_ble_eq_true rfl) ⟨Nat.zero_le _, Nat.zero_le _⟩ dX6_night_102 ?_
              refine lv_if_le (tgt := 127) hx hb dX6_night_105 (by decide) (fun c_105_13 => ?_) (fun c_105_13 => ?_)
              · rw [if_pos c_105_13] at hg
                refine lv_iinc (v := (v.2.2 + 1)) (lv' := [(2, .int (v.2.2 + 1)), (1, .int (v.2.1 + 1)), (0, .ref h)]) hx hb dX6_night_127 hl (k := 2) rfl rfl (by decide) rfl (fun ls hl => ?_)
                refine lv_goto (tgt := 12) hx hb dX6_night_130 (by decide) ?_
                exact kb (n9, (v.2.1 + 1), (v.2.2 + 1)) (by rw [lX6_night_12, if_neg c_19_1, if_pos c_28_2, if_pos c_41_3, if_pos c_54_7, if_neg c_77_11, ← en9, if_pos c_105_13]) H locs ls hP hD hS (lv_sub hl [2, 1, 0] rfl)
              · rw [if_neg c_105_13] at hg
                refine lv_aload_n hx hb dX6_night_108 rfl (lv_at hl 1 rfl) ?_
                refine lv_iload_n hx hb dX6_night_109 rfl (lv_at hl 2 rfl) ?_
                refine lv_iconst (v := 1) hx hb dX6_night_110 (by decide) ?_
                refine lv_aload_n hx hb dX6_night_111 rfl (lv_at hl 1 rfl) ?_
                refine lv_iload_n hx hb dX6_night_112 rfl (lv_at hl 2 rfl) ?_
                refine lv_iconst (v := 1) hx hb dX6_night_113 (by decide) ?_
                obtain ⟨o35, hg⟩ := hg
                refine fRV (As := [.int v.2.2, .int 1]) (rest := [.int 1, .int v.2.2, .ref h]) (st' := [.int (fX6_of n9 v.2.2 1), .int 1, .int v.2.2, .ref h]) ⟨hx, hb, hml, hown, hts⟩ (kX6_of l D cI cC cT h a1 a2 a3 a4 a5 a6 a7 a8 n9 v.2.2 1 o35) (cwV 2 hts gX6_night_X6_of rfl rfl rfl (by decide +kernel) ⟨Nat.le_of_ble_eq_true rfl, Nat.le_of_ble_eq_true rfl⟩) hP hK [0, 1, 2, 3, 4, 5, 6, 7, 8] rfl 0 (ci := 7) rfl rfl rfl rfl hl.1 rfl rfl (Nat.le_of_ble_eq_true rfl) ⟨Nat.zero_le _, Nat.zero_le _⟩ dX6_night_114 ?_
                refine lv_iconst (v := 1) hx hb dX6_night_117 (by decide) ?_
                refine lv_iadd hx hb dX6_night_118 ?_
                refine lv_bipush (v := 9) hx hb dX6_night_119 (by decide) ?_
                refine fRS (As := [.int ((fX6_of n9 v.2.2 1) + 1), .int 9]) (rest := [.int 1, .int v.2.2, .ref h]) (st' := [.int (fX6_atMost ((fX6_of n9 v.2.2 1) + 1) 9), .int 1, .int v.2.2, .ref h]) ⟨hx, hb, hml, hown, hts⟩ (kX6_atMost l D cI cC cT ((fX6_of n9 v.2.2 1) + 1) 9) (va_cwS 2 hts gX6_night_X6_atMost rfl rfl rfl (by decide +kernel) ⟨Nat.le_of_ble_eq_true rfl, Nat.le_of_ble_eq_true rfl⟩) hP hK [] rfl rfl hl.1 rfl rfl (Nat.le_of_ble_eq_true rfl) ⟨Nat.zero_le _, Nat.zero_le _⟩ dX6_night_121 ?_
                obtain ⟨n10, en10⟩ : ∃ z9, z9 = (fX6_lays n9 v.2.2 1 (fX6_atMost ((fX6_of n9 v.2.2 1) + 1) 9)) := ⟨_, rfl⟩
                try rw [← en10] at hg
                obtain ⟨o36, hg⟩ := hg
                have k9 := (kX6_lays l D cI cC cT h a1 a2 a3 a4 a5 a6 a7 a8 n9 v.2.2 1 (fX6_atMost ((fX6_of n9 v.2.2 1) + 1) 9) o36)
                rw [← en10] at k9
                refine fUV (As := [.int v.2.2, .int 1, .int (fX6_atMost ((fX6_of n9 v.2.2 1) + 1) 9)]) (rest := []) (st' := []) ⟨hx, hb, hml, hown, hts⟩ k9 (cwV 3 hts gX6_night_X6_lays rfl rfl rfl (by decide +kernel) ⟨Nat.le_of_ble_eq_true rfl, Nat.le_of_ble_eq_true rfl⟩) hP hK hD hS [0, 1, 2, 3, 4, 5, 6, 7, 8] rfl rfl (by decide) rfl (w6 cI cC h a1 a2 a3 a4 a5 a6 a7 a8 n10) rfl rfl 0 (ci := 7) rfl rfl rfl rfl hl.1 rfl rfl (Nat.le_of_ble_eq_true rfl) ⟨Nat.zero_le _, Nat.zero_le _⟩ dX6_night_124 (fun H locs hP hD hS => ?_)
                refine lv_iinc (v := (v.2.2 + 1)) (lv' := [(2, .int (v.2.2 + 1)), (1, .int (v.2.1 + 1)), (0, .ref h)]) hx hb dX6_night_127 hl (k := 2) rfl rfl (by decide) rfl (fun ls hl => ?_)
                refine lv_goto (tgt := 12) hx hb dX6_night_130 (by decide) ?_
                exact kb (n10, (v.2.1 + 1), (v.2.2 + 1)) (by rw [lX6_night_12, if_neg c_19_1, if_pos c_28_2, if_pos c_41_3, if_pos c_54_7, if_neg c_77_11, ← en9, if_neg c_105_13, ← en10]) H locs ls hP hD hS (lv_sub hl [2, 1, 0] rfl)
      · rw [if_neg c_28_2] at hg
        refine lv_goto (tgt := 127) hx hb dX6_night_31 (by decide) ?_
        refine lv_iinc (v := (v.2.2 + 1)) (lv' := [(2, .int (v.2.2 + 1)), (0, .ref h), (1, .int v.2.1)]) hx hb dX6_night_127 hl (k := 2) rfl rfl (by decide) rfl (fun ls hl => ?_)
        refine lv_goto (tgt := 12) hx hb dX6_night_130 (by decide) ?_
        exact kb (v.1, v.2.1, (v.2.2 + 1)) (by rw [lX6_night_12, if_neg c_19_1, if_neg c_28_2]) H locs ls hP hD hS (lv_sub hl [1, 2, 0] rfl)
  · intro H locs ls hP hD hS hl
    refine lv_aload_n hx hb dX6_night_133 rfl (lv_at hl 0 rfl) ?_
    refine va_get (D := D) (ci := 7) (v := .ref a1) (C := RX6) (T := TX6) (N := 20) hx hb hts q1 hown hK hP 0 rfl rfl 0 (by decide) q0 (fun _ h9 => h9) rfl dX6_night_134 ?_
    refine lv_iconst (v := 2) hx hb dX6_night_137 (by decide) ?_
    refine lv_dup2_11 hx hb dX6_night_138 rfl rfl ?_
    obtain ⟨o38, hg⟩ := hg
    refine va_iald hx hb hK hP 1 0 rfl rfl o38 dX6_night_139 ?_
    refine lv_iload_n hx hb dX6_night_140 rfl (lv_at hl 1 rfl) ?_
    refine lv_iadd hx hb dX6_night_141 ?_
    obtain ⟨o39, hg⟩ := hg
    refine va_iast hx hb hK hP hD hS 1 0 rfl rfl o39 dX6_night_142 (fun H locs hP hD hS => ?_)
    have hP : va_P D vwCl (w6 cI cC h a1 a2 a3 a4 a5 a6 a7 a8 (sS0 (upd n11.1.1 (2 : Int32).toNatClampNeg ((n11.1.1 (2 : Int32).toNatClampNeg) + n11.2.1)) n11.1)) H := w6p_0 hP
    have hD : va_D A (w6 cI cC h a1 a2 a3 a4 a5 a6 a7 a8 (sS0 (upd n11.1.1 (2 : Int32).toNatClampNeg ((n11.1.1 (2 : Int32).toNatClampNeg) + n11.2.1)) n11.1)) := w6d_0 hD
    refine lv_aload_n hx hb dX6_night_143 rfl (lv_at hl 0 rfl) ?_
    refine va_get (D := D) (ci := 7) (v := .ref a1) (C := RX6) (T := TX6) (N := 20) hx hb hts q1 hown hK hP 0 rfl rfl 0 (by decide) q0 (fun _ h9 => h9) rfl dX6_night_144 ?_
    refine lv_iconst (v := 5) hx hb dX6_night_147 (by decide) ?_
    refine lv_dup2_11 hx hb dX6_night_148 rfl rfl ?_
    obtain ⟨o40, hg⟩ := hg
    refine va_iald hx hb hK hP 1 0 rfl rfl o40 dX6_night_149 ?_
    try rw [show (sS0 (upd n11.1.1 (2 : Int32).toNatClampNeg ((n11.1.1 (2 : Int32).toNatClampNeg) + n11.2.1)) n11.1).1 = (upd n11.1.1 (2 : Int32).toNatClampNeg ((n11.1.1 (2 : Int32).toNatClampNeg) + n11.2.1)) from rfl]
    refine lv_iload_n hx hb dX6_night_150 rfl (lv_at hl 1 rfl) ?_
    refine lv_iadd hx hb dX6_night_151 ?_
    obtain ⟨o41, hg⟩ := hg
    refine va_iast hx hb hK hP hD hS 1 0 rfl rfl o41 dX6_night_152 (fun H locs hP hD hS => ?_)
    have hP : va_P D vwCl (w6 cI cC h a1 a2 a3 a4 a5 a6 a7 a8 (sS0 (upd (upd n11.1.1 (2 : Int32).toNatClampNeg ((n11.1.1 (2 : Int32).toNatClampNeg) + n11.2.1)) (5 : Int32).toNatClampNeg (((upd n11.1.1 (2 : Int32).toNatClampNeg ((n11.1.1 (2 : Int32).toNatClampNeg) + n11.2.1)) (5 : Int32).toNatClampNeg) + n11.2.1)) (sS0 (upd n11.1.1 (2 : Int32).toNatClampNeg ((n11.1.1 (2 : Int32).toNatClampNeg) + n11.2.1)) n11.1))) H := w6p_0 hP
    have hD : va_D A (w6 cI cC h a1 a2 a3 a4 a5 a6 a7 a8 (sS0 (upd (upd n11.1.1 (2 : Int32).toNatClampNeg ((n11.1.1 (2 : Int32).toNatClampNeg) + n11.2.1)) (5 : Int32).toNatClampNeg (((upd n11.1.1 (2 : Int32).toNatClampNeg ((n11.1.1 (2 : Int32).toNatClampNeg) + n11.2.1)) (5 : Int32).toNatClampNeg) + n11.2.1)) (sS0 (upd n11.1.1 (2 : Int32).toNatClampNeg ((n11.1.1 (2 : Int32).toNatClampNeg) + n11.2.1)) n11.1))) := w6d_0 hD
    refine lv_aload_n hx hb dX6_night_153 rfl (lv_at hl 0 rfl) ?_
    refine va_get (D := D) (ci := 7) (v := .ref a1) (C := RX6) (T := TX6) (N := 20) hx hb hts q1 hown hK hP 0 rfl rfl 0 (by decide) q0 (fun _ h9 => h9) rfl dX6_night_154 ?_
    refine lv_iconst (v := 3) hx hb dX6_night_157 (by decide) ?_
    refine lv_dup2_11 hx hb dX6_night_158 rfl rfl ?_
    obtain ⟨o42, hg⟩ := hg
    refine va_iald hx hb hK hP 1 0 rfl rfl o42 dX6_night_159 ?_
    try rw [show (sS0 (upd (upd n11.1.1 (2 : Int32).toNatClampNeg ((n11.1.1 (2 : Int32).toNatClampNeg) + n11.2.1)) (5 : Int32).toNatClampNeg (((upd n11.1.1 (2 : Int32).toNatClampNeg ((n11.1.1 (2 : Int32).toNatClampNeg) + n11.2.1)) (5 : Int32).toNatClampNeg) + n11.2.1)) (sS0 (upd n11.1.1 (2 : Int32).toNatClampNeg ((n11.1.1 (2 : Int32).toNatClampNeg) + n11.2.1)) n11.1)).1 = (upd (upd n11.1.1 (2 : Int32).toNatClampNeg ((n11.1.1 (2 : Int32).toNatClampNeg) + n11.2.1)) (5 : Int32).toNatClampNeg (((upd n11.1.1 (2 : Int32).toNatClampNeg ((n11.1.1 (2 : Int32).toNatClampNeg) + n11.2.1)) (5 : Int32).toNatClampNeg) + n11.2.1)) from rfl]
    refine lv_iconst (v := 1) hx hb dX6_night_160 (by decide) ?_
    refine lv_iadd hx hb dX6_night_161 ?_
    obtain ⟨o43, hg⟩ := hg
    refine va_iast hx hb hK hP hD hS 1 0 rfl rfl o43 dX6_night_162 (fun H locs hP hD hS => ?_)
    have hP : va_P D vwCl (w6 cI cC h a1 a2 a3 a4 a5 a6 a7 a8 (sS0 (upd (upd (upd n11.1.1 (2 : Int32).toNatClampNeg ((n11.1.1 (2 : Int32).toNatClampNeg) + n11.2.1)) (5 : Int32).toNatClampNeg (((upd n11.1.1 (2 : Int32).toNatClampNeg ((n11.1.1 (2 : Int32).toNatClampNeg) + n11.2.1)) (5 : Int32).toNatClampNeg) + n11.2.1)) (3 : Int32).toNatClampNeg (((upd (upd n11.1.1 (2 : Int32).toNatClampNeg ((n11.1.1 (2 : Int32).toNatClampNeg) + n11.2.1)) (5 : Int32).toNatClampNeg (((upd n11.1.1 (2 : Int32).toNatClampNeg ((n11.1.1 (2 : Int32).toNatClampNeg) + n11.2.1)) (5 : Int32).toNatClampNeg) + n11.2.1)) (3 : Int32).toNatClampNeg) + 1)) (sS0 (upd (upd n11.1.1 (2 : Int32).toNatClampNeg ((n11.1.1 (2 : Int32).toNatClampNeg) + n11.2.1)) (5 : Int32).toNatClampNeg (((upd n11.1.1 (2 : Int32).toNatClampNeg ((n11.1.1 (2 : Int32).toNatClampNeg) + n11.2.1)) (5 : Int32).toNatClampNeg) + n11.2.1)) (sS0 (upd n11.1.1 (2 : Int32).toNatClampNeg ((n11.1.1 (2 : Int32).toNatClampNeg) + n11.2.1)) n11.1)))) H := w6p_0 hP
    have hD : va_D A (w6 cI cC h a1 a2 a3 a4 a5 a6 a7 a8 (sS0 (upd (upd (upd n11.1.1 (2 : Int32).toNatClampNeg ((n11.1.1 (2 : Int32).toNatClampNeg) + n11.2.1)) (5 : Int32).toNatClampNeg (((upd n11.1.1 (2 : Int32).toNatClampNeg ((n11.1.1 (2 : Int32).toNatClampNeg) + n11.2.1)) (5 : Int32).toNatClampNeg) + n11.2.1)) (3 : Int32).toNatClampNeg (((upd (upd n11.1.1 (2 : Int32).toNatClampNeg ((n11.1.1 (2 : Int32).toNatClampNeg) + n11.2.1)) (5 : Int32).toNatClampNeg (((upd n11.1.1 (2 : Int32).toNatClampNeg ((n11.1.1 (2 : Int32).toNatClampNeg) + n11.2.1)) (5 : Int32).toNatClampNeg) + n11.2.1)) (3 : Int32).toNatClampNeg) + 1)) (sS0 (upd (upd n11.1.1 (2 : Int32).toNatClampNeg ((n11.1.1 (2 : Int32).toNatClampNeg) + n11.2.1)) (5 : Int32).toNatClampNeg (((upd n11.1.1 (2 : Int32).toNatClampNeg ((n11.1.1 (2 : Int32).toNatClampNeg) + n11.2.1)) (5 : Int32).toNatClampNeg) + n11.2.1)) (sS0 (upd n11.1.1 (2 : Int32).toNatClampNeg ((n11.1.1 (2 : Int32).toNatClampNeg) + n11.2.1)) n11.1)))) := w6d_0 hD
    refine lv_iload_n hx hb dX6_night_163 rfl (lv_at hl 1 rfl) ?_
    have e9 : fX6_night S = (n11.2.1, (sS0 (upd (upd (upd n11.1.1 (2 : Int32).toNatClampNeg ((n11.1.1 (2 : Int32).toNatClampNeg) + n11.2.1)) (5 : Int32).toNatClampNeg (((upd n11.1.1 (2 : Int32).toNatClampNeg ((n11.1.1 (2 : Int32).toNatClampNeg) + n11.2.1)) (5 : Int32).toNatClampNeg) + n11.2.1)) (3 : Int32).toNatClampNeg (((upd (upd n11.1.1 (2 : Int32).toNatClampNeg ((n11.1.1 (2 : Int32).toNatClampNeg) + n11.2.1)) (5 : Int32).toNatClampNeg (((upd n11.1.1 (2 : Int32).toNatClampNeg ((n11.1.1 (2 : Int32).toNatClampNeg) + n11.2.1)) (5 : Int32).toNatClampNeg) + n11.2.1)) (3 : Int32).toNatClampNeg) + 1)) (sS0 (upd (upd n11.1.1 (2 : Int32).toNatClampNeg ((n11.1.1 (2 : Int32).toNatClampNeg) + n11.2.1)) (5 : Int32).toNatClampNeg (((upd n11.1.1 (2 : Int32).toNatClampNeg ((n11.1.1 (2 : Int32).toNatClampNeg) + n11.2.1)) (5 : Int32).toNatClampNeg) + n11.2.1)) (sS0 (upd n11.1.1 (2 : Int32).toNatClampNeg ((n11.1.1 (2 : Int32).toNatClampNeg) + n11.2.1)) n11.1)))) := by rw [fX6_night, ← en1, ← en11]
    exact rUi hx hb hr hlk hQ hP hS (by rw [e9]) (congrArg (fun z9 : (Int32 × SV) => (w6 cI cC h a1 a2 a3 a4 a5 a6 a7 a8 z9.2 : va_W)) e9).symm rfl dX6_night_164
def lX6_tilted_17 (v : (SV × Int32)) (w : (Int32 × Int32)) : (Int32 × Int32) ⊕ ((Int32 × Int32)) := (if (v.1.1 (0 : Int32).toNatClampNeg) ≤ w.2 then (.inr (w.1, w.2)) else (if 0 < (Op.cmpValue (FP.fcmp (fX6_tiltOf v.1 w.2) (fX6_tiltOf v.1 v.2)) .l) then (.inl ((w.1 + 1), (w.2 + 1))) else (if (Op.cmpValue (FP.fcmp (fX6_tiltOf v.1 w.2) (fX6_tiltOf v.1 v.2)) .l) = 0 then (if v.2 ≤ w.2 then (.inl ((w.1 + 0), (w.2 + 1))) else (.inl ((w.1 + 1), (w.2 + 1)))) else (.inl ((w.1 + 0), (w.2 + 1))))))
def glX6_tilted_17 (v : (SV × Int32)) (w : (Int32 × Int32)) : Prop := ((vp_in 0 114) ∧ (if (v.1.1 (0 : Int32).toNatClampNeg) ≤ w.2 then True else ((gX6_tiltOf v.1 w.2) ∧ (gX6_tiltOf v.1 v.2) ∧ (if 0 < (Op.cmpValue (FP.fcmp (fX6_tiltOf v.1 w.2) (fX6_tiltOf v.1 v.2)) .l) then True else ((gX6_tiltOf v.1 w.2) ∧ (gX6_tiltOf v.1 v.2) ∧ True)))))
def lX6_tilted_2 (x1 : Int32) (v : (SV × Int32)) : (SV × Int32) ⊕ ((SV × Int32) ⊕ (Int32 × SV)) := (if (v.1.1 (0 : Int32).toNatClampNeg) ≤ v.2 then (.inr (.inl (v.1, v.2))) else (if (itv (0, 0) (lX6_tilted_17 v) ((fun w : (Int32 × Int32) => ((v.1.1 (0 : Int32).toNatClampNeg).toInt - w.2.toInt).toNat) (0, 0) + 1) (0, 0)).1 = x1 then (.inr (.inr (v.2, (sS12 0 v.1)))) else (.inl (v.1, (v.2 + 1)))))
def glX6_tilted_2 (x1 : Int32) (v : (SV × Int32)) : Prop := ((vp_in 0 114) ∧ (if (v.1.1 (0 : Int32).toNatClampNeg) ≤ v.2 then True else ((∃ r9 : (Int32 × Int32), lrun (lX6_tilted_17 v) (glX6_tilted_17 v) ((fun w : (Int32 × Int32) => ((v.1.1 (0 : Int32).toNatClampNeg).toInt - w.2.toInt).toNat) (0, 0) + 1) (0, 0) r9) ∧ True)))
def fX6_tilted (S : SV) (x1 : Int32) : (Int32 × SV) := (Sum.elim (fun y9 => (0, (sS12 1 y9.1))) (fun q9 => q9) (itv (.inl (S, 0)) (lX6_tilted_2 x1) ((fun v : (SV × Int32) => ((v.1.1 (0 : Int32).toNatClampNeg).toInt - v.2.toInt).toNat) (S, 0) + 1) (S, 0)))
def gX6_tilted (S : SV) (x1 : Int32) : Prop := ((∃ r9 : (SV × Int32) ⊕ (Int32 × SV), lrun (lX6_tilted_2 x1) (glX6_tilted_2 x1) ((fun v : (SV × Int32) => ((v.1.1 (0 : Int32).toNatClampNeg).toInt - v.2.toInt).toNat) (S, 0) + 1) (S, 0) r9) ∧ True)
abbrev rmX6_tilted : Room := { frames := 2, cells := 0, slots := 0, locals := 43 }
set_option maxHeartbeats 4000000 in
set_option maxRecDepth 100000 in
theorem kX6_tilted (l : Launch) (D : va_G) (cI cC cT : ClassId) (h a1 a2 a3 a4 a5 a6 a7 a8 : Nat) (S : SV) (x1 : Int32) (hg : gX6_tilted S x1) : mU l D (TY cI cC cT) yX6_tilted wsX6_tilted rmX6_tilted [.ref h, .int x1] (w6 cI cC h a1 a2 a3 a4 a5 a6 a7 a8 S) (some (.int (fX6_tilted S x1).1)) (w6 cI cC h a1 a2 a3 a4 a5 a6 a7 a8 (fX6_tilted S x1).2) := by
  refine mU.ofW (cc := cX6_tilted) (maxL := 5) (ret := (some .int)) (by decide) rfl (Nat.le_of_ble_eq_true rfl) ?_
  intro p e s m args below meth c Q ls A hx hb hml hr hlk hts hown hP hK hD hS hl hQ
  have hown : s.vm.findClass RX6 = some m.cls := hown
  have hP : va_P D vwCl (w6 cI cC h a1 a2 a3 a4 a5 a6 a7 a8 S) s.heap := hP
  have hD : va_D A (w6 cI cC h a1 a2 a3 a4 a5 a6 a7 a8 S) := hD
  have hl : lv_has ls 5 [(0, .ref h), (1, .int x1)] := hl
  have q0 := hts (Cond.fieldLink RX6 7 "TavernStoolsModel" "g" "[I") (by decide +kernel)
  have q1 : ∀ w ∈ u_ws RX6 TX6 20, w ∈ wsX6_tilted := by decide +kernel
  have q2 := hts (Cond.fieldLink RX6 39 "TavernStoolsModel" "code" "I") (by decide +kernel)
  unfold gX6_tilted at hg
  generalize hHe : s.heap = H at hP ⊢
  have hS : va_S A s.heap H [] := hHe ▸ hS
  generalize hLe : ([] : List Loc) = locs at hS ⊢
  refine lv_iconst (v := 0) hx hb dX6_tilted_0 (by decide) ?_
  refine lv_istore_n (lv' := [(2, .int 0), (0, .ref h), (1, .int x1)]) hx hb dX6_tilted_1 rfl hl (by decide) rfl (fun ls hl => ?_)
  obtain ⟨n2, en2⟩ : ∃ z9, z9 = (itv (.inl (S, 0)) (lX6_tilted_2 x1) ((fun v : (SV × Int32) => ((v.1.1 (0 : Int32).toNatClampNeg).toInt - v.2.toInt).toNat) (S, 0) + 1) (S, 0)) := ⟨_, rfl⟩
  try rw [← en2] at hg
  obtain ⟨o8, hg⟩ := hg
  have L9 := lrun_val (d := (.inl (S, 0))) o8
  rw [← en2] at L9
  refine loopWs (lX6_tilted_2 x1) (glX6_tilted_2 x1) (fun v : (SV × Int32) => ∀ (H : Heap) (locs : List Loc) ls, va_P D vwCl (w6 cI cC h a1 a2 a3 a4 a5 a6 a7 a8 v.1) H → va_D A (w6 cI cC h a1 a2 a3 a4 a5 a6 a7 a8 v.1) → va_S A s.heap H locs → lv_has ls 5 [(0, .ref h), (1, .int x1), (2, .int v.2)] → W p l e rmX6_tilted s m args below meth c H locs 0 0 Q (F0 m 2 ls [])) (fun r8 : (SV × Int32) ⊕ (Int32 × SV) => Sum.elim (fun r9 : (SV × Int32) => ∀ (H : Heap) (locs : List Loc) ls, va_P D vwCl (w6 cI cC h a1 a2 a3 a4 a5 a6 a7 a8 r9.1) H → va_D A (w6 cI cC h a1 a2 a3 a4 a5 a6 a7 a8 r9.1) → va_S A s.heap H locs → lv_has ls 5 [(0, .ref h), (1, .int x1), (2, .int r9.2)] → W p l e rmX6_tilted s m args below meth c H locs 0 0 Q (F0 m 99 ls [])) (fun q9 : (Int32 × SV) => ∀ (H : Heap) (locs : List Loc) (pc : Nat) ls, va_P D vwCl (w6 cI cC h a1 a2 a3 a4 a5 a6 a7 a8 q9.2) H → va_D A (w6 cI cC h a1 a2 a3 a4 a5 a6 a7 a8 q9.2) → va_S A s.heap H locs → decode cX6_tilted pc = .ok (.ireturn, 1) → narrow (.int) (.int q9.1) = .int q9.1 → W p l e rmX6_tilted s m args below meth c H locs 0 0 Q (F0 m pc ls [.int q9.1])) r8) ?_ _ (S, 0) n2 L9 ?_ _ _ ls hP hD hS (lv_sub hl [1, 2, 0] rfl)
  · intro v hg kb kx H locs ls hP hD hS hl
    unfold glX6_tilted_2 at hg
    refine lv_iload_n hx hb dX6_tilted_2 rfl (lv_at hl 2 rfl) ?_
    refine lv_aload_n hx hb dX6_tilted_3 rfl (lv_at hl 0 rfl) ?_
    refine va_get (D := D) (ci := 7) (v := .ref a1) (C := RX6) (T := TX6) (N := 20) hx hb hts q1 hown hK hP 0 rfl rfl 0 (by decide) q0 (fun _ h9 => h9) rfl dX6_tilted_4 ?_
    refine lv_iconst (v := 0) hx hb dX6_tilted_7 (by decide) ?_
    obtain ⟨o1, hg⟩ := hg
    refine va_iald hx hb hK hP 1 0 rfl rfl o1 dX6_tilted_8 ?_
    refine lv_icmp_ge (tgt := 99) hx hb dX6_tilted_9 (by decide) (fun c_9_1 => ?_) (fun c_9_1 => ?_)
    · rw [if_pos c_9_1] at hg
      exact kx (.inl (v.1, v.2)) (by rw [lX6_tilted_2, if_pos c_9_1]) H locs ls hP hD hS (lv_sub hl [0, 1, 2] rfl)
    · rw [if_neg c_9_1] at hg
      refine lv_iconst (v := 0) hx hb dX6_tilted_12 (by decide) ?_
      refine lv_istore_n (lv' := [(3, .int 0), (0, .ref h), (1, .int x1), (2, .int v.2)]) hx hb dX6_tilted_13 rfl hl (by decide) rfl (fun ls hl => ?_)
      refine lv_iconst (v := 0) hx hb dX6_tilted_14 (by decide) ?_
      refine lv_istore (lv' := [(4, .int 0), (3, .int 0), (0, .ref h), (1, .int x1), (2, .int v.2)]) hx hb dX6_tilted_15 hl (by decide) rfl (fun ls hl => ?_)
      obtain ⟨n1, en1⟩ : ∃ z9, z9 = (itv (0, 0) (lX6_tilted_17 v) ((fun w : (Int32 × Int32) => ((v.1.1 (0 : Int32).toNatClampNeg).toInt - w.2.toInt).toNat) (0, 0) + 1) (0, 0)) := ⟨_, rfl⟩
      try rw [← en1] at hg
      obtain ⟨o7, hg⟩ := hg
      have L9 := lrun_val (d := (0, 0)) o7
      rw [← en1] at L9
      refine loopWs (lX6_tilted_17 v) (glX6_tilted_17 v) (fun w : (Int32 × Int32) => ∀ (H : Heap) (locs : List Loc) ls, va_P D vwCl (w6 cI cC h a1 a2 a3 a4 a5 a6 a7 a8 v.1) H → va_D A (w6 cI cC h a1 a2 a3 a4 a5 a6 a7 a8 v.1) → va_S A s.heap H locs → lv_has ls 5 [(0, .ref h), (1, .int x1), (2, .int v.2), (3, .int w.1), (4, .int w.2)] → W p l e rmX6_tilted s m args below meth c H locs 0 0 Q (F0 m 17 ls [])) (fun r9 : (Int32 × Int32) => ∀ (H : Heap) (locs : List Loc) ls, va_P D vwCl (w6 cI cC h a1 a2 a3 a4 a5 a6 a7 a8 v.1) H → va_D A (w6 cI cC h a1 a2 a3 a4 a5 a6 a7 a8 v.1) → va_S A s.heap H locs → lv_has ls 5 [(0, .ref h), (1, .int x1), (2, .int v.2), (3, .int r9.1), (4, .int r9.2)] → W p l e rmX6_tilted s m args below meth c H locs 0 0 Q (F0 m 78 ls [])) ?_ _ (0, 0) n1 L9 ?_ _ _ ls hP hD hS (lv_sub hl [2, 3, 4, 1, 0] rfl)
      · intro w hg kb kx H locs ls hP hD hS hl
        unfold glX6_tilted_17 at hg
        refine lv_iload hx hb dX6_tilted_17 (lv_at hl 4 rfl) ?_
        refine lv_aload_n hx hb dX6_tilted_19 rfl (lv_at hl 0 rfl) ?_
        refine va_get (D := D) (ci := 7) (v := .ref a1) (C := RX6) (T := TX6) (N := 20) hx hb hts q1 hown hK hP 0 rfl rfl 0 (by decide) q0 (fun _ h9 => h9) rfl dX6_tilted_20 ?_
        refine lv_iconst (v := 0) hx hb dX6_tilted_23 (by decide) ?_
        obtain ⟨o2, hg⟩ := hg
        refine va_iald hx hb hK hP 1 0 rfl rfl o2 dX6_tilted_24 ?_
        refine lv_icmp_ge (tgt := 78) hx hb dX6_tilted_25 (by decide) (fun c_25_2 => ?_) (fun c_25_2 => ?_)
        · rw [if_pos c_25_2] at hg
          exact kx (w.1, w.2) (by rw [lX6_tilted_17, if_pos c_25_2]) H locs ls hP hD hS (lv_sub hl [0, 1, 2, 3, 4] rfl)
        · rw [if_neg c_25_2] at hg
          refine lv_iload_n hx hb dX6_tilted_28 rfl (lv_at hl 3 rfl) ?_
          refine lv_aload_n hx hb dX6_tilted_29 rfl (lv_at hl 0 rfl) ?_
          refine lv_iload hx hb dX6_tilted_30 (lv_at hl 4 rfl) ?_
          obtain ⟨o3, hg⟩ := hg
          refine fRV (As := [.int w.2]) (rest := [.int w.1]) (st' := [.float (fX6_tiltOf v.1 w.2), .int w.1]) ⟨hx, hb, hml, hown, hts⟩ (kX6_tiltOf l D cI cC cT h a1 a2 a3 a4 a5 a6 a7 a8 v.1 w.2 o3) (cwV 1 hts gX6_tilted_X6_tiltOf rfl rfl rfl (by decide +kernel) ⟨Nat.le_of_ble_eq_true rfl, Nat.le_of_ble_eq_true rfl⟩) hP hK [0, 1, 2, 3, 4, 5, 6, 7, 8] rfl 0 (ci := 7) rfl rfl rfl rfl hl.1 rfl rfl (Nat.le_of_ble_eq_true rfl) ⟨Nat.zero_le _, Nat.zero_le _⟩ dX6_tilted_32 ?_
          refine lv_aload_n hx hb dX6_tilted_35 rfl (lv_at hl 0 rfl) ?_
          refine lv_iload_n hx hb dX6_tilted_36 rfl (lv_at hl 2 rfl) ?_
          obtain ⟨o4, hg⟩ := hg
          refine fRV (As := [.int v.2]) (rest := [.float (fX6_tiltOf v.1 w.2), .int w.1]) (st' := [.float (fX6_tiltOf v.1 v.2), .float (fX6_tiltOf v.1 w.2), .int w.1]) ⟨hx, hb, hml, hown, hts⟩ (kX6_tiltOf l D cI cC cT h a1 a2 a3 a4 a5 a6 a7 a8 v.1 v.2 o4) (cwV 1 hts gX6_tilted_X6_tiltOf rfl rfl rfl (by decide +kernel) ⟨Nat.le_of_ble_eq_true rfl, Nat.le_of_ble_eq_true rfl⟩) hP hK [0, 1, 2, 3, 4, 5, 6, 7, 8] rfl 0 (ci := 7) rfl rfl rfl rfl hl.1 rfl rfl (Nat.le_of_ble_eq_true rfl) ⟨Nat.zero_le _, Nat.zero_le _⟩ dX6_tilted_37 ?_
          refine lv_fcmp hx hb dX6_tilted_40 ?_
          refine lv_if_gt (tgt := 65) hx hb dX6_tilted_41 (by decide) (fun c_41_3 => ?_) (fun c_41_3 => ?_)
          · rw [if_pos c_41_3] at hg
            refine lv_iconst (v := 1) hx hb dX6_tilted_65 (by decide) ?_
            refine lv_goto (tgt := 70) hx hb dX6_tilted_66 (by decide) ?_
            refine lv_iadd hx hb dX6_tilted_70 ?_
            refine lv_istore_n (lv' := [(3, .int (w.1 + 1)), (0, .ref h), (1, .int x1), (2, .int v.2), (4, .int w.2)]) hx hb dX6_tilted_71 rfl hl (by decide) rfl (fun ls hl => ?_)
            refine lv_iinc (v := (w.2 + 1)) (lv' := [(4, .int (w.2 + 1)), (3, .int (w.1 + 1)), (0, .ref h), (1, .int x1), (2, .int v.2)]) hx hb dX6_tilted_72 hl (k := 4) rfl rfl (by decide) rfl (fun ls hl => ?_)
            refine lv_goto (tgt := 17) hx hb dX6_tilted_75 (by decide) ?_
            exact kb ((w.1 + 1), (w.2 + 1)) (by rw [lX6_tilted_17, if_neg c_25_2, if_pos c_41_3]) H locs ls hP hD hS (lv_sub hl [2, 3, 4, 1, 0] rfl)
          · rw [if_neg c_41_3] at hg
            refine lv_aload_n hx hb dX6_tilted_44 rfl (lv_at hl 0 rfl) ?_
            refine lv_iload hx hb dX6_tilted_45 (lv_at hl 4 rfl) ?_
            obtain ⟨o5, hg⟩ := hg
            refine fRV (As := [.int w.2]) (rest := [.int w.1]) (st' := [.float (fX6_tiltOf v.1 w.2), .int w.1]) ⟨hx, hb, hml, hown, hts⟩ (kX6_tiltOf l D cI cC cT h a1 a2 a3 a4 a5 a6 a7 a8 v.1 w.2 o5) (cwV 1 hts gX6_tilted_X6_tiltOf rfl rfl rfl (by decide +kernel) ⟨Nat.le_of_ble_eq_true rfl, Nat.le_of_ble_eq_true rfl⟩) hP hK [0, 1, 2, 3, 4, 5, 6, 7, 8] rfl 0 (ci := 7) rfl rfl rfl rfl hl.1 rfl rfl (Nat.le_of_ble_eq_true rfl) ⟨Nat.zero_le _, Nat.zero_le _⟩ dX6_tilted_47 ?_
            refine lv_aload_n hx hb dX6_tilted_50 rfl (lv_at hl 0 rfl) ?_
            refine lv_iload_n hx hb dX6_tilted_51 rfl (lv_at hl 2 rfl) ?_
            obtain ⟨o6, hg⟩ := hg
            refine fRV (As := [.int v.2]) (rest := [.float (fX6_tiltOf v.1 w.2), .int w.1]) (st' := [.float (fX6_tiltOf v.1 v.2), .float (fX6_tiltOf v.1 w.2), .int w.1]) ⟨hx, hb, hml, hown, hts⟩ (kX6_tiltOf l D cI cC cT h a1 a2 a3 a4 a5 a6 a7 a8 v.1 v.2 o6) (cwV 1 hts gX6_tilted_X6_tiltOf rfl rfl rfl (by decide +kernel) ⟨Nat.le_of_ble_eq_true rfl, Nat.le_of_ble_eq_true rfl⟩) hP hK [0, 1, 2, 3, 4, 5, 6, 7, 8] rfl 0 (ci := 7) rfl rfl rfl rfl hl.1 rfl rfl (Nat.le_of_ble_eq_true rfl) ⟨Nat.zero_le _, Nat.zero_le _⟩ dX6_tilted_52 ?_
            refine lv_fcmp hx hb dX6_tilted_55 ?_
            refine lv_if_ne (tgt := 69) hx hb dX6_tilted_56 (by decide) (fun c_56_4 => ?_) (fun c_56_4 => ?_)
            · refine lv_iconst (v := 0) hx hb dX6_tilted_69 (by decide) ?_
              refine lv_iadd hx hb dX6_tilted_70 ?_
              refine lv_istore_n (lv' := [(3, .int (w.1 + 0)), (0, .ref h), (1, .int x1), (2, .int v.2), (4, .int w.2)]) hx hb dX6_tilted_71 rfl hl (by decide) rfl (fun ls hl => ?_)
              refine lv_iinc (v := (w.2 + 1)) (lv' := [(4, .int (w.2 + 1)), (3, .int (w.1 + 0)), (0, .ref h), (1, .int x1), (2, .int v.2)]) hx hb dX6_tilted_72 hl (k := 4) rfl rfl (by decide) rfl (fun ls hl => ?_)
              refine lv_goto (tgt := 17) hx hb dX6_tilted_75 (by decide) ?_
              exact kb ((w.1 + 0), (w.2 + 1)) (by rw [lX6_tilted_17, if_neg c_25_2, if_neg c_41_3, if_neg c_56_4]) H locs ls hP hD hS (lv_sub hl [2, 3, 4, 1, 0] rfl)
            · refine lv_iload hx hb dX6_tilted_59 (lv_at hl 4 rfl) ?_
              refine lv_iload_n hx hb dX6_tilted_61 rfl (lv_at hl 2 rfl) ?_
              refine lv_icmp_ge (tgt := 69) hx hb dX6_tilted_62 (by decide) (fun c_62_5 => ?_) (fun c_62_5 => ?_)
              · refine lv_iconst (v := 0) hx hb dX6_tilted_69 (by decide) ?_
                refine lv_iadd hx hb dX6_tilted_70 ?_
                refine lv_istore_n (lv' := [(3, .int (w.1 + 0)), (0, .ref h), (1, .int x1), (2, .int v.2), (4, .int w.2)]) hx hb dX6_tilted_71 rfl hl (by decide) rfl (fun ls hl => ?_)
                refine lv_iinc (v := (w.2 + 1)) (lv' := [(4, .int (w.2 + 1)), (3, .int (w.1 + 0)), (0, .ref h), (1, .int x1), (2, .int v.2)]) hx hb dX6_tilted_72 hl (k := 4) rfl rfl (by decide) rfl (fun ls hl => ?_)
                refine lv_goto (tgt := 17) hx hb dX6_tilted_75 (by decide) ?_
                exact kb ((w.1 + 0), (w.2 + 1)) (by rw [lX6_tilted_17, if_neg c_25_2, if_neg c_41_3, if_pos c_56_4, if_pos c_62_5]) H locs ls hP hD hS (lv_sub hl [2, 3, 4, 1, 0] rfl)
              · refine lv_iconst (v := 1) hx hb dX6_tilted_65 (by decide) ?_
                refine lv_goto (tgt := 70) hx hb dX6_tilted_66 (by decide) ?_
                refine lv_iadd hx hb dX6_tilted_70 ?_
                refine lv_istore_n (lv' := [(3, .int (w.1 + 1)), (0, .ref h), (1, .int x1), (2, .int v.2), (4, .int w.2)]) hx hb dX6_tilted_71 rfl hl (by decide) rfl (fun ls hl => ?_)
                refine lv_iinc (v := (w.2 + 1)) (lv' := [(4, .int (w.2 + 1)), (3, .int (w.1 + 1)), (0, .ref h), (1, .int x1), (2, .int v.2)]) hx hb dX6_tilted_72 hl (k := 4) rfl rfl (by decide) rfl (fun ls hl => ?_)
                refine lv_goto (tgt := 17) hx hb dX6_tilted_75 (by decide) ?_
                exact kb ((w.1 + 1), (w.2 + 1)) (by rw [lX6_tilted_17, if_neg c_25_2, if_neg c_41_3, if_pos c_56_4, if_neg c_62_5]) H locs ls hP hD hS (lv_sub hl [2, 3, 4, 1, 0] rfl)
      · intro H locs ls hP hD hS hl
        refine lv_iload_n hx hb dX6_tilted_78 rfl (lv_at hl 3 rfl) ?_
        refine lv_iload_n hx hb dX6_tilted_79 rfl (lv_at hl 1 rfl) ?_
        refine lv_icmp_eq (tgt := 86) hx hb dX6_tilted_80 (by decide) (fun c_80_6 => ?_) (fun c_80_6 => ?_)
        · refine lv_aload_n hx hb dX6_tilted_86 rfl (lv_at hl 0 rfl) ?_
          refine lv_iconst (v := 0) hx hb dX6_tilted_87 (by decide) ?_
          refine va_put (D := D) (ci := 7) (v := .int 0) (ty := .int) (C := RX6) (T := TX6) (N := 20) hx hb hts q1 tyX6 tyX6_ok nmX6 hown hK hP hD hS 0 rfl rfl 8 (by decide) q2 (fun _ h9 => h9) rfl (by decide +kernel) rfl rfl (Nat.le_of_ble_eq_true rfl) dX6_tilted_88 (fun H locs hP hD hS => ?_)
          have hP : va_P D vwCl (w6 cI cC h a1 a2 a3 a4 a5 a6 a7 a8 (sS12 0 v.1)) H := w6p_12 hP
          have hD : va_D A (w6 cI cC h a1 a2 a3 a4 a5 a6 a7 a8 (sS12 0 v.1)) := w6d_12 hD
          refine lv_iload_n hx hb dX6_tilted_91 rfl (lv_at hl 2 rfl) ?_
          exact kx (.inr (v.2, (sS12 0 v.1))) (by rw [lX6_tilted_2, if_neg c_9_1, ← en1, if_pos c_80_6]) H locs 92 ls hP hD hS dX6_tilted_92 (show narrow (.int) (.int v.2) = .int v.2 from rfl)
        · refine lv_goto (tgt := 93) hx hb dX6_tilted_83 (by decide) ?_
          refine lv_iinc (v := (v.2 + 1)) (lv' := [(2, .int (v.2 + 1)), (0, .ref h), (1, .int x1), (3, .int n1.1), (4, .int n1.2)]) hx hb dX6_tilted_93 hl (k := 2) rfl rfl (by decide) rfl (fun ls hl => ?_)
          refine lv_goto (tgt := 2) hx hb dX6_tilted_96 (by decide) ?_
          exact kb (v.1, (v.2 + 1)) (by rw [lX6_tilted_2, if_neg c_9_1, ← en1, if_neg c_80_6]) H locs ls hP hD hS (lv_sub hl [1, 2, 0] rfl)
  · cases hy_2 : n2 with
    | inl y9 =>
      show ∀ (H : Heap) (locs : List Loc) ls, va_P D vwCl (w6 cI cC h a1 a2 a3 a4 a5 a6 a7 a8 y9.1) H → va_D A (w6 cI cC h a1 a2 a3 a4 a5 a6 a7 a8 y9.1) → va_S A s.heap H locs → lv_has ls 5 [(0, .ref h), (1, .int x1), (2, .int y9.2)] → W p l e rmX6_tilted s m args below meth c H locs 0 0 Q (F0 m 99 ls [])
      intro H locs ls hP hD hS hl
      refine lv_aload_n hx hb dX6_tilted_99 rfl (lv_at hl 0 rfl) ?_
      refine lv_iconst (v := 1) hx hb dX6_tilted_100 (by decide) ?_
      refine va_put (D := D) (ci := 7) (v := .int 1) (ty := .int) (C := RX6) (T := TX6) (N := 20) hx hb hts q1 tyX6 tyX6_ok nmX6 hown hK hP hD hS 0 rfl rfl 8 (by decide) q2 (fun _ h9 => h9) rfl (by decide +kernel) rfl rfl (Nat.le_of_ble_eq_true rfl) dX6_tilted_101 (fun H locs hP hD hS => ?_)
      have hP : va_P D vwCl (w6 cI cC h a1 a2 a3 a4 a5 a6 a7 a8 (sS12 1 y9.1)) H := w6p_12 hP
      have hD : va_D A (w6 cI cC h a1 a2 a3 a4 a5 a6 a7 a8 (sS12 1 y9.1)) := w6d_12 hD
      refine lv_iconst (v := 0) hx hb dX6_tilted_104 (by decide) ?_
      have e9 : fX6_tilted S x1 = (0, (sS12 1 y9.1)) := by rw [fX6_tilted, ← en2, hy_2, Sum.elim_inl]
      exact rUi hx hb hr hlk hQ hP hS (by rw [e9]) (congrArg (fun z9 : (Int32 × SV) => (w6 cI cC h a1 a2 a3 a4 a5 a6 a7 a8 z9.2 : va_W)) e9).symm rfl dX6_tilted_105
    | inr q9 =>
      intro H locs pc ls hP hD hS hd9 hn9
      have e9 : fX6_tilted S x1 = q9 := by rw [fX6_tilted, ← en2, hy_2, Sum.elim_inr]
      exact rUi hx hb hr hlk hQ hP hS (by rw [e9]) (congrArg (fun z9 : (Int32 × SV) => w6 cI cC h a1 a2 a3 a4 a5 a6 a7 a8 z9.2) e9).symm hn9 hd9
def fX6_ranked (S : SV) (x1 : Int32) : (Int32 × SV) := (if 0 ≤ (fX6_atPlace S x1) then ((fX6_atPlace (fX6_fails S 0).2 x1), (fX6_fails S 0).2) else (0, (fX6_fails S 1).2))
def gX6_ranked (S : SV) (x1 : Int32) : Prop := ((gX6_atPlace S x1) ∧ (if 0 ≤ (fX6_atPlace S x1) then ((gX6_atPlace (fX6_fails S 0).2 x1) ∧ True) else True))
abbrev rmX6_ranked : Room := { frames := 3, cells := 0, slots := 0, locals := 70 }
set_option maxHeartbeats 4000000 in
set_option maxRecDepth 100000 in
theorem kX6_ranked (l : Launch) (D : va_G) (cI cC cT : ClassId) (h a1 a2 a3 a4 a5 a6 a7 a8 : Nat) (S : SV) (x1 : Int32) (hg : gX6_ranked S x1) : mU l D (TY cI cC cT) yX6_ranked wsX6_ranked rmX6_ranked [.ref h, .int x1] (w6 cI cC h a1 a2 a3 a4 a5 a6 a7 a8 S) (some (.int (fX6_ranked S x1).1)) (w6 cI cC h a1 a2 a3 a4 a5 a6 a7 a8 (fX6_ranked S x1).2) := by
  refine mU.ofW (cc := cX6_ranked) (maxL := 2) (ret := (some .int)) (by decide) rfl (Nat.le_of_ble_eq_true rfl) ?_
  intro p e s m args below meth c Q ls A hx hb hml hr hlk hts hown hP hK hD hS hl hQ
  have hown : s.vm.findClass RX6 = some m.cls := hown
  have hP : va_P D vwCl (w6 cI cC h a1 a2 a3 a4 a5 a6 a7 a8 S) s.heap := hP
  have hD : va_D A (w6 cI cC h a1 a2 a3 a4 a5 a6 a7 a8 S) := hD
  have hl : lv_has ls 2 [(0, .ref h), (1, .int x1)] := hl
  unfold gX6_ranked at hg
  generalize hHe : s.heap = H at hP ⊢
  have hS : va_S A s.heap H [] := hHe ▸ hS
  generalize hLe : ([] : List Loc) = locs at hS ⊢
  refine lv_aload_n hx hb dX6_ranked_0 rfl (lv_at hl 0 rfl) ?_
  refine lv_aload_n hx hb dX6_ranked_1 rfl (lv_at hl 0 rfl) ?_
  refine lv_iload_n hx hb dX6_ranked_2 rfl (lv_at hl 1 rfl) ?_
  obtain ⟨o1, hg⟩ := hg
  refine fRV (As := [.int x1]) (rest := [.ref h]) (st' := [.int (fX6_atPlace S x1), .ref h]) ⟨hx, hb, hml, hown, hts⟩ (kX6_atPlace l D cI cC cT h a1 a2 a3 a4 a5 a6 a7 a8 S x1 o1) (cwV 1 hts gX6_ranked_X6_atPlace rfl rfl rfl (by decide +kernel) ⟨Nat.le_of_ble_eq_true rfl, Nat.le_of_ble_eq_true rfl⟩) hP hK [0, 1, 2, 3, 4, 5, 6, 7, 8] rfl 0 (ci := 7) rfl rfl rfl rfl hl.1 rfl rfl (Nat.le_of_ble_eq_true rfl) ⟨Nat.zero_le _, Nat.zero_le _⟩ dX6_ranked_3 ?_
  refine lv_if_ge (tgt := 13) hx hb dX6_ranked_6 (by decide) (fun c_6_1 => ?_) (fun c_6_1 => ?_)
  · rw [if_pos c_6_1] at hg
    refine lv_iconst (v := 0) hx hb dX6_ranked_13 (by decide) ?_
    obtain ⟨n1, en1⟩ : ∃ z9, z9 = (fX6_fails S 0) := ⟨_, rfl⟩
    try rw [← en1] at hg
    have k9 := (kX6_fails l D cI cC cT h a1 a2 a3 a4 a5 a6 a7 a8 S 0)
    rw [← en1] at k9
    refine fUV (As := [.int 0]) (rest := []) (st' := [.int n1.1]) ⟨hx, hb, hml, hown, hts⟩ k9 (cwV 1 hts gX6_ranked_X6_fails rfl rfl rfl (by decide +kernel) ⟨Nat.le_of_ble_eq_true rfl, Nat.le_of_ble_eq_true rfl⟩) hP hK hD hS [0, 1, 2, 3, 4, 5, 6, 7, 8] rfl rfl (by decide) rfl (w6 cI cC h a1 a2 a3 a4 a5 a6 a7 a8 n1.2) rfl rfl 0 (ci := 7) rfl rfl rfl rfl hl.1 rfl rfl (Nat.le_of_ble_eq_true rfl) ⟨Nat.zero_le _, Nat.zero_le _⟩ dX6_ranked_14 (fun H locs hP hD hS => ?_)
    refine lv_if_eq (tgt := 24) hx hb dX6_ranked_17 (by decide) (fun c_17 => ?_) (fun c_17 => absurd (by rw [en1]; exact fails_0 _) c_17)
    refine lv_aload_n hx hb dX6_ranked_24 rfl (lv_at hl 0 rfl) ?_
    refine lv_iload_n hx hb dX6_ranked_25 rfl (lv_at hl 1 rfl) ?_
    obtain ⟨o2, hg⟩ := hg
    refine fRV (As := [.int x1]) (rest := []) (st' := [.int (fX6_atPlace n1.2 x1)]) ⟨hx, hb, hml, hown, hts⟩ (kX6_atPlace l D cI cC cT h a1 a2 a3 a4 a5 a6 a7 a8 n1.2 x1 o2) (cwV 1 hts gX6_ranked_X6_atPlace rfl rfl rfl (by decide +kernel) ⟨Nat.le_of_ble_eq_true rfl, Nat.le_of_ble_eq_true rfl⟩) hP hK [0, 1, 2, 3, 4, 5, 6, 7, 8] rfl 0 (ci := 7) rfl rfl rfl rfl hl.1 rfl rfl (Nat.le_of_ble_eq_true rfl) ⟨Nat.zero_le _, Nat.zero_le _⟩ dX6_ranked_26 ?_
    have e9 : fX6_ranked S x1 = ((fX6_atPlace n1.2 x1), n1.2) := by rw [fX6_ranked, if_pos c_6_1, ← en1]
    exact rUi hx hb hr hlk hQ hP hS (by rw [e9]) (congrArg (fun z9 : (Int32 × SV) => (w6 cI cC h a1 a2 a3 a4 a5 a6 a7 a8 z9.2 : va_W)) e9).symm rfl dX6_ranked_29
  · rw [if_neg c_6_1] at hg
    refine lv_iconst (v := 1) hx hb dX6_ranked_9 (by decide) ?_
    refine lv_goto (tgt := 14) hx hb dX6_ranked_10 (by decide) ?_
    obtain ⟨n2, en2⟩ : ∃ z9, z9 = (fX6_fails S 1) := ⟨_, rfl⟩
    try rw [← en2] at hg
    have k9 := (kX6_fails l D cI cC cT h a1 a2 a3 a4 a5 a6 a7 a8 S 1)
    rw [← en2] at k9
    refine fUV (As := [.int 1]) (rest := []) (st' := [.int n2.1]) ⟨hx, hb, hml, hown, hts⟩ k9 (cwV 1 hts gX6_ranked_X6_fails rfl rfl rfl (by decide +kernel) ⟨Nat.le_of_ble_eq_true rfl, Nat.le_of_ble_eq_true rfl⟩) hP hK hD hS [0, 1, 2, 3, 4, 5, 6, 7, 8] rfl rfl (by decide) rfl (w6 cI cC h a1 a2 a3 a4 a5 a6 a7 a8 n2.2) rfl rfl 0 (ci := 7) rfl rfl rfl rfl hl.1 rfl rfl (Nat.le_of_ble_eq_true rfl) ⟨Nat.zero_le _, Nat.zero_le _⟩ dX6_ranked_14 (fun H locs hP hD hS => ?_)
    refine lv_if_eq (tgt := 24) hx hb dX6_ranked_17 (by decide) (fun c_17 => absurd c_17 (by rw [en2, fails_1]; decide)) (fun c_17 => ?_)
    refine lv_iconst (v := 0) hx hb dX6_ranked_20 (by decide) ?_
    refine lv_goto (tgt := 29) hx hb dX6_ranked_21 (by decide) ?_
    have e9 : fX6_ranked S x1 = (0, n2.2) := by rw [fX6_ranked, if_neg c_6_1, ← en2]
    exact rUi hx hb hr hlk hQ hP hS (by rw [e9]) (congrArg (fun z9 : (Int32 × SV) => (w6 cI cC h a1 a2 a3 a4 a5 a6 a7 a8 z9.2 : va_W)) e9).symm rfl dX6_ranked_29
