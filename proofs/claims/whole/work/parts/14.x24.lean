section TBL
variable {p : Program} {l : Launch} {e : Env} {R : Room} {s : State} {m : MethodId} {args : Array Value} {below : List Frame} {meth : Method} {c : Code} {H : Heap} {locs : List Loc} {cells slots : Nat} {Q : State → Prop} {cc : ByteArray} {pc : Nat} {ls : Array Slot} {rest : List Value}
/-- a switch, at a number that is none of its cases -/
theorem lv_tableDef (L : List Nat) (hx : p.tables.exec = Jvm.exec) (hb : c.code = cc) {dflt lo hi : Int} {offs : Array Int} {len : Nat} {x : Int32} {tgt : Nat} (hdg : decode cc pc = .ok (.tableswitch dflt lo hi offs, len))
    (h1 : ∀ i, i < offs.size → i ∉ L → offs[i]? = some dflt) (hn : (offs.size : Int) = hi - lo + 1) (h2 : ∀ i ∈ L, x.toInt ≠ lo + (i : Int)) (ht : (pc : Int) + dflt = (tgt : Int))
    (k : W p l e R s m args below meth c H locs cells slots Q (F0 m tgt ls rest)) : W p l e R s m args below meth c H locs cells slots Q (F0 m pc ls (.int x :: rest)) := by
  by_cases a : x.toInt < lo
  · exact lv_tableOut hx hb hdg (Or.inl a) ht k
  · by_cases b : hi < x.toInt
    · exact lv_tableOut hx hb hdg (Or.inr b) ht k
    · refine lv_tableIn hx hb hdg a b (h1 _ (by omega) (fun z => h2 _ z (by omega))) ht k
end TBL
theorem tn {x k : Int32} (c : ¬ x = k) {z : Int} (hz : k.toInt = z) : x.toInt ≠ z := fun h => c (Int32.toInt_inj.mp (h.trans hz.symm))
def fX2_clear (L : LV)  : LV := (L.1, 0)
abbrev rmX2_clear : Room := { frames := 0, cells := 0, slots := 0, locals := 0 }
set_option maxHeartbeats 4000000 in
set_option maxRecDepth 100000 in
theorem kX2_clear (l : Launch) (D : va_G) (cI cC cT : ClassId) (h a : Nat) (L : LV)   : mU l D (TY cI cC cT) yX2_clear wsX2_clear rmX2_clear [.ref h] (w2 cC h a L) none (w2 cC h a (fX2_clear L)) := by
  refine mU.ofW (cc := cX2_clear) (maxL := 1) (ret := none) (by decide) rfl (Nat.le_of_ble_eq_true rfl) ?_
  intro p e s m args below meth c Q ls A hx hb hml hr hlk hts hown hP hK hD hS hl hQ
  have hown : s.vm.findClass RX2 = some m.cls := hown
  have hP : va_P D vwCl [(h, .inr (3, [.ref a, .int L.2])), (a, .inl (cC, 600, .inl L.1))] s.heap := hP
  have hD : va_D A [(h, .inr (3, [.ref a, .int L.2])), (a, .inl (cC, 600, .inl L.1))] := hD
  have hl : lv_has ls 1 [(0, .ref h)] := hl
  have q0 := hts (Cond.fieldLink RX2 13 "TavernStools$Line" "length" "I") (by decide +kernel)
  have q1 : ∀ w ∈ u_ws RX2 TX2 2, w ∈ wsX2_clear := by decide +kernel
  generalize hHe : s.heap = H at hP ⊢
  have hS : va_S A s.heap H [] := hHe ▸ hS
  generalize hLe : ([] : List Loc) = locs at hS ⊢
  refine lv_aload_n hx hb dX2_clear_0 rfl (lv_at hl 0 rfl) ?_
  refine lv_iconst (v := 0) hx hb dX2_clear_1 (by decide) ?_
  refine va_put (D := D) (ci := 3) (v := .int 0) (ty := .int) (C := RX2) (T := TX2) (N := 2) hx hb hts q1 tyX2 tyX2_ok nmX2 hown hK hP hD hS 0 rfl rfl 1 (by decide) q0 (fun _ h9 => h9) rfl (by decide +kernel) rfl rfl (Nat.le_of_ble_eq_true rfl) dX2_clear_2 (fun H locs hP hD hS => ?_)
  have hP : va_P D vwCl [(h, .inr (3, [.ref a, .int 0])), (a, .inl (cC, 600, .inl L.1))] H := hP
  have hD : va_D A [(h, .inr (3, [.ref a, .int 0])), (a, .inl (cC, 600, .inl L.1))] := hD
  have e9 : fX2_clear L = (L.1, 0) := by rw [fX2_clear]
  exact rUv hx hb hr hlk hQ hP hS (congrArg (fun z9 : LV => w2 cC h a z9) e9).symm dX2_clear_5
def fX2_add (L : LV) (x1 : Int32) : LV := (if L.2 < 0 then L else (if 600 ≤ L.2 then L else ((upd L.1 (L.2).toNatClampNeg (vp_nar .char x1)), (L.2 + 1))))
abbrev rmX2_add : Room := { frames := 0, cells := 0, slots := 0, locals := 0 }
set_option maxHeartbeats 4000000 in
set_option maxRecDepth 100000 in
theorem kX2_add (l : Launch) (D : va_G) (cI cC cT : ClassId) (h a : Nat) (L : LV) (x1 : Int32)  : mU l D (TY cI cC cT) yX2_add wsX2_add rmX2_add [.ref h, .int x1] (w2 cC h a L) none (w2 cC h a (fX2_add L x1)) := by
  refine mU.ofW (cc := cX2_add) (maxL := 2) (ret := none) (by decide) rfl (Nat.le_of_ble_eq_true rfl) ?_
  intro p e s m args below meth c Q ls A hx hb hml hr hlk hts hown hP hK hD hS hl hQ
  have hown : s.vm.findClass RX2 = some m.cls := hown
  have hP : va_P D vwCl [(h, .inr (3, [.ref a, .int L.2])), (a, .inl (cC, 600, .inl L.1))] s.heap := hP
  have hD : va_D A [(h, .inr (3, [.ref a, .int L.2])), (a, .inl (cC, 600, .inl L.1))] := hD
  have hl : lv_has ls 2 [(0, .ref h), (1, .int x1)] := hl
  have q0 := hts (Cond.fieldLink RX2 13 "TavernStools$Line" "length" "I") (by decide +kernel)
  have q1 : ∀ w ∈ u_ws RX2 TX2 2, w ∈ wsX2_add := by decide +kernel
  have q2 := hts (Cond.fieldLink RX2 9 "TavernStools$Line" "signs" "[C") (by decide +kernel)
  generalize hHe : s.heap = H at hP ⊢
  have hS : va_S A s.heap H [] := hHe ▸ hS
  generalize hLe : ([] : List Loc) = locs at hS ⊢
  refine lv_aload_n hx hb dX2_add_0 rfl (lv_at hl 0 rfl) ?_
  refine va_get (D := D) (ci := 3) (v := .int L.2) (C := RX2) (T := TX2) (N := 2) hx hb hts q1 hown hK hP 0 rfl rfl 1 (by decide) q0 (fun _ h9 => h9) rfl dX2_add_1 ?_
  refine lv_if_lt (tgt := 37) hx hb dX2_add_4 (by decide) (fun c_4 => ?_) (fun c_4 => ?_)
  · have e9 : fX2_add L x1 = L := by rw [fX2_add, if_pos c_4]
    exact rUv hx hb hr hlk hQ hP hS (congrArg (fun z9 : LV => w2 cC h a z9) e9).symm dX2_add_37
  · refine lv_aload_n hx hb dX2_add_7 rfl (lv_at hl 0 rfl) ?_
    refine va_get (D := D) (ci := 3) (v := .int L.2) (C := RX2) (T := TX2) (N := 2) hx hb hts q1 hown hK hP 0 rfl rfl 1 (by decide) q0 (fun _ h9 => h9) rfl dX2_add_8 ?_
    refine lv_sipush (v := 600) hx hb dX2_add_11 (by decide) ?_
    refine lv_icmp_ge (tgt := 37) hx hb dX2_add_14 (by decide) (fun c_14 => ?_) (fun c_14 => ?_)
    · have e9 : fX2_add L x1 = L := by rw [fX2_add, if_neg c_4, if_pos c_14]
      exact rUv hx hb hr hlk hQ hP hS (congrArg (fun z9 : LV => w2 cC h a z9) e9).symm dX2_add_37
    · refine lv_aload_n hx hb dX2_add_17 rfl (lv_at hl 0 rfl) ?_
      refine va_get (D := D) (ci := 3) (v := .ref a) (C := RX2) (T := TX2) (N := 2) hx hb hts q1 hown hK hP 0 rfl rfl 0 (by decide) q2 (fun _ h9 => h9) rfl dX2_add_18 ?_
      refine lv_aload_n hx hb dX2_add_21 rfl (lv_at hl 0 rfl) ?_
      refine va_get (D := D) (ci := 3) (v := .int L.2) (C := RX2) (T := TX2) (N := 2) hx hb hts q1 hown hK hP 0 rfl rfl 1 (by decide) q0 (fun _ h9 => h9) rfl dX2_add_22 ?_
      refine lv_iload_n hx hb dX2_add_25 rfl (lv_at hl 1 rfl) ?_
      refine va_cast hx hb hK hP hD hS 1 1 rfl rfl (ix_lt (by decide) c_4 (lt_of_nle c_14)) dX2_add_26 (fun H locs hP hD hS => ?_)
      have hP : va_P D vwCl [(h, .inr (3, [.ref a, .int L.2])), (a, .inl (cC, 600, .inl (upd L.1 (L.2).toNatClampNeg (vp_nar .char x1))))] H := hP
      have hD : va_D A [(h, .inr (3, [.ref a, .int L.2])), (a, .inl (cC, 600, .inl (upd L.1 (L.2).toNatClampNeg (vp_nar .char x1))))] := hD
      refine lv_aload_n hx hb dX2_add_27 rfl (lv_at hl 0 rfl) ?_
      refine lv_dup hx hb dX2_add_28 rfl ?_
      refine va_get (D := D) (ci := 3) (v := .int L.2) (C := RX2) (T := TX2) (N := 2) hx hb hts q1 hown hK hP 0 rfl rfl 1 (by decide) q0 (fun _ h9 => h9) rfl dX2_add_29 ?_
      refine lv_iconst (v := 1) hx hb dX2_add_32 (by decide) ?_
      refine lv_iadd hx hb dX2_add_33 ?_
      refine va_put (D := D) (ci := 3) (v := .int (L.2 + 1)) (ty := .int) (C := RX2) (T := TX2) (N := 2) hx hb hts q1 tyX2 tyX2_ok nmX2 hown hK hP hD hS 0 rfl rfl 1 (by decide) q0 (fun _ h9 => h9) rfl (by decide +kernel) rfl rfl (Nat.le_of_ble_eq_true rfl) dX2_add_34 (fun H locs hP hD hS => ?_)
      have hP : va_P D vwCl [(h, .inr (3, [.ref a, .int (L.2 + 1)])), (a, .inl (cC, 600, .inl (upd L.1 (L.2).toNatClampNeg (vp_nar .char x1))))] H := hP
      have hD : va_D A [(h, .inr (3, [.ref a, .int (L.2 + 1)])), (a, .inl (cC, 600, .inl (upd L.1 (L.2).toNatClampNeg (vp_nar .char x1))))] := hD
      have e9 : fX2_add L x1 = ((upd L.1 (L.2).toNatClampNeg (vp_nar .char x1)), (L.2 + 1)) := by rw [fX2_add, if_neg c_4, if_neg c_14]
      exact rUv hx hb hr hlk hQ hP hS (congrArg (fun z9 : LV => w2 cC h a z9) e9).symm dX2_add_37
def lX2_addTimes_2 (L : LV) (x1 : Int32) (x2 : Int32) (v : (LV × Int32)) : (LV × Int32) ⊕ ((LV × Int32)) := (if x2 ≤ v.2 then (.inr (v.1, v.2)) else (if 600 ≤ v.2 then (.inr (v.1, v.2)) else (.inl ((fX2_add v.1 x1), (v.2 + 1)))))
def fX2_addTimes (L : LV) (x1 : Int32) (x2 : Int32) : LV := (itv (L, 0) (lX2_addTimes_2 L x1 x2) ((fun v : (LV × Int32) => (x2.toInt - v.2.toInt).toNat) (L, 0) + 1) (L, 0)).1
abbrev rmX2_addTimes : Room := { frames := 1, cells := 0, slots := 0, locals := 21 }
set_option maxHeartbeats 4000000 in
set_option maxRecDepth 100000 in
theorem kX2_addTimes (l : Launch) (D : va_G) (cI cC cT : ClassId) (h a : Nat) (L : LV) (x1 : Int32) (x2 : Int32)  : mU l D (TY cI cC cT) yX2_addTimes wsX2_addTimes rmX2_addTimes [.ref h, .int x1, .int x2] (w2 cC h a L) none (w2 cC h a (fX2_addTimes L x1 x2)) := by
  refine mU.ofW (cc := cX2_addTimes) (maxL := 4) (ret := none) (by decide) rfl (Nat.le_of_ble_eq_true rfl) ?_
  intro p e s m args below meth c Q ls A hx hb hml hr hlk hts hown hP hK hD hS hl hQ
  have hown : s.vm.findClass RX2 = some m.cls := hown
  have hP : va_P D vwCl [(h, .inr (3, [.ref a, .int L.2])), (a, .inl (cC, 600, .inl L.1))] s.heap := hP
  have hD : va_D A [(h, .inr (3, [.ref a, .int L.2])), (a, .inl (cC, 600, .inl L.1))] := hD
  have hl : lv_has ls 4 [(0, .ref h), (1, .int x1), (2, .int x2)] := hl
  generalize hHe : s.heap = H at hP ⊢
  have hS : va_S A s.heap H [] := hHe ▸ hS
  generalize hLe : ([] : List Loc) = locs at hS ⊢
  refine lv_iconst (v := 0) hx hb dX2_addTimes_0 (by decide) ?_
  refine lv_istore_n (lv' := [(3, .int 0), (0, .ref h), (1, .int x1), (2, .int x2)]) hx hb dX2_addTimes_1 rfl hl (by decide) rfl (fun ls hl => ?_)
  have hE_2 : itr (lX2_addTimes_2 L x1 x2) ((fun v : (LV × Int32) => (x2.toInt - v.2.toInt).toNat) (L, 0) + 1) (L, 0) = .inr (itv (L, 0) (lX2_addTimes_2 L x1 x2) ((fun v : (LV × Int32) => (x2.toInt - v.2.toInt).toNat) (L, 0) + 1) (L, 0)) := by
    refine itv_ends (itr_ends (lX2_addTimes_2 L x1 x2) (fun v : (LV × Int32) => True) (fun v : (LV × Int32) => (x2.toInt - v.2.toInt).toNat) ?_ _ _ trivial (Nat.lt_succ_self _))
    intro a b h0 h
    unfold lX2_addTimes_2 at h
    repeat' split at h
    all_goals first | (cases h; done) | (cases h; exact ⟨trivial, rk_ge (by assumption)⟩) | (cases h; exact ⟨trivial, rk_gt (by assumption)⟩)
  refine loopW (lX2_addTimes_2 L x1 x2) (fun v : (LV × Int32) => True) (fun v : (LV × Int32) => ∀ (H : Heap) (locs : List Loc) ls, va_P D vwCl [(h, .inr (3, [.ref a, .int v.1.2])), (a, .inl (cC, 600, .inl v.1.1))] H → va_D A [(h, .inr (3, [.ref a, .int v.1.2])), (a, .inl (cC, 600, .inl v.1.1))] → va_S A s.heap H locs → lv_has ls 4 [(0, .ref h), (1, .int x1), (2, .int x2), (3, .int v.2)] → W p l e rmX2_addTimes s m args below meth c H locs 0 0 Q (F0 m 2 ls [])) (fun r9 : (LV × Int32) => ∀ (H : Heap) (locs : List Loc) ls, va_P D vwCl [(h, .inr (3, [.ref a, .int r9.1.2])), (a, .inl (cC, 600, .inl r9.1.1))] H → va_D A [(h, .inr (3, [.ref a, .int r9.1.2])), (a, .inl (cC, 600, .inl r9.1.1))] → va_S A s.heap H locs → lv_has ls 4 [(0, .ref h), (1, .int x1), (2, .int x2), (3, .int r9.2)] → W p l e rmX2_addTimes s m args below meth c H locs 0 0 Q (F0 m 25 ls [])) ?_ (fun _ _ _ _ => trivial) _ (L, 0) (itv (L, 0) (lX2_addTimes_2 L x1 x2) ((fun v : (LV × Int32) => (x2.toInt - v.2.toInt).toNat) (L, 0) + 1) (L, 0)) trivial hE_2 ?_ _ _ ls hP hD hS (lv_sub hl [1, 2, 3, 0] rfl)
  · intro v _ kb kx H locs ls hP hD hS hl
    refine lv_iload_n hx hb dX2_addTimes_2 rfl (lv_at hl 3 rfl) ?_
    refine lv_iload_n hx hb dX2_addTimes_3 rfl (lv_at hl 2 rfl) ?_
    refine lv_icmp_ge (tgt := 25) hx hb dX2_addTimes_4 (by decide) (fun c_4 => ?_) (fun c_4 => ?_)
    · exact kx (v.1, v.2) (by rw [lX2_addTimes_2, if_pos c_4]) H locs ls hP hD hS (lv_sub hl [0, 1, 2, 3] rfl)
    · refine lv_iload_n hx hb dX2_addTimes_7 rfl (lv_at hl 3 rfl) ?_
      refine lv_sipush (v := 600) hx hb dX2_addTimes_8 (by decide) ?_
      refine lv_icmp_ge (tgt := 25) hx hb dX2_addTimes_11 (by decide) (fun c_11 => ?_) (fun c_11 => ?_)
      · exact kx (v.1, v.2) (by rw [lX2_addTimes_2, if_neg c_4, if_pos c_11]) H locs ls hP hD hS (lv_sub hl [0, 1, 2, 3] rfl)
      · refine lv_aload_n hx hb dX2_addTimes_14 rfl (lv_at hl 0 rfl) ?_
        refine lv_iload_n hx hb dX2_addTimes_15 rfl (lv_at hl 1 rfl) ?_
        obtain ⟨n1, en1⟩ : ∃ z9, z9 = (fX2_add v.1 x1) := ⟨_, rfl⟩
        have k9 := (kX2_add l D cI cC cT h a v.1 x1)
        rw [← en1] at k9
        refine fUV (As := [.int x1]) (rest := []) (st' := []) ⟨hx, hb, hml, hown, hts⟩ k9 (cwV 1 hts gX2_addTimes_X2_add rfl rfl rfl (by decide +kernel) ⟨Nat.le_of_ble_eq_true rfl, Nat.le_of_ble_eq_true rfl⟩) hP hK hD hS [0, 1] rfl rfl (by decide) rfl [(h, .inr (3, [.ref a, .int n1.2])), (a, .inl (cC, 600, .inl n1.1))] rfl rfl 0 (ci := 3) rfl rfl rfl rfl hl.1 rfl rfl (Nat.le_of_ble_eq_true rfl) ⟨Nat.zero_le _, Nat.zero_le _⟩ dX2_addTimes_16 (fun H locs hP hD hS => ?_)
        refine lv_iinc (v := (v.2 + 1)) (lv' := [(3, .int (v.2 + 1)), (0, .ref h), (1, .int x1), (2, .int x2)]) hx hb dX2_addTimes_19 hl (k := 3) rfl rfl (by decide) rfl (fun ls hl => ?_)
        refine lv_goto (tgt := 2) hx hb dX2_addTimes_22 (by decide) ?_
        exact kb (n1, (v.2 + 1)) (by rw [lX2_addTimes_2, if_neg c_4, if_neg c_11, ← en1]) H locs ls hP hD hS (lv_sub hl [1, 2, 3, 0] rfl)
  · intro H locs ls hP hD hS hl
    have e9 : fX2_addTimes L x1 x2 = (itv (L, 0) (lX2_addTimes_2 L x1 x2) ((fun v : (LV × Int32) => (x2.toInt - v.2.toInt).toNat) (L, 0) + 1) (L, 0)).1 := by rw [fX2_addTimes]
    exact rUv hx hb hr hlk hQ hP hS (congrArg (fun z9 : LV => w2 cC h a z9) e9).symm dX2_addTimes_25
def fX2_addNumber (L : LV) (x1 : Int32) : LV := (if x1 ≤ 9 then (fX2_add L ((48 + (x1 - x1 / 10 * 10)).toUInt32 % 65536).toInt32) else (fX2_add (fX2_add L ((48 + (x1 / 10)).toUInt32 % 65536).toInt32) ((48 + (x1 - x1 / 10 * 10)).toUInt32 % 65536).toInt32))
abbrev rmX2_addNumber : Room := { frames := 1, cells := 0, slots := 0, locals := 21 }
set_option maxHeartbeats 4000000 in
set_option maxRecDepth 100000 in
theorem kX2_addNumber (l : Launch) (D : va_G) (cI cC cT : ClassId) (h a : Nat) (L : LV) (x1 : Int32)  : mU l D (TY cI cC cT) yX2_addNumber wsX2_addNumber rmX2_addNumber [.ref h, .int x1] (w2 cC h a L) none (w2 cC h a (fX2_addNumber L x1)) := by
  refine mU.ofW (cc := cX2_addNumber) (maxL := 2) (ret := none) (by decide) rfl (Nat.le_of_ble_eq_true rfl) ?_
  intro p e s m args below meth c Q ls A hx hb hml hr hlk hts hown hP hK hD hS hl hQ
  have hown : s.vm.findClass RX2 = some m.cls := hown
  have hP : va_P D vwCl [(h, .inr (3, [.ref a, .int L.2])), (a, .inl (cC, 600, .inl L.1))] s.heap := hP
  have hD : va_D A [(h, .inr (3, [.ref a, .int L.2])), (a, .inl (cC, 600, .inl L.1))] := hD
  have hl : lv_has ls 2 [(0, .ref h), (1, .int x1)] := hl
  generalize hHe : s.heap = H at hP ⊢
  have hS : va_S A s.heap H [] := hHe ▸ hS
  generalize hLe : ([] : List Loc) = locs at hS ⊢
  refine lv_iload_n hx hb dX2_addNumber_0 rfl (lv_at hl 1 rfl) ?_
  refine lv_bipush (v := 9) hx hb dX2_addNumber_1 (by decide) ?_
  refine lv_icmp_le (tgt := 18) hx hb dX2_addNumber_3 (by decide) (fun c_3 => ?_) (fun c_3 => ?_)
  · refine lv_aload_n hx hb dX2_addNumber_18 rfl (lv_at hl 0 rfl) ?_
    refine lv_bipush (v := 48) hx hb dX2_addNumber_19 (by decide) ?_
    refine lv_iload_n hx hb dX2_addNumber_21 rfl (lv_at hl 1 rfl) ?_
    refine lv_bipush (v := 10) hx hb dX2_addNumber_22 (by decide) ?_
    refine lv_irem hx hb dX2_addNumber_24 (by decide) ?_
    refine lv_iadd hx hb dX2_addNumber_25 ?_
    refine lv_i2c (v := ((48 + (x1 - x1 / 10 * 10)).toUInt32 % 65536).toInt32) hx hb dX2_addNumber_26 rfl ?_
    obtain ⟨n1, en1⟩ : ∃ z9, z9 = (fX2_add L ((48 + (x1 - x1 / 10 * 10)).toUInt32 % 65536).toInt32) := ⟨_, rfl⟩
    have k9 := (kX2_add l D cI cC cT h a L ((48 + (x1 - x1 / 10 * 10)).toUInt32 % 65536).toInt32)
    rw [← en1] at k9
    refine fUV (As := [.int ((48 + (x1 - x1 / 10 * 10)).toUInt32 % 65536).toInt32]) (rest := []) (st' := []) ⟨hx, hb, hml, hown, hts⟩ k9 (cwV 1 hts gX2_addNumber_X2_add rfl rfl rfl (by decide +kernel) ⟨Nat.le_of_ble_eq_true rfl, Nat.le_of_ble_eq_true rfl⟩) hP hK hD hS [0, 1] rfl rfl (by decide) rfl [(h, .inr (3, [.ref a, .int n1.2])), (a, .inl (cC, 600, .inl n1.1))] rfl rfl 0 (ci := 3) rfl rfl rfl rfl hl.1 rfl rfl (Nat.le_of_ble_eq_true rfl) ⟨Nat.zero_le _, Nat.zero_le _⟩ dX2_addNumber_27 (fun H locs hP hD hS => ?_)
    have e9 : fX2_addNumber L x1 = n1 := by rw [fX2_addNumber, if_pos c_3, ← en1]
    exact rUv hx hb hr hlk hQ hP hS (congrArg (fun z9 : LV => w2 cC h a z9) e9).symm dX2_addNumber_30
  · refine lv_aload_n hx hb dX2_addNumber_6 rfl (lv_at hl 0 rfl) ?_
    refine lv_bipush (v := 48) hx hb dX2_addNumber_7 (by decide) ?_
    refine lv_iload_n hx hb dX2_addNumber_9 rfl (lv_at hl 1 rfl) ?_
    refine lv_bipush (v := 10) hx hb dX2_addNumber_10 (by decide) ?_
    refine lv_idiv hx hb dX2_addNumber_12 (by decide) ?_
    refine lv_iadd hx hb dX2_addNumber_13 ?_
    refine lv_i2c (v := ((48 + (x1 / 10)).toUInt32 % 65536).toInt32) hx hb dX2_addNumber_14 rfl ?_
    obtain ⟨n2, en2⟩ : ∃ z9, z9 = (fX2_add L ((48 + (x1 / 10)).toUInt32 % 65536).toInt32) := ⟨_, rfl⟩
    have k9 := (kX2_add l D cI cC cT h a L ((48 + (x1 / 10)).toUInt32 % 65536).toInt32)
    rw [← en2] at k9
    refine fUV (As := [.int ((48 + (x1 / 10)).toUInt32 % 65536).toInt32]) (rest := []) (st' := []) ⟨hx, hb, hml, hown, hts⟩ k9 (cwV 1 hts gX2_addNumber_X2_add rfl rfl rfl (by decide +kernel) ⟨Nat.le_of_ble_eq_true rfl, Nat.le_of_ble_eq_true rfl⟩) hP hK hD hS [0, 1] rfl rfl (by decide) rfl [(h, .inr (3, [.ref a, .int n2.2])), (a, .inl (cC, 600, .inl n2.1))] rfl rfl 0 (ci := 3) rfl rfl rfl rfl hl.1 rfl rfl (Nat.le_of_ble_eq_true rfl) ⟨Nat.zero_le _, Nat.zero_le _⟩ dX2_addNumber_15 (fun H locs hP hD hS => ?_)
    refine lv_aload_n hx hb dX2_addNumber_18 rfl (lv_at hl 0 rfl) ?_
    refine lv_bipush (v := 48) hx hb dX2_addNumber_19 (by decide) ?_
    refine lv_iload_n hx hb dX2_addNumber_21 rfl (lv_at hl 1 rfl) ?_
    refine lv_bipush (v := 10) hx hb dX2_addNumber_22 (by decide) ?_
    refine lv_irem hx hb dX2_addNumber_24 (by decide) ?_
    refine lv_iadd hx hb dX2_addNumber_25 ?_
    refine lv_i2c (v := ((48 + (x1 - x1 / 10 * 10)).toUInt32 % 65536).toInt32) hx hb dX2_addNumber_26 rfl ?_
    obtain ⟨n3, en3⟩ : ∃ z9, z9 = (fX2_add n2 ((48 + (x1 - x1 / 10 * 10)).toUInt32 % 65536).toInt32) := ⟨_, rfl⟩
    have k9 := (kX2_add l D cI cC cT h a n2 ((48 + (x1 - x1 / 10 * 10)).toUInt32 % 65536).toInt32)
    rw [← en3] at k9
    refine fUV (As := [.int ((48 + (x1 - x1 / 10 * 10)).toUInt32 % 65536).toInt32]) (rest := []) (st' := []) ⟨hx, hb, hml, hown, hts⟩ k9 (cwV 1 hts gX2_addNumber_X2_add rfl rfl rfl (by decide +kernel) ⟨Nat.le_of_ble_eq_true rfl, Nat.le_of_ble_eq_true rfl⟩) hP hK hD hS [0, 1] rfl rfl (by decide) rfl [(h, .inr (3, [.ref a, .int n3.2])), (a, .inl (cC, 600, .inl n3.1))] rfl rfl 0 (ci := 3) rfl rfl rfl rfl hl.1 rfl rfl (Nat.le_of_ble_eq_true rfl) ⟨Nat.zero_le _, Nat.zero_le _⟩ dX2_addNumber_27 (fun H locs hP hD hS => ?_)
    have e9 : fX2_addNumber L x1 = n3 := by rw [fX2_addNumber, if_neg c_3, ← en2, ← en3]
    exact rUv hx hb hr hlk hQ hP hS (congrArg (fun z9 : LV => w2 cC h a z9) e9).symm dX2_addNumber_30
-- signAt
def fX2_signAt (L : LV) (x1 : Int32) : Int32 := (if x1 < 0 then 32 else (if 600 ≤ x1 then 32 else (L.1 (x1).toNatClampNeg)))
abbrev rmX2_signAt : Room := { frames := 0, cells := 0, slots := 0, locals := 0 }
set_option maxHeartbeats 4000000 in
set_option maxRecDepth 100000 in
theorem kX2_signAt (l : Launch) (D : va_G) (cI cC cT : ClassId) (h a : Nat) (L : LV) (x1 : Int32) (hc : ∀ i, narrow .char (.int (L.1 i)) = .int (L.1 i)) : mR l D (TY cI cC cT) yX2_signAt wsX2_signAt rmX2_signAt [.ref h, .int x1] (w2 cC h a L) (some (.int (fX2_signAt L x1))) := by
  refine mR.ofW (cc := cX2_signAt) (maxL := 2) (ret := (some .char)) (by decide) rfl (Nat.le_of_ble_eq_true rfl) ?_
  intro p e s m args below meth c Q ls hx hb hml hr hlk hts hown hP hK hl hQ
  have hown : s.vm.findClass RX2 = some m.cls := hown
  have hP : va_P D vwCl [(h, .inr (3, [.ref a, .int L.2])), (a, .inl (cC, 600, .inl L.1))] s.heap := hP
  have hl : lv_has ls 2 [(0, .ref h), (1, .int x1)] := hl
  have q0 := hts (Cond.fieldLink RX2 9 "TavernStools$Line" "signs" "[C") (by decide +kernel)
  have q1 : ∀ w ∈ u_ws RX2 TX2 2, w ∈ wsX2_signAt := by decide +kernel
  refine lv_iload_n hx hb dX2_signAt_0 rfl (lv_at hl 1 rfl) ?_
  refine lv_if_lt (tgt := 20) hx hb dX2_signAt_1 (by decide) (fun c_1 => ?_) (fun c_1 => ?_)
  · refine lv_bipush (v := 32) hx hb dX2_signAt_20 (by decide) ?_
    exact rRi hx hb hr hlk hQ (by rw [fX2_signAt, if_pos c_1]) rfl dX2_signAt_22
  · refine lv_iload_n hx hb dX2_signAt_4 rfl (lv_at hl 1 rfl) ?_
    refine lv_sipush (v := 600) hx hb dX2_signAt_5 (by decide) ?_
    refine lv_icmp_ge (tgt := 20) hx hb dX2_signAt_8 (by decide) (fun c_8 => ?_) (fun c_8 => ?_)
    · refine lv_bipush (v := 32) hx hb dX2_signAt_20 (by decide) ?_
      exact rRi hx hb hr hlk hQ (by rw [fX2_signAt, if_neg c_1, if_pos c_8]) rfl dX2_signAt_22
    · refine lv_aload_n hx hb dX2_signAt_11 rfl (lv_at hl 0 rfl) ?_
      refine va_get (D := D) (ci := 3) (v := .ref a) (C := RX2) (T := TX2) (N := 2) hx hb hts q1 hown hK hP 0 rfl rfl 0 (by decide) q0 (fun _ h9 => h9) rfl dX2_signAt_12 ?_
      refine lv_iload_n hx hb dX2_signAt_15 rfl (lv_at hl 1 rfl) ?_
      refine va_cald hx hb hK hP 1 1 rfl rfl (ix_lt (by decide) c_1 (lt_of_nle c_8)) dX2_signAt_16 ?_
      refine lv_goto (tgt := 22) hx hb dX2_signAt_17 (by decide) ?_
      exact rRi hx hb hr hlk hQ (by rw [fX2_signAt, if_neg c_1, if_neg c_8]) (hc _) dX2_signAt_22
def fX4_add (X : XV) (x1 : Int32) : XV := (if X.2.2.1 < 0 then X else (if 60 ≤ X.2.2.1 then X else ((upd X.1 (X.2.2.1).toNatClampNeg (vp_nar .char x1)), X.2.1, (X.2.2.1 + 1), X.2.2.2.1, X.2.2.2.2)))
abbrev rmX4_add : Room := { frames := 0, cells := 0, slots := 0, locals := 0 }
set_option maxHeartbeats 4000000 in
set_option maxRecDepth 100000 in
theorem kX4_add (l : Launch) (D : va_G) (cI cC cT : ClassId) (h a b : Nat) (X : XV) (x1 : Int32)  : mU l D (TY cI cC cT) yX4_add wsX4_add rmX4_add [.ref h, .int x1] (w4 cI cC h a b X) none (w4 cI cC h a b (fX4_add X x1)) := by
  refine mU.ofW (cc := cX4_add) (maxL := 2) (ret := none) (by decide) rfl (Nat.le_of_ble_eq_true rfl) ?_
  intro p e s m args below meth c Q ls A hx hb hml hr hlk hts hown hP hK hD hS hl hQ
  have hown : s.vm.findClass RX4 = some m.cls := hown
  have hP : va_P D vwCl [(h, .inr (5, [.ref a, .ref b, .int X.2.2.1, .int X.2.2.2.1, .int X.2.2.2.2])), (a, .inl (cC, 60, .inl X.1)), (b, .inl (cI, 150, .inl X.2.1))] s.heap := hP
  have hD : va_D A [(h, .inr (5, [.ref a, .ref b, .int X.2.2.1, .int X.2.2.2.1, .int X.2.2.2.2])), (a, .inl (cC, 60, .inl X.1)), (b, .inl (cI, 150, .inl X.2.1))] := hD
  have hl : lv_has ls 2 [(0, .ref h), (1, .int x1)] := hl
  have q0 := hts (Cond.fieldLink RX4 19 "TavernStools$Text" "length" "I") (by decide +kernel)
  have q1 : ∀ w ∈ u_ws RX4 TX4 5, w ∈ wsX4_add := by decide +kernel
  have q2 := hts (Cond.fieldLink RX4 11 "TavernStools$Text" "signs" "[C") (by decide +kernel)
  generalize hHe : s.heap = H at hP ⊢
  have hS : va_S A s.heap H [] := hHe ▸ hS
  generalize hLe : ([] : List Loc) = locs at hS ⊢
  refine lv_aload_n hx hb dX4_add_0 rfl (lv_at hl 0 rfl) ?_
  refine va_get (D := D) (ci := 5) (v := .int X.2.2.1) (C := RX4) (T := TX4) (N := 5) hx hb hts q1 hown hK hP 0 rfl rfl 2 (by decide) q0 (fun _ h9 => h9) rfl dX4_add_1 ?_
  refine lv_if_lt (tgt := 36) hx hb dX4_add_4 (by decide) (fun c_4 => ?_) (fun c_4 => ?_)
  · have e9 : fX4_add X x1 = X := by rw [fX4_add, if_pos c_4]
    exact rUv hx hb hr hlk hQ hP hS (congrArg (fun z9 : XV => w4 cI cC h a b z9) e9).symm dX4_add_36
  · refine lv_aload_n hx hb dX4_add_7 rfl (lv_at hl 0 rfl) ?_
    refine va_get (D := D) (ci := 5) (v := .int X.2.2.1) (C := RX4) (T := TX4) (N := 5) hx hb hts q1 hown hK hP 0 rfl rfl 2 (by decide) q0 (fun _ h9 => h9) rfl dX4_add_8 ?_
    refine lv_bipush (v := 60) hx hb dX4_add_11 (by decide) ?_
    refine lv_icmp_ge (tgt := 36) hx hb dX4_add_13 (by decide) (fun c_13 => ?_) (fun c_13 => ?_)
    · have e9 : fX4_add X x1 = X := by rw [fX4_add, if_neg c_4, if_pos c_13]
      exact rUv hx hb hr hlk hQ hP hS (congrArg (fun z9 : XV => w4 cI cC h a b z9) e9).symm dX4_add_36
    · refine lv_aload_n hx hb dX4_add_16 rfl (lv_at hl 0 rfl) ?_
      refine va_get (D := D) (ci := 5) (v := .ref a) (C := RX4) (T := TX4) (N := 5) hx hb hts q1 hown hK hP 0 rfl rfl 0 (by decide) q2 (fun _ h9 => h9) rfl dX4_add_17 ?_
      refine lv_aload_n hx hb dX4_add_20 rfl (lv_at hl 0 rfl) ?_
      refine va_get (D := D) (ci := 5) (v := .int X.2.2.1) (C := RX4) (T := TX4) (N := 5) hx hb hts q1 hown hK hP 0 rfl rfl 2 (by decide) q0 (fun _ h9 => h9) rfl dX4_add_21 ?_
      refine lv_iload_n hx hb dX4_add_24 rfl (lv_at hl 1 rfl) ?_
      refine va_cast hx hb hK hP hD hS 1 1 rfl rfl (ix_lt (by decide) c_4 (lt_of_nle c_13)) dX4_add_25 (fun H locs hP hD hS => ?_)
      have hP : va_P D vwCl [(h, .inr (5, [.ref a, .ref b, .int X.2.2.1, .int X.2.2.2.1, .int X.2.2.2.2])), (a, .inl (cC, 60, .inl (upd X.1 (X.2.2.1).toNatClampNeg (vp_nar .char x1)))), (b, .inl (cI, 150, .inl X.2.1))] H := hP
      have hD : va_D A [(h, .inr (5, [.ref a, .ref b, .int X.2.2.1, .int X.2.2.2.1, .int X.2.2.2.2])), (a, .inl (cC, 60, .inl (upd X.1 (X.2.2.1).toNatClampNeg (vp_nar .char x1)))), (b, .inl (cI, 150, .inl X.2.1))] := hD
      refine lv_aload_n hx hb dX4_add_26 rfl (lv_at hl 0 rfl) ?_
      refine lv_dup hx hb dX4_add_27 rfl ?_
      refine va_get (D := D) (ci := 5) (v := .int X.2.2.1) (C := RX4) (T := TX4) (N := 5) hx hb hts q1 hown hK hP 0 rfl rfl 2 (by decide) q0 (fun _ h9 => h9) rfl dX4_add_28 ?_
      refine lv_iconst (v := 1) hx hb dX4_add_31 (by decide) ?_
      refine lv_iadd hx hb dX4_add_32 ?_
      refine va_put (D := D) (ci := 5) (v := .int (X.2.2.1 + 1)) (ty := .int) (C := RX4) (T := TX4) (N := 5) hx hb hts q1 tyX4 tyX4_ok nmX4 hown hK hP hD hS 0 rfl rfl 2 (by decide) q0 (fun _ h9 => h9) rfl (by decide +kernel) rfl rfl (Nat.le_of_ble_eq_true rfl) dX4_add_33 (fun H locs hP hD hS => ?_)
      have hP : va_P D vwCl [(h, .inr (5, [.ref a, .ref b, .int (X.2.2.1 + 1), .int X.2.2.2.1, .int X.2.2.2.2])), (a, .inl (cC, 60, .inl (upd X.1 (X.2.2.1).toNatClampNeg (vp_nar .char x1)))), (b, .inl (cI, 150, .inl X.2.1))] H := hP
      have hD : va_D A [(h, .inr (5, [.ref a, .ref b, .int (X.2.2.1 + 1), .int X.2.2.2.1, .int X.2.2.2.2])), (a, .inl (cC, 60, .inl (upd X.1 (X.2.2.1).toNatClampNeg (vp_nar .char x1)))), (b, .inl (cI, 150, .inl X.2.1))] := hD
      have e9 : fX4_add X x1 = ((upd X.1 (X.2.2.1).toNatClampNeg (vp_nar .char x1)), X.2.1, (X.2.2.1 + 1), X.2.2.2.1, X.2.2.2.2) := by rw [fX4_add, if_neg c_4, if_neg c_13]
      exact rUv hx hb hr hlk hQ hP hS (congrArg (fun z9 : XV => w4 cI cC h a b z9) e9).symm dX4_add_36
def fX4_clear (X : XV)  : XV := (X.1, X.2.1, 0, X.2.2.2.1, X.2.2.2.2)
abbrev rmX4_clear : Room := { frames := 0, cells := 0, slots := 0, locals := 0 }
set_option maxHeartbeats 4000000 in
set_option maxRecDepth 100000 in
theorem kX4_clear (l : Launch) (D : va_G) (cI cC cT : ClassId) (h a b : Nat) (X : XV)   : mU l D (TY cI cC cT) yX4_clear wsX4_clear rmX4_clear [.ref h] (w4 cI cC h a b X) none (w4 cI cC h a b (fX4_clear X)) := by
  refine mU.ofW (cc := cX4_clear) (maxL := 1) (ret := none) (by decide) rfl (Nat.le_of_ble_eq_true rfl) ?_
  intro p e s m args below meth c Q ls A hx hb hml hr hlk hts hown hP hK hD hS hl hQ
  have hown : s.vm.findClass RX4 = some m.cls := hown
  have hP : va_P D vwCl [(h, .inr (5, [.ref a, .ref b, .int X.2.2.1, .int X.2.2.2.1, .int X.2.2.2.2])), (a, .inl (cC, 60, .inl X.1)), (b, .inl (cI, 150, .inl X.2.1))] s.heap := hP
  have hD : va_D A [(h, .inr (5, [.ref a, .ref b, .int X.2.2.1, .int X.2.2.2.1, .int X.2.2.2.2])), (a, .inl (cC, 60, .inl X.1)), (b, .inl (cI, 150, .inl X.2.1))] := hD
  have hl : lv_has ls 1 [(0, .ref h)] := hl
  have q0 := hts (Cond.fieldLink RX4 19 "TavernStools$Text" "length" "I") (by decide +kernel)
  have q1 : ∀ w ∈ u_ws RX4 TX4 5, w ∈ wsX4_clear := by decide +kernel
  generalize hHe : s.heap = H at hP ⊢
  have hS : va_S A s.heap H [] := hHe ▸ hS
  generalize hLe : ([] : List Loc) = locs at hS ⊢
  refine lv_aload_n hx hb dX4_clear_0 rfl (lv_at hl 0 rfl) ?_
  refine lv_iconst (v := 0) hx hb dX4_clear_1 (by decide) ?_
  refine va_put (D := D) (ci := 5) (v := .int 0) (ty := .int) (C := RX4) (T := TX4) (N := 5) hx hb hts q1 tyX4 tyX4_ok nmX4 hown hK hP hD hS 0 rfl rfl 2 (by decide) q0 (fun _ h9 => h9) rfl (by decide +kernel) rfl rfl (Nat.le_of_ble_eq_true rfl) dX4_clear_2 (fun H locs hP hD hS => ?_)
  have hP : va_P D vwCl [(h, .inr (5, [.ref a, .ref b, .int 0, .int X.2.2.2.1, .int X.2.2.2.2])), (a, .inl (cC, 60, .inl X.1)), (b, .inl (cI, 150, .inl X.2.1))] H := hP
  have hD : va_D A [(h, .inr (5, [.ref a, .ref b, .int 0, .int X.2.2.2.1, .int X.2.2.2.2])), (a, .inl (cC, 60, .inl X.1)), (b, .inl (cI, 150, .inl X.2.1))] := hD
  have e9 : fX4_clear X = (X.1, X.2.1, 0, X.2.2.2.1, X.2.2.2.2) := by rw [fX4_clear]
  exact rUv hx hb hr hlk hQ hP hS (congrArg (fun z9 : XV => w4 cI cC h a b z9) e9).symm dX4_clear_5
def fX4_number (X : XV) (x1 : Int32) (x2 : Int32) : Int32 := (if x1 < 0 then (-1) else (if 30 ≤ x1 then (-1) else (if x2 < 0 then (-1) else (if x2 < 5 then (X.2.1 (((x1 * 5) + x2)).toNatClampNeg) else (-1)))))
abbrev rmX4_number : Room := { frames := 0, cells := 0, slots := 0, locals := 0 }
set_option maxHeartbeats 4000000 in
set_option maxRecDepth 100000 in
theorem kX4_number (l : Launch) (D : va_G) (cI cC cT : ClassId) (h a b : Nat) (X : XV) (x1 : Int32) (x2 : Int32)  : mR l D (TY cI cC cT) yX4_number wsX4_number rmX4_number [.ref h, .int x1, .int x2] (w4 cI cC h a b X) (some (.int (fX4_number X x1 x2))) := by
  refine mR.ofW (cc := cX4_number) (maxL := 3) (ret := (some .int)) (by decide) rfl (Nat.le_of_ble_eq_true rfl) ?_
  intro p e s m args below meth c Q ls hx hb hml hr hlk hts hown hP hK hl hQ
  have hown : s.vm.findClass RX4 = some m.cls := hown
  have hP : va_P D vwCl [(h, .inr (5, [.ref a, .ref b, .int X.2.2.1, .int X.2.2.2.1, .int X.2.2.2.2])), (a, .inl (cC, 60, .inl X.1)), (b, .inl (cI, 150, .inl X.2.1))] s.heap := hP
  have hl : lv_has ls 3 [(0, .ref h), (1, .int x1), (2, .int x2)] := hl
  have q0 := hts (Cond.fieldLink RX4 15 "TavernStools$Text" "orderRow" "[I") (by decide +kernel)
  have q1 : ∀ w ∈ u_ws RX4 TX4 5, w ∈ wsX4_number := by decide +kernel
  refine lv_iload_n hx hb dX4_number_0 rfl (lv_at hl 1 rfl) ?_
  refine lv_if_lt (tgt := 19) hx hb dX4_number_1 (by decide) (fun c_1 => ?_) (fun c_1 => ?_)
  · refine lv_iconst (v := (-1)) hx hb dX4_number_19 (by decide) ?_
    exact rRi hx hb hr hlk hQ (by rw [fX4_number, if_pos c_1]) rfl dX4_number_20
  · refine lv_iload_n hx hb dX4_number_4 rfl (lv_at hl 1 rfl) ?_
    refine lv_bipush (v := 30) hx hb dX4_number_5 (by decide) ?_
    refine lv_icmp_ge (tgt := 19) hx hb dX4_number_7 (by decide) (fun c_7 => ?_) (fun c_7 => ?_)
    · refine lv_iconst (v := (-1)) hx hb dX4_number_19 (by decide) ?_
      exact rRi hx hb hr hlk hQ (by rw [fX4_number, if_neg c_1, if_pos c_7]) rfl dX4_number_20
    · refine lv_iload_n hx hb dX4_number_10 rfl (lv_at hl 2 rfl) ?_
      refine lv_if_lt (tgt := 19) hx hb dX4_number_11 (by decide) (fun c_11 => ?_) (fun c_11 => ?_)
      · refine lv_iconst (v := (-1)) hx hb dX4_number_19 (by decide) ?_
        exact rRi hx hb hr hlk hQ (by rw [fX4_number, if_neg c_1, if_neg c_7, if_pos c_11]) rfl dX4_number_20
      · refine lv_iload_n hx hb dX4_number_14 rfl (lv_at hl 2 rfl) ?_
        refine lv_iconst (v := 5) hx hb dX4_number_15 (by decide) ?_
        refine lv_icmp_lt (tgt := 21) hx hb dX4_number_16 (by decide) (fun c_16 => ?_) (fun c_16 => ?_)
        · refine lv_aload_n hx hb dX4_number_21 rfl (lv_at hl 0 rfl) ?_
          refine va_get (D := D) (ci := 5) (v := .ref b) (C := RX4) (T := TX4) (N := 5) hx hb hts q1 hown hK hP 0 rfl rfl 1 (by decide) q0 (fun _ h9 => h9) rfl dX4_number_22 ?_
          refine lv_iload_n hx hb dX4_number_25 rfl (lv_at hl 1 rfl) ?_
          refine lv_iconst (v := 5) hx hb dX4_number_26 (by decide) ?_
          refine lv_imul hx hb dX4_number_27 ?_
          refine lv_iload_n hx hb dX4_number_28 rfl (lv_at hl 2 rfl) ?_
          refine lv_iadd hx hb dX4_number_29 ?_
          refine va_iald hx hb hK hP 2 0 rfl rfl (ix_or c_1 c_7 c_11 c_16) dX4_number_30 ?_
          exact rRi hx hb hr hlk hQ (by rw [fX4_number, if_neg c_1, if_neg c_7, if_neg c_11, if_pos c_16]) rfl dX4_number_31
        · refine lv_iconst (v := (-1)) hx hb dX4_number_19 (by decide) ?_
          exact rRi hx hb hr hlk hQ (by rw [fX4_number, if_neg c_1, if_neg c_7, if_neg c_11, if_neg c_16]) rfl dX4_number_20
def fX4_setNumber (X : XV) (x1 : Int32) (x2 : Int32) : XV := (if X.2.2.2.2 < 0 then X else (if 30 ≤ X.2.2.2.2 then X else (if x1 < 0 then X else (if 5 ≤ x1 then X else (X.1, (upd X.2.1 (((X.2.2.2.2 * 5) + x1)).toNatClampNeg x2), X.2.2.1, X.2.2.2.1, X.2.2.2.2)))))
abbrev rmX4_setNumber : Room := { frames := 0, cells := 0, slots := 0, locals := 0 }
set_option maxHeartbeats 4000000 in
set_option maxRecDepth 100000 in
theorem kX4_setNumber (l : Launch) (D : va_G) (cI cC cT : ClassId) (h a b : Nat) (X : XV) (x1 : Int32) (x2 : Int32)  : mU l D (TY cI cC cT) yX4_setNumber wsX4_setNumber rmX4_setNumber [.ref h, .int x1, .int x2] (w4 cI cC h a b X) none (w4 cI cC h a b (fX4_setNumber X x1 x2)) := by
  refine mU.ofW (cc := cX4_setNumber) (maxL := 3) (ret := none) (by decide) rfl (Nat.le_of_ble_eq_true rfl) ?_
  intro p e s m args below meth c Q ls A hx hb hml hr hlk hts hown hP hK hD hS hl hQ
  have hown : s.vm.findClass RX4 = some m.cls := hown
  have hP : va_P D vwCl [(h, .inr (5, [.ref a, .ref b, .int X.2.2.1, .int X.2.2.2.1, .int X.2.2.2.2])), (a, .inl (cC, 60, .inl X.1)), (b, .inl (cI, 150, .inl X.2.1))] s.heap := hP
  have hD : va_D A [(h, .inr (5, [.ref a, .ref b, .int X.2.2.1, .int X.2.2.2.1, .int X.2.2.2.2])), (a, .inl (cC, 60, .inl X.1)), (b, .inl (cI, 150, .inl X.2.1))] := hD
  have hl : lv_has ls 3 [(0, .ref h), (1, .int x1), (2, .int x2)] := hl
  have q0 := hts (Cond.fieldLink RX4 26 "TavernStools$Text" "orders" "I") (by decide +kernel)
  have q1 : ∀ w ∈ u_ws RX4 TX4 5, w ∈ wsX4_setNumber := by decide +kernel
  have q2 := hts (Cond.fieldLink RX4 15 "TavernStools$Text" "orderRow" "[I") (by decide +kernel)
  generalize hHe : s.heap = H at hP ⊢
  have hS : va_S A s.heap H [] := hHe ▸ hS
  generalize hLe : ([] : List Loc) = locs at hS ⊢
  refine lv_aload_n hx hb dX4_setNumber_0 rfl (lv_at hl 0 rfl) ?_
  refine va_get (D := D) (ci := 5) (v := .int X.2.2.2.2) (C := RX4) (T := TX4) (N := 5) hx hb hts q1 hown hK hP 0 rfl rfl 4 (by decide) q0 (fun _ h9 => h9) rfl dX4_setNumber_1 ?_
  refine lv_if_lt (tgt := 39) hx hb dX4_setNumber_4 (by decide) (fun c_4 => ?_) (fun c_4 => ?_)
  · have e9 : fX4_setNumber X x1 x2 = X := by rw [fX4_setNumber, if_pos c_4]
    exact rUv hx hb hr hlk hQ hP hS (congrArg (fun z9 : XV => w4 cI cC h a b z9) e9).symm dX4_setNumber_39
  · refine lv_aload_n hx hb dX4_setNumber_7 rfl (lv_at hl 0 rfl) ?_
    refine va_get (D := D) (ci := 5) (v := .int X.2.2.2.2) (C := RX4) (T := TX4) (N := 5) hx hb hts q1 hown hK hP 0 rfl rfl 4 (by decide) q0 (fun _ h9 => h9) rfl dX4_setNumber_8 ?_
    refine lv_bipush (v := 30) hx hb dX4_setNumber_11 (by decide) ?_
    refine lv_icmp_ge (tgt := 39) hx hb dX4_setNumber_13 (by decide) (fun c_13 => ?_) (fun c_13 => ?_)
    · have e9 : fX4_setNumber X x1 x2 = X := by rw [fX4_setNumber, if_neg c_4, if_pos c_13]
      exact rUv hx hb hr hlk hQ hP hS (congrArg (fun z9 : XV => w4 cI cC h a b z9) e9).symm dX4_setNumber_39
    · refine lv_iload_n hx hb dX4_setNumber_16 rfl (lv_at hl 1 rfl) ?_
      refine lv_if_lt (tgt := 39) hx hb dX4_setNumber_17 (by decide) (fun c_17 => ?_) (fun c_17 => ?_)
      · have e9 : fX4_setNumber X x1 x2 = X := by rw [fX4_setNumber, if_neg c_4, if_neg c_13, if_pos c_17]
        exact rUv hx hb hr hlk hQ hP hS (congrArg (fun z9 : XV => w4 cI cC h a b z9) e9).symm dX4_setNumber_39
      · refine lv_iload_n hx hb dX4_setNumber_20 rfl (lv_at hl 1 rfl) ?_
        refine lv_iconst (v := 5) hx hb dX4_setNumber_21 (by decide) ?_
        refine lv_icmp_ge (tgt := 39) hx hb dX4_setNumber_22 (by decide) (fun c_22 => ?_) (fun c_22 => ?_)
        · have e9 : fX4_setNumber X x1 x2 = X := by rw [fX4_setNumber, if_neg c_4, if_neg c_13, if_neg c_17, if_pos c_22]
          exact rUv hx hb hr hlk hQ hP hS (congrArg (fun z9 : XV => w4 cI cC h a b z9) e9).symm dX4_setNumber_39
        · refine lv_aload_n hx hb dX4_setNumber_25 rfl (lv_at hl 0 rfl) ?_
          refine va_get (D := D) (ci := 5) (v := .ref b) (C := RX4) (T := TX4) (N := 5) hx hb hts q1 hown hK hP 0 rfl rfl 1 (by decide) q2 (fun _ h9 => h9) rfl dX4_setNumber_26 ?_
          refine lv_aload_n hx hb dX4_setNumber_29 rfl (lv_at hl 0 rfl) ?_
          refine va_get (D := D) (ci := 5) (v := .int X.2.2.2.2) (C := RX4) (T := TX4) (N := 5) hx hb hts q1 hown hK hP 0 rfl rfl 4 (by decide) q0 (fun _ h9 => h9) rfl dX4_setNumber_30 ?_
          refine lv_iconst (v := 5) hx hb dX4_setNumber_33 (by decide) ?_
          refine lv_imul hx hb dX4_setNumber_34 ?_
          refine lv_iload_n hx hb dX4_setNumber_35 rfl (lv_at hl 1 rfl) ?_
          refine lv_iadd hx hb dX4_setNumber_36 ?_
          refine lv_iload_n hx hb dX4_setNumber_37 rfl (lv_at hl 2 rfl) ?_
          refine va_iast hx hb hK hP hD hS 2 0 rfl rfl (ix_or c_4 c_13 c_17 (lt_of_nle c_22)) dX4_setNumber_38 (fun H locs hP hD hS => ?_)
          have hP : va_P D vwCl [(h, .inr (5, [.ref a, .ref b, .int X.2.2.1, .int X.2.2.2.1, .int X.2.2.2.2])), (a, .inl (cC, 60, .inl X.1)), (b, .inl (cI, 150, .inl (upd X.2.1 (((X.2.2.2.2 * 5) + x1)).toNatClampNeg x2)))] H := hP
          have hD : va_D A [(h, .inr (5, [.ref a, .ref b, .int X.2.2.1, .int X.2.2.2.1, .int X.2.2.2.2])), (a, .inl (cC, 60, .inl X.1)), (b, .inl (cI, 150, .inl (upd X.2.1 (((X.2.2.2.2 * 5) + x1)).toNatClampNeg x2)))] := hD
          have e9 : fX4_setNumber X x1 x2 = (X.1, (upd X.2.1 (((X.2.2.2.2 * 5) + x1)).toNatClampNeg x2), X.2.2.1, X.2.2.2.1, X.2.2.2.2) := by rw [fX4_setNumber, if_neg c_4, if_neg c_13, if_neg c_17, if_neg c_22]
          exact rUv hx hb hr hlk hQ hP hS (congrArg (fun z9 : XV => w4 cI cC h a b z9) e9).symm dX4_setNumber_39
def fX4_sign (X : XV)  : Int32 := (if X.2.2.2.1 < 0 then (-1) else (if X.2.2.1 ≤ X.2.2.2.1 then (-1) else (if 60 ≤ X.2.2.2.1 then (-1) else (X.1 (X.2.2.2.1).toNatClampNeg))))
abbrev rmX4_sign : Room := { frames := 0, cells := 0, slots := 0, locals := 0 }
set_option maxHeartbeats 4000000 in
set_option maxRecDepth 100000 in
theorem kX4_sign (l : Launch) (D : va_G) (cI cC cT : ClassId) (h a b : Nat) (X : XV)   : mR l D (TY cI cC cT) yX4_sign wsX4_sign rmX4_sign [.ref h] (w4 cI cC h a b X) (some (.int (fX4_sign X))) := by
  refine mR.ofW (cc := cX4_sign) (maxL := 1) (ret := (some .int)) (by decide) rfl (Nat.le_of_ble_eq_true rfl) ?_
  intro p e s m args below meth c Q ls hx hb hml hr hlk hts hown hP hK hl hQ
  have hown : s.vm.findClass RX4 = some m.cls := hown
  have hP : va_P D vwCl [(h, .inr (5, [.ref a, .ref b, .int X.2.2.1, .int X.2.2.2.1, .int X.2.2.2.2])), (a, .inl (cC, 60, .inl X.1)), (b, .inl (cI, 150, .inl X.2.1))] s.heap := hP
  have hl : lv_has ls 1 [(0, .ref h)] := hl
  have q0 := hts (Cond.fieldLink RX4 23 "TavernStools$Text" "at" "I") (by decide +kernel)
  have q1 : ∀ w ∈ u_ws RX4 TX4 5, w ∈ wsX4_sign := by decide +kernel
  have q2 := hts (Cond.fieldLink RX4 19 "TavernStools$Text" "length" "I") (by decide +kernel)
  have q3 := hts (Cond.fieldLink RX4 11 "TavernStools$Text" "signs" "[C") (by decide +kernel)
  refine lv_aload_n hx hb dX4_sign_0 rfl (lv_at hl 0 rfl) ?_
  refine va_get (D := D) (ci := 5) (v := .int X.2.2.2.1) (C := RX4) (T := TX4) (N := 5) hx hb hts q1 hown hK hP 0 rfl rfl 3 (by decide) q0 (fun _ h9 => h9) rfl dX4_sign_1 ?_
  refine lv_if_lt (tgt := 39) hx hb dX4_sign_4 (by decide) (fun c_4 => ?_) (fun c_4 => ?_)
  · refine lv_iconst (v := (-1)) hx hb dX4_sign_39 (by decide) ?_
    exact rRi hx hb hr hlk hQ (by rw [fX4_sign, if_pos c_4]) rfl dX4_sign_40
  · refine lv_aload_n hx hb dX4_sign_7 rfl (lv_at hl 0 rfl) ?_
    refine va_get (D := D) (ci := 5) (v := .int X.2.2.2.1) (C := RX4) (T := TX4) (N := 5) hx hb hts q1 hown hK hP 0 rfl rfl 3 (by decide) q0 (fun _ h9 => h9) rfl dX4_sign_8 ?_
    refine lv_aload_n hx hb dX4_sign_11 rfl (lv_at hl 0 rfl) ?_
    refine va_get (D := D) (ci := 5) (v := .int X.2.2.1) (C := RX4) (T := TX4) (N := 5) hx hb hts q1 hown hK hP 0 rfl rfl 2 (by decide) q2 (fun _ h9 => h9) rfl dX4_sign_12 ?_
    refine lv_icmp_ge (tgt := 39) hx hb dX4_sign_15 (by decide) (fun c_15 => ?_) (fun c_15 => ?_)
    · refine lv_iconst (v := (-1)) hx hb dX4_sign_39 (by decide) ?_
      exact rRi hx hb hr hlk hQ (by rw [fX4_sign, if_neg c_4, if_pos c_15]) rfl dX4_sign_40
    · refine lv_aload_n hx hb dX4_sign_18 rfl (lv_at hl 0 rfl) ?_
      refine va_get (D := D) (ci := 5) (v := .int X.2.2.2.1) (C := RX4) (T := TX4) (N := 5) hx hb hts q1 hown hK hP 0 rfl rfl 3 (by decide) q0 (fun _ h9 => h9) rfl dX4_sign_19 ?_
      refine lv_bipush (v := 60) hx hb dX4_sign_22 (by decide) ?_
      refine lv_icmp_ge (tgt := 39) hx hb dX4_sign_24 (by decide) (fun c_24 => ?_) (fun c_24 => ?_)
      · refine lv_iconst (v := (-1)) hx hb dX4_sign_39 (by decide) ?_
        exact rRi hx hb hr hlk hQ (by rw [fX4_sign, if_neg c_4, if_neg c_15, if_pos c_24]) rfl dX4_sign_40
      · refine lv_aload_n hx hb dX4_sign_27 rfl (lv_at hl 0 rfl) ?_
        refine va_get (D := D) (ci := 5) (v := .ref a) (C := RX4) (T := TX4) (N := 5) hx hb hts q1 hown hK hP 0 rfl rfl 0 (by decide) q3 (fun _ h9 => h9) rfl dX4_sign_28 ?_
        refine lv_aload_n hx hb dX4_sign_31 rfl (lv_at hl 0 rfl) ?_
        refine va_get (D := D) (ci := 5) (v := .int X.2.2.2.1) (C := RX4) (T := TX4) (N := 5) hx hb hts q1 hown hK hP 0 rfl rfl 3 (by decide) q0 (fun _ h9 => h9) rfl dX4_sign_32 ?_
        refine va_cald hx hb hK hP 1 1 rfl rfl (ix_lt (by decide) c_4 (lt_of_nle c_24)) dX4_sign_35 ?_
        refine lv_goto (tgt := 40) hx hb dX4_sign_36 (by decide) ?_
        exact rRi hx hb hr hlk hQ (by rw [fX4_sign, if_neg c_4, if_neg c_15, if_neg c_24]) rfl dX4_sign_40
def fX4_readSign (X : XV) (x1 : Int32) : (Int32 × XV) := (if (fX4_sign X) = x1 then (1, (X.1, X.2.1, X.2.2.1, (X.2.2.2.1 + 1), X.2.2.2.2)) else (0, X))
abbrev rmX4_readSign : Room := { frames := 1, cells := 0, slots := 0, locals := 20 }
set_option maxHeartbeats 4000000 in
set_option maxRecDepth 100000 in
theorem kX4_readSign (l : Launch) (D : va_G) (cI cC cT : ClassId) (h a b : Nat) (X : XV) (x1 : Int32)  : mU l D (TY cI cC cT) yX4_readSign wsX4_readSign rmX4_readSign [.ref h, .int x1] (w4 cI cC h a b X) (some (.int (fX4_readSign X x1).1)) (w4 cI cC h a b (fX4_readSign X x1).2) := by
  refine mU.ofW (cc := cX4_readSign) (maxL := 2) (ret := (some .boolean)) (by decide) rfl (Nat.le_of_ble_eq_true rfl) ?_
  intro p e s m args below meth c Q ls A hx hb hml hr hlk hts hown hP hK hD hS hl hQ
  have hown : s.vm.findClass RX4 = some m.cls := hown
  have hP : va_P D vwCl [(h, .inr (5, [.ref a, .ref b, .int X.2.2.1, .int X.2.2.2.1, .int X.2.2.2.2])), (a, .inl (cC, 60, .inl X.1)), (b, .inl (cI, 150, .inl X.2.1))] s.heap := hP
  have hD : va_D A [(h, .inr (5, [.ref a, .ref b, .int X.2.2.1, .int X.2.2.2.1, .int X.2.2.2.2])), (a, .inl (cC, 60, .inl X.1)), (b, .inl (cI, 150, .inl X.2.1))] := hD
  have hl : lv_has ls 2 [(0, .ref h), (1, .int x1)] := hl
  have q0 := hts (Cond.fieldLink RX4 23 "TavernStools$Text" "at" "I") (by decide +kernel)
  have q1 : ∀ w ∈ u_ws RX4 TX4 5, w ∈ wsX4_readSign := by decide +kernel
  generalize hHe : s.heap = H at hP ⊢
  have hS : va_S A s.heap H [] := hHe ▸ hS
  generalize hLe : ([] : List Loc) = locs at hS ⊢
  refine lv_aload_n hx hb dX4_readSign_0 rfl (lv_at hl 0 rfl) ?_
  refine fRV (As := []) (rest := []) (st' := [.int (fX4_sign X)]) ⟨hx, hb, hml, hown, hts⟩ (kX4_sign l D cI cC cT h a b X) (cwV 0 hts gX4_readSign_X4_sign rfl rfl rfl (by decide +kernel) ⟨Nat.le_of_ble_eq_true rfl, Nat.le_of_ble_eq_true rfl⟩) hP hK [0, 1, 2] rfl 0 (ci := 5) rfl rfl rfl rfl hl.1 rfl rfl (Nat.le_of_ble_eq_true rfl) ⟨Nat.zero_le _, Nat.zero_le _⟩ dX4_readSign_1 ?_
  refine lv_iload_n hx hb dX4_readSign_4 rfl (lv_at hl 1 rfl) ?_
  refine lv_icmp_eq (tgt := 10) hx hb dX4_readSign_5 (by decide) (fun c_5 => ?_) (fun c_5 => ?_)
  · refine lv_aload_n hx hb dX4_readSign_10 rfl (lv_at hl 0 rfl) ?_
    refine lv_dup hx hb dX4_readSign_11 rfl ?_
    refine va_get (D := D) (ci := 5) (v := .int X.2.2.2.1) (C := RX4) (T := TX4) (N := 5) hx hb hts q1 hown hK hP 0 rfl rfl 3 (by decide) q0 (fun _ h9 => h9) rfl dX4_readSign_12 ?_
    refine lv_iconst (v := 1) hx hb dX4_readSign_15 (by decide) ?_
    refine lv_iadd hx hb dX4_readSign_16 ?_
    refine va_put (D := D) (ci := 5) (v := .int (X.2.2.2.1 + 1)) (ty := .int) (C := RX4) (T := TX4) (N := 5) hx hb hts q1 tyX4 tyX4_ok nmX4 hown hK hP hD hS 0 rfl rfl 3 (by decide) q0 (fun _ h9 => h9) rfl (by decide +kernel) rfl rfl (Nat.le_of_ble_eq_true rfl) dX4_readSign_17 (fun H locs hP hD hS => ?_)
    have hP : va_P D vwCl [(h, .inr (5, [.ref a, .ref b, .int X.2.2.1, .int (X.2.2.2.1 + 1), .int X.2.2.2.2])), (a, .inl (cC, 60, .inl X.1)), (b, .inl (cI, 150, .inl X.2.1))] H := hP
    have hD : va_D A [(h, .inr (5, [.ref a, .ref b, .int X.2.2.1, .int (X.2.2.2.1 + 1), .int X.2.2.2.2])), (a, .inl (cC, 60, .inl X.1)), (b, .inl (cI, 150, .inl X.2.1))] := hD
    refine lv_iconst (v := 1) hx hb dX4_readSign_20 (by decide) ?_
    have e9 : fX4_readSign X x1 = (1, (X.1, X.2.1, X.2.2.1, (X.2.2.2.1 + 1), X.2.2.2.2)) := by rw [fX4_readSign, if_pos c_5]
    exact rUi hx hb hr hlk hQ hP hS (by rw [e9]) (congrArg (fun z9 : (Int32 × XV) => w4 cI cC h a b z9.2) e9).symm rfl dX4_readSign_21
  · refine lv_iconst (v := 0) hx hb dX4_readSign_8 (by decide) ?_
    have e9 : fX4_readSign X x1 = (0, X) := by rw [fX4_readSign, if_neg c_5]
    exact rUi hx hb hr hlk hQ hP hS (by rw [e9]) (congrArg (fun z9 : (Int32 × XV) => w4 cI cC h a b z9.2) e9).symm rfl dX4_readSign_9
theorem zX4_readSign (X : XV) (x1 : Int32) : (fX4_readSign X x1).1 = 0 ∨ (fX4_readSign X x1).1 = 1 := by
  unfold fX4_readSign
  repeat' split
  all_goals first | exact Or.inl rfl | exact Or.inr rfl
def lX4_readNumber_11 (X : XV) (x1 : Int32) (x2 : Int32) (v : (XV × Int32 × Int32 × Int32)) : (XV × Int32 × Int32 × Int32) ⊕ ((XV × Int32 × Int32 × Int32)) := (if x2 ≤ v.2.2.1 then (.inr (v.1, v.2.1, v.2.2.1, v.2.2.2)) else (if v.2.2.2 < 48 then (.inr (v.1, v.2.1, v.2.2.1, v.2.2.2)) else (if 57 < v.2.2.2 then (.inr (v.1, v.2.1, v.2.2.1, v.2.2.2)) else (.inl ((v.1.1, v.1.2.1, v.1.2.2.1, (v.1.2.2.2.1 + 1), v.1.2.2.2.2), (((v.2.1 * 10) + v.2.2.2) - 48), (v.2.2.1 + 1), (fX4_sign (v.1.1, v.1.2.1, v.1.2.2.1, (v.1.2.2.2.1 + 1), v.1.2.2.2.2)))))))
def fX4_readNumber (X : XV) (x1 : Int32) (x2 : Int32) : (Int32 × XV) := (if (itv (X, 0, 0, (fX4_sign X)) (lX4_readNumber_11 X x1 x2) ((fun v : (XV × Int32 × Int32 × Int32) => (x2.toInt - v.2.2.1.toInt).toNat) (X, 0, 0, (fX4_sign X)) + 1) (X, 0, 0, (fX4_sign X))).2.2.1 ≤ 0 then (0, (fX4_setNumber (itv (X, 0, 0, (fX4_sign X)) (lX4_readNumber_11 X x1 x2) ((fun v : (XV × Int32 × Int32 × Int32) => (x2.toInt - v.2.2.1.toInt).toNat) (X, 0, 0, (fX4_sign X)) + 1) (X, 0, 0, (fX4_sign X))).1 x1 (itv (X, 0, 0, (fX4_sign X)) (lX4_readNumber_11 X x1 x2) ((fun v : (XV × Int32 × Int32 × Int32) => (x2.toInt - v.2.2.1.toInt).toNat) (X, 0, 0, (fX4_sign X)) + 1) (X, 0, 0, (fX4_sign X))).2.1)) else (1, (fX4_setNumber (itv (X, 0, 0, (fX4_sign X)) (lX4_readNumber_11 X x1 x2) ((fun v : (XV × Int32 × Int32 × Int32) => (x2.toInt - v.2.2.1.toInt).toNat) (X, 0, 0, (fX4_sign X)) + 1) (X, 0, 0, (fX4_sign X))).1 x1 (itv (X, 0, 0, (fX4_sign X)) (lX4_readNumber_11 X x1 x2) ((fun v : (XV × Int32 × Int32 × Int32) => (x2.toInt - v.2.2.1.toInt).toNat) (X, 0, 0, (fX4_sign X)) + 1) (X, 0, 0, (fX4_sign X))).2.1)))
abbrev rmX4_readNumber : Room := { frames := 1, cells := 0, slots := 0, locals := 22 }
set_option maxHeartbeats 4000000 in
set_option maxRecDepth 100000 in
theorem kX4_readNumber (l : Launch) (D : va_G) (cI cC cT : ClassId) (h a b : Nat) (X : XV) (x1 : Int32) (x2 : Int32)  : mU l D (TY cI cC cT) yX4_readNumber wsX4_readNumber rmX4_readNumber [.ref h, .int x1, .int x2] (w4 cI cC h a b X) (some (.int (fX4_readNumber X x1 x2).1)) (w4 cI cC h a b (fX4_readNumber X x1 x2).2) := by
  refine mU.ofW (cc := cX4_readNumber) (maxL := 6) (ret := (some .boolean)) (by decide) rfl (Nat.le_of_ble_eq_true rfl) ?_
  intro p e s m args below meth c Q ls A hx hb hml hr hlk hts hown hP hK hD hS hl hQ
  have hown : s.vm.findClass RX4 = some m.cls := hown
  have hP : va_P D vwCl [(h, .inr (5, [.ref a, .ref b, .int X.2.2.1, .int X.2.2.2.1, .int X.2.2.2.2])), (a, .inl (cC, 60, .inl X.1)), (b, .inl (cI, 150, .inl X.2.1))] s.heap := hP
  have hD : va_D A [(h, .inr (5, [.ref a, .ref b, .int X.2.2.1, .int X.2.2.2.1, .int X.2.2.2.2])), (a, .inl (cC, 60, .inl X.1)), (b, .inl (cI, 150, .inl X.2.1))] := hD
  have hl : lv_has ls 6 [(0, .ref h), (1, .int x1), (2, .int x2)] := hl
  have q0 := hts (Cond.fieldLink RX4 23 "TavernStools$Text" "at" "I") (by decide +kernel)
  have q1 : ∀ w ∈ u_ws RX4 TX4 5, w ∈ wsX4_readNumber := by decide +kernel
  generalize hHe : s.heap = H at hP ⊢
  have hS : va_S A s.heap H [] := hHe ▸ hS
  generalize hLe : ([] : List Loc) = locs at hS ⊢
  refine lv_iconst (v := 0) hx hb dX4_readNumber_0 (by decide) ?_
  refine lv_istore_n (lv' := [(3, .int 0), (0, .ref h), (1, .int x1), (2, .int x2)]) hx hb dX4_readNumber_1 rfl hl (by decide) rfl (fun ls hl => ?_)
  refine lv_iconst (v := 0) hx hb dX4_readNumber_2 (by decide) ?_
  refine lv_istore (lv' := [(4, .int 0), (3, .int 0), (0, .ref h), (1, .int x1), (2, .int x2)]) hx hb dX4_readNumber_3 hl (by decide) rfl (fun ls hl => ?_)
  refine lv_aload_n hx hb dX4_readNumber_5 rfl (lv_at hl 2 rfl) ?_
  refine fRV (As := []) (rest := []) (st' := [.int (fX4_sign X)]) ⟨hx, hb, hml, hown, hts⟩ (kX4_sign l D cI cC cT h a b X) (cwV 0 hts gX4_readNumber_X4_sign rfl rfl rfl (by decide +kernel) ⟨Nat.le_of_ble_eq_true rfl, Nat.le_of_ble_eq_true rfl⟩) hP hK [0, 1, 2] rfl 0 (ci := 5) rfl rfl rfl rfl hl.1 rfl rfl (Nat.le_of_ble_eq_true rfl) ⟨Nat.zero_le _, Nat.zero_le _⟩ dX4_readNumber_6 ?_
  refine lv_istore (lv' := [(5, .int (fX4_sign X)), (4, .int 0), (3, .int 0), (0, .ref h), (1, .int x1), (2, .int x2)]) hx hb dX4_readNumber_9 hl (by decide) rfl (fun ls hl => ?_)
  have hE_11 : itr (lX4_readNumber_11 X x1 x2) ((fun v : (XV × Int32 × Int32 × Int32) => (x2.toInt - v.2.2.1.toInt).toNat) (X, 0, 0, (fX4_sign X)) + 1) (X, 0, 0, (fX4_sign X)) = .inr (itv (X, 0, 0, (fX4_sign X)) (lX4_readNumber_11 X x1 x2) ((fun v : (XV × Int32 × Int32 × Int32) => (x2.toInt - v.2.2.1.toInt).toNat) (X, 0, 0, (fX4_sign X)) + 1) (X, 0, 0, (fX4_sign X))) := by
    refine itv_ends (itr_ends (lX4_readNumber_11 X x1 x2) (fun v : (XV × Int32 × Int32 × Int32) => True) (fun v : (XV × Int32 × Int32 × Int32) => (x2.toInt - v.2.2.1.toInt).toNat) ?_ _ _ trivial (Nat.lt_succ_self _))
    intro a b h0 h
    unfold lX4_readNumber_11 at h
    repeat' split at h
    all_goals first | (cases h; done) | (cases h; exact ⟨trivial, rk_ge (by assumption)⟩) | (cases h; exact ⟨trivial, rk_gt (by assumption)⟩)
  refine loopW (lX4_readNumber_11 X x1 x2) (fun v : (XV × Int32 × Int32 × Int32) => True) (fun v : (XV × Int32 × Int32 × Int32) => ∀ (H : Heap) (locs : List Loc) ls, va_P D vwCl [(h, .inr (5, [.ref a, .ref b, .int v.1.2.2.1, .int v.1.2.2.2.1, .int v.1.2.2.2.2])), (a, .inl (cC, 60, .inl v.1.1)), (b, .inl (cI, 150, .inl v.1.2.1))] H → va_D A [(h, .inr (5, [.ref a, .ref b, .int v.1.2.2.1, .int v.1.2.2.2.1, .int v.1.2.2.2.2])), (a, .inl (cC, 60, .inl v.1.1)), (b, .inl (cI, 150, .inl v.1.2.1))] → va_S A s.heap H locs → lv_has ls 6 [(0, .ref h), (1, .int x1), (2, .int x2), (3, .int v.2.1), (4, .int v.2.2.1), (5, .int v.2.2.2)] → W p l e rmX4_readNumber s m args below meth c H locs 0 0 Q (F0 m 11 ls [])) (fun r9 : (XV × Int32 × Int32 × Int32) => ∀ (H : Heap) (locs : List Loc) ls, va_P D vwCl [(h, .inr (5, [.ref a, .ref b, .int r9.1.2.2.1, .int r9.1.2.2.2.1, .int r9.1.2.2.2.2])), (a, .inl (cC, 60, .inl r9.1.1)), (b, .inl (cI, 150, .inl r9.1.2.1))] H → va_D A [(h, .inr (5, [.ref a, .ref b, .int r9.1.2.2.1, .int r9.1.2.2.2.1, .int r9.1.2.2.2.2])), (a, .inl (cC, 60, .inl r9.1.1)), (b, .inl (cI, 150, .inl r9.1.2.1))] → va_S A s.heap H locs → lv_has ls 6 [(0, .ref h), (1, .int x1), (2, .int x2), (3, .int r9.2.1), (4, .int r9.2.2.1), (5, .int r9.2.2.2)] → W p l e rmX4_readNumber s m args below meth c H locs 0 0 Q (F0 m 64 ls [])) ?_ (fun _ _ _ _ => trivial) _ (X, 0, 0, (fX4_sign X)) (itv (X, 0, 0, (fX4_sign X)) (lX4_readNumber_11 X x1 x2) ((fun v : (XV × Int32 × Int32 × Int32) => (x2.toInt - v.2.2.1.toInt).toNat) (X, 0, 0, (fX4_sign X)) + 1) (X, 0, 0, (fX4_sign X))) trivial hE_11 ?_ _ _ ls hP hD hS (lv_sub hl [3, 4, 5, 2, 1, 0] rfl)
  · intro v _ kb kx H locs ls hP hD hS hl
    refine lv_iload hx hb dX4_readNumber_11 (lv_at hl 4 rfl) ?_
    refine lv_iload_n hx hb dX4_readNumber_13 rfl (lv_at hl 2 rfl) ?_
    refine lv_icmp_ge (tgt := 64) hx hb dX4_readNumber_14 (by decide) (fun c_14 => ?_) (fun c_14 => ?_)
    · exact kx (v.1, v.2.1, v.2.2.1, v.2.2.2) (by rw [lX4_readNumber_11, if_pos c_14]) H locs ls hP hD hS (lv_sub hl [0, 1, 2, 3, 4, 5] rfl)
    · refine lv_iload hx hb dX4_readNumber_17 (lv_at hl 5 rfl) ?_
      refine lv_bipush (v := 48) hx hb dX4_readNumber_19 (by decide) ?_
      refine lv_icmp_lt (tgt := 64) hx hb dX4_readNumber_21 (by decide) (fun c_21 => ?_) (fun c_21 => ?_)
      · exact kx (v.1, v.2.1, v.2.2.1, v.2.2.2) (by rw [lX4_readNumber_11, if_neg c_14, if_pos c_21]) H locs ls hP hD hS (lv_sub hl [0, 1, 2, 3, 4, 5] rfl)
      · refine lv_iload hx hb dX4_readNumber_24 (lv_at hl 5 rfl) ?_
        refine lv_bipush (v := 57) hx hb dX4_readNumber_26 (by decide) ?_
        refine lv_icmp_gt (tgt := 64) hx hb dX4_readNumber_28 (by decide) (fun c_28 => ?_) (fun c_28 => ?_)
        · exact kx (v.1, v.2.1, v.2.2.1, v.2.2.2) (by rw [lX4_readNumber_11, if_neg c_14, if_neg c_21, if_pos c_28]) H locs ls hP hD hS (lv_sub hl [0, 1, 2, 3, 4, 5] rfl)
        · refine lv_iload_n hx hb dX4_readNumber_31 rfl (lv_at hl 3 rfl) ?_
          refine lv_bipush (v := 10) hx hb dX4_readNumber_32 (by decide) ?_
          refine lv_imul hx hb dX4_readNumber_34 ?_
          refine lv_iload hx hb dX4_readNumber_35 (lv_at hl 5 rfl) ?_
          refine lv_iadd hx hb dX4_readNumber_37 ?_
          refine lv_bipush (v := 48) hx hb dX4_readNumber_38 (by decide) ?_
          refine lv_isub hx hb dX4_readNumber_40 ?_
          refine lv_istore_n (lv' := [(3, .int (((v.2.1 * 10) + v.2.2.2) - 48)), (0, .ref h), (1, .int x1), (2, .int x2), (4, .int v.2.2.1), (5, .int v.2.2.2)]) hx hb dX4_readNumber_41 rfl hl (by decide) rfl (fun ls hl => ?_)
          refine lv_iinc (v := (v.2.2.1 + 1)) (lv' := [(4, .int (v.2.2.1 + 1)), (3, .int (((v.2.1 * 10) + v.2.2.2) - 48)), (0, .ref h), (1, .int x1), (2, .int x2), (5, .int v.2.2.2)]) hx hb dX4_readNumber_42 hl (k := 4) rfl rfl (by decide) rfl (fun ls hl => ?_)
          refine lv_aload_n hx hb dX4_readNumber_45 rfl (lv_at hl 2 rfl) ?_
          refine lv_dup hx hb dX4_readNumber_46 rfl ?_
          refine va_get (D := D) (ci := 5) (v := .int v.1.2.2.2.1) (C := RX4) (T := TX4) (N := 5) hx hb hts q1 hown hK hP 0 rfl rfl 3 (by decide) q0 (fun _ h9 => h9) rfl dX4_readNumber_47 ?_
          refine lv_iconst (v := 1) hx hb dX4_readNumber_50 (by decide) ?_
          refine lv_iadd hx hb dX4_readNumber_51 ?_
          refine va_put (D := D) (ci := 5) (v := .int (v.1.2.2.2.1 + 1)) (ty := .int) (C := RX4) (T := TX4) (N := 5) hx hb hts q1 tyX4 tyX4_ok nmX4 hown hK hP hD hS 0 rfl rfl 3 (by decide) q0 (fun _ h9 => h9) rfl (by decide +kernel) rfl rfl (Nat.le_of_ble_eq_true rfl) dX4_readNumber_52 (fun H locs hP hD hS => ?_)
          have hP : va_P D vwCl [(h, .inr (5, [.ref a, .ref b, .int v.1.2.2.1, .int (v.1.2.2.2.1 + 1), .int v.1.2.2.2.2])), (a, .inl (cC, 60, .inl v.1.1)), (b, .inl (cI, 150, .inl v.1.2.1))] H := hP
          have hD : va_D A [(h, .inr (5, [.ref a, .ref b, .int v.1.2.2.1, .int (v.1.2.2.2.1 + 1), .int v.1.2.2.2.2])), (a, .inl (cC, 60, .inl v.1.1)), (b, .inl (cI, 150, .inl v.1.2.1))] := hD
          refine lv_aload_n hx hb dX4_readNumber_55 rfl (lv_at hl 2 rfl) ?_
          refine fRV (As := []) (rest := []) (st' := [.int (fX4_sign (v.1.1, v.1.2.1, v.1.2.2.1, (v.1.2.2.2.1 + 1), v.1.2.2.2.2))]) ⟨hx, hb, hml, hown, hts⟩ (kX4_sign l D cI cC cT h a b (v.1.1, v.1.2.1, v.1.2.2.1, (v.1.2.2.2.1 + 1), v.1.2.2.2.2)) (cwV 0 hts gX4_readNumber_X4_sign rfl rfl rfl (by decide +kernel) ⟨Nat.le_of_ble_eq_true rfl, Nat.le_of_ble_eq_true rfl⟩) hP hK [0, 1, 2] rfl 0 (ci := 5) rfl rfl rfl rfl hl.1 rfl rfl (Nat.le_of_ble_eq_true rfl) ⟨Nat.zero_le _, Nat.zero_le _⟩ dX4_readNumber_56 ?_
          refine lv_istore (lv' := [(5, .int (fX4_sign (v.1.1, v.1.2.1, v.1.2.2.1, (v.1.2.2.2.1 + 1), v.1.2.2.2.2))), (4, .int (v.2.2.1 + 1)), (3, .int (((v.2.1 * 10) + v.2.2.2) - 48)), (0, .ref h), (1, .int x1), (2, .int x2)]) hx hb dX4_readNumber_59 hl (by decide) rfl (fun ls hl => ?_)
          refine lv_goto (tgt := 11) hx hb dX4_readNumber_61 (by decide) ?_
          exact kb ((v.1.1, v.1.2.1, v.1.2.2.1, (v.1.2.2.2.1 + 1), v.1.2.2.2.2), (((v.2.1 * 10) + v.2.2.2) - 48), (v.2.2.1 + 1), (fX4_sign (v.1.1, v.1.2.1, v.1.2.2.1, (v.1.2.2.2.1 + 1), v.1.2.2.2.2))) (by rw [lX4_readNumber_11, if_neg c_14, if_neg c_21, if_neg c_28]) H locs ls hP hD hS (lv_sub hl [3, 4, 5, 2, 1, 0] rfl)
  · intro H locs ls hP hD hS hl
    refine lv_aload_n hx hb dX4_readNumber_64 rfl (lv_at hl 0 rfl) ?_
    refine lv_iload_n hx hb dX4_readNumber_65 rfl (lv_at hl 1 rfl) ?_
    refine lv_iload_n hx hb dX4_readNumber_66 rfl (lv_at hl 3 rfl) ?_
    obtain ⟨n1, en1⟩ : ∃ z9, z9 = (fX4_setNumber (itv (X, 0, 0, (fX4_sign X)) (lX4_readNumber_11 X x1 x2) ((fun v : (XV × Int32 × Int32 × Int32) => (x2.toInt - v.2.2.1.toInt).toNat) (X, 0, 0, (fX4_sign X)) + 1) (X, 0, 0, (fX4_sign X))).1 x1 (itv (X, 0, 0, (fX4_sign X)) (lX4_readNumber_11 X x1 x2) ((fun v : (XV × Int32 × Int32 × Int32) => (x2.toInt - v.2.2.1.toInt).toNat) (X, 0, 0, (fX4_sign X)) + 1) (X, 0, 0, (fX4_sign X))).2.1) := ⟨_, rfl⟩
    have k9 := (kX4_setNumber l D cI cC cT h a b (itv (X, 0, 0, (fX4_sign X)) (lX4_readNumber_11 X x1 x2) ((fun v : (XV × Int32 × Int32 × Int32) => (x2.toInt - v.2.2.1.toInt).toNat) (X, 0, 0, (fX4_sign X)) + 1) (X, 0, 0, (fX4_sign X))).1 x1 (itv (X, 0, 0, (fX4_sign X)) (lX4_readNumber_11 X x1 x2) ((fun v : (XV × Int32 × Int32 × Int32) => (x2.toInt - v.2.2.1.toInt).toNat) (X, 0, 0, (fX4_sign X)) + 1) (X, 0, 0, (fX4_sign X))).2.1)
    rw [← en1] at k9
    refine fUV (As := [.int x1, .int (itv (X, 0, 0, (fX4_sign X)) (lX4_readNumber_11 X x1 x2) ((fun v : (XV × Int32 × Int32 × Int32) => (x2.toInt - v.2.2.1.toInt).toNat) (X, 0, 0, (fX4_sign X)) + 1) (X, 0, 0, (fX4_sign X))).2.1]) (rest := []) (st' := []) ⟨hx, hb, hml, hown, hts⟩ k9 (cwV 2 hts gX4_readNumber_X4_setNumber rfl rfl rfl (by decide +kernel) ⟨Nat.le_of_ble_eq_true rfl, Nat.le_of_ble_eq_true rfl⟩) hP hK hD hS [0, 1, 2] rfl rfl (by decide) rfl [(h, .inr (5, [.ref a, .ref b, .int n1.2.2.1, .int n1.2.2.2.1, .int n1.2.2.2.2])), (a, .inl (cC, 60, .inl n1.1)), (b, .inl (cI, 150, .inl n1.2.1))] rfl rfl 0 (ci := 5) rfl rfl rfl rfl hl.1 rfl rfl (Nat.le_of_ble_eq_true rfl) ⟨Nat.zero_le _, Nat.zero_le _⟩ dX4_readNumber_67 (fun H locs hP hD hS => ?_)
    refine lv_iload hx hb dX4_readNumber_70 (lv_at hl 4 rfl) ?_
    refine lv_if_le (tgt := 79) hx hb dX4_readNumber_72 (by decide) (fun c_72 => ?_) (fun c_72 => ?_)
    · refine lv_iconst (v := 0) hx hb dX4_readNumber_79 (by decide) ?_
      have e9 : fX4_readNumber X x1 x2 = (0, n1) := by rw [fX4_readNumber, ← en1, if_pos c_72]
      exact rUi hx hb hr hlk hQ hP hS (by rw [e9]) (congrArg (fun z9 : (Int32 × XV) => w4 cI cC h a b z9.2) e9).symm rfl dX4_readNumber_80
    · refine lv_iconst (v := 1) hx hb dX4_readNumber_75 (by decide) ?_
      refine lv_goto (tgt := 80) hx hb dX4_readNumber_76 (by decide) ?_
      have e9 : fX4_readNumber X x1 x2 = (1, n1) := by rw [fX4_readNumber, ← en1, if_neg c_72]
      exact rUi hx hb hr hlk hQ hP hS (by rw [e9]) (congrArg (fun z9 : (Int32 × XV) => w4 cI cC h a b z9.2) e9).symm rfl dX4_readNumber_80
theorem zX4_readNumber (X : XV) (x1 : Int32) (x2 : Int32) : (fX4_readNumber X x1 x2).1 = 0 ∨ (fX4_readNumber X x1 x2).1 = 1 := by
  unfold fX4_readNumber
  repeat' split
  all_goals first | exact Or.inl rfl | exact Or.inr rfl
def fX4_readBar (X : XV)  : (Int32 × XV) := (if (fX4_readSign X 124).1 = 0 then (1, (fX4_setNumber (fX4_readSign X 124).2 4 0)) else (1, (fX4_setNumber (fX4_readSign X 124).2 4 1)))
abbrev rmX4_readBar : Room := { frames := 2, cells := 0, slots := 0, locals := 41 }
set_option maxHeartbeats 4000000 in
set_option maxRecDepth 100000 in
theorem kX4_readBar (l : Launch) (D : va_G) (cI cC cT : ClassId) (h a b : Nat) (X : XV)   : mU l D (TY cI cC cT) yX4_readBar wsX4_readBar rmX4_readBar [.ref h] (w4 cI cC h a b X) (some (.int (fX4_readBar X).1)) (w4 cI cC h a b (fX4_readBar X).2) := by
  refine mU.ofW (cc := cX4_readBar) (maxL := 1) (ret := (some .boolean)) (by decide) rfl (Nat.le_of_ble_eq_true rfl) ?_
  intro p e s m args below meth c Q ls A hx hb hml hr hlk hts hown hP hK hD hS hl hQ
  have hown : s.vm.findClass RX4 = some m.cls := hown
  have hP : va_P D vwCl [(h, .inr (5, [.ref a, .ref b, .int X.2.2.1, .int X.2.2.2.1, .int X.2.2.2.2])), (a, .inl (cC, 60, .inl X.1)), (b, .inl (cI, 150, .inl X.2.1))] s.heap := hP
  have hD : va_D A [(h, .inr (5, [.ref a, .ref b, .int X.2.2.1, .int X.2.2.2.1, .int X.2.2.2.2])), (a, .inl (cC, 60, .inl X.1)), (b, .inl (cI, 150, .inl X.2.1))] := hD
  have hl : lv_has ls 1 [(0, .ref h)] := hl
  generalize hHe : s.heap = H at hP ⊢
  have hS : va_S A s.heap H [] := hHe ▸ hS
  generalize hLe : ([] : List Loc) = locs at hS ⊢
  refine lv_aload_n hx hb dX4_readBar_0 rfl (lv_at hl 0 rfl) ?_
  refine lv_iconst (v := 4) hx hb dX4_readBar_1 (by decide) ?_
  refine lv_aload_n hx hb dX4_readBar_2 rfl (lv_at hl 0 rfl) ?_
  refine lv_bipush (v := 124) hx hb dX4_readBar_3 (by decide) ?_
  obtain ⟨n1, en1⟩ : ∃ z9, z9 = (fX4_readSign X 124) := ⟨_, rfl⟩
  have k9 := (kX4_readSign l D cI cC cT h a b X 124)
  rw [← en1] at k9
  refine fUV (As := [.int 124]) (rest := [.int 4, .ref h]) (st' := [.int n1.1, .int 4, .ref h]) ⟨hx, hb, hml, hown, hts⟩ k9 (cwV 1 hts gX4_readBar_X4_readSign rfl rfl rfl (by decide +kernel) ⟨Nat.le_of_ble_eq_true rfl, Nat.le_of_ble_eq_true rfl⟩) hP hK hD hS [0, 1, 2] rfl rfl (by decide) rfl [(h, .inr (5, [.ref a, .ref b, .int n1.2.2.2.1, .int n1.2.2.2.2.1, .int n1.2.2.2.2.2])), (a, .inl (cC, 60, .inl n1.2.1)), (b, .inl (cI, 150, .inl n1.2.2.1))] rfl rfl 0 (ci := 5) rfl rfl rfl rfl hl.1 rfl rfl (Nat.le_of_ble_eq_true rfl) ⟨Nat.zero_le _, Nat.zero_le _⟩ dX4_readBar_5 (fun H locs hP hD hS => ?_)
  refine lv_if_eq (tgt := 15) hx hb dX4_readBar_8 (by decide) (fun c_8 => ?_) (fun c_8 => ?_)
  · refine lv_iconst (v := 0) hx hb dX4_readBar_15 (by decide) ?_
    obtain ⟨n2, en2⟩ : ∃ z9, z9 = (fX4_setNumber n1.2 4 0) := ⟨_, rfl⟩
    have k9 := (kX4_setNumber l D cI cC cT h a b n1.2 4 0)
    rw [← en2] at k9
    refine fUV (As := [.int 4, .int 0]) (rest := []) (st' := []) ⟨hx, hb, hml, hown, hts⟩ k9 (cwV 2 hts gX4_readBar_X4_setNumber rfl rfl rfl (by decide +kernel) ⟨Nat.le_of_ble_eq_true rfl, Nat.le_of_ble_eq_true rfl⟩) hP hK hD hS [0, 1, 2] rfl rfl (by decide) rfl [(h, .inr (5, [.ref a, .ref b, .int n2.2.2.1, .int n2.2.2.2.1, .int n2.2.2.2.2])), (a, .inl (cC, 60, .inl n2.1)), (b, .inl (cI, 150, .inl n2.2.1))] rfl rfl 0 (ci := 5) rfl rfl rfl rfl hl.1 rfl rfl (Nat.le_of_ble_eq_true rfl) ⟨Nat.zero_le _, Nat.zero_le _⟩ dX4_readBar_16 (fun H locs hP hD hS => ?_)
    refine lv_iconst (v := 1) hx hb dX4_readBar_19 (by decide) ?_
    have e9 : fX4_readBar X = (1, n2) := by rw [fX4_readBar, ← en1, if_pos c_8, ← en2]
    exact rUi hx hb hr hlk hQ hP hS (by rw [e9]) (congrArg (fun z9 : (Int32 × XV) => w4 cI cC h a b z9.2) e9).symm rfl dX4_readBar_20
  · refine lv_iconst (v := 1) hx hb dX4_readBar_11 (by decide) ?_
    refine lv_goto (tgt := 16) hx hb dX4_readBar_12 (by decide) ?_
    obtain ⟨n3, en3⟩ : ∃ z9, z9 = (fX4_setNumber n1.2 4 1) := ⟨_, rfl⟩
    have k9 := (kX4_setNumber l D cI cC cT h a b n1.2 4 1)
    rw [← en3] at k9
    refine fUV (As := [.int 4, .int 1]) (rest := []) (st' := []) ⟨hx, hb, hml, hown, hts⟩ k9 (cwV 2 hts gX4_readBar_X4_setNumber rfl rfl rfl (by decide +kernel) ⟨Nat.le_of_ble_eq_true rfl, Nat.le_of_ble_eq_true rfl⟩) hP hK hD hS [0, 1, 2] rfl rfl (by decide) rfl [(h, .inr (5, [.ref a, .ref b, .int n3.2.2.1, .int n3.2.2.2.1, .int n3.2.2.2.2])), (a, .inl (cC, 60, .inl n3.1)), (b, .inl (cI, 150, .inl n3.2.1))] rfl rfl 0 (ci := 5) rfl rfl rfl rfl hl.1 rfl rfl (Nat.le_of_ble_eq_true rfl) ⟨Nat.zero_le _, Nat.zero_le _⟩ dX4_readBar_16 (fun H locs hP hD hS => ?_)
    refine lv_iconst (v := 1) hx hb dX4_readBar_19 (by decide) ?_
    have e9 : fX4_readBar X = (1, n3) := by rw [fX4_readBar, ← en1, if_neg c_8, ← en3]
    exact rUi hx hb hr hlk hQ hP hS (by rw [e9]) (congrArg (fun z9 : (Int32 × XV) => w4 cI cC h a b z9.2) e9).symm rfl dX4_readBar_20
theorem zX4_readBar (X : XV)  : (fX4_readBar X).1 = 0 ∨ (fX4_readBar X).1 = 1 := by
  unfold fX4_readBar
  repeat' split
  all_goals first | exact Or.inl rfl | exact Or.inr rfl
def fX4_readOrder (X : XV)  : (Int32 × XV) := (if (fX4_sign X) = 98 then (if (fX4_readSign (fX4_setNumber X 0 (fX4_sign X)) 98).1 = 0 then (0, (fX4_readSign (fX4_setNumber X 0 (fX4_sign X)) 98).2) else (if (fX4_readNumber (fX4_readSign (fX4_setNumber X 0 (fX4_sign X)) 98).2 1 2).1 = 0 then (0, (fX4_readNumber (fX4_readSign (fX4_setNumber X 0 (fX4_sign X)) 98).2 1 2).2) else (if (fX4_readSign (fX4_readNumber (fX4_readSign (fX4_setNumber X 0 (fX4_sign X)) 98).2 1 2).2 45).1 = 0 then (0, (fX4_readSign (fX4_readNumber (fX4_readSign (fX4_setNumber X 0 (fX4_sign X)) 98).2 1 2).2 45).2) else (if (fX4_readNumber (fX4_readSign (fX4_readNumber (fX4_readSign (fX4_setNumber X 0 (fX4_sign X)) 98).2 1 2).2 45).2 2 2).1 = 0 then (0, (fX4_readNumber (fX4_readSign (fX4_readNumber (fX4_readSign (fX4_setNumber X 0 (fX4_sign X)) 98).2 1 2).2 45).2 2 2).2) else (1, (fX4_readNumber (fX4_readSign (fX4_readNumber (fX4_readSign (fX4_setNumber X 0 (fX4_sign X)) 98).2 1 2).2 45).2 2 2).2))))) else (if (fX4_sign X) = 99 then (if (fX4_readSign (fX4_setNumber X 0 (fX4_sign X)) 99).1 = 0 then (0, (fX4_readSign (fX4_setNumber X 0 (fX4_sign X)) 99).2) else (if (fX4_readNumber (fX4_readSign (fX4_setNumber X 0 (fX4_sign X)) 99).2 1 2).1 = 0 then (0, (fX4_readNumber (fX4_readSign (fX4_setNumber X 0 (fX4_sign X)) 99).2 1 2).2) else (1, (fX4_readNumber (fX4_readSign (fX4_setNumber X 0 (fX4_sign X)) 99).2 1 2).2))) else (if (fX4_sign X) = 103 then (if (fX4_readSign (fX4_setNumber X 0 (fX4_sign X)) 103).1 = 0 then (0, (fX4_readSign (fX4_setNumber X 0 (fX4_sign X)) 103).2) else (if (fX4_readNumber (fX4_readSign (fX4_setNumber X 0 (fX4_sign X)) 103).2 1 1).1 = 0 then (0, (fX4_readNumber (fX4_readSign (fX4_setNumber X 0 (fX4_sign X)) 103).2 1 1).2) else (if (fX4_readSign (fX4_readNumber (fX4_readSign (fX4_setNumber X 0 (fX4_sign X)) 103).2 1 1).2 42).1 = 0 then (0, (fX4_readSign (fX4_readNumber (fX4_readSign (fX4_setNumber X 0 (fX4_sign X)) 103).2 1 1).2 42).2) else (if (fX4_readNumber (fX4_readSign (fX4_readNumber (fX4_readSign (fX4_setNumber X 0 (fX4_sign X)) 103).2 1 1).2 42).2 2 3).1 = 0 then (0, (fX4_readNumber (fX4_readSign (fX4_readNumber (fX4_readSign (fX4_setNumber X 0 (fX4_sign X)) 103).2 1 1).2 42).2 2 3).2) else (1, (fX4_readNumber (fX4_readSign (fX4_readNumber (fX4_readSign (fX4_setNumber X 0 (fX4_sign X)) 103).2 1 1).2 42).2 2 3).2))))) else (if (fX4_sign X) = 107 then (if (fX4_readSign (fX4_setNumber X 0 (fX4_sign X)) 107).1 = 0 then (0, (fX4_readSign (fX4_setNumber X 0 (fX4_sign X)) 107).2) else (if (fX4_readNumber (fX4_readSign (fX4_setNumber X 0 (fX4_sign X)) 107).2 1 3).1 = 0 then (0, (fX4_readNumber (fX4_readSign (fX4_setNumber X 0 (fX4_sign X)) 107).2 1 3).2) else (1, (fX4_readNumber (fX4_readSign (fX4_setNumber X 0 (fX4_sign X)) 107).2 1 3).2))) else (if (fX4_sign X) = 110 then ((fX4_readSign (fX4_setNumber X 0 (fX4_sign X)) 110).1, (fX4_readSign (fX4_setNumber X 0 (fX4_sign X)) 110).2) else (if (fX4_sign X) = 112 then (if (fX4_readSign (fX4_setNumber X 0 (fX4_sign X)) 112).1 = 0 then (0, (fX4_readSign (fX4_setNumber X 0 (fX4_sign X)) 112).2) else (if (fX4_readNumber (fX4_readSign (fX4_setNumber X 0 (fX4_sign X)) 112).2 1 2).1 = 0 then (0, (fX4_readNumber (fX4_readSign (fX4_setNumber X 0 (fX4_sign X)) 112).2 1 2).2) else (if (fX4_readSign (fX4_readNumber (fX4_readSign (fX4_setNumber X 0 (fX4_sign X)) 112).2 1 2).2 62).1 = 0 then (0, (fX4_readSign (fX4_readNumber (fX4_readSign (fX4_setNumber X 0 (fX4_sign X)) 112).2 1 2).2 62).2) else (if (fX4_readNumber (fX4_readSign (fX4_readNumber (fX4_readSign (fX4_setNumber X 0 (fX4_sign X)) 112).2 1 2).2 62).2 2 2).1 = 0 then (0, (fX4_readNumber (fX4_readSign (fX4_readNumber (fX4_readSign (fX4_setNumber X 0 (fX4_sign X)) 112).2 1 2).2 62).2 2 2).2) else (1, (fX4_readNumber (fX4_readSign (fX4_readNumber (fX4_readSign (fX4_setNumber X 0 (fX4_sign X)) 112).2 1 2).2 62).2 2 2).2))))) else (if (fX4_sign X) = 115 then (if (fX4_readSign (fX4_setNumber X 0 (fX4_sign X)) 115).1 = 0 then (0, (fX4_readSign (fX4_setNumber X 0 (fX4_sign X)) 115).2) else (if (fX4_readNumber (fX4_readSign (fX4_setNumber X 0 (fX4_sign X)) 115).2 1 2).1 = 0 then (0, (fX4_readNumber (fX4_readSign (fX4_setNumber X 0 (fX4_sign X)) 115).2 1 2).2) else (if (fX4_readSign (fX4_readNumber (fX4_readSign (fX4_setNumber X 0 (fX4_sign X)) 115).2 1 2).2 47).1 = 0 then (0, (fX4_readSign (fX4_readNumber (fX4_readSign (fX4_setNumber X 0 (fX4_sign X)) 115).2 1 2).2 47).2) else (if (fX4_readNumber (fX4_readSign (fX4_readNumber (fX4_readSign (fX4_setNumber X 0 (fX4_sign X)) 115).2 1 2).2 47).2 2 1).1 = 0 then (0, (fX4_readNumber (fX4_readSign (fX4_readNumber (fX4_readSign (fX4_setNumber X 0 (fX4_sign X)) 115).2 1 2).2 47).2 2 1).2) else (if (fX4_readNumber (fX4_readNumber (fX4_readSign (fX4_readNumber (fX4_readSign (fX4_setNumber X 0 (fX4_sign X)) 115).2 1 2).2 47).2 2 1).2 3 1).1 = 0 then (0, (fX4_readNumber (fX4_readNumber (fX4_readSign (fX4_readNumber (fX4_readSign (fX4_setNumber X 0 (fX4_sign X)) 115).2 1 2).2 47).2 2 1).2 3 1).2) else (if (fX4_readBar (fX4_readNumber (fX4_readNumber (fX4_readSign (fX4_readNumber (fX4_readSign (fX4_setNumber X 0 (fX4_sign X)) 115).2 1 2).2 47).2 2 1).2 3 1).2).1 = 0 then (0, (fX4_readBar (fX4_readNumber (fX4_readNumber (fX4_readSign (fX4_readNumber (fX4_readSign (fX4_setNumber X 0 (fX4_sign X)) 115).2 1 2).2 47).2 2 1).2 3 1).2).2) else (1, (fX4_readBar (fX4_readNumber (fX4_readNumber (fX4_readSign (fX4_readNumber (fX4_readSign (fX4_setNumber X 0 (fX4_sign X)) 115).2 1 2).2 47).2 2 1).2 3 1).2).2))))))) else (if (fX4_sign X) = 117 then (if (fX4_readSign (fX4_setNumber X 0 (fX4_sign X)) 117).1 = 0 then (0, (fX4_readSign (fX4_setNumber X 0 (fX4_sign X)) 117).2) else (if (fX4_readNumber (fX4_readSign (fX4_setNumber X 0 (fX4_sign X)) 117).2 1 2).1 = 0 then (0, (fX4_readNumber (fX4_readSign (fX4_setNumber X 0 (fX4_sign X)) 117).2 1 2).2) else (1, (fX4_readNumber (fX4_readSign (fX4_setNumber X 0 (fX4_sign X)) 117).2 1 2).2))) else (0, (fX4_setNumber X 0 (fX4_sign X)))))))))))
abbrev rmX4_readOrder : Room := { frames := 3, cells := 0, slots := 0, locals := 61 }
set_option maxHeartbeats 4000000 in
set_option maxRecDepth 100000 in
theorem kX4_readOrder (l : Launch) (D : va_G) (cI cC cT : ClassId) (h a b : Nat) (X : XV)   : mU l D (TY cI cC cT) yX4_readOrder wsX4_readOrder rmX4_readOrder [.ref h] (w4 cI cC h a b X) (some (.int (fX4_readOrder X).1)) (w4 cI cC h a b (fX4_readOrder X).2) := by
  refine mU.ofW (cc := cX4_readOrder) (maxL := 2) (ret := (some .boolean)) (by decide) rfl (Nat.le_of_ble_eq_true rfl) ?_
  intro p e s m args below meth c Q ls A hx hb hml hr hlk hts hown hP hK hD hS hl hQ
  have hown : s.vm.findClass RX4 = some m.cls := hown
  have hP : va_P D vwCl [(h, .inr (5, [.ref a, .ref b, .int X.2.2.1, .int X.2.2.2.1, .int X.2.2.2.2])), (a, .inl (cC, 60, .inl X.1)), (b, .inl (cI, 150, .inl X.2.1))] s.heap := hP
  have hD : va_D A [(h, .inr (5, [.ref a, .ref b, .int X.2.2.1, .int X.2.2.2.1, .int X.2.2.2.2])), (a, .inl (cC, 60, .inl X.1)), (b, .inl (cI, 150, .inl X.2.1))] := hD
  have hl : lv_has ls 2 [(0, .ref h)] := hl
  generalize hHe : s.heap = H at hP ⊢
  have hS : va_S A s.heap H [] := hHe ▸ hS
  generalize hLe : ([] : List Loc) = locs at hS ⊢
  refine lv_aload_n hx hb dX4_readOrder_0 rfl (lv_at hl 0 rfl) ?_
  refine fRV (As := []) (rest := []) (st' := [.int (fX4_sign X)]) ⟨hx, hb, hml, hown, hts⟩ (kX4_sign l D cI cC cT h a b X) (cwV 0 hts gX4_readOrder_X4_sign rfl rfl rfl (by decide +kernel) ⟨Nat.le_of_ble_eq_true rfl, Nat.le_of_ble_eq_true rfl⟩) hP hK [0, 1, 2] rfl 0 (ci := 5) rfl rfl rfl rfl hl.1 rfl rfl (Nat.le_of_ble_eq_true rfl) ⟨Nat.zero_le _, Nat.zero_le _⟩ dX4_readOrder_1 ?_
  refine lv_istore_n (lv' := [(1, .int (fX4_sign X)), (0, .ref h)]) hx hb dX4_readOrder_4 rfl hl (by decide) rfl (fun ls hl => ?_)
  refine lv_aload_n hx hb dX4_readOrder_5 rfl (lv_at hl 1 rfl) ?_
  refine lv_iconst (v := 0) hx hb dX4_readOrder_6 (by decide) ?_
  refine lv_iload_n hx hb dX4_readOrder_7 rfl (lv_at hl 0 rfl) ?_
  obtain ⟨n1, en1⟩ : ∃ z9, z9 = (fX4_setNumber X 0 (fX4_sign X)) := ⟨_, rfl⟩
  have k9 := (kX4_setNumber l D cI cC cT h a b X 0 (fX4_sign X))
  rw [← en1] at k9
  refine fUV (As := [.int 0, .int (fX4_sign X)]) (rest := []) (st' := []) ⟨hx, hb, hml, hown, hts⟩ k9 (cwV 2 hts gX4_readOrder_X4_setNumber rfl rfl rfl (by decide +kernel) ⟨Nat.le_of_ble_eq_true rfl, Nat.le_of_ble_eq_true rfl⟩) hP hK hD hS [0, 1, 2] rfl rfl (by decide) rfl [(h, .inr (5, [.ref a, .ref b, .int n1.2.2.1, .int n1.2.2.2.1, .int n1.2.2.2.2])), (a, .inl (cC, 60, .inl n1.1)), (b, .inl (cI, 150, .inl n1.2.1))] rfl rfl 0 (ci := 5) rfl rfl rfl rfl hl.1 rfl rfl (Nat.le_of_ble_eq_true rfl) ⟨Nat.zero_le _, Nat.zero_le _⟩ dX4_readOrder_8 (fun H locs hP hD hS => ?_)
  refine lv_iload_n hx hb dX4_readOrder_11 rfl (lv_at hl 0 rfl) ?_
  by_cases c_12_98 : (fX4_sign X) = 98
  · refine lv_tableIn (off := 310) (tgt := 322) hx hb dX4_readOrder_12 (by rw [c_12_98]; decide) (by rw [c_12_98]; decide) (by rw [c_12_98]; rfl) (by decide) ?_
    refine lv_aload_n hx hb dX4_readOrder_322 rfl (lv_at hl 1 rfl) ?_
    refine lv_bipush (v := 98) hx hb dX4_readOrder_323 (by decide) ?_
    obtain ⟨n2, en2⟩ : ∃ z9, z9 = (fX4_readSign n1 98) := ⟨_, rfl⟩
    have k9 := (kX4_readSign l D cI cC cT h a b n1 98)
    rw [← en2] at k9
    refine fUV (As := [.int 98]) (rest := []) (st' := [.int n2.1]) ⟨hx, hb, hml, hown, hts⟩ k9 (cwV 1 hts gX4_readOrder_X4_readSign rfl rfl rfl (by decide +kernel) ⟨Nat.le_of_ble_eq_true rfl, Nat.le_of_ble_eq_true rfl⟩) hP hK hD hS [0, 1, 2] rfl rfl (by decide) rfl [(h, .inr (5, [.ref a, .ref b, .int n2.2.2.2.1, .int n2.2.2.2.2.1, .int n2.2.2.2.2.2])), (a, .inl (cC, 60, .inl n2.2.1)), (b, .inl (cI, 150, .inl n2.2.2.1))] rfl rfl 0 (ci := 5) rfl rfl rfl rfl hl.1 rfl rfl (Nat.le_of_ble_eq_true rfl) ⟨Nat.zero_le _, Nat.zero_le _⟩ dX4_readOrder_325 (fun H locs hP hD hS => ?_)
    refine lv_if_eq (tgt := 362) hx hb dX4_readOrder_328 (by decide) (fun c_328 => ?_) (fun c_328 => ?_)
    · refine lv_iconst (v := 0) hx hb dX4_readOrder_362 (by decide) ?_
      have e9 : fX4_readOrder X = (0, n2.2) := by rw [fX4_readOrder, ← en1, if_pos c_12_98, ← en2, if_pos c_328]
      exact rUi hx hb hr hlk hQ hP hS (by rw [e9]) (congrArg (fun z9 : (Int32 × XV) => w4 cI cC h a b z9.2) e9).symm rfl dX4_readOrder_363
    · refine lv_aload_n hx hb dX4_readOrder_331 rfl (lv_at hl 1 rfl) ?_
      refine lv_iconst (v := 1) hx hb dX4_readOrder_332 (by decide) ?_
      refine lv_iconst (v := 2) hx hb dX4_readOrder_333 (by decide) ?_
      obtain ⟨n3, en3⟩ : ∃ z9, z9 = (fX4_readNumber n2.2 1 2) := ⟨_, rfl⟩
      have k9 := (kX4_readNumber l D cI cC cT h a b n2.2 1 2)
      rw [← en3] at k9
      refine fUV (As := [.int 1, .int 2]) (rest := []) (st' := [.int n3.1]) ⟨hx, hb, hml, hown, hts⟩ k9 (cwV 2 hts gX4_readOrder_X4_readNumber rfl rfl rfl (by decide +kernel) ⟨Nat.le_of_ble_eq_true rfl, Nat.le_of_ble_eq_true rfl⟩) hP hK hD hS [0, 1, 2] rfl rfl (by decide) rfl [(h, .inr (5, [.ref a, .ref b, .int n3.2.2.2.1, .int n3.2.2.2.2.1, .int n3.2.2.2.2.2])), (a, .inl (cC, 60, .inl n3.2.1)), (b, .inl (cI, 150, .inl n3.2.2.1))] rfl rfl 0 (ci := 5) rfl rfl rfl rfl hl.1 rfl rfl (Nat.le_of_ble_eq_true rfl) ⟨Nat.zero_le _, Nat.zero_le _⟩ dX4_readOrder_334 (fun H locs hP hD hS => ?_)
      refine lv_if_eq (tgt := 362) hx hb dX4_readOrder_337 (by decide) (fun c_337 => ?_) (fun c_337 => ?_)
      · refine lv_iconst (v := 0) hx hb dX4_readOrder_362 (by decide) ?_
        have e9 : fX4_readOrder X = (0, n3.2) := by rw [fX4_readOrder, ← en1, if_pos c_12_98, ← en2, if_neg c_328, ← en3, if_pos c_337]
        exact rUi hx hb hr hlk hQ hP hS (by rw [e9]) (congrArg (fun z9 : (Int32 × XV) => w4 cI cC h a b z9.2) e9).symm rfl dX4_readOrder_363
      · refine lv_aload_n hx hb dX4_readOrder_340 rfl (lv_at hl 1 rfl) ?_
        refine lv_bipush (v := 45) hx hb dX4_readOrder_341 (by decide) ?_
        obtain ⟨n4, en4⟩ : ∃ z9, z9 = (fX4_readSign n3.2 45) := ⟨_, rfl⟩
        have k9 := (kX4_readSign l D cI cC cT h a b n3.2 45)
        rw [← en4] at k9
        refine fUV (As := [.int 45]) (rest := []) (st' := [.int n4.1]) ⟨hx, hb, hml, hown, hts⟩ k9 (cwV 1 hts gX4_readOrder_X4_readSign rfl rfl rfl (by decide +kernel) ⟨Nat.le_of_ble_eq_true rfl, Nat.le_of_ble_eq_true rfl⟩) hP hK hD hS [0, 1, 2] rfl rfl (by decide) rfl [(h, .inr (5, [.ref a, .ref b, .int n4.2.2.2.1, .int n4.2.2.2.2.1, .int n4.2.2.2.2.2])), (a, .inl (cC, 60, .inl n4.2.1)), (b, .inl (cI, 150, .inl n4.2.2.1))] rfl rfl 0 (ci := 5) rfl rfl rfl rfl hl.1 rfl rfl (Nat.le_of_ble_eq_true rfl) ⟨Nat.zero_le _, Nat.zero_le _⟩ dX4_readOrder_343 (fun H locs hP hD hS => ?_)
        refine lv_if_eq (tgt := 362) hx hb dX4_readOrder_346 (by decide) (fun c_346 => ?_) (fun c_346 => ?_)
        · refine lv_iconst (v := 0) hx hb dX4_readOrder_362 (by decide) ?_
          have e9 : fX4_readOrder X = (0, n4.2) := by rw [fX4_readOrder, ← en1, if_pos c_12_98, ← en2, if_neg c_328, ← en3, if_neg c_337, ← en4, if_pos c_346]
          exact rUi hx hb hr hlk hQ hP hS (by rw [e9]) (congrArg (fun z9 : (Int32 × XV) => w4 cI cC h a b z9.2) e9).symm rfl dX4_readOrder_363
        · refine lv_aload_n hx hb dX4_readOrder_349 rfl (lv_at hl 1 rfl) ?_
          refine lv_iconst (v := 2) hx hb dX4_readOrder_350 (by decide) ?_
          refine lv_iconst (v := 2) hx hb dX4_readOrder_351 (by decide) ?_
          obtain ⟨n5, en5⟩ : ∃ z9, z9 = (fX4_readNumber n4.2 2 2) := ⟨_, rfl⟩
          have k9 := (kX4_readNumber l D cI cC cT h a b n4.2 2 2)
          rw [← en5] at k9
          refine fUV (As := [.int 2, .int 2]) (rest := []) (st' := [.int n5.1]) ⟨hx, hb, hml, hown, hts⟩ k9 (cwV 2 hts gX4_readOrder_X4_readNumber rfl rfl rfl (by decide +kernel) ⟨Nat.le_of_ble_eq_true rfl, Nat.le_of_ble_eq_true rfl⟩) hP hK hD hS [0, 1, 2] rfl rfl (by decide) rfl [(h, .inr (5, [.ref a, .ref b, .int n5.2.2.2.1, .int n5.2.2.2.2.1, .int n5.2.2.2.2.2])), (a, .inl (cC, 60, .inl n5.2.1)), (b, .inl (cI, 150, .inl n5.2.2.1))] rfl rfl 0 (ci := 5) rfl rfl rfl rfl hl.1 rfl rfl (Nat.le_of_ble_eq_true rfl) ⟨Nat.zero_le _, Nat.zero_le _⟩ dX4_readOrder_352 (fun H locs hP hD hS => ?_)
          refine lv_if_eq (tgt := 362) hx hb dX4_readOrder_355 (by decide) (fun c_355 => ?_) (fun c_355 => ?_)
          · refine lv_iconst (v := 0) hx hb dX4_readOrder_362 (by decide) ?_
            have e9 : fX4_readOrder X = (0, n5.2) := by rw [fX4_readOrder, ← en1, if_pos c_12_98, ← en2, if_neg c_328, ← en3, if_neg c_337, ← en4, if_neg c_346, ← en5, if_pos c_355]
            exact rUi hx hb hr hlk hQ hP hS (by rw [e9]) (congrArg (fun z9 : (Int32 × XV) => w4 cI cC h a b z9.2) e9).symm rfl dX4_readOrder_363
          · refine lv_iconst (v := 1) hx hb dX4_readOrder_358 (by decide) ?_
            refine lv_goto (tgt := 363) hx hb dX4_readOrder_359 (by decide) ?_
            have e9 : fX4_readOrder X = (1, n5.2) := by rw [fX4_readOrder, ← en1, if_pos c_12_98, ← en2, if_neg c_328, ← en3, if_neg c_337, ← en4, if_neg c_346, ← en5, if_neg c_355]
            exact rUi hx hb hr hlk hQ hP hS (by rw [e9]) (congrArg (fun z9 : (Int32 × XV) => w4 cI cC h a b z9.2) e9).symm rfl dX4_readOrder_363
  · skip
    by_cases c_12_99 : (fX4_sign X) = 99
    · refine lv_tableIn (off := 286) (tgt := 298) hx hb dX4_readOrder_12 (by rw [c_12_99]; decide) (by rw [c_12_99]; decide) (by rw [c_12_99]; rfl) (by decide) ?_
      refine lv_aload_n hx hb dX4_readOrder_298 rfl (lv_at hl 1 rfl) ?_
      refine lv_bipush (v := 99) hx hb dX4_readOrder_299 (by decide) ?_
      obtain ⟨n6, en6⟩ : ∃ z9, z9 = (fX4_readSign n1 99) := ⟨_, rfl⟩
      have k9 := (kX4_readSign l D cI cC cT h a b n1 99)
      rw [← en6] at k9
      refine fUV (As := [.int 99]) (rest := []) (st' := [.int n6.1]) ⟨hx, hb, hml, hown, hts⟩ k9 (cwV 1 hts gX4_readOrder_X4_readSign rfl rfl rfl (by decide +kernel) ⟨Nat.le_of_ble_eq_true rfl, Nat.le_of_ble_eq_true rfl⟩) hP hK hD hS [0, 1, 2] rfl rfl (by decide) rfl [(h, .inr (5, [.ref a, .ref b, .int n6.2.2.2.1, .int n6.2.2.2.2.1, .int n6.2.2.2.2.2])), (a, .inl (cC, 60, .inl n6.2.1)), (b, .inl (cI, 150, .inl n6.2.2.1))] rfl rfl 0 (ci := 5) rfl rfl rfl rfl hl.1 rfl rfl (Nat.le_of_ble_eq_true rfl) ⟨Nat.zero_le _, Nat.zero_le _⟩ dX4_readOrder_301 (fun H locs hP hD hS => ?_)
      refine lv_if_eq (tgt := 320) hx hb dX4_readOrder_304 (by decide) (fun c_304 => ?_) (fun c_304 => ?_)
      · refine lv_iconst (v := 0) hx hb dX4_readOrder_320 (by decide) ?_
        have e9 : fX4_readOrder X = (0, n6.2) := by rw [fX4_readOrder, ← en1, if_neg c_12_98, if_pos c_12_99, ← en6, if_pos c_304]
        exact rUi hx hb hr hlk hQ hP hS (by rw [e9]) (congrArg (fun z9 : (Int32 × XV) => w4 cI cC h a b z9.2) e9).symm rfl dX4_readOrder_321
      · refine lv_aload_n hx hb dX4_readOrder_307 rfl (lv_at hl 1 rfl) ?_
        refine lv_iconst (v := 1) hx hb dX4_readOrder_308 (by decide) ?_
        refine lv_iconst (v := 2) hx hb dX4_readOrder_309 (by decide) ?_
        obtain ⟨n7, en7⟩ : ∃ z9, z9 = (fX4_readNumber n6.2 1 2) := ⟨_, rfl⟩
        have k9 := (kX4_readNumber l D cI cC cT h a b n6.2 1 2)
        rw [← en7] at k9
        refine fUV (As := [.int 1, .int 2]) (rest := []) (st' := [.int n7.1]) ⟨hx, hb, hml, hown, hts⟩ k9 (cwV 2 hts gX4_readOrder_X4_readNumber rfl rfl rfl (by decide +kernel) ⟨Nat.le_of_ble_eq_true rfl, Nat.le_of_ble_eq_true rfl⟩) hP hK hD hS [0, 1, 2] rfl rfl (by decide) rfl [(h, .inr (5, [.ref a, .ref b, .int n7.2.2.2.1, .int n7.2.2.2.2.1, .int n7.2.2.2.2.2])), (a, .inl (cC, 60, .inl n7.2.1)), (b, .inl (cI, 150, .inl n7.2.2.1))] rfl rfl 0 (ci := 5) rfl rfl rfl rfl hl.1 rfl rfl (Nat.le_of_ble_eq_true rfl) ⟨Nat.zero_le _, Nat.zero_le _⟩ dX4_readOrder_310 (fun H locs hP hD hS => ?_)
        refine lv_if_eq (tgt := 320) hx hb dX4_readOrder_313 (by decide) (fun c_313 => ?_) (fun c_313 => ?_)
        · refine lv_iconst (v := 0) hx hb dX4_readOrder_320 (by decide) ?_
          have e9 : fX4_readOrder X = (0, n7.2) := by rw [fX4_readOrder, ← en1, if_neg c_12_98, if_pos c_12_99, ← en6, if_neg c_304, ← en7, if_pos c_313]
          exact rUi hx hb hr hlk hQ hP hS (by rw [e9]) (congrArg (fun z9 : (Int32 × XV) => w4 cI cC h a b z9.2) e9).symm rfl dX4_readOrder_321
        · refine lv_iconst (v := 1) hx hb dX4_readOrder_316 (by decide) ?_
          refine lv_goto (tgt := 321) hx hb dX4_readOrder_317 (by decide) ?_
          have e9 : fX4_readOrder X = (1, n7.2) := by rw [fX4_readOrder, ← en1, if_neg c_12_98, if_pos c_12_99, ← en6, if_neg c_304, ← en7, if_neg c_313]
          exact rUi hx hb hr hlk hQ hP hS (by rw [e9]) (congrArg (fun z9 : (Int32 × XV) => w4 cI cC h a b z9.2) e9).symm rfl dX4_readOrder_321
    · skip
      by_cases c_12_103 : (fX4_sign X) = 103
      · refine lv_tableIn (off := 154) (tgt := 166) hx hb dX4_readOrder_12 (by rw [c_12_103]; decide) (by rw [c_12_103]; decide) (by rw [c_12_103]; rfl) (by decide) ?_
        refine lv_aload_n hx hb dX4_readOrder_166 rfl (lv_at hl 1 rfl) ?_
        refine lv_bipush (v := 103) hx hb dX4_readOrder_167 (by decide) ?_
        obtain ⟨n8, en8⟩ : ∃ z9, z9 = (fX4_readSign n1 103) := ⟨_, rfl⟩
        have k9 := (kX4_readSign l D cI cC cT h a b n1 103)
        rw [← en8] at k9
        refine fUV (As := [.int 103]) (rest := []) (st' := [.int n8.1]) ⟨hx, hb, hml, hown, hts⟩ k9 (cwV 1 hts gX4_readOrder_X4_readSign rfl rfl rfl (by decide +kernel) ⟨Nat.le_of_ble_eq_true rfl, Nat.le_of_ble_eq_true rfl⟩) hP hK hD hS [0, 1, 2] rfl rfl (by decide) rfl [(h, .inr (5, [.ref a, .ref b, .int n8.2.2.2.1, .int n8.2.2.2.2.1, .int n8.2.2.2.2.2])), (a, .inl (cC, 60, .inl n8.2.1)), (b, .inl (cI, 150, .inl n8.2.2.1))] rfl rfl 0 (ci := 5) rfl rfl rfl rfl hl.1 rfl rfl (Nat.le_of_ble_eq_true rfl) ⟨Nat.zero_le _, Nat.zero_le _⟩ dX4_readOrder_169 (fun H locs hP hD hS => ?_)
        refine lv_if_eq (tgt := 206) hx hb dX4_readOrder_172 (by decide) (fun c_172 => ?_) (fun c_172 => ?_)
        · refine lv_iconst (v := 0) hx hb dX4_readOrder_206 (by decide) ?_
          have e9 : fX4_readOrder X = (0, n8.2) := by rw [fX4_readOrder, ← en1, if_neg c_12_98, if_neg c_12_99, if_pos c_12_103, ← en8, if_pos c_172]
          exact rUi hx hb hr hlk hQ hP hS (by rw [e9]) (congrArg (fun z9 : (Int32 × XV) => w4 cI cC h a b z9.2) e9).symm rfl dX4_readOrder_207
        · refine lv_aload_n hx hb dX4_readOrder_175 rfl (lv_at hl 1 rfl) ?_
          refine lv_iconst (v := 1) hx hb dX4_readOrder_176 (by decide) ?_
          refine lv_iconst (v := 1) hx hb dX4_readOrder_177 (by decide) ?_
          obtain ⟨n9, en9⟩ : ∃ z9, z9 = (fX4_readNumber n8.2 1 1) := ⟨_, rfl⟩
          have k9 := (kX4_readNumber l D cI cC cT h a b n8.2 1 1)
          rw [← en9] at k9
          refine fUV (As := [.int 1, .int 1]) (rest := []) (st' := [.int n9.1]) ⟨hx, hb, hml, hown, hts⟩ k9 (cwV 2 hts gX4_readOrder_X4_readNumber rfl rfl rfl (by decide +kernel) ⟨Nat.le_of_ble_eq_true rfl, Nat.le_of_ble_eq_true rfl⟩) hP hK hD hS [0, 1, 2] rfl rfl (by decide) rfl [(h, .inr (5, [.ref a, .ref b, .int n9.2.2.2.1, .int n9.2.2.2.2.1, .int n9.2.2.2.2.2])), (a, .inl (cC, 60, .inl n9.2.1)), (b, .inl (cI, 150, .inl n9.2.2.1))] rfl rfl 0 (ci := 5) rfl rfl rfl rfl hl.1 rfl rfl (Nat.le_of_ble_eq_true rfl) ⟨Nat.zero_le _, Nat.zero_le _⟩ dX4_readOrder_178 (fun H locs hP hD hS => ?_)
          refine lv_if_eq (tgt := 206) hx hb dX4_readOrder_181 (by decide) (fun c_181 => ?_) (fun c_181 => ?_)
          · refine lv_iconst (v := 0) hx hb dX4_readOrder_206 (by decide) ?_
            have e9 : fX4_readOrder X = (0, n9.2) := by rw [fX4_readOrder, ← en1, if_neg c_12_98, if_neg c_12_99, if_pos c_12_103, ← en8, if_neg c_172, ← en9, if_pos c_181]
            exact rUi hx hb hr hlk hQ hP hS (by rw [e9]) (congrArg (fun z9 : (Int32 × XV) => w4 cI cC h a b z9.2) e9).symm rfl dX4_readOrder_207
          · refine lv_aload_n hx hb dX4_readOrder_184 rfl (lv_at hl 1 rfl) ?_
            refine lv_bipush (v := 42) hx hb dX4_readOrder_185 (by decide) ?_
            obtain ⟨n10, en10⟩ : ∃ z9, z9 = (fX4_readSign n9.2 42) := ⟨_, rfl⟩
            have k9 := (kX4_readSign l D cI cC cT h a b n9.2 42)
            rw [← en10] at k9
            refine fUV (As := [.int 42]) (rest := []) (st' := [.int n10.1]) ⟨hx, hb, hml, hown, hts⟩ k9 (cwV 1 hts gX4_readOrder_X4_readSign rfl rfl rfl (by decide +kernel) ⟨Nat.le_of_ble_eq_true rfl, Nat.le_of_ble_eq_true rfl⟩) hP hK hD hS [0, 1, 2] rfl rfl (by decide) rfl [(h, .inr (5, [.ref a, .ref b, .int n10.2.2.2.1, .int n10.2.2.2.2.1, .int n10.2.2.2.2.2])), (a, .inl (cC, 60, .inl n10.2.1)), (b, .inl (cI, 150, .inl n10.2.2.1))] rfl rfl 0 (ci := 5) rfl rfl rfl rfl hl.1 rfl rfl (Nat.le_of_ble_eq_true rfl) ⟨Nat.zero_le _, Nat.zero_le _⟩ dX4_readOrder_187 (fun H locs hP hD hS => ?_)
            refine lv_if_eq (tgt := 206) hx hb dX4_readOrder_190 (by decide) (fun c_190 => ?_) (fun c_190 => ?_)
            · refine lv_iconst (v := 0) hx hb dX4_readOrder_206 (by decide) ?_
              have e9 : fX4_readOrder X = (0, n10.2) := by rw [fX4_readOrder, ← en1, if_neg c_12_98, if_neg c_12_99, if_pos c_12_103, ← en8, if_neg c_172, ← en9, if_neg c_181, ← en10, if_pos c_190]
              exact rUi hx hb hr hlk hQ hP hS (by rw [e9]) (congrArg (fun z9 : (Int32 × XV) => w4 cI cC h a b z9.2) e9).symm rfl dX4_readOrder_207
            · refine lv_aload_n hx hb dX4_readOrder_193 rfl (lv_at hl 1 rfl) ?_
              refine lv_iconst (v := 2) hx hb dX4_readOrder_194 (by decide) ?_
              refine lv_iconst (v := 3) hx hb dX4_readOrder_195 (by decide) ?_
              obtain ⟨n11, en11⟩ : ∃ z9, z9 = (fX4_readNumber n10.2 2 3) := ⟨_, rfl⟩
              have k9 := (kX4_readNumber l D cI cC cT h a b n10.2 2 3)
              rw [← en11] at k9
              refine fUV (As := [.int 2, .int 3]) (rest := []) (st' := [.int n11.1]) ⟨hx, hb, hml, hown, hts⟩ k9 (cwV 2 hts gX4_readOrder_X4_readNumber rfl rfl rfl (by decide +kernel) ⟨Nat.le_of_ble_eq_true rfl, Nat.le_of_ble_eq_true rfl⟩) hP hK hD hS [0, 1, 2] rfl rfl (by decide) rfl [(h, .inr (5, [.ref a, .ref b, .int n11.2.2.2.1, .int n11.2.2.2.2.1, .int n11.2.2.2.2.2])), (a, .inl (cC, 60, .inl n11.2.1)), (b, .inl (cI, 150, .inl n11.2.2.1))] rfl rfl 0 (ci := 5) rfl rfl rfl rfl hl.1 rfl rfl (Nat.le_of_ble_eq_true rfl) ⟨Nat.zero_le _, Nat.zero_le _⟩ dX4_readOrder_196 (fun H locs hP hD hS => ?_)
              refine lv_if_eq (tgt := 206) hx hb dX4_readOrder_199 (by decide) (fun c_199 => ?_) (fun c_199 => ?_)
              · refine lv_iconst (v := 0) hx hb dX4_readOrder_206 (by decide) ?_
                have e9 : fX4_readOrder X = (0, n11.2) := by rw [fX4_readOrder, ← en1, if_neg c_12_98, if_neg c_12_99, if_pos c_12_103, ← en8, if_neg c_172, ← en9, if_neg c_181, ← en10, if_neg c_190, ← en11, if_pos c_199]
                exact rUi hx hb hr hlk hQ hP hS (by rw [e9]) (congrArg (fun z9 : (Int32 × XV) => w4 cI cC h a b z9.2) e9).symm rfl dX4_readOrder_207
              · refine lv_iconst (v := 1) hx hb dX4_readOrder_202 (by decide) ?_
                refine lv_goto (tgt := 207) hx hb dX4_readOrder_203 (by decide) ?_
                have e9 : fX4_readOrder X = (1, n11.2) := by rw [fX4_readOrder, ← en1, if_neg c_12_98, if_neg c_12_99, if_pos c_12_103, ← en8, if_neg c_172, ← en9, if_neg c_181, ← en10, if_neg c_190, ← en11, if_neg c_199]
                exact rUi hx hb hr hlk hQ hP hS (by rw [e9]) (congrArg (fun z9 : (Int32 × XV) => w4 cI cC h a b z9.2) e9).symm rfl dX4_readOrder_207
      · skip
        by_cases c_12_107 : (fX4_sign X) = 107
        · refine lv_tableIn (off := 196) (tgt := 208) hx hb dX4_readOrder_12 (by rw [c_12_107]; decide) (by rw [c_12_107]; decide) (by rw [c_12_107]; rfl) (by decide) ?_
          refine lv_aload_n hx hb dX4_readOrder_208 rfl (lv_at hl 1 rfl) ?_
          refine lv_bipush (v := 107) hx hb dX4_readOrder_209 (by decide) ?_
          obtain ⟨n12, en12⟩ : ∃ z9, z9 = (fX4_readSign n1 107) := ⟨_, rfl⟩
          have k9 := (kX4_readSign l D cI cC cT h a b n1 107)
          rw [← en12] at k9
          refine fUV (As := [.int 107]) (rest := []) (st' := [.int n12.1]) ⟨hx, hb, hml, hown, hts⟩ k9 (cwV 1 hts gX4_readOrder_X4_readSign rfl rfl rfl (by decide +kernel) ⟨Nat.le_of_ble_eq_true rfl, Nat.le_of_ble_eq_true rfl⟩) hP hK hD hS [0, 1, 2] rfl rfl (by decide) rfl [(h, .inr (5, [.ref a, .ref b, .int n12.2.2.2.1, .int n12.2.2.2.2.1, .int n12.2.2.2.2.2])), (a, .inl (cC, 60, .inl n12.2.1)), (b, .inl (cI, 150, .inl n12.2.2.1))] rfl rfl 0 (ci := 5) rfl rfl rfl rfl hl.1 rfl rfl (Nat.le_of_ble_eq_true rfl) ⟨Nat.zero_le _, Nat.zero_le _⟩ dX4_readOrder_211 (fun H locs hP hD hS => ?_)
          refine lv_if_eq (tgt := 230) hx hb dX4_readOrder_214 (by decide) (fun c_214 => ?_) (fun c_214 => ?_)
          · refine lv_iconst (v := 0) hx hb dX4_readOrder_230 (by decide) ?_
            have e9 : fX4_readOrder X = (0, n12.2) := by rw [fX4_readOrder, ← en1, if_neg c_12_98, if_neg c_12_99, if_neg c_12_103, if_pos c_12_107, ← en12, if_pos c_214]
            exact rUi hx hb hr hlk hQ hP hS (by rw [e9]) (congrArg (fun z9 : (Int32 × XV) => w4 cI cC h a b z9.2) e9).symm rfl dX4_readOrder_231
          · refine lv_aload_n hx hb dX4_readOrder_217 rfl (lv_at hl 1 rfl) ?_
            refine lv_iconst (v := 1) hx hb dX4_readOrder_218 (by decide) ?_
            refine lv_iconst (v := 3) hx hb dX4_readOrder_219 (by decide) ?_
            obtain ⟨n13, en13⟩ : ∃ z9, z9 = (fX4_readNumber n12.2 1 3) := ⟨_, rfl⟩
            have k9 := (kX4_readNumber l D cI cC cT h a b n12.2 1 3)
            rw [← en13] at k9
            refine fUV (As := [.int 1, .int 3]) (rest := []) (st' := [.int n13.1]) ⟨hx, hb, hml, hown, hts⟩ k9 (cwV 2 hts gX4_readOrder_X4_readNumber rfl rfl rfl (by decide +kernel) ⟨Nat.le_of_ble_eq_true rfl, Nat.le_of_ble_eq_true rfl⟩) hP hK hD hS [0, 1, 2] rfl rfl (by decide) rfl [(h, .inr (5, [.ref a, .ref b, .int n13.2.2.2.1, .int n13.2.2.2.2.1, .int n13.2.2.2.2.2])), (a, .inl (cC, 60, .inl n13.2.1)), (b, .inl (cI, 150, .inl n13.2.2.1))] rfl rfl 0 (ci := 5) rfl rfl rfl rfl hl.1 rfl rfl (Nat.le_of_ble_eq_true rfl) ⟨Nat.zero_le _, Nat.zero_le _⟩ dX4_readOrder_220 (fun H locs hP hD hS => ?_)
            refine lv_if_eq (tgt := 230) hx hb dX4_readOrder_223 (by decide) (fun c_223 => ?_) (fun c_223 => ?_)
            · refine lv_iconst (v := 0) hx hb dX4_readOrder_230 (by decide) ?_
              have e9 : fX4_readOrder X = (0, n13.2) := by rw [fX4_readOrder, ← en1, if_neg c_12_98, if_neg c_12_99, if_neg c_12_103, if_pos c_12_107, ← en12, if_neg c_214, ← en13, if_pos c_223]
              exact rUi hx hb hr hlk hQ hP hS (by rw [e9]) (congrArg (fun z9 : (Int32 × XV) => w4 cI cC h a b z9.2) e9).symm rfl dX4_readOrder_231
            · refine lv_iconst (v := 1) hx hb dX4_readOrder_226 (by decide) ?_
              refine lv_goto (tgt := 231) hx hb dX4_readOrder_227 (by decide) ?_
              have e9 : fX4_readOrder X = (1, n13.2) := by rw [fX4_readOrder, ← en1, if_neg c_12_98, if_neg c_12_99, if_neg c_12_103, if_pos c_12_107, ← en12, if_neg c_214, ← en13, if_neg c_223]
              exact rUi hx hb hr hlk hQ hP hS (by rw [e9]) (congrArg (fun z9 : (Int32 × XV) => w4 cI cC h a b z9.2) e9).symm rfl dX4_readOrder_231
        · skip
          by_cases c_12_110 : (fX4_sign X) = 110
          · refine lv_tableIn (off := 352) (tgt := 364) hx hb dX4_readOrder_12 (by rw [c_12_110]; decide) (by rw [c_12_110]; decide) (by rw [c_12_110]; rfl) (by decide) ?_
            refine lv_aload_n hx hb dX4_readOrder_364 rfl (lv_at hl 1 rfl) ?_
            refine lv_bipush (v := 110) hx hb dX4_readOrder_365 (by decide) ?_
            obtain ⟨n14, en14⟩ : ∃ z9, z9 = (fX4_readSign n1 110) := ⟨_, rfl⟩
            have k9 := (kX4_readSign l D cI cC cT h a b n1 110)
            rw [← en14] at k9
            refine fUV (As := [.int 110]) (rest := []) (st' := [.int n14.1]) ⟨hx, hb, hml, hown, hts⟩ k9 (cwV 1 hts gX4_readOrder_X4_readSign rfl rfl rfl (by decide +kernel) ⟨Nat.le_of_ble_eq_true rfl, Nat.le_of_ble_eq_true rfl⟩) hP hK hD hS [0, 1, 2] rfl rfl (by decide) rfl [(h, .inr (5, [.ref a, .ref b, .int n14.2.2.2.1, .int n14.2.2.2.2.1, .int n14.2.2.2.2.2])), (a, .inl (cC, 60, .inl n14.2.1)), (b, .inl (cI, 150, .inl n14.2.2.1))] rfl rfl 0 (ci := 5) rfl rfl rfl rfl hl.1 rfl rfl (Nat.le_of_ble_eq_true rfl) ⟨Nat.zero_le _, Nat.zero_le _⟩ dX4_readOrder_367 (fun H locs hP hD hS => ?_)
            have e9 : fX4_readOrder X = (n14.1, n14.2) := by rw [fX4_readOrder, ← en1, if_neg c_12_98, if_neg c_12_99, if_neg c_12_103, if_neg c_12_107, if_pos c_12_110, ← en14]
            exact rUi hx hb hr hlk hQ hP hS (by rw [e9]) (congrArg (fun z9 : (Int32 × XV) => w4 cI cC h a b z9.2) e9).symm (nzb (by rw [en14]; exact zX4_readSign n1 110)) dX4_readOrder_370
          · skip
            by_cases c_12_112 : (fX4_sign X) = 112
            · refine lv_tableIn (off := 220) (tgt := 232) hx hb dX4_readOrder_12 (by rw [c_12_112]; decide) (by rw [c_12_112]; decide) (by rw [c_12_112]; rfl) (by decide) ?_
              refine lv_aload_n hx hb dX4_readOrder_232 rfl (lv_at hl 1 rfl) ?_
              refine lv_bipush (v := 112) hx hb dX4_readOrder_233 (by decide) ?_
              obtain ⟨n15, en15⟩ : ∃ z9, z9 = (fX4_readSign n1 112) := ⟨_, rfl⟩
              have k9 := (kX4_readSign l D cI cC cT h a b n1 112)
              rw [← en15] at k9
              refine fUV (As := [.int 112]) (rest := []) (st' := [.int n15.1]) ⟨hx, hb, hml, hown, hts⟩ k9 (cwV 1 hts gX4_readOrder_X4_readSign rfl rfl rfl (by decide +kernel) ⟨Nat.le_of_ble_eq_true rfl, Nat.le_of_ble_eq_true rfl⟩) hP hK hD hS [0, 1, 2] rfl rfl (by decide) rfl [(h, .inr (5, [.ref a, .ref b, .int n15.2.2.2.1, .int n15.2.2.2.2.1, .int n15.2.2.2.2.2])), (a, .inl (cC, 60, .inl n15.2.1)), (b, .inl (cI, 150, .inl n15.2.2.1))] rfl rfl 0 (ci := 5) rfl rfl rfl rfl hl.1 rfl rfl (Nat.le_of_ble_eq_true rfl) ⟨Nat.zero_le _, Nat.zero_le _⟩ dX4_readOrder_235 (fun H locs hP hD hS => ?_)
              refine lv_if_eq (tgt := 272) hx hb dX4_readOrder_238 (by decide) (fun c_238 => ?_) (fun c_238 => ?_)
              · refine lv_iconst (v := 0) hx hb dX4_readOrder_272 (by decide) ?_
                have e9 : fX4_readOrder X = (0, n15.2) := by rw [fX4_readOrder, ← en1, if_neg c_12_98, if_neg c_12_99, if_neg c_12_103, if_neg c_12_107, if_neg c_12_110, if_pos c_12_112, ← en15, if_pos c_238]
                exact rUi hx hb hr hlk hQ hP hS (by rw [e9]) (congrArg (fun z9 : (Int32 × XV) => w4 cI cC h a b z9.2) e9).symm rfl dX4_readOrder_273
              · refine lv_aload_n hx hb dX4_readOrder_241 rfl (lv_at hl 1 rfl) ?_
                refine lv_iconst (v := 1) hx hb dX4_readOrder_242 (by decide) ?_
                refine lv_iconst (v := 2) hx hb dX4_readOrder_243 (by decide) ?_
                obtain ⟨n16, en16⟩ : ∃ z9, z9 = (fX4_readNumber n15.2 1 2) := ⟨_, rfl⟩
                have k9 := (kX4_readNumber l D cI cC cT h a b n15.2 1 2)
                rw [← en16] at k9
                refine fUV (As := [.int 1, .int 2]) (rest := []) (st' := [.int n16.1]) ⟨hx, hb, hml, hown, hts⟩ k9 (cwV 2 hts gX4_readOrder_X4_readNumber rfl rfl rfl (by decide +kernel) ⟨Nat.le_of_ble_eq_true rfl, Nat.le_of_ble_eq_true rfl⟩) hP hK hD hS [0, 1, 2] rfl rfl (by decide) rfl [(h, .inr (5, [.ref a, .ref b, .int n16.2.2.2.1, .int n16.2.2.2.2.1, .int n16.2.2.2.2.2])), (a, .inl (cC, 60, .inl n16.2.1)), (b, .inl (cI, 150, .inl n16.2.2.1))] rfl rfl 0 (ci := 5) rfl rfl rfl rfl hl.1 rfl rfl (Nat.le_of_ble_eq_true rfl) ⟨Nat.zero_le _, Nat.zero_le _⟩ dX4_readOrder_244 (fun H locs hP hD hS => ?_)
                refine lv_if_eq (tgt := 272) hx hb dX4_readOrder_247 (by decide) (fun c_247 => ?_) (fun c_247 => ?_)
                · refine lv_iconst (v := 0) hx hb dX4_readOrder_272 (by decide) ?_
                  have e9 : fX4_readOrder X = (0, n16.2) := by rw [fX4_readOrder, ← en1, if_neg c_12_98, if_neg c_12_99, if_neg c_12_103, if_neg c_12_107, if_neg c_12_110, if_pos c_12_112, ← en15, if_neg c_238, ← en16, if_pos c_247]
                  exact rUi hx hb hr hlk hQ hP hS (by rw [e9]) (congrArg (fun z9 : (Int32 × XV) => w4 cI cC h a b z9.2) e9).symm rfl dX4_readOrder_273
                · refine lv_aload_n hx hb dX4_readOrder_250 rfl (lv_at hl 1 rfl) ?_
                  refine lv_bipush (v := 62) hx hb dX4_readOrder_251 (by decide) ?_
                  obtain ⟨n17, en17⟩ : ∃ z9, z9 = (fX4_readSign n16.2 62) := ⟨_, rfl⟩
                  have k9 := (kX4_readSign l D cI cC cT h a b n16.2 62)
                  rw [← en17] at k9
                  refine fUV (As := [.int 62]) (rest := []) (st' := [.int n17.1]) ⟨hx, hb, hml, hown, hts⟩ k9 (cwV 1 hts gX4_readOrder_X4_readSign rfl rfl rfl (by decide +kernel) ⟨Nat.le_of_ble_eq_true rfl, Nat.le_of_ble_eq_true rfl⟩) hP hK hD hS [0, 1, 2] rfl rfl (by decide) rfl [(h, .inr (5, [.ref a, .ref b, .int n17.2.2.2.1, .int n17.2.2.2.2.1, .int n17.2.2.2.2.2])), (a, .inl (cC, 60, .inl n17.2.1)), (b, .inl (cI, 150, .inl n17.2.2.1))] rfl rfl 0 (ci := 5) rfl rfl rfl rfl hl.1 rfl rfl (Nat.le_of_ble_eq_true rfl) ⟨Nat.zero_le _, Nat.zero_le _⟩ dX4_readOrder_253 (fun H locs hP hD hS => ?_)
                  refine lv_if_eq (tgt := 272) hx hb dX4_readOrder_256 (by decide) (fun c_256 => ?_) (fun c_256 => ?_)
                  · refine lv_iconst (v := 0) hx hb dX4_readOrder_272 (by decide) ?_
                    have e9 : fX4_readOrder X = (0, n17.2) := by rw [fX4_readOrder, ← en1, if_neg c_12_98, if_neg c_12_99, if_neg c_12_103, if_neg c_12_107, if_neg c_12_110, if_pos c_12_112, ← en15, if_neg c_238, ← en16, if_neg c_247, ← en17, if_pos c_256]
                    exact rUi hx hb hr hlk hQ hP hS (by rw [e9]) (congrArg (fun z9 : (Int32 × XV) => w4 cI cC h a b z9.2) e9).symm rfl dX4_readOrder_273
                  · refine lv_aload_n hx hb dX4_readOrder_259 rfl (lv_at hl 1 rfl) ?_
                    refine lv_iconst (v := 2) hx hb dX4_readOrder_260 (by decide) ?_
                    refine lv_iconst (v := 2) hx hb dX4_readOrder_261 (by decide) ?_
                    obtain ⟨n18, en18⟩ : ∃ z9, z9 = (fX4_readNumber n17.2 2 2) := ⟨_, rfl⟩
                    have k9 := (kX4_readNumber l D cI cC cT h a b n17.2 2 2)
                    rw [← en18] at k9
                    refine fUV (As := [.int 2, .int 2]) (rest := []) (st' := [.int n18.1]) ⟨hx, hb, hml, hown, hts⟩ k9 (cwV 2 hts gX4_readOrder_X4_readNumber rfl rfl rfl (by decide +kernel) ⟨Nat.le_of_ble_eq_true rfl, Nat.le_of_ble_eq_true rfl⟩) hP hK hD hS [0, 1, 2] rfl rfl (by decide) rfl [(h, .inr (5, [.ref a, .ref b, .int n18.2.2.2.1, .int n18.2.2.2.2.1, .int n18.2.2.2.2.2])), (a, .inl (cC, 60, .inl n18.2.1)), (b, .inl (cI, 150, .inl n18.2.2.1))] rfl rfl 0 (ci := 5) rfl rfl rfl rfl hl.1 rfl rfl (Nat.le_of_ble_eq_true rfl) ⟨Nat.zero_le _, Nat.zero_le _⟩ dX4_readOrder_262 (fun H locs hP hD hS => ?_)
                    refine lv_if_eq (tgt := 272) hx hb dX4_readOrder_265 (by decide) (fun c_265 => ?_) (fun c_265 => ?_)
                    · refine lv_iconst (v := 0) hx hb dX4_readOrder_272 (by decide) ?_
                      have e9 : fX4_readOrder X = (0, n18.2) := by rw [fX4_readOrder, ← en1, if_neg c_12_98, if_neg c_12_99, if_neg c_12_103, if_neg c_12_107, if_neg c_12_110, if_pos c_12_112, ← en15, if_neg c_238, ← en16, if_neg c_247, ← en17, if_neg c_256, ← en18, if_pos c_265]
                      exact rUi hx hb hr hlk hQ hP hS (by rw [e9]) (congrArg (fun z9 : (Int32 × XV) => w4 cI cC h a b z9.2) e9).symm rfl dX4_readOrder_273
                    · refine lv_iconst (v := 1) hx hb dX4_readOrder_268 (by decide) ?_
                      refine lv_goto (tgt := 273) hx hb dX4_readOrder_269 (by decide) ?_
                      have e9 : fX4_readOrder X = (1, n18.2) := by rw [fX4_readOrder, ← en1, if_neg c_12_98, if_neg c_12_99, if_neg c_12_103, if_neg c_12_107, if_neg c_12_110, if_pos c_12_112, ← en15, if_neg c_238, ← en16, if_neg c_247, ← en17, if_neg c_256, ← en18, if_neg c_265]
                      exact rUi hx hb hr hlk hQ hP hS (by rw [e9]) (congrArg (fun z9 : (Int32 × XV) => w4 cI cC h a b z9.2) e9).symm rfl dX4_readOrder_273
            · skip
              by_cases c_12_115 : (fX4_sign X) = 115
              · refine lv_tableIn (off := 96) (tgt := 108) hx hb dX4_readOrder_12 (by rw [c_12_115]; decide) (by rw [c_12_115]; decide) (by rw [c_12_115]; rfl) (by decide) ?_
                refine lv_aload_n hx hb dX4_readOrder_108 rfl (lv_at hl 1 rfl) ?_
                refine lv_bipush (v := 115) hx hb dX4_readOrder_109 (by decide) ?_
                obtain ⟨n19, en19⟩ : ∃ z9, z9 = (fX4_readSign n1 115) := ⟨_, rfl⟩
                have k9 := (kX4_readSign l D cI cC cT h a b n1 115)
                rw [← en19] at k9
                refine fUV (As := [.int 115]) (rest := []) (st' := [.int n19.1]) ⟨hx, hb, hml, hown, hts⟩ k9 (cwV 1 hts gX4_readOrder_X4_readSign rfl rfl rfl (by decide +kernel) ⟨Nat.le_of_ble_eq_true rfl, Nat.le_of_ble_eq_true rfl⟩) hP hK hD hS [0, 1, 2] rfl rfl (by decide) rfl [(h, .inr (5, [.ref a, .ref b, .int n19.2.2.2.1, .int n19.2.2.2.2.1, .int n19.2.2.2.2.2])), (a, .inl (cC, 60, .inl n19.2.1)), (b, .inl (cI, 150, .inl n19.2.2.1))] rfl rfl 0 (ci := 5) rfl rfl rfl rfl hl.1 rfl rfl (Nat.le_of_ble_eq_true rfl) ⟨Nat.zero_le _, Nat.zero_le _⟩ dX4_readOrder_111 (fun H locs hP hD hS => ?_)
                refine lv_if_eq (tgt := 164) hx hb dX4_readOrder_114 (by decide) (fun c_114 => ?_) (fun c_114 => ?_)
                · refine lv_iconst (v := 0) hx hb dX4_readOrder_164 (by decide) ?_
                  have e9 : fX4_readOrder X = (0, n19.2) := by rw [fX4_readOrder, ← en1, if_neg c_12_98, if_neg c_12_99, if_neg c_12_103, if_neg c_12_107, if_neg c_12_110, if_neg c_12_112, if_pos c_12_115, ← en19, if_pos c_114]
                  exact rUi hx hb hr hlk hQ hP hS (by rw [e9]) (congrArg (fun z9 : (Int32 × XV) => w4 cI cC h a b z9.2) e9).symm rfl dX4_readOrder_165
                · refine lv_aload_n hx hb dX4_readOrder_117 rfl (lv_at hl 1 rfl) ?_
                  refine lv_iconst (v := 1) hx hb dX4_readOrder_118 (by decide) ?_
                  refine lv_iconst (v := 2) hx hb dX4_readOrder_119 (by decide) ?_
                  obtain ⟨n20, en20⟩ : ∃ z9, z9 = (fX4_readNumber n19.2 1 2) := ⟨_, rfl⟩
                  have k9 := (kX4_readNumber l D cI cC cT h a b n19.2 1 2)
                  rw [← en20] at k9
                  refine fUV (As := [.int 1, .int 2]) (rest := []) (st' := [.int n20.1]) ⟨hx, hb, hml, hown, hts⟩ k9 (cwV 2 hts gX4_readOrder_X4_readNumber rfl rfl rfl (by decide +kernel) ⟨Nat.le_of_ble_eq_true rfl, Nat.le_of_ble_eq_true rfl⟩) hP hK hD hS [0, 1, 2] rfl rfl (by decide) rfl [(h, .inr (5, [.ref a, .ref b, .int n20.2.2.2.1, .int n20.2.2.2.2.1, .int n20.2.2.2.2.2])), (a, .inl (cC, 60, .inl n20.2.1)), (b, .inl (cI, 150, .inl n20.2.2.1))] rfl rfl 0 (ci := 5) rfl rfl rfl rfl hl.1 rfl rfl (Nat.le_of_ble_eq_true rfl) ⟨Nat.zero_le _, Nat.zero_le _⟩ dX4_readOrder_120 (fun H locs hP hD hS => ?_)
                  refine lv_if_eq (tgt := 164) hx hb dX4_readOrder_123 (by decide) (fun c_123 => ?_) (fun c_123 => ?_)
                  · refine lv_iconst (v := 0) hx hb dX4_readOrder_164 (by decide) ?_
                    have e9 : fX4_readOrder X = (0, n20.2) := by rw [fX4_readOrder, ← en1, if_neg c_12_98, if_neg c_12_99, if_neg c_12_103, if_neg c_12_107, if_neg c_12_110, if_neg c_12_112, if_pos c_12_115, ← en19, if_neg c_114, ← en20, if_pos c_123]
                    exact rUi hx hb hr hlk hQ hP hS (by rw [e9]) (congrArg (fun z9 : (Int32 × XV) => w4 cI cC h a b z9.2) e9).symm rfl dX4_readOrder_165
                  · refine lv_aload_n hx hb dX4_readOrder_126 rfl (lv_at hl 1 rfl) ?_
                    refine lv_bipush (v := 47) hx hb dX4_readOrder_127 (by decide) ?_
                    obtain ⟨n21, en21⟩ : ∃ z9, z9 = (fX4_readSign n20.2 47) := ⟨_, rfl⟩
                    have k9 := (kX4_readSign l D cI cC cT h a b n20.2 47)
                    rw [← en21] at k9
                    refine fUV (As := [.int 47]) (rest := []) (st' := [.int n21.1]) ⟨hx, hb, hml, hown, hts⟩ k9 (cwV 1 hts gX4_readOrder_X4_readSign rfl rfl rfl (by decide +kernel) ⟨Nat.le_of_ble_eq_true rfl, Nat.le_of_ble_eq_true rfl⟩) hP hK hD hS [0, 1, 2] rfl rfl (by decide) rfl [(h, .inr (5, [.ref a, .ref b, .int n21.2.2.2.1, .int n21.2.2.2.2.1, .int n21.2.2.2.2.2])), (a, .inl (cC, 60, .inl n21.2.1)), (b, .inl (cI, 150, .inl n21.2.2.1))] rfl rfl 0 (ci := 5) rfl rfl rfl rfl hl.1 rfl rfl (Nat.le_of_ble_eq_true rfl) ⟨Nat.zero_le _, Nat.zero_le _⟩ dX4_readOrder_129 (fun H locs hP hD hS => ?_)
                    refine lv_if_eq (tgt := 164) hx hb dX4_readOrder_132 (by decide) (fun c_132 => ?_) (fun c_132 => ?_)
                    · refine lv_iconst (v := 0) hx hb dX4_readOrder_164 (by decide) ?_
                      have e9 : fX4_readOrder X = (0, n21.2) := by rw [fX4_readOrder, ← en1, if_neg c_12_98, if_neg c_12_99, if_neg c_12_103, if_neg c_12_107, if_neg c_12_110, if_neg c_12_112, if_pos c_12_115, ← en19, if_neg c_114, ← en20, if_neg c_123, ← en21, if_pos c_132]
                      exact rUi hx hb hr hlk hQ hP hS (by rw [e9]) (congrArg (fun z9 : (Int32 × XV) => w4 cI cC h a b z9.2) e9).symm rfl dX4_readOrder_165
                    · refine lv_aload_n hx hb dX4_readOrder_135 rfl (lv_at hl 1 rfl) ?_
                      refine lv_iconst (v := 2) hx hb dX4_readOrder_136 (by decide) ?_
                      refine lv_iconst (v := 1) hx hb dX4_readOrder_137 (by decide) ?_
                      obtain ⟨n22, en22⟩ : ∃ z9, z9 = (fX4_readNumber n21.2 2 1) := ⟨_, rfl⟩
                      have k9 := (kX4_readNumber l D cI cC cT h a b n21.2 2 1)
                      rw [← en22] at k9
                      refine fUV (As := [.int 2, .int 1]) (rest := []) (st' := [.int n22.1]) ⟨hx, hb, hml, hown, hts⟩ k9 (cwV 2 hts gX4_readOrder_X4_readNumber rfl rfl rfl (by decide +kernel) ⟨Nat.le_of_ble_eq_true rfl, Nat.le_of_ble_eq_true rfl⟩) hP hK hD hS [0, 1, 2] rfl rfl (by decide) rfl [(h, .inr (5, [.ref a, .ref b, .int n22.2.2.2.1, .int n22.2.2.2.2.1, .int n22.2.2.2.2.2])), (a, .inl (cC, 60, .inl n22.2.1)), (b, .inl (cI, 150, .inl n22.2.2.1))] rfl rfl 0 (ci := 5) rfl rfl rfl rfl hl.1 rfl rfl (Nat.le_of_ble_eq_true rfl) ⟨Nat.zero_le _, Nat.zero_le _⟩ dX4_readOrder_138 (fun H locs hP hD hS => ?_)
                      refine lv_if_eq (tgt := 164) hx hb dX4_readOrder_141 (by decide) (fun c_141 => ?_) (fun c_141 => ?_)
                      · refine lv_iconst (v := 0) hx hb dX4_readOrder_164 (by decide) ?_
                        have e9 : fX4_readOrder X = (0, n22.2) := by rw [fX4_readOrder, ← en1, if_neg c_12_98, if_neg c_12_99, if_neg c_12_103, if_neg c_12_107, if_neg c_12_110, if_neg c_12_112, if_pos c_12_115, ← en19, if_neg c_114, ← en20, if_neg c_123, ← en21, if_neg c_132, ← en22, if_pos c_141]
                        exact rUi hx hb hr hlk hQ hP hS (by rw [e9]) (congrArg (fun z9 : (Int32 × XV) => w4 cI cC h a b z9.2) e9).symm rfl dX4_readOrder_165
                      · refine lv_aload_n hx hb dX4_readOrder_144 rfl (lv_at hl 1 rfl) ?_
                        refine lv_iconst (v := 3) hx hb dX4_readOrder_145 (by decide) ?_
                        refine lv_iconst (v := 1) hx hb dX4_readOrder_146 (by decide) ?_
                        obtain ⟨n23, en23⟩ : ∃ z9, z9 = (fX4_readNumber n22.2 3 1) := ⟨_, rfl⟩
                        have k9 := (kX4_readNumber l D cI cC cT h a b n22.2 3 1)
                        rw [← en23] at k9
                        refine fUV (As := [.int 3, .int 1]) (rest := []) (st' := [.int n23.1]) ⟨hx, hb, hml, hown, hts⟩ k9 (cwV 2 hts gX4_readOrder_X4_readNumber rfl rfl rfl (by decide +kernel) ⟨Nat.le_of_ble_eq_true rfl, Nat.le_of_ble_eq_true rfl⟩) hP hK hD hS [0, 1, 2] rfl rfl (by decide) rfl [(h, .inr (5, [.ref a, .ref b, .int n23.2.2.2.1, .int n23.2.2.2.2.1, .int n23.2.2.2.2.2])), (a, .inl (cC, 60, .inl n23.2.1)), (b, .inl (cI, 150, .inl n23.2.2.1))] rfl rfl 0 (ci := 5) rfl rfl rfl rfl hl.1 rfl rfl (Nat.le_of_ble_eq_true rfl) ⟨Nat.zero_le _, Nat.zero_le _⟩ dX4_readOrder_147 (fun H locs hP hD hS => ?_)
                        refine lv_if_eq (tgt := 164) hx hb dX4_readOrder_150 (by decide) (fun c_150 => ?_) (fun c_150 => ?_)
                        · refine lv_iconst (v := 0) hx hb dX4_readOrder_164 (by decide) ?_
                          have e9 : fX4_readOrder X = (0, n23.2) := by rw [fX4_readOrder, ← en1, if_neg c_12_98, if_neg c_12_99, if_neg c_12_103, if_neg c_12_107, if_neg c_12_110, if_neg c_12_112, if_pos c_12_115, ← en19, if_neg c_114, ← en20, if_neg c_123, ← en21, if_neg c_132, ← en22, if_neg c_141, ← en23, if_pos c_150]
                          exact rUi hx hb hr hlk hQ hP hS (by rw [e9]) (congrArg (fun z9 : (Int32 × XV) => w4 cI cC h a b z9.2) e9).symm rfl dX4_readOrder_165
                        · refine lv_aload_n hx hb dX4_readOrder_153 rfl (lv_at hl 1 rfl) ?_
                          obtain ⟨n24, en24⟩ : ∃ z9, z9 = (fX4_readBar n23.2) := ⟨_, rfl⟩
                          have k9 := (kX4_readBar l D cI cC cT h a b n23.2)
                          rw [← en24] at k9
                          refine fUV (As := []) (rest := []) (st' := [.int n24.1]) ⟨hx, hb, hml, hown, hts⟩ k9 (cwV 0 hts gX4_readOrder_X4_readBar rfl rfl rfl (by decide +kernel) ⟨Nat.le_of_ble_eq_true rfl, Nat.le_of_ble_eq_true rfl⟩) hP hK hD hS [0, 1, 2] rfl rfl (by decide) rfl [(h, .inr (5, [.ref a, .ref b, .int n24.2.2.2.1, .int n24.2.2.2.2.1, .int n24.2.2.2.2.2])), (a, .inl (cC, 60, .inl n24.2.1)), (b, .inl (cI, 150, .inl n24.2.2.1))] rfl rfl 0 (ci := 5) rfl rfl rfl rfl hl.1 rfl rfl (Nat.le_of_ble_eq_true rfl) ⟨Nat.zero_le _, Nat.zero_le _⟩ dX4_readOrder_154 (fun H locs hP hD hS => ?_)
                          refine lv_if_eq (tgt := 164) hx hb dX4_readOrder_157 (by decide) (fun c_157 => ?_) (fun c_157 => ?_)
                          · refine lv_iconst (v := 0) hx hb dX4_readOrder_164 (by decide) ?_
                            have e9 : fX4_readOrder X = (0, n24.2) := by rw [fX4_readOrder, ← en1, if_neg c_12_98, if_neg c_12_99, if_neg c_12_103, if_neg c_12_107, if_neg c_12_110, if_neg c_12_112, if_pos c_12_115, ← en19, if_neg c_114, ← en20, if_neg c_123, ← en21, if_neg c_132, ← en22, if_neg c_141, ← en23, if_neg c_150, ← en24, if_pos c_157]
                            exact rUi hx hb hr hlk hQ hP hS (by rw [e9]) (congrArg (fun z9 : (Int32 × XV) => w4 cI cC h a b z9.2) e9).symm rfl dX4_readOrder_165
                          · refine lv_iconst (v := 1) hx hb dX4_readOrder_160 (by decide) ?_
                            refine lv_goto (tgt := 165) hx hb dX4_readOrder_161 (by decide) ?_
                            have e9 : fX4_readOrder X = (1, n24.2) := by rw [fX4_readOrder, ← en1, if_neg c_12_98, if_neg c_12_99, if_neg c_12_103, if_neg c_12_107, if_neg c_12_110, if_neg c_12_112, if_pos c_12_115, ← en19, if_neg c_114, ← en20, if_neg c_123, ← en21, if_neg c_132, ← en22, if_neg c_141, ← en23, if_neg c_150, ← en24, if_neg c_157]
                            exact rUi hx hb hr hlk hQ hP hS (by rw [e9]) (congrArg (fun z9 : (Int32 × XV) => w4 cI cC h a b z9.2) e9).symm rfl dX4_readOrder_165
              · skip
                by_cases c_12_117 : (fX4_sign X) = 117
                · refine lv_tableIn (off := 262) (tgt := 274) hx hb dX4_readOrder_12 (by rw [c_12_117]; decide) (by rw [c_12_117]; decide) (by rw [c_12_117]; rfl) (by decide) ?_
                  refine lv_aload_n hx hb dX4_readOrder_274 rfl (lv_at hl 1 rfl) ?_
                  refine lv_bipush (v := 117) hx hb dX4_readOrder_275 (by decide) ?_
                  obtain ⟨n25, en25⟩ : ∃ z9, z9 = (fX4_readSign n1 117) := ⟨_, rfl⟩
                  have k9 := (kX4_readSign l D cI cC cT h a b n1 117)
                  rw [← en25] at k9
                  refine fUV (As := [.int 117]) (rest := []) (st' := [.int n25.1]) ⟨hx, hb, hml, hown, hts⟩ k9 (cwV 1 hts gX4_readOrder_X4_readSign rfl rfl rfl (by decide +kernel) ⟨Nat.le_of_ble_eq_true rfl, Nat.le_of_ble_eq_true rfl⟩) hP hK hD hS [0, 1, 2] rfl rfl (by decide) rfl [(h, .inr (5, [.ref a, .ref b, .int n25.2.2.2.1, .int n25.2.2.2.2.1, .int n25.2.2.2.2.2])), (a, .inl (cC, 60, .inl n25.2.1)), (b, .inl (cI, 150, .inl n25.2.2.1))] rfl rfl 0 (ci := 5) rfl rfl rfl rfl hl.1 rfl rfl (Nat.le_of_ble_eq_true rfl) ⟨Nat.zero_le _, Nat.zero_le _⟩ dX4_readOrder_277 (fun H locs hP hD hS => ?_)
                  refine lv_if_eq (tgt := 296) hx hb dX4_readOrder_280 (by decide) (fun c_280 => ?_) (fun c_280 => ?_)
                  · refine lv_iconst (v := 0) hx hb dX4_readOrder_296 (by decide) ?_
                    have e9 : fX4_readOrder X = (0, n25.2) := by rw [fX4_readOrder, ← en1, if_neg c_12_98, if_neg c_12_99, if_neg c_12_103, if_neg c_12_107, if_neg c_12_110, if_neg c_12_112, if_neg c_12_115, if_pos c_12_117, ← en25, if_pos c_280]
                    exact rUi hx hb hr hlk hQ hP hS (by rw [e9]) (congrArg (fun z9 : (Int32 × XV) => w4 cI cC h a b z9.2) e9).symm rfl dX4_readOrder_297
                  · refine lv_aload_n hx hb dX4_readOrder_283 rfl (lv_at hl 1 rfl) ?_
                    refine lv_iconst (v := 1) hx hb dX4_readOrder_284 (by decide) ?_
                    refine lv_iconst (v := 2) hx hb dX4_readOrder_285 (by decide) ?_
                    obtain ⟨n26, en26⟩ : ∃ z9, z9 = (fX4_readNumber n25.2 1 2) := ⟨_, rfl⟩
                    have k9 := (kX4_readNumber l D cI cC cT h a b n25.2 1 2)
                    rw [← en26] at k9
                    refine fUV (As := [.int 1, .int 2]) (rest := []) (st' := [.int n26.1]) ⟨hx, hb, hml, hown, hts⟩ k9 (cwV 2 hts gX4_readOrder_X4_readNumber rfl rfl rfl (by decide +kernel) ⟨Nat.le_of_ble_eq_true rfl, Nat.le_of_ble_eq_true rfl⟩) hP hK hD hS [0, 1, 2] rfl rfl (by decide) rfl [(h, .inr (5, [.ref a, .ref b, .int n26.2.2.2.1, .int n26.2.2.2.2.1, .int n26.2.2.2.2.2])), (a, .inl (cC, 60, .inl n26.2.1)), (b, .inl (cI, 150, .inl n26.2.2.1))] rfl rfl 0 (ci := 5) rfl rfl rfl rfl hl.1 rfl rfl (Nat.le_of_ble_eq_true rfl) ⟨Nat.zero_le _, Nat.zero_le _⟩ dX4_readOrder_286 (fun H locs hP hD hS => ?_)
                    refine lv_if_eq (tgt := 296) hx hb dX4_readOrder_289 (by decide) (fun c_289 => ?_) (fun c_289 => ?_)
                    · refine lv_iconst (v := 0) hx hb dX4_readOrder_296 (by decide) ?_
                      have e9 : fX4_readOrder X = (0, n26.2) := by rw [fX4_readOrder, ← en1, if_neg c_12_98, if_neg c_12_99, if_neg c_12_103, if_neg c_12_107, if_neg c_12_110, if_neg c_12_112, if_neg c_12_115, if_pos c_12_117, ← en25, if_neg c_280, ← en26, if_pos c_289]
                      exact rUi hx hb hr hlk hQ hP hS (by rw [e9]) (congrArg (fun z9 : (Int32 × XV) => w4 cI cC h a b z9.2) e9).symm rfl dX4_readOrder_297
                    · refine lv_iconst (v := 1) hx hb dX4_readOrder_292 (by decide) ?_
                      refine lv_goto (tgt := 297) hx hb dX4_readOrder_293 (by decide) ?_
                      have e9 : fX4_readOrder X = (1, n26.2) := by rw [fX4_readOrder, ← en1, if_neg c_12_98, if_neg c_12_99, if_neg c_12_103, if_neg c_12_107, if_neg c_12_110, if_neg c_12_112, if_neg c_12_115, if_pos c_12_117, ← en25, if_neg c_280, ← en26, if_neg c_289]
                      exact rUi hx hb hr hlk hQ hP hS (by rw [e9]) (congrArg (fun z9 : (Int32 × XV) => w4 cI cC h a b z9.2) e9).symm rfl dX4_readOrder_297
                · skip
                  refine lv_tableDef (tgt := 371) [0, 1, 5, 9, 12, 14, 17, 19] hx hb dX4_readOrder_12 (by decide) (by decide) (List.forall_mem_cons.mpr ⟨tn c_12_98 (by decide), List.forall_mem_cons.mpr ⟨tn c_12_99 (by decide), List.forall_mem_cons.mpr ⟨tn c_12_103 (by decide), List.forall_mem_cons.mpr ⟨tn c_12_107 (by decide), List.forall_mem_cons.mpr ⟨tn c_12_110 (by decide), List.forall_mem_cons.mpr ⟨tn c_12_112 (by decide), List.forall_mem_cons.mpr ⟨tn c_12_115 (by decide), List.forall_mem_cons.mpr ⟨tn c_12_117 (by decide), List.forall_mem_nil _⟩⟩⟩⟩⟩⟩⟩⟩) (by decide) ?_
                  refine lv_iconst (v := 0) hx hb dX4_readOrder_371 (by decide) ?_
                  have e9 : fX4_readOrder X = (0, n1) := by rw [fX4_readOrder, ← en1, if_neg c_12_98, if_neg c_12_99, if_neg c_12_103, if_neg c_12_107, if_neg c_12_110, if_neg c_12_112, if_neg c_12_115, if_neg c_12_117]
                  exact rUi hx hb hr hlk hQ hP hS (by rw [e9]) (congrArg (fun z9 : (Int32 × XV) => w4 cI cC h a b z9.2) e9).symm rfl dX4_readOrder_372
def lX4_readOrders_12 (X : XV) (v : (XV × Int32)) : (XV × Int32) ⊕ ((XV × Int32) ⊕ (Int32 × XV)) := (if 30 ≤ v.2 then (.inr (.inl (v.1, v.2))) else (if (fX4_readOrder v.1).1 = 0 then (.inr (.inr ((fX4_readOrder v.1).2.2.2.2.1, (fX4_readOrder v.1).2))) else (if (fX4_readOrder v.1).2.2.2.2.1 < (fX4_readOrder v.1).2.2.2.1 then (if (fX4_readSign ((fX4_readOrder v.1).2.1, (fX4_readOrder v.1).2.2.1, (fX4_readOrder v.1).2.2.2.1, (fX4_readOrder v.1).2.2.2.2.1, ((fX4_readOrder v.1).2.2.2.2.2 + 1)) 59).1 = 0 then (.inr (.inr ((fX4_readSign ((fX4_readOrder v.1).2.1, (fX4_readOrder v.1).2.2.1, (fX4_readOrder v.1).2.2.2.1, (fX4_readOrder v.1).2.2.2.2.1, ((fX4_readOrder v.1).2.2.2.2.2 + 1)) 59).2.2.2.2.1, (fX4_readSign ((fX4_readOrder v.1).2.1, (fX4_readOrder v.1).2.2.1, (fX4_readOrder v.1).2.2.2.1, (fX4_readOrder v.1).2.2.2.2.1, ((fX4_readOrder v.1).2.2.2.2.2 + 1)) 59).2))) else (.inl ((fX4_readSign ((fX4_readOrder v.1).2.1, (fX4_readOrder v.1).2.2.1, (fX4_readOrder v.1).2.2.2.1, (fX4_readOrder v.1).2.2.2.2.1, ((fX4_readOrder v.1).2.2.2.2.2 + 1)) 59).2, (v.2 + 1)))) else (.inr (.inr ((-1), ((fX4_readOrder v.1).2.1, (fX4_readOrder v.1).2.2.1, (fX4_readOrder v.1).2.2.2.1, (fX4_readOrder v.1).2.2.2.2.1, ((fX4_readOrder v.1).2.2.2.2.2 + 1))))))))
def fX4_readOrders (X : XV)  : (Int32 × XV) := (Sum.elim (fun y9 => (y9.1.2.2.2.1, y9.1)) (fun q9 => q9) (itv (.inl ((X.1, X.2.1, X.2.2.1, 0, 0), 0)) (lX4_readOrders_12 X) ((fun v : (XV × Int32) => ((30 : Int32).toInt - v.2.toInt).toNat) ((X.1, X.2.1, X.2.2.1, 0, 0), 0) + 1) ((X.1, X.2.1, X.2.2.1, 0, 0), 0)))
abbrev rmX4_readOrders : Room := { frames := 4, cells := 0, slots := 0, locals := 82 }
set_option maxHeartbeats 4000000 in
set_option maxRecDepth 100000 in
theorem kX4_readOrders (l : Launch) (D : va_G) (cI cC cT : ClassId) (h a b : Nat) (X : XV)   : mU l D (TY cI cC cT) yX4_readOrders wsX4_readOrders rmX4_readOrders [.ref h] (w4 cI cC h a b X) (some (.int (fX4_readOrders X).1)) (w4 cI cC h a b (fX4_readOrders X).2) := by
  refine mU.ofW (cc := cX4_readOrders) (maxL := 2) (ret := (some .int)) (by decide) rfl (Nat.le_of_ble_eq_true rfl) ?_
  intro p e s m args below meth c Q ls A hx hb hml hr hlk hts hown hP hK hD hS hl hQ
  have hown : s.vm.findClass RX4 = some m.cls := hown
  have hP : va_P D vwCl [(h, .inr (5, [.ref a, .ref b, .int X.2.2.1, .int X.2.2.2.1, .int X.2.2.2.2])), (a, .inl (cC, 60, .inl X.1)), (b, .inl (cI, 150, .inl X.2.1))] s.heap := hP
  have hD : va_D A [(h, .inr (5, [.ref a, .ref b, .int X.2.2.1, .int X.2.2.2.1, .int X.2.2.2.2])), (a, .inl (cC, 60, .inl X.1)), (b, .inl (cI, 150, .inl X.2.1))] := hD
  have hl : lv_has ls 2 [(0, .ref h)] := hl
  have q0 := hts (Cond.fieldLink RX4 23 "TavernStools$Text" "at" "I") (by decide +kernel)
  have q1 : ∀ w ∈ u_ws RX4 TX4 5, w ∈ wsX4_readOrders := by decide +kernel
  have q2 := hts (Cond.fieldLink RX4 26 "TavernStools$Text" "orders" "I") (by decide +kernel)
  have q3 := hts (Cond.fieldLink RX4 19 "TavernStools$Text" "length" "I") (by decide +kernel)
  generalize hHe : s.heap = H at hP ⊢
  have hS : va_S A s.heap H [] := hHe ▸ hS
  generalize hLe : ([] : List Loc) = locs at hS ⊢
  refine lv_aload_n hx hb dX4_readOrders_0 rfl (lv_at hl 0 rfl) ?_
  refine lv_iconst (v := 0) hx hb dX4_readOrders_1 (by decide) ?_
  refine va_put (D := D) (ci := 5) (v := .int 0) (ty := .int) (C := RX4) (T := TX4) (N := 5) hx hb hts q1 tyX4 tyX4_ok nmX4 hown hK hP hD hS 0 rfl rfl 3 (by decide) q0 (fun _ h9 => h9) rfl (by decide +kernel) rfl rfl (Nat.le_of_ble_eq_true rfl) dX4_readOrders_2 (fun H locs hP hD hS => ?_)
  have hP : va_P D vwCl [(h, .inr (5, [.ref a, .ref b, .int X.2.2.1, .int 0, .int X.2.2.2.2])), (a, .inl (cC, 60, .inl X.1)), (b, .inl (cI, 150, .inl X.2.1))] H := hP
  have hD : va_D A [(h, .inr (5, [.ref a, .ref b, .int X.2.2.1, .int 0, .int X.2.2.2.2])), (a, .inl (cC, 60, .inl X.1)), (b, .inl (cI, 150, .inl X.2.1))] := hD
  refine lv_aload_n hx hb dX4_readOrders_5 rfl (lv_at hl 0 rfl) ?_
  refine lv_iconst (v := 0) hx hb dX4_readOrders_6 (by decide) ?_
  refine va_put (D := D) (ci := 5) (v := .int 0) (ty := .int) (C := RX4) (T := TX4) (N := 5) hx hb hts q1 tyX4 tyX4_ok nmX4 hown hK hP hD hS 0 rfl rfl 4 (by decide) q2 (fun _ h9 => h9) rfl (by decide +kernel) rfl rfl (Nat.le_of_ble_eq_true rfl) dX4_readOrders_7 (fun H locs hP hD hS => ?_)
  have hP : va_P D vwCl [(h, .inr (5, [.ref a, .ref b, .int X.2.2.1, .int 0, .int 0])), (a, .inl (cC, 60, .inl X.1)), (b, .inl (cI, 150, .inl X.2.1))] H := hP
  have hD : va_D A [(h, .inr (5, [.ref a, .ref b, .int X.2.2.1, .int 0, .int 0])), (a, .inl (cC, 60, .inl X.1)), (b, .inl (cI, 150, .inl X.2.1))] := hD
  refine lv_iconst (v := 0) hx hb dX4_readOrders_10 (by decide) ?_
  refine lv_istore_n (lv' := [(1, .int 0), (0, .ref h)]) hx hb dX4_readOrders_11 rfl hl (by decide) rfl (fun ls hl => ?_)
  have hE_12 : itr (lX4_readOrders_12 X) ((fun v : (XV × Int32) => ((30 : Int32).toInt - v.2.toInt).toNat) ((X.1, X.2.1, X.2.2.1, 0, 0), 0) + 1) ((X.1, X.2.1, X.2.2.1, 0, 0), 0) = .inr (itv (.inl ((X.1, X.2.1, X.2.2.1, 0, 0), 0)) (lX4_readOrders_12 X) ((fun v : (XV × Int32) => ((30 : Int32).toInt - v.2.toInt).toNat) ((X.1, X.2.1, X.2.2.1, 0, 0), 0) + 1) ((X.1, X.2.1, X.2.2.1, 0, 0), 0)) := by
    refine itv_ends (itr_ends (lX4_readOrders_12 X) (fun v : (XV × Int32) => True) (fun v : (XV × Int32) => ((30 : Int32).toInt - v.2.toInt).toNat) ?_ _ _ trivial (Nat.lt_succ_self _))
    intro a b h0 h
    unfold lX4_readOrders_12 at h
    repeat' split at h
    all_goals first | (cases h; done) | (cases h; exact ⟨trivial, rk_ge (by assumption)⟩) | (cases h; exact ⟨trivial, rk_gt (by assumption)⟩)
  refine loopW (lX4_readOrders_12 X) (fun v : (XV × Int32) => True) (fun v : (XV × Int32) => ∀ (H : Heap) (locs : List Loc) ls, va_P D vwCl [(h, .inr (5, [.ref a, .ref b, .int v.1.2.2.1, .int v.1.2.2.2.1, .int v.1.2.2.2.2])), (a, .inl (cC, 60, .inl v.1.1)), (b, .inl (cI, 150, .inl v.1.2.1))] H → va_D A [(h, .inr (5, [.ref a, .ref b, .int v.1.2.2.1, .int v.1.2.2.2.1, .int v.1.2.2.2.2])), (a, .inl (cC, 60, .inl v.1.1)), (b, .inl (cI, 150, .inl v.1.2.1))] → va_S A s.heap H locs → lv_has ls 2 [(0, .ref h), (1, .int v.2)] → W p l e rmX4_readOrders s m args below meth c H locs 0 0 Q (F0 m 12 ls [])) (fun r8 : (XV × Int32) ⊕ (Int32 × XV) => Sum.elim (fun r9 : (XV × Int32) => ∀ (H : Heap) (locs : List Loc) ls, va_P D vwCl [(h, .inr (5, [.ref a, .ref b, .int r9.1.2.2.1, .int r9.1.2.2.2.1, .int r9.1.2.2.2.2])), (a, .inl (cC, 60, .inl r9.1.1)), (b, .inl (cI, 150, .inl r9.1.2.1))] H → va_D A [(h, .inr (5, [.ref a, .ref b, .int r9.1.2.2.1, .int r9.1.2.2.2.1, .int r9.1.2.2.2.2])), (a, .inl (cC, 60, .inl r9.1.1)), (b, .inl (cI, 150, .inl r9.1.2.1))] → va_S A s.heap H locs → lv_has ls 2 [(0, .ref h), (1, .int r9.2)] → W p l e rmX4_readOrders s m args below meth c H locs 0 0 Q (F0 m 73 ls [])) (fun q9 : (Int32 × XV) => ∀ (H : Heap) (locs : List Loc) (pc : Nat) ls, va_P D vwCl [(h, .inr (5, [.ref a, .ref b, .int q9.2.2.2.1, .int q9.2.2.2.2.1, .int q9.2.2.2.2.2])), (a, .inl (cC, 60, .inl q9.2.1)), (b, .inl (cI, 150, .inl q9.2.2.1))] H → va_D A [(h, .inr (5, [.ref a, .ref b, .int q9.2.2.2.1, .int q9.2.2.2.2.1, .int q9.2.2.2.2.2])), (a, .inl (cC, 60, .inl q9.2.1)), (b, .inl (cI, 150, .inl q9.2.2.1))] → va_S A s.heap H locs → decode cX4_readOrders pc = .ok (.ireturn, 1) → narrow (.int) (.int q9.1) = .int q9.1 → W p l e rmX4_readOrders s m args below meth c H locs 0 0 Q (F0 m pc ls [.int q9.1])) r8) ?_ (fun _ _ _ _ => trivial) _ ((X.1, X.2.1, X.2.2.1, 0, 0), 0) (itv (.inl ((X.1, X.2.1, X.2.2.1, 0, 0), 0)) (lX4_readOrders_12 X) ((fun v : (XV × Int32) => ((30 : Int32).toInt - v.2.toInt).toNat) ((X.1, X.2.1, X.2.2.1, 0, 0), 0) + 1) ((X.1, X.2.1, X.2.2.1, 0, 0), 0)) trivial hE_12 ?_ _ _ ls hP hD hS (lv_sub hl [1, 0] rfl)
  · intro v _ kb kx H locs ls hP hD hS hl
    refine lv_iload_n hx hb dX4_readOrders_12 rfl (lv_at hl 1 rfl) ?_
    refine lv_bipush (v := 30) hx hb dX4_readOrders_13 (by decide) ?_
    refine lv_icmp_ge (tgt := 73) hx hb dX4_readOrders_15 (by decide) (fun c_15 => ?_) (fun c_15 => ?_)
    · exact kx (.inl (v.1, v.2)) (by rw [lX4_readOrders_12, if_pos c_15]) H locs ls hP hD hS (lv_sub hl [0, 1] rfl)
    · refine lv_aload_n hx hb dX4_readOrders_18 rfl (lv_at hl 0 rfl) ?_
      obtain ⟨n1, en1⟩ : ∃ z9, z9 = (fX4_readOrder v.1) := ⟨_, rfl⟩
      have k9 := (kX4_readOrder l D cI cC cT h a b v.1)
      rw [← en1] at k9
      refine fUV (As := []) (rest := []) (st' := [.int n1.1]) ⟨hx, hb, hml, hown, hts⟩ k9 (cwV 0 hts gX4_readOrders_X4_readOrder rfl rfl rfl (by decide +kernel) ⟨Nat.le_of_ble_eq_true rfl, Nat.le_of_ble_eq_true rfl⟩) hP hK hD hS [0, 1, 2] rfl rfl (by decide) rfl [(h, .inr (5, [.ref a, .ref b, .int n1.2.2.2.1, .int n1.2.2.2.2.1, .int n1.2.2.2.2.2])), (a, .inl (cC, 60, .inl n1.2.1)), (b, .inl (cI, 150, .inl n1.2.2.1))] rfl rfl 0 (ci := 5) rfl rfl rfl rfl hl.1 rfl rfl (Nat.le_of_ble_eq_true rfl) ⟨Nat.zero_le _, Nat.zero_le _⟩ dX4_readOrders_19 (fun H locs hP hD hS => ?_)
      refine lv_if_ne (tgt := 30) hx hb dX4_readOrders_22 (by decide) (fun c_22 => ?_) (fun c_22 => ?_)
      · refine lv_aload_n hx hb dX4_readOrders_30 rfl (lv_at hl 0 rfl) ?_
        refine lv_dup hx hb dX4_readOrders_31 rfl ?_
        refine va_get (D := D) (ci := 5) (v := .int n1.2.2.2.2.2) (C := RX4) (T := TX4) (N := 5) hx hb hts q1 hown hK hP 0 rfl rfl 4 (by decide) q2 (fun _ h9 => h9) rfl dX4_readOrders_32 ?_
        refine lv_iconst (v := 1) hx hb dX4_readOrders_35 (by decide) ?_
        refine lv_iadd hx hb dX4_readOrders_36 ?_
        refine va_put (D := D) (ci := 5) (v := .int (n1.2.2.2.2.2 + 1)) (ty := .int) (C := RX4) (T := TX4) (N := 5) hx hb hts q1 tyX4 tyX4_ok nmX4 hown hK hP hD hS 0 rfl rfl 4 (by decide) q2 (fun _ h9 => h9) rfl (by decide +kernel) rfl rfl (Nat.le_of_ble_eq_true rfl) dX4_readOrders_37 (fun H locs hP hD hS => ?_)
        have hP : va_P D vwCl [(h, .inr (5, [.ref a, .ref b, .int n1.2.2.2.1, .int n1.2.2.2.2.1, .int (n1.2.2.2.2.2 + 1)])), (a, .inl (cC, 60, .inl n1.2.1)), (b, .inl (cI, 150, .inl n1.2.2.1))] H := hP
        have hD : va_D A [(h, .inr (5, [.ref a, .ref b, .int n1.2.2.2.1, .int n1.2.2.2.2.1, .int (n1.2.2.2.2.2 + 1)])), (a, .inl (cC, 60, .inl n1.2.1)), (b, .inl (cI, 150, .inl n1.2.2.1))] := hD
        refine lv_aload_n hx hb dX4_readOrders_40 rfl (lv_at hl 0 rfl) ?_
        refine va_get (D := D) (ci := 5) (v := .int n1.2.2.2.2.1) (C := RX4) (T := TX4) (N := 5) hx hb hts q1 hown hK hP 0 rfl rfl 3 (by decide) q0 (fun _ h9 => h9) rfl dX4_readOrders_41 ?_
        refine lv_aload_n hx hb dX4_readOrders_44 rfl (lv_at hl 0 rfl) ?_
        refine va_get (D := D) (ci := 5) (v := .int n1.2.2.2.1) (C := RX4) (T := TX4) (N := 5) hx hb hts q1 hown hK hP 0 rfl rfl 2 (by decide) q3 (fun _ h9 => h9) rfl dX4_readOrders_45 ?_
        refine lv_icmp_lt (tgt := 53) hx hb dX4_readOrders_48 (by decide) (fun c_48 => ?_) (fun c_48 => ?_)
        · refine lv_aload_n hx hb dX4_readOrders_53 rfl (lv_at hl 0 rfl) ?_
          refine lv_bipush (v := 59) hx hb dX4_readOrders_54 (by decide) ?_
          obtain ⟨n2, en2⟩ : ∃ z9, z9 = (fX4_readSign (n1.2.1, n1.2.2.1, n1.2.2.2.1, n1.2.2.2.2.1, (n1.2.2.2.2.2 + 1)) 59) := ⟨_, rfl⟩
          have k9 := (kX4_readSign l D cI cC cT h a b (n1.2.1, n1.2.2.1, n1.2.2.2.1, n1.2.2.2.2.1, (n1.2.2.2.2.2 + 1)) 59)
          rw [← en2] at k9
          refine fUV (As := [.int 59]) (rest := []) (st' := [.int n2.1]) ⟨hx, hb, hml, hown, hts⟩ k9 (cwV 1 hts gX4_readOrders_X4_readSign rfl rfl rfl (by decide +kernel) ⟨Nat.le_of_ble_eq_true rfl, Nat.le_of_ble_eq_true rfl⟩) hP hK hD hS [0, 1, 2] rfl rfl (by decide) rfl [(h, .inr (5, [.ref a, .ref b, .int n2.2.2.2.1, .int n2.2.2.2.2.1, .int n2.2.2.2.2.2])), (a, .inl (cC, 60, .inl n2.2.1)), (b, .inl (cI, 150, .inl n2.2.2.1))] rfl rfl 0 (ci := 5) rfl rfl rfl rfl hl.1 rfl rfl (Nat.le_of_ble_eq_true rfl) ⟨Nat.zero_le _, Nat.zero_le _⟩ dX4_readOrders_56 (fun H locs hP hD hS => ?_)
          refine lv_if_ne (tgt := 67) hx hb dX4_readOrders_59 (by decide) (fun c_59 => ?_) (fun c_59 => ?_)
          · refine lv_iinc (v := (v.2 + 1)) (lv' := [(1, .int (v.2 + 1)), (0, .ref h)]) hx hb dX4_readOrders_67 hl (k := 1) rfl rfl (by decide) rfl (fun ls hl => ?_)
            refine lv_goto (tgt := 12) hx hb dX4_readOrders_70 (by decide) ?_
            exact kb (n2.2, (v.2 + 1)) (by rw [lX4_readOrders_12, if_neg c_15, ← en1, if_neg c_22, if_pos c_48, ← en2, if_neg c_59]) H locs ls hP hD hS (lv_sub hl [1, 0] rfl)
          · refine lv_aload_n hx hb dX4_readOrders_62 rfl (lv_at hl 0 rfl) ?_
            refine va_get (D := D) (ci := 5) (v := .int n2.2.2.2.2.1) (C := RX4) (T := TX4) (N := 5) hx hb hts q1 hown hK hP 0 rfl rfl 3 (by decide) q0 (fun _ h9 => h9) rfl dX4_readOrders_63 ?_
            exact kx (.inr (n2.2.2.2.2.1, n2.2)) (by rw [lX4_readOrders_12, if_neg c_15, ← en1, if_neg c_22, if_pos c_48, ← en2, if_pos c_59]) H locs 66 ls hP hD hS dX4_readOrders_66 rfl
        · refine lv_iconst (v := (-1)) hx hb dX4_readOrders_51 (by decide) ?_
          exact kx (.inr ((-1), (n1.2.1, n1.2.2.1, n1.2.2.2.1, n1.2.2.2.2.1, (n1.2.2.2.2.2 + 1)))) (by rw [lX4_readOrders_12, if_neg c_15, ← en1, if_neg c_22, if_neg c_48]) H locs 52 ls hP hD hS dX4_readOrders_52 rfl
      · refine lv_aload_n hx hb dX4_readOrders_25 rfl (lv_at hl 0 rfl) ?_
        refine va_get (D := D) (ci := 5) (v := .int n1.2.2.2.2.1) (C := RX4) (T := TX4) (N := 5) hx hb hts q1 hown hK hP 0 rfl rfl 3 (by decide) q0 (fun _ h9 => h9) rfl dX4_readOrders_26 ?_
        exact kx (.inr (n1.2.2.2.2.1, n1.2)) (by rw [lX4_readOrders_12, if_neg c_15, ← en1, if_pos c_22]) H locs 29 ls hP hD hS dX4_readOrders_29 rfl
  · cases hy_12 : (itv (.inl ((X.1, X.2.1, X.2.2.1, 0, 0), 0)) (lX4_readOrders_12 X) ((fun v : (XV × Int32) => ((30 : Int32).toInt - v.2.toInt).toNat) ((X.1, X.2.1, X.2.2.1, 0, 0), 0) + 1) ((X.1, X.2.1, X.2.2.1, 0, 0), 0)) with
    | inl y9 =>
      show ∀ (H : Heap) (locs : List Loc) ls, va_P D vwCl [(h, .inr (5, [.ref a, .ref b, .int y9.1.2.2.1, .int y9.1.2.2.2.1, .int y9.1.2.2.2.2])), (a, .inl (cC, 60, .inl y9.1.1)), (b, .inl (cI, 150, .inl y9.1.2.1))] H → va_D A [(h, .inr (5, [.ref a, .ref b, .int y9.1.2.2.1, .int y9.1.2.2.2.1, .int y9.1.2.2.2.2])), (a, .inl (cC, 60, .inl y9.1.1)), (b, .inl (cI, 150, .inl y9.1.2.1))] → va_S A s.heap H locs → lv_has ls 2 [(0, .ref h), (1, .int y9.2)] → W p l e rmX4_readOrders s m args below meth c H locs 0 0 Q (F0 m 73 ls [])
      intro H locs ls hP hD hS hl
      refine lv_aload_n hx hb dX4_readOrders_73 rfl (lv_at hl 0 rfl) ?_
      refine va_get (D := D) (ci := 5) (v := .int y9.1.2.2.2.1) (C := RX4) (T := TX4) (N := 5) hx hb hts q1 hown hK hP 0 rfl rfl 3 (by decide) q0 (fun _ h9 => h9) rfl dX4_readOrders_74 ?_
      have e9 : fX4_readOrders X = (y9.1.2.2.2.1, y9.1) := by rw [fX4_readOrders, hy_12, Sum.elim_inl]
      exact rUi hx hb hr hlk hQ hP hS (by rw [e9]) (congrArg (fun z9 : (Int32 × XV) => w4 cI cC h a b z9.2) e9).symm rfl dX4_readOrders_77
    | inr q9 =>
      intro H locs pc ls hP hD hS hd9 hn9
      have e9 : fX4_readOrders X = q9 := by rw [fX4_readOrders, hy_12, Sum.elim_inr]
      exact rUi hx hb hr hlk hQ hP hS (by rw [e9]) (congrArg (fun z9 : (Int32 × XV) => w4 cI cC h a b z9.2) e9).symm hn9 hd9
