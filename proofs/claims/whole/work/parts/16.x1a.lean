theorem mR.ofWF {l : Launch} {D : va_G} {tys : List (ClassId × FieldType)} {y : MethodName} {ws ws' : List Cond} {rm : Room} {av : List Value} {X : va_W} {v : Option Value} {cc : ByteArray} {maxL : Nat} {ret : Option FieldType}
    (hy : plainFor y = true) (hw : ws = Cond.code y cc maxL ret :: ws') (hav : (lg_sl av).length ≤ maxL)
    (body : ∀ (p : Program) (e : Env) (s : State) (m : MethodId) (args : Array Value) (below : List Frame) (meth : Method) (c : Code) (Q : State → Prop) (ls : Array Slot),
      p.tables.exec = Jvm.exec → c.code = cc → c.maxLocals = maxL → meth.sig.returnType = ret → meth.locks = false → (∀ w ∈ ws, w.before args s = true) → s.vm.findClass y.cls = some m.cls → va_P D vwCl X s.heap → va_K D vwCl tys s → lv_has ls maxL (lv_args 0 av) →
      (∀ g : JFrame, W p l e rm s m args below meth c s.heap [] 0 0 (MQ below (fun _ st o t => o = .returned v ∧ t.heap = st.heap) args s 0 0 (fun _ => False)) g → W p l e rm s m args below meth c s.heap [] 0 0 Q g) →
      W p l e rm s m args below meth c s.heap [] 0 0 Q (F0 m 0 ls [])) : mR l D tys y ws rm av X v := by
  unfold mR Met
  refine MetFree.of_bodySF (code := cc) (maxLocals := maxL) (ret := ret) hy ?_ ?_
  · intro args s m h hn
    obtain ⟨meth, c, h1, h2, h3, h4, h5, h6, -, -⟩ := Cond.code_spec hn (atoms_spec (ws := ws) h _ (by rw [hw]; exact List.mem_cons_self))
    exact ⟨meth, c, h1, h2, h3, h4, h5, h6⟩
  · intro p e s m args below meth c s₁ B hml hv _
    obtain ⟨rfl, hP, hK⟩ := hv
    have hh0 : s₁.heap = s.heap := by rw [B.state]; rfl
    have hl := lv_entry av (n := maxL) hav
    have k := body p e s m _ below meth c _ _ B.exec B.bytes hml B.returns B.notSynchronized (atoms_spec (ws := ws) B.pre) (findClass_of_methodNamed B.named) hP hK hl (fun g h => h)
    rw [← lg_entry_eq] at k
    obtain ⟨t, a1, o, b1, b2, b3⟩ := k s₁ hh0 (Stand.of_body B)
    exact ⟨t, o, a1, b1, b2, ⟨b3.1, b3.2⟩⟩
theorem vp_cell_cong {cA : ClassId} {n : Nat} {f g : Nat → Int32} (e : ∀ j, j < n → g j = f j) : vp_cell cA (n, .inl g) = vp_cell cA (n, .inl f) := by
  rw [vp_cell_i, vp_cell_i]
  unfold arrV
  congr 1
  apply Array.ext
  · simp
  · intro i h1 h2
    simp only [Array.getElem_ofFn]
    rw [e i (by simpa using h1)]
theorem va_P.cong {D : va_G} {cl : List vw_C} {w : va_W} {H : Heap} (hP : va_P D cl w H) (k : Nat) {a : Nat} {cA : ClassId} {n : Nat} {f g : Nat → Int32} (h : w[k]? = some (a, .inl (cA, n, .inl f))) (e : ∀ j, j < n → g j = f j) : va_P D cl (w.set k (a, .inl (cA, n, .inl g))) H := by
  intro i q hi
  by_cases hik : i = k
  · subst hik
    have hl := (List.getElem?_eq_some_iff.mp h).1
    rw [List.getElem?_set_self hl] at hi
    cases hi
    have h1 := hP i _ h
    show H[a]? = some (vp_cell cA (n, .inl g))
    rw [vp_cell_cong e]
    exact h1
  · rw [List.getElem?_set_ne (fun z => hik z.symm)] at hi
    exact hP i q hi
theorem cpyall {f g : Nat → Int32} {s0 d0 n0 n : Nat} (hs : s0 = 0) (hd : d0 = 0) (hn : n0 = n) : ∀ j, j < n → f j = va_cpy f g s0 d0 n0 j := by
  intro j hj
  subst hs; subst hd; subst hn
  unfold va_cpy
  rw [if_pos ⟨Nat.zero_le _, by omega⟩]
  congr 1
  omega
def wR (cI cT : ClassId) (rr : Nat) (ra rb rc : Nat → Nat) (G : Nat → TV) : va_W := (rr, .inl (cT, 9, .inr (.inr (.inr (.inr (fun k => some (ra k))))))) :: (w3 cI (ra 0) (rb 0) (rc 0) (G 0) ++ w3 cI (ra 1) (rb 1) (rc 1) (G 1) ++ w3 cI (ra 2) (rb 2) (rc 2) (G 2) ++ w3 cI (ra 3) (rb 3) (rc 3) (G 3) ++ w3 cI (ra 4) (rb 4) (rc 4) (G 4) ++ w3 cI (ra 5) (rb 5) (rc 5) (G 5) ++ w3 cI (ra 6) (rb 6) (rc 6) (G 6) ++ w3 cI (ra 7) (rb 7) (rc 7) (G 7) ++ w3 cI (ra 8) (rb 8) (rc 8) (G 8))
def fX3_copy (T : TV) (O : TV) : TV := O
abbrev rmX3_copy : Room := { frames := 1, cells := 0, slots := 0, locals := 64 }
set_option maxHeartbeats 4000000 in
set_option maxRecDepth 100000 in
theorem kX3_copy (l : Launch) (D : va_G) (cI cC cT : ClassId) (h a b h2 a2 b2 : Nat) (T : TV) (O : TV)   : mU l D (TY cI cC cT) yX3_copy wsX3_copy rmX3_copy [.ref h, .ref h2] (w3 cI h a b T ++ w3 cI h2 a2 b2 O) none (w3 cI h a b (fX3_copy T O) ++ w3 cI h2 a2 b2 O) := by
  refine mU.ofW (cc := cX3_copy) (maxL := 2) (ret := none) (by decide) rfl (Nat.le_of_ble_eq_true rfl) ?_
  intro p e s m args below meth c Q ls A hx hb hml hr hlk hts hown hP hK hD hS hl hQ
  have hown : s.vm.findClass RX3 = some m.cls := hown
  have hP : va_P D vwCl [(h, .inr (4, [.ref a, .ref b, .int T.2.2.1, .int T.2.2.2.1, .int T.2.2.2.2.1, .int T.2.2.2.2.2.1, .int T.2.2.2.2.2.2.1, .int T.2.2.2.2.2.2.2])), (a, .inl (cI, 72, .inl T.1)), (b, .inl (cI, 36, .inl T.2.1)), (h2, .inr (4, [.ref a2, .ref b2, .int O.2.2.1, .int O.2.2.2.1, .int O.2.2.2.2.1, .int O.2.2.2.2.2.1, .int O.2.2.2.2.2.2.1, .int O.2.2.2.2.2.2.2])), (a2, .inl (cI, 72, .inl O.1)), (b2, .inl (cI, 36, .inl O.2.1))] s.heap := hP
  have hD : va_D A [(h, .inr (4, [.ref a, .ref b, .int T.2.2.1, .int T.2.2.2.1, .int T.2.2.2.2.1, .int T.2.2.2.2.2.1, .int T.2.2.2.2.2.2.1, .int T.2.2.2.2.2.2.2])), (a, .inl (cI, 72, .inl T.1)), (b, .inl (cI, 36, .inl T.2.1)), (h2, .inr (4, [.ref a2, .ref b2, .int O.2.2.1, .int O.2.2.2.1, .int O.2.2.2.2.1, .int O.2.2.2.2.2.1, .int O.2.2.2.2.2.2.1, .int O.2.2.2.2.2.2.2])), (a2, .inl (cI, 72, .inl O.1)), (b2, .inl (cI, 36, .inl O.2.1))] := hD
  have hl : lv_has ls 2 [(0, .ref h), (1, .ref h2)] := hl
  have q0 := hts (Cond.fieldLink RX3 11 "TavernStools$Tavern" "stoolRow" "[I") (by decide +kernel)
  have q1 : ∀ w ∈ u_ws RX3 TX3 8, w ∈ wsX3_copy := by decide +kernel
  have q2 := hts (Cond.methodLink RX3 37 Lib.Math.min.name) (by decide +kernel)
  have q3 := hts (Cond.static Lib.Math.min.name) (by decide +kernel)
  have q4 := hts (Cond.initialized "java/lang/Math") (by decide +kernel)
  have q5 := hts (Cond.code Lib.Math.min.name Lib.Math.min.code 2 (some .int)) (by decide +kernel)
  have q6 := hts (Cond.methodLink RX3 43 arraycopyName) (by decide +kernel)
  have q7 := hts (Cond.native arraycopyName) (by decide +kernel)
  have q8 := hts (Cond.static arraycopyName) (by decide +kernel)
  have q9 := hts (Cond.initialized "java/lang/System") (by decide +kernel)
  have q10 := hts (Cond.fieldLink RX3 15 "TavernStools$Tavern" "sitterRow" "[I") (by decide +kernel)
  have q11 := hts (Cond.fieldLink RX3 18 "TavernStools$Tavern" "stools" "I") (by decide +kernel)
  have q12 := hts (Cond.fieldLink RX3 22 "TavernStools$Tavern" "sitters" "I") (by decide +kernel)
  have q13 := hts (Cond.fieldLink RX3 25 "TavernStools$Tavern" "purse" "I") (by decide +kernel)
  have q14 := hts (Cond.fieldLink RX3 28 "TavernStools$Tavern" "nights" "I") (by decide +kernel)
  have q15 := hts (Cond.fieldLink RX3 31 "TavernStools$Tavern" "brawls" "I") (by decide +kernel)
  have q16 := hts (Cond.fieldLink RX3 34 "TavernStools$Tavern" "brought" "I") (by decide +kernel)
  generalize hHe : s.heap = H at hP ⊢
  have hS : va_S A s.heap H [] := hHe ▸ hS
  generalize hLe : ([] : List Loc) = locs at hS ⊢
  refine lv_aload_n hx hb dX3_copy_0 rfl (lv_at hl 1 rfl) ?_
  refine va_get (D := D) (ci := 4) (v := .ref a2) (C := RX3) (T := TX3) (N := 8) hx hb hts q1 hown hK hP 3 rfl rfl 0 (by decide) q0 (fun _ h9 => h9) rfl dX3_copy_1 ?_
  refine lv_iconst (v := 0) hx hb dX3_copy_4 (by decide) ?_
  refine lv_aload_n hx hb dX3_copy_5 rfl (lv_at hl 0 rfl) ?_
  refine va_get (D := D) (ci := 4) (v := .ref a) (C := RX3) (T := TX3) (N := 8) hx hb hts q1 hown hK hP 0 rfl rfl 0 (by decide) q0 (fun _ h9 => h9) rfl dX3_copy_6 ?_
  refine lv_iconst (v := 0) hx hb dX3_copy_9 (by decide) ?_
  refine lv_aload_n hx hb dX3_copy_10 rfl (lv_at hl 1 rfl) ?_
  refine va_get (D := D) (ci := 4) (v := .ref a2) (C := RX3) (T := TX3) (N := 8) hx hb hts q1 hown hK hP 3 rfl rfl 0 (by decide) q0 (fun _ h9 => h9) rfl dX3_copy_11 ?_
  refine va_alen (v := 72) hx hb hK hP 4 0 rfl rfl rfl dX3_copy_14 ?_
  refine lv_aload_n hx hb dX3_copy_15 rfl (lv_at hl 0 rfl) ?_
  refine va_get (D := D) (ci := 4) (v := .ref a) (C := RX3) (T := TX3) (N := 8) hx hb hts q1 hown hK hP 0 rfl rfl 0 (by decide) q0 (fun _ h9 => h9) rfl dX3_copy_16 ?_
  refine va_alen (v := 72) hx hb hK hP 1 0 rfl rfl rfl dX3_copy_19 ?_
  refine va_mmin (y := 72) (x := 72) hx hb (hml.trans hl.1.symm) hown q2 q3 q4 q5 (Nat.le_of_ble_eq_true rfl) (Nat.le_of_ble_eq_true rfl) (Nat.zero_le _) (Nat.zero_le _) dX3_copy_20 ?_
  rw [show (if (72 : Int32) < 72 then (72 : Int32) else 72) = 72 from by decide]
  refine va_copyi hx hb (hml.trans hl.1.symm) hown q6 q7 q8 q9 hK hP hD hS 4 1 0 0 rfl rfl rfl rfl rfl (by decide) (by decide) (by decide) (by decide) (by decide) (fun _ _ => rfl) (Nat.le_of_ble_eq_true rfl) (by decide) dX3_copy_23 (fun H locs hP hD hS => ?_)
  have hP : va_P D vwCl [(h, .inr (4, [.ref a, .ref b, .int T.2.2.1, .int T.2.2.2.1, .int T.2.2.2.2.1, .int T.2.2.2.2.2.1, .int T.2.2.2.2.2.2.1, .int T.2.2.2.2.2.2.2])), (a, .inl (cI, 72, .inl O.1)), (b, .inl (cI, 36, .inl T.2.1)), (h2, .inr (4, [.ref a2, .ref b2, .int O.2.2.1, .int O.2.2.2.1, .int O.2.2.2.2.1, .int O.2.2.2.2.2.1, .int O.2.2.2.2.2.2.1, .int O.2.2.2.2.2.2.2])), (a2, .inl (cI, 72, .inl O.1)), (b2, .inl (cI, 36, .inl O.2.1))] H := hP.cong 1 rfl (cpyall (by decide) (by decide) (by decide))
  have hD : va_D A [(h, .inr (4, [.ref a, .ref b, .int T.2.2.1, .int T.2.2.2.1, .int T.2.2.2.2.1, .int T.2.2.2.2.2.1, .int T.2.2.2.2.2.2.1, .int T.2.2.2.2.2.2.2])), (a, .inl (cI, 72, .inl O.1)), (b, .inl (cI, 36, .inl T.2.1)), (h2, .inr (4, [.ref a2, .ref b2, .int O.2.2.1, .int O.2.2.2.1, .int O.2.2.2.2.1, .int O.2.2.2.2.2.1, .int O.2.2.2.2.2.2.1, .int O.2.2.2.2.2.2.2])), (a2, .inl (cI, 72, .inl O.1)), (b2, .inl (cI, 36, .inl O.2.1))] := hD.adr rfl
  refine lv_aload_n hx hb dX3_copy_26 rfl (lv_at hl 1 rfl) ?_
  refine va_get (D := D) (ci := 4) (v := .ref b2) (C := RX3) (T := TX3) (N := 8) hx hb hts q1 hown hK hP 3 rfl rfl 1 (by decide) q10 (fun _ h9 => h9) rfl dX3_copy_27 ?_
  refine lv_iconst (v := 0) hx hb dX3_copy_30 (by decide) ?_
  refine lv_aload_n hx hb dX3_copy_31 rfl (lv_at hl 0 rfl) ?_
  refine va_get (D := D) (ci := 4) (v := .ref b) (C := RX3) (T := TX3) (N := 8) hx hb hts q1 hown hK hP 0 rfl rfl 1 (by decide) q10 (fun _ h9 => h9) rfl dX3_copy_32 ?_
  refine lv_iconst (v := 0) hx hb dX3_copy_35 (by decide) ?_
  refine lv_aload_n hx hb dX3_copy_36 rfl (lv_at hl 1 rfl) ?_
  refine va_get (D := D) (ci := 4) (v := .ref b2) (C := RX3) (T := TX3) (N := 8) hx hb hts q1 hown hK hP 3 rfl rfl 1 (by decide) q10 (fun _ h9 => h9) rfl dX3_copy_37 ?_
  refine va_alen (v := 36) hx hb hK hP 5 0 rfl rfl rfl dX3_copy_40 ?_
  refine lv_aload_n hx hb dX3_copy_41 rfl (lv_at hl 0 rfl) ?_
  refine va_get (D := D) (ci := 4) (v := .ref b) (C := RX3) (T := TX3) (N := 8) hx hb hts q1 hown hK hP 0 rfl rfl 1 (by decide) q10 (fun _ h9 => h9) rfl dX3_copy_42 ?_
  refine va_alen (v := 36) hx hb hK hP 2 0 rfl rfl rfl dX3_copy_45 ?_
  refine va_mmin (y := 36) (x := 36) hx hb (hml.trans hl.1.symm) hown q2 q3 q4 q5 (Nat.le_of_ble_eq_true rfl) (Nat.le_of_ble_eq_true rfl) (Nat.zero_le _) (Nat.zero_le _) dX3_copy_46 ?_
  rw [show (if (36 : Int32) < 36 then (36 : Int32) else 36) = 36 from by decide]
  refine va_copyi hx hb (hml.trans hl.1.symm) hown q6 q7 q8 q9 hK hP hD hS 5 2 0 0 rfl rfl rfl rfl rfl (by decide) (by decide) (by decide) (by decide) (by decide) (fun _ _ => rfl) (Nat.le_of_ble_eq_true rfl) (by decide) dX3_copy_49 (fun H locs hP hD hS => ?_)
  have hP : va_P D vwCl [(h, .inr (4, [.ref a, .ref b, .int T.2.2.1, .int T.2.2.2.1, .int T.2.2.2.2.1, .int T.2.2.2.2.2.1, .int T.2.2.2.2.2.2.1, .int T.2.2.2.2.2.2.2])), (a, .inl (cI, 72, .inl O.1)), (b, .inl (cI, 36, .inl O.2.1)), (h2, .inr (4, [.ref a2, .ref b2, .int O.2.2.1, .int O.2.2.2.1, .int O.2.2.2.2.1, .int O.2.2.2.2.2.1, .int O.2.2.2.2.2.2.1, .int O.2.2.2.2.2.2.2])), (a2, .inl (cI, 72, .inl O.1)), (b2, .inl (cI, 36, .inl O.2.1))] H := hP.cong 2 rfl (cpyall (by decide) (by decide) (by decide))
  have hD : va_D A [(h, .inr (4, [.ref a, .ref b, .int T.2.2.1, .int T.2.2.2.1, .int T.2.2.2.2.1, .int T.2.2.2.2.2.1, .int T.2.2.2.2.2.2.1, .int T.2.2.2.2.2.2.2])), (a, .inl (cI, 72, .inl O.1)), (b, .inl (cI, 36, .inl O.2.1)), (h2, .inr (4, [.ref a2, .ref b2, .int O.2.2.1, .int O.2.2.2.1, .int O.2.2.2.2.1, .int O.2.2.2.2.2.1, .int O.2.2.2.2.2.2.1, .int O.2.2.2.2.2.2.2])), (a2, .inl (cI, 72, .inl O.1)), (b2, .inl (cI, 36, .inl O.2.1))] := hD.adr rfl
  refine lv_aload_n hx hb dX3_copy_52 rfl (lv_at hl 0 rfl) ?_
  refine lv_aload_n hx hb dX3_copy_53 rfl (lv_at hl 1 rfl) ?_
  refine va_get (D := D) (ci := 4) (v := .int O.2.2.1) (C := RX3) (T := TX3) (N := 8) hx hb hts q1 hown hK hP 3 rfl rfl 2 (by decide) q11 (fun _ h9 => h9) rfl dX3_copy_54 ?_
  refine va_put (D := D) (ci := 4) (v := .int O.2.2.1) (ty := .int) (C := RX3) (T := TX3) (N := 8) hx hb hts q1 tyX3 tyX3_ok nmX3 hown hK hP hD hS 0 rfl rfl 2 (by decide) q11 (fun _ h9 => h9) rfl (by decide +kernel) rfl rfl (Nat.le_of_ble_eq_true rfl) dX3_copy_57 (fun H locs hP hD hS => ?_)
  have hP : va_P D vwCl [(h, .inr (4, [.ref a, .ref b, .int O.2.2.1, .int T.2.2.2.1, .int T.2.2.2.2.1, .int T.2.2.2.2.2.1, .int T.2.2.2.2.2.2.1, .int T.2.2.2.2.2.2.2])), (a, .inl (cI, 72, .inl O.1)), (b, .inl (cI, 36, .inl O.2.1)), (h2, .inr (4, [.ref a2, .ref b2, .int O.2.2.1, .int O.2.2.2.1, .int O.2.2.2.2.1, .int O.2.2.2.2.2.1, .int O.2.2.2.2.2.2.1, .int O.2.2.2.2.2.2.2])), (a2, .inl (cI, 72, .inl O.1)), (b2, .inl (cI, 36, .inl O.2.1))] H := hP
  have hD : va_D A [(h, .inr (4, [.ref a, .ref b, .int O.2.2.1, .int T.2.2.2.1, .int T.2.2.2.2.1, .int T.2.2.2.2.2.1, .int T.2.2.2.2.2.2.1, .int T.2.2.2.2.2.2.2])), (a, .inl (cI, 72, .inl O.1)), (b, .inl (cI, 36, .inl O.2.1)), (h2, .inr (4, [.ref a2, .ref b2, .int O.2.2.1, .int O.2.2.2.1, .int O.2.2.2.2.1, .int O.2.2.2.2.2.1, .int O.2.2.2.2.2.2.1, .int O.2.2.2.2.2.2.2])), (a2, .inl (cI, 72, .inl O.1)), (b2, .inl (cI, 36, .inl O.2.1))] := hD
  refine lv_aload_n hx hb dX3_copy_60 rfl (lv_at hl 0 rfl) ?_
  refine lv_aload_n hx hb dX3_copy_61 rfl (lv_at hl 1 rfl) ?_
  refine va_get (D := D) (ci := 4) (v := .int O.2.2.2.1) (C := RX3) (T := TX3) (N := 8) hx hb hts q1 hown hK hP 3 rfl rfl 3 (by decide) q12 (fun _ h9 => h9) rfl dX3_copy_62 ?_
  refine va_put (D := D) (ci := 4) (v := .int O.2.2.2.1) (ty := .int) (C := RX3) (T := TX3) (N := 8) hx hb hts q1 tyX3 tyX3_ok nmX3 hown hK hP hD hS 0 rfl rfl 3 (by decide) q12 (fun _ h9 => h9) rfl (by decide +kernel) rfl rfl (Nat.le_of_ble_eq_true rfl) dX3_copy_65 (fun H locs hP hD hS => ?_)
  have hP : va_P D vwCl [(h, .inr (4, [.ref a, .ref b, .int O.2.2.1, .int O.2.2.2.1, .int T.2.2.2.2.1, .int T.2.2.2.2.2.1, .int T.2.2.2.2.2.2.1, .int T.2.2.2.2.2.2.2])), (a, .inl (cI, 72, .inl O.1)), (b, .inl (cI, 36, .inl O.2.1)), (h2, .inr (4, [.ref a2, .ref b2, .int O.2.2.1, .int O.2.2.2.1, .int O.2.2.2.2.1, .int O.2.2.2.2.2.1, .int O.2.2.2.2.2.2.1, .int O.2.2.2.2.2.2.2])), (a2, .inl (cI, 72, .inl O.1)), (b2, .inl (cI, 36, .inl O.2.1))] H := hP
  have hD : va_D A [(h, .inr (4, [.ref a, .ref b, .int O.2.2.1, .int O.2.2.2.1, .int T.2.2.2.2.1, .int T.2.2.2.2.2.1, .int T.2.2.2.2.2.2.1, .int T.2.2.2.2.2.2.2])), (a, .inl (cI, 72, .inl O.1)), (b, .inl (cI, 36, .inl O.2.1)), (h2, .inr (4, [.ref a2, .ref b2, .int O.2.2.1, .int O.2.2.2.1, .int O.2.2.2.2.1, .int O.2.2.2.2.2.1, .int O.2.2.2.2.2.2.1, .int O.2.2.2.2.2.2.2])), (a2, .inl (cI, 72, .inl O.1)), (b2, .inl (cI, 36, .inl O.2.1))] := hD
  refine lv_aload_n hx hb dX3_copy_68 rfl (lv_at hl 0 rfl) ?_
  refine lv_aload_n hx hb dX3_copy_69 rfl (lv_at hl 1 rfl) ?_
  refine va_get (D := D) (ci := 4) (v := .int O.2.2.2.2.1) (C := RX3) (T := TX3) (N := 8) hx hb hts q1 hown hK hP 3 rfl rfl 4 (by decide) q13 (fun _ h9 => h9) rfl dX3_copy_70 ?_
  refine va_put (D := D) (ci := 4) (v := .int O.2.2.2.2.1) (ty := .int) (C := RX3) (T := TX3) (N := 8) hx hb hts q1 tyX3 tyX3_ok nmX3 hown hK hP hD hS 0 rfl rfl 4 (by decide) q13 (fun _ h9 => h9) rfl (by decide +kernel) rfl rfl (Nat.le_of_ble_eq_true rfl) dX3_copy_73 (fun H locs hP hD hS => ?_)
  have hP : va_P D vwCl [(h, .inr (4, [.ref a, .ref b, .int O.2.2.1, .int O.2.2.2.1, .int O.2.2.2.2.1, .int T.2.2.2.2.2.1, .int T.2.2.2.2.2.2.1, .int T.2.2.2.2.2.2.2])), (a, .inl (cI, 72, .inl O.1)), (b, .inl (cI, 36, .inl O.2.1)), (h2, .inr (4, [.ref a2, .ref b2, .int O.2.2.1, .int O.2.2.2.1, .int O.2.2.2.2.1, .int O.2.2.2.2.2.1, .int O.2.2.2.2.2.2.1, .int O.2.2.2.2.2.2.2])), (a2, .inl (cI, 72, .inl O.1)), (b2, .inl (cI, 36, .inl O.2.1))] H := hP
  have hD : va_D A [(h, .inr (4, [.ref a, .ref b, .int O.2.2.1, .int O.2.2.2.1, .int O.2.2.2.2.1, .int T.2.2.2.2.2.1, .int T.2.2.2.2.2.2.1, .int T.2.2.2.2.2.2.2])), (a, .inl (cI, 72, .inl O.1)), (b, .inl (cI, 36, .inl O.2.1)), (h2, .inr (4, [.ref a2, .ref b2, .int O.2.2.1, .int O.2.2.2.1, .int O.2.2.2.2.1, .int O.2.2.2.2.2.1, .int O.2.2.2.2.2.2.1, .int O.2.2.2.2.2.2.2])), (a2, .inl (cI, 72, .inl O.1)), (b2, .inl (cI, 36, .inl O.2.1))] := hD
  refine lv_aload_n hx hb dX3_copy_76 rfl (lv_at hl 0 rfl) ?_
  refine lv_aload_n hx hb dX3_copy_77 rfl (lv_at hl 1 rfl) ?_
  refine va_get (D := D) (ci := 4) (v := .int O.2.2.2.2.2.1) (C := RX3) (T := TX3) (N := 8) hx hb hts q1 hown hK hP 3 rfl rfl 5 (by decide) q14 (fun _ h9 => h9) rfl dX3_copy_78 ?_
  refine va_put (D := D) (ci := 4) (v := .int O.2.2.2.2.2.1) (ty := .int) (C := RX3) (T := TX3) (N := 8) hx hb hts q1 tyX3 tyX3_ok nmX3 hown hK hP hD hS 0 rfl rfl 5 (by decide) q14 (fun _ h9 => h9) rfl (by decide +kernel) rfl rfl (Nat.le_of_ble_eq_true rfl) dX3_copy_81 (fun H locs hP hD hS => ?_)
  have hP : va_P D vwCl [(h, .inr (4, [.ref a, .ref b, .int O.2.2.1, .int O.2.2.2.1, .int O.2.2.2.2.1, .int O.2.2.2.2.2.1, .int T.2.2.2.2.2.2.1, .int T.2.2.2.2.2.2.2])), (a, .inl (cI, 72, .inl O.1)), (b, .inl (cI, 36, .inl O.2.1)), (h2, .inr (4, [.ref a2, .ref b2, .int O.2.2.1, .int O.2.2.2.1, .int O.2.2.2.2.1, .int O.2.2.2.2.2.1, .int O.2.2.2.2.2.2.1, .int O.2.2.2.2.2.2.2])), (a2, .inl (cI, 72, .inl O.1)), (b2, .inl (cI, 36, .inl O.2.1))] H := hP
  have hD : va_D A [(h, .inr (4, [.ref a, .ref b, .int O.2.2.1, .int O.2.2.2.1, .int O.2.2.2.2.1, .int O.2.2.2.2.2.1, .int T.2.2.2.2.2.2.1, .int T.2.2.2.2.2.2.2])), (a, .inl (cI, 72, .inl O.1)), (b, .inl (cI, 36, .inl O.2.1)), (h2, .inr (4, [.ref a2, .ref b2, .int O.2.2.1, .int O.2.2.2.1, .int O.2.2.2.2.1, .int O.2.2.2.2.2.1, .int O.2.2.2.2.2.2.1, .int O.2.2.2.2.2.2.2])), (a2, .inl (cI, 72, .inl O.1)), (b2, .inl (cI, 36, .inl O.2.1))] := hD
  refine lv_aload_n hx hb dX3_copy_84 rfl (lv_at hl 0 rfl) ?_
  refine lv_aload_n hx hb dX3_copy_85 rfl (lv_at hl 1 rfl) ?_
  refine va_get (D := D) (ci := 4) (v := .int O.2.2.2.2.2.2.1) (C := RX3) (T := TX3) (N := 8) hx hb hts q1 hown hK hP 3 rfl rfl 6 (by decide) q15 (fun _ h9 => h9) rfl dX3_copy_86 ?_
  refine va_put (D := D) (ci := 4) (v := .int O.2.2.2.2.2.2.1) (ty := .int) (C := RX3) (T := TX3) (N := 8) hx hb hts q1 tyX3 tyX3_ok nmX3 hown hK hP hD hS 0 rfl rfl 6 (by decide) q15 (fun _ h9 => h9) rfl (by decide +kernel) rfl rfl (Nat.le_of_ble_eq_true rfl) dX3_copy_89 (fun H locs hP hD hS => ?_)
  have hP : va_P D vwCl [(h, .inr (4, [.ref a, .ref b, .int O.2.2.1, .int O.2.2.2.1, .int O.2.2.2.2.1, .int O.2.2.2.2.2.1, .int O.2.2.2.2.2.2.1, .int T.2.2.2.2.2.2.2])), (a, .inl (cI, 72, .inl O.1)), (b, .inl (cI, 36, .inl O.2.1)), (h2, .inr (4, [.ref a2, .ref b2, .int O.2.2.1, .int O.2.2.2.1, .int O.2.2.2.2.1, .int O.2.2.2.2.2.1, .int O.2.2.2.2.2.2.1, .int O.2.2.2.2.2.2.2])), (a2, .inl (cI, 72, .inl O.1)), (b2, .inl (cI, 36, .inl O.2.1))] H := hP
  have hD : va_D A [(h, .inr (4, [.ref a, .ref b, .int O.2.2.1, .int O.2.2.2.1, .int O.2.2.2.2.1, .int O.2.2.2.2.2.1, .int O.2.2.2.2.2.2.1, .int T.2.2.2.2.2.2.2])), (a, .inl (cI, 72, .inl O.1)), (b, .inl (cI, 36, .inl O.2.1)), (h2, .inr (4, [.ref a2, .ref b2, .int O.2.2.1, .int O.2.2.2.1, .int O.2.2.2.2.1, .int O.2.2.2.2.2.1, .int O.2.2.2.2.2.2.1, .int O.2.2.2.2.2.2.2])), (a2, .inl (cI, 72, .inl O.1)), (b2, .inl (cI, 36, .inl O.2.1))] := hD
  refine lv_aload_n hx hb dX3_copy_92 rfl (lv_at hl 0 rfl) ?_
  refine lv_aload_n hx hb dX3_copy_93 rfl (lv_at hl 1 rfl) ?_
  refine va_get (D := D) (ci := 4) (v := .int O.2.2.2.2.2.2.2) (C := RX3) (T := TX3) (N := 8) hx hb hts q1 hown hK hP 3 rfl rfl 7 (by decide) q16 (fun _ h9 => h9) rfl dX3_copy_94 ?_
  refine va_put (D := D) (ci := 4) (v := .int O.2.2.2.2.2.2.2) (ty := .int) (C := RX3) (T := TX3) (N := 8) hx hb hts q1 tyX3 tyX3_ok nmX3 hown hK hP hD hS 0 rfl rfl 7 (by decide) q16 (fun _ h9 => h9) rfl (by decide +kernel) rfl rfl (Nat.le_of_ble_eq_true rfl) dX3_copy_97 (fun H locs hP hD hS => ?_)
  have hP : va_P D vwCl [(h, .inr (4, [.ref a, .ref b, .int O.2.2.1, .int O.2.2.2.1, .int O.2.2.2.2.1, .int O.2.2.2.2.2.1, .int O.2.2.2.2.2.2.1, .int O.2.2.2.2.2.2.2])), (a, .inl (cI, 72, .inl O.1)), (b, .inl (cI, 36, .inl O.2.1)), (h2, .inr (4, [.ref a2, .ref b2, .int O.2.2.1, .int O.2.2.2.1, .int O.2.2.2.2.1, .int O.2.2.2.2.2.1, .int O.2.2.2.2.2.2.1, .int O.2.2.2.2.2.2.2])), (a2, .inl (cI, 72, .inl O.1)), (b2, .inl (cI, 36, .inl O.2.1))] H := hP
  have hD : va_D A [(h, .inr (4, [.ref a, .ref b, .int O.2.2.1, .int O.2.2.2.1, .int O.2.2.2.2.1, .int O.2.2.2.2.2.1, .int O.2.2.2.2.2.2.1, .int O.2.2.2.2.2.2.2])), (a, .inl (cI, 72, .inl O.1)), (b, .inl (cI, 36, .inl O.2.1)), (h2, .inr (4, [.ref a2, .ref b2, .int O.2.2.1, .int O.2.2.2.1, .int O.2.2.2.2.1, .int O.2.2.2.2.2.1, .int O.2.2.2.2.2.2.1, .int O.2.2.2.2.2.2.2])), (a2, .inl (cI, 72, .inl O.1)), (b2, .inl (cI, 36, .inl O.2.1))] := hD
  have e9 : fX3_copy T O = O := by rw [fX3_copy]
  exact rUv hx hb hr hlk hQ hP hS (congrArg (fun z9 : TV => w3 cI h a b z9 ++ w3 cI h2 a2 b2 O) e9).symm dX3_copy_100
theorem dJ9_floorMod_7cf53_0 : decode cJ9_floorMod_7cf53 0 = .ok (.iload_n 0, 1) := by decide +kernel
theorem dJ9_floorMod_7cf53_1 : decode cJ9_floorMod_7cf53 1 = .ok (.iload_n 1, 1) := by decide +kernel
theorem dJ9_floorMod_7cf53_2 : decode cJ9_floorMod_7cf53 2 = .ok (.irem, 1) := by decide +kernel
theorem dJ9_floorMod_7cf53_3 : decode cJ9_floorMod_7cf53 3 = .ok (.istore_n 2, 1) := by decide +kernel
theorem dJ9_floorMod_7cf53_4 : decode cJ9_floorMod_7cf53 4 = .ok (.iload_n 0, 1) := by decide +kernel
theorem dJ9_floorMod_7cf53_5 : decode cJ9_floorMod_7cf53 5 = .ok (.iload_n 1, 1) := by decide +kernel
theorem dJ9_floorMod_7cf53_6 : decode cJ9_floorMod_7cf53 6 = .ok (.ixor, 1) := by decide +kernel
theorem dJ9_floorMod_7cf53_7 : decode cJ9_floorMod_7cf53 7 = .ok (.ifCond .ge 11, 3) := by decide +kernel
theorem dJ9_floorMod_7cf53_10 : decode cJ9_floorMod_7cf53 10 = .ok (.iload_n 2, 1) := by decide +kernel
theorem dJ9_floorMod_7cf53_11 : decode cJ9_floorMod_7cf53 11 = .ok (.ifCond .eq 7, 3) := by decide +kernel
theorem dJ9_floorMod_7cf53_14 : decode cJ9_floorMod_7cf53 14 = .ok (.iload_n 2, 1) := by decide +kernel
theorem dJ9_floorMod_7cf53_15 : decode cJ9_floorMod_7cf53 15 = .ok (.iload_n 1, 1) := by decide +kernel
theorem dJ9_floorMod_7cf53_16 : decode cJ9_floorMod_7cf53 16 = .ok (.iadd, 1) := by decide +kernel
theorem dJ9_floorMod_7cf53_17 : decode cJ9_floorMod_7cf53 17 = .ok (.ireturn, 1) := by decide +kernel
theorem dJ9_floorMod_7cf53_18 : decode cJ9_floorMod_7cf53 18 = .ok (.iload_n 2, 1) := by decide +kernel
theorem dJ9_floorMod_7cf53_19 : decode cJ9_floorMod_7cf53 19 = .ok (.ireturn, 1) := by decide +kernel
def fJ9_floorMod_7cf53  (x1 : Int32) (x2 : Int32) : Int32 := (if 0 ≤ (x1 ^^^ x2) then (x1 - x1 / x2 * x2) else (if (x1 - x1 / x2 * x2) = 0 then (x1 - x1 / x2 * x2) else ((x1 - x1 / x2 * x2) + x2)))
abbrev rmJ9_floorMod_7cf53 : Room := { frames := 0, cells := 0, slots := 0, locals := 0 }
set_option maxHeartbeats 4000000 in
set_option maxRecDepth 100000 in
theorem kJ9_floorMod_7cf53 (l : Launch) (D : va_G) (cI cC cT : ClassId)  (x1 : Int32) (x2 : Int32) (h9 : ¬ x2 = 0) : mR l D (TY cI cC cT) yJ9_floorMod_7cf53 wsJ9_floorMod_7cf53 rmJ9_floorMod_7cf53 [.int x1, .int x2] ([]) (some (.int (fJ9_floorMod_7cf53 x1 x2))) := by
  refine mR.ofWF (cc := cJ9_floorMod_7cf53) (maxL := 3) (ret := (some .int)) (by decide +kernel) rfl (Nat.le_of_ble_eq_true rfl) ?_
  intro p e s m args below meth c Q ls hx hb hml hr hlk hts hown hP hK hl hQ
  have hown : s.vm.findClass RJ9 = some m.cls := hown
  have hP : va_P D vwCl [] s.heap := hP
  have hl : lv_has ls 3 [(0, .int x1), (1, .int x2)] := hl
  refine lv_iload_n hx hb dJ9_floorMod_7cf53_0 rfl (lv_at hl 0 rfl) ?_
  refine lv_iload_n hx hb dJ9_floorMod_7cf53_1 rfl (lv_at hl 1 rfl) ?_
  refine lv_irem hx hb dJ9_floorMod_7cf53_2 h9 ?_
  refine lv_istore_n (lv' := [(2, .int (x1 - x1 / x2 * x2)), (0, .int x1), (1, .int x2)]) hx hb dJ9_floorMod_7cf53_3 rfl hl (by decide) rfl (fun ls hl => ?_)
  refine lv_iload_n hx hb dJ9_floorMod_7cf53_4 rfl (lv_at hl 1 rfl) ?_
  refine lv_iload_n hx hb dJ9_floorMod_7cf53_5 rfl (lv_at hl 2 rfl) ?_
  refine lv_ixor hx hb dJ9_floorMod_7cf53_6 ?_
  refine lv_if_ge (tgt := 18) hx hb dJ9_floorMod_7cf53_7 (by decide) (fun c_7 => ?_) (fun c_7 => ?_)
  · refine lv_iload_n hx hb dJ9_floorMod_7cf53_18 rfl (lv_at hl 0 rfl) ?_
    exact rRi hx hb hr hlk hQ (by rw [fJ9_floorMod_7cf53, if_pos c_7]) rfl dJ9_floorMod_7cf53_19
  · refine lv_iload_n hx hb dJ9_floorMod_7cf53_10 rfl (lv_at hl 0 rfl) ?_
    refine lv_if_eq (tgt := 18) hx hb dJ9_floorMod_7cf53_11 (by decide) (fun c_11 => ?_) (fun c_11 => ?_)
    · refine lv_iload_n hx hb dJ9_floorMod_7cf53_18 rfl (lv_at hl 0 rfl) ?_
      exact rRi hx hb hr hlk hQ (by rw [fJ9_floorMod_7cf53, if_neg c_7, if_pos c_11]) rfl dJ9_floorMod_7cf53_19
    · refine lv_iload_n hx hb dJ9_floorMod_7cf53_14 rfl (lv_at hl 0 rfl) ?_
      refine lv_iload_n hx hb dJ9_floorMod_7cf53_15 rfl (lv_at hl 2 rfl) ?_
      refine lv_iadd hx hb dJ9_floorMod_7cf53_16 ?_
      exact rRi hx hb hr hlk hQ (by rw [fJ9_floorMod_7cf53, if_neg c_7, if_neg c_11]) rfl dJ9_floorMod_7cf53_17
def fX1_keep (S : HV)  : HV := (((S.1 + 1) - (S.1 + 1) / 9 * 9), (if (S.2 + 1) < 8 then (S.2 + 1) else 8))
abbrev rmX1_keep : Room := { frames := 1, cells := 0, slots := 0, locals := 21 }
set_option maxHeartbeats 4000000 in
set_option maxRecDepth 100000 in
theorem kX1_keep (l : Launch) (D : va_G) (cI cC cT : ClassId) (h rr : Nat) (S : HV)   : mU l D (TY cI cC cT) yX1_keep wsX1_keep rmX1_keep [.ref h] (w1 h rr S) none (w1 h rr (fX1_keep S)) := by
  refine mU.ofW (cc := cX1_keep) (maxL := 1) (ret := none) (by decide) rfl (Nat.le_of_ble_eq_true rfl) ?_
  intro p e s m args below meth c Q ls A hx hb hml hr hlk hts hown hP hK hD hS hl hQ
  have hown : s.vm.findClass RX1 = some m.cls := hown
  have hP : va_P D vwCl [(h, .inr (2, [.ref rr, .int S.1, .int S.2]))] s.heap := hP
  have hD : va_D A [(h, .inr (2, [.ref rr, .int S.1, .int S.2]))] := hD
  have hl : lv_has ls 1 [(0, .ref h)] := hl
  have q0 := hts (Cond.fieldLink RX1 15 "TavernStools$History" "next" "I") (by decide +kernel)
  have q1 : ∀ w ∈ u_ws RX1 TX1 3, w ∈ wsX1_keep := by decide +kernel
  have q2 := hts (Cond.fieldLink RX1 19 "TavernStools$History" "kept" "I") (by decide +kernel)
  have q3 := hts (Cond.methodLink RX1 33 Lib.Math.min.name) (by decide +kernel)
  have q4 := hts (Cond.static Lib.Math.min.name) (by decide +kernel)
  have q5 := hts (Cond.initialized "java/lang/Math") (by decide +kernel)
  have q6 := hts (Cond.code Lib.Math.min.name Lib.Math.min.code 2 (some .int)) (by decide +kernel)
  generalize hHe : s.heap = H at hP ⊢
  have hS : va_S A s.heap H [] := hHe ▸ hS
  generalize hLe : ([] : List Loc) = locs at hS ⊢
  refine lv_aload_n hx hb dX1_keep_0 rfl (lv_at hl 0 rfl) ?_
  refine lv_aload_n hx hb dX1_keep_1 rfl (lv_at hl 0 rfl) ?_
  refine va_get (D := D) (ci := 2) (v := .int S.1) (C := RX1) (T := TX1) (N := 3) hx hb hts q1 hown hK hP 0 rfl rfl 1 (by decide) q0 (fun _ h9 => h9) rfl dX1_keep_2 ?_
  refine lv_iconst (v := 1) hx hb dX1_keep_5 (by decide) ?_
  refine lv_iadd hx hb dX1_keep_6 ?_
  refine lv_bipush (v := 9) hx hb dX1_keep_7 (by decide) ?_
  refine lv_irem hx hb dX1_keep_9 (by decide) ?_
  refine va_put (D := D) (ci := 2) (v := .int ((S.1 + 1) - (S.1 + 1) / 9 * 9)) (ty := .int) (C := RX1) (T := TX1) (N := 3) hx hb hts q1 tyX1 tyX1_ok nmX1 hown hK hP hD hS 0 rfl rfl 1 (by decide) q0 (fun _ h9 => h9) rfl (by decide +kernel) rfl rfl (Nat.le_of_ble_eq_true rfl) dX1_keep_10 (fun H locs hP hD hS => ?_)
  have hP : va_P D vwCl [(h, .inr (2, [.ref rr, .int ((S.1 + 1) - (S.1 + 1) / 9 * 9), .int S.2]))] H := hP
  have hD : va_D A [(h, .inr (2, [.ref rr, .int ((S.1 + 1) - (S.1 + 1) / 9 * 9), .int S.2]))] := hD
  refine lv_aload_n hx hb dX1_keep_13 rfl (lv_at hl 0 rfl) ?_
  refine lv_bipush (v := 8) hx hb dX1_keep_14 (by decide) ?_
  refine lv_aload_n hx hb dX1_keep_16 rfl (lv_at hl 0 rfl) ?_
  refine va_get (D := D) (ci := 2) (v := .int S.2) (C := RX1) (T := TX1) (N := 3) hx hb hts q1 hown hK hP 0 rfl rfl 2 (by decide) q2 (fun _ h9 => h9) rfl dX1_keep_17 ?_
  refine lv_iconst (v := 1) hx hb dX1_keep_20 (by decide) ?_
  refine lv_iadd hx hb dX1_keep_21 ?_
  refine va_mmin (y := (S.2 + 1)) (x := 8) hx hb (hml.trans hl.1.symm) hown q3 q4 q5 q6 (Nat.le_of_ble_eq_true rfl) (Nat.le_of_ble_eq_true rfl) (Nat.zero_le _) (Nat.zero_le _) dX1_keep_22 ?_
  refine va_put (D := D) (ci := 2) (v := .int (if (S.2 + 1) < 8 then (S.2 + 1) else 8)) (ty := .int) (C := RX1) (T := TX1) (N := 3) hx hb hts q1 tyX1 tyX1_ok nmX1 hown hK hP hD hS 0 rfl rfl 2 (by decide) q2 (fun _ h9 => h9) rfl (by decide +kernel) rfl rfl (Nat.le_of_ble_eq_true rfl) dX1_keep_25 (fun H locs hP hD hS => ?_)
  have hP : va_P D vwCl [(h, .inr (2, [.ref rr, .int ((S.1 + 1) - (S.1 + 1) / 9 * 9), .int (if (S.2 + 1) < 8 then (S.2 + 1) else 8)]))] H := hP
  have hD : va_D A [(h, .inr (2, [.ref rr, .int ((S.1 + 1) - (S.1 + 1) / 9 * 9), .int (if (S.2 + 1) < 8 then (S.2 + 1) else 8)]))] := hD
  have e9 : fX1_keep S = (((S.1 + 1) - (S.1 + 1) / 9 * 9), (if (S.2 + 1) < 8 then (S.2 + 1) else 8)) := by rw [fX1_keep]
  exact rUv hx hb hr hlk hQ hP hS (congrArg (fun z9 : HV => w1 h rr z9) e9).symm dX1_keep_28
def fX1_forget (S : HV)  : HV := (S.1, 0)
abbrev rmX1_forget : Room := { frames := 0, cells := 0, slots := 0, locals := 0 }
set_option maxHeartbeats 4000000 in
set_option maxRecDepth 100000 in
theorem kX1_forget (l : Launch) (D : va_G) (cI cC cT : ClassId) (h rr : Nat) (S : HV)   : mU l D (TY cI cC cT) yX1_forget wsX1_forget rmX1_forget [.ref h] (w1 h rr S) none (w1 h rr (fX1_forget S)) := by
  refine mU.ofW (cc := cX1_forget) (maxL := 1) (ret := none) (by decide) rfl (Nat.le_of_ble_eq_true rfl) ?_
  intro p e s m args below meth c Q ls A hx hb hml hr hlk hts hown hP hK hD hS hl hQ
  have hown : s.vm.findClass RX1 = some m.cls := hown
  have hP : va_P D vwCl [(h, .inr (2, [.ref rr, .int S.1, .int S.2]))] s.heap := hP
  have hD : va_D A [(h, .inr (2, [.ref rr, .int S.1, .int S.2]))] := hD
  have hl : lv_has ls 1 [(0, .ref h)] := hl
  have q0 := hts (Cond.fieldLink RX1 19 "TavernStools$History" "kept" "I") (by decide +kernel)
  have q1 : ∀ w ∈ u_ws RX1 TX1 3, w ∈ wsX1_forget := by decide +kernel
  generalize hHe : s.heap = H at hP ⊢
  have hS : va_S A s.heap H [] := hHe ▸ hS
  generalize hLe : ([] : List Loc) = locs at hS ⊢
  refine lv_aload_n hx hb dX1_forget_0 rfl (lv_at hl 0 rfl) ?_
  refine lv_iconst (v := 0) hx hb dX1_forget_1 (by decide) ?_
  refine va_put (D := D) (ci := 2) (v := .int 0) (ty := .int) (C := RX1) (T := TX1) (N := 3) hx hb hts q1 tyX1 tyX1_ok nmX1 hown hK hP hD hS 0 rfl rfl 2 (by decide) q0 (fun _ h9 => h9) rfl (by decide +kernel) rfl rfl (Nat.le_of_ble_eq_true rfl) dX1_forget_2 (fun H locs hP hD hS => ?_)
  have hP : va_P D vwCl [(h, .inr (2, [.ref rr, .int S.1, .int 0]))] H := hP
  have hD : va_D A [(h, .inr (2, [.ref rr, .int S.1, .int 0]))] := hD
  have e9 : fX1_forget S = (S.1, 0) := by rw [fX1_forget]
  exact rUv hx hb hr hlk hQ hP hS (congrArg (fun z9 : HV => w1 h rr z9) e9).symm dX1_forget_5
