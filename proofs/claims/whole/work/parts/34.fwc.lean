/-! Constructors: they make cells. -/
def cN (U : State) : Prop := va_AO "TavernStools$Tavern" U ∧ va_Nw (.methodLinkNest RX1 22 yX3_init "TavernStools") U ∧ va_Nw (.methodLinkNest RX5 9 yX3_init "TavernStools") U ∧ va_Nw (.methodLinkNest RX5 31 yX4_init "TavernStools") U ∧ va_Nw (.methodLinkNest RX5 38 yX2_init "TavernStools") U
theorem cN.go {s U : State} (hW : s.WarmedH U.vm) (h : cN s) : cN U := ⟨va_AO.moved hW.alike h.1, va_Nw.warmM hW h.2.1, va_Nw.warmM hW h.2.2.1, va_Nw.warmM hW h.2.2.2.1, va_Nw.warmM hW h.2.2.2.2⟩
def mC (l : Launch) (D : va_G) (tys : List (ClassId × FieldType)) (y : MethodName) (ws : List Cond) (rm : Room) (av : List Value) (sz : Nat) (X : va_W) (X' : (Nat → Nat) → va_W) (k n1 : Nat) : Prop :=
  Met l y ws rm (va_Pc av (fun U => U.heap.size = sz ∧ va_P D vwCl X U.heap ∧ va_K D vwCl tys U ∧ va_D (fun _ => True) X ∧ cN U)) (fun _ st o t => (o = .returned none ∧ ∃ ad : Nat → Nat, va_P D vwCl (X' ad) t.heap ∧ va_D (va_A X sz) (X' ad)) ∧ va_F (va_A X sz) st t) k n1 (va_A X sz)
theorem fbC {D : va_G} {tys : List (ClassId × FieldType)} {av : List Value} {X : va_W} {sz : Nat} : FrameBlind (va_Pc av (fun U => U.heap.size = sz ∧ va_P D vwCl X U.heap ∧ va_K D vwCl tys U ∧ va_D (fun _ => True) X ∧ cN U)) := fun a U g mk q => by
  obtain ⟨q0, qz, qP, qK, qD, qO⟩ := q
  exact ⟨q0, qz, qP, va_K.moved (u := U) (U := U.calling g mk a) (Vm.Alike.refl U.vm) qK, qD, qO.go (U := U.calling g mk a) (State.WarmedH.refl U)⟩
theorem mC.ofW {l : Launch} {D : va_G} {tys : List (ClassId × FieldType)} {y : MethodName} {ws ws' : List Cond} {rm : Room} {av : List Value} {sz : Nat} {X : va_W} {X' : (Nat → Nat) → va_W} {k n1 : Nat} {cc : ByteArray} {maxL : Nat} {ret : Option FieldType}
    (hy : plainName y.cls = true) (hw : ws = Cond.code y cc maxL ret :: ws') (hav : (lg_sl av).length ≤ maxL) (hyn : y.name = "<init>")
    (body : ∀ (p : Program) (e : Env) (s : State) (m : MethodId) (args : Array Value) (below : List Frame) (meth : Method) (c : Code) (Q : State → Prop) (ls : Array Slot) (A : Nat → Prop),
      p.tables.exec = Jvm.exec → c.code = cc → c.maxLocals = maxL → meth.sig.returnType = ret → meth.locks = false → (∀ w ∈ ws, w.before args s = true) → s.vm.findClass y.cls = some m.cls → va_P D vwCl X s.heap → va_K D vwCl tys s → va_D A X → va_S A s.heap s.heap [] → lv_has ls maxL (lv_args 0 av) → meth.name = "<init>" → (∀ q, s.heap.size ≤ q → A q) → cN s →
      (∀ (g : JFrame) (H : Heap) (locs : List Loc) (cells slots : Nat), W p l e rm s m args below meth c H locs cells slots (MQ below (fun _ st o t => (o = .returned none ∧ ∃ ad : Nat → Nat, va_P D vwCl (X' ad) t.heap ∧ va_D A (X' ad)) ∧ va_F A st t) args s k n1 A) g → W p l e rm s m args below meth c H locs cells slots Q g) →
      W p l e rm s m args below meth c s.heap [] 0 0 Q (F0 m 0 ls [])) : mC l D tys y ws rm av sz X X' k n1 := by
  refine Met.ofW (cc := cc) (maxL := maxL) (ret := ret) hy hw ?_
  intro p e s m args below meth c s₁ B hml hv
  obtain ⟨rfl, hsz, hP, hK, hD, hO⟩ := hv
  subst hsz
  have hl := lv_entry av (n := maxL) hav
  rw [lg_entry_eq]
  exact body p e s m _ below meth c _ _ (va_A X s.heap.size) B.exec B.bytes hml B.returns B.notSynchronized (atoms_spec (ws := ws) B.pre) (findClass_of_methodNamed B.named) hP hK (hD.self (sz := s.heap.size)) va_S.rf hl ((name_of_methodNamed B.named B.method).1.trans hyn) (fun q h => Or.inr h) hO (fun g H locs _ _ h => h)
theorem va_D.right {A : Nat → Prop} {a b : va_W} (h : va_D A (a ++ b)) : va_D A b := by
  have up : ∀ (k : Nat) (q : Nat × va_E), b[k]? = some q → (a ++ b)[a.length + k]? = some q := fun k q hk => by rw [List.getElem?_append_right (by omega), Nat.add_sub_cancel_left]; exact hk
  exact ⟨fun i j x y hi hj e => by have := h.1 _ _ x y (up i x hi) (up j y hj) e; omega, fun k q hk => h.2 _ q (up k q hk)⟩
theorem vp_cell_congq {cA : ClassId} {n : Nat} {f g : Nat → Option Nat} (e : ∀ j, j < n → g j = f j) : vp_cell cA (n, .inr (.inr (.inr (.inr g)))) = vp_cell cA (n, .inr (.inr (.inr (.inr f)))) := by
  rw [vp_cell_q, vp_cell_q]
  unfold arrV
  congr 1
  apply Array.ext
  · simp
  · intro i h1 h2
    simp only [Array.getElem_ofFn]
    rw [e i (by simpa using h1)]
theorem va_P.congq {D : va_G} {cl : List vw_C} {w : va_W} {H : Heap} (hP : va_P D cl w H) (k : Nat) {a : Nat} {cA : ClassId} {n : Nat} {f g : Nat → Option Nat} (h : w[k]? = some (a, .inl (cA, n, .inr (.inr (.inr (.inr f)))))) (e : ∀ j, j < n → g j = f j) : va_P D cl (w.set k (a, .inl (cA, n, .inr (.inr (.inr (.inr g)))))) H := by
  intro i q hi
  by_cases hik : i = k
  · subst hik
    have hl := (List.getElem?_eq_some_iff.mp h).1
    rw [List.getElem?_set_self hl] at hi
    cases hi
    have h1 := hP i _ h
    show H[a]? = some (vp_cell cA (n, .inr (.inr (.inr (.inr g)))))
    rw [vp_cell_congq e]
    exact h1
  · rw [List.getElem?_set_ne (fun z => hik z.symm)] at hi
    exact hP i q hi
section CF
variable {p : Program} {l : Launch} {e : Env} {R : Room} {s : State} {m : MethodId} {args : Array Value} {below : List Frame} {meth : Method} {c : Code} {H : Heap} {locs : List Loc} {cells slots : Nat} {Q : State → Prop}
variable {D : va_G} {tys : List (ClassId × FieldType)} {y : MethodName} {bytes cc : ByteArray} {maxL nL n index pc : Nat} {ret : Option FieldType} {ws Ts : List Cond} {rm : Room} {own C : String} {b : Addr} {As rest st st' : List Value} {ls : Array Slot} {X Xr Xc : va_W} {X' : (Nat → Nat) → va_W} {k n1 : Nat} {A0 : Nat → Prop} {H0 : Heap}
theorem rCv {X1 : va_W} (ad : Nat → Nat) (hx : p.tables.exec = Jvm.exec) (hb : c.code = cc) (hr : meth.sig.returnType = none) (hlocks : meth.locks = false)
    (hQ : ∀ (g : JFrame) (H : Heap) (locs : List Loc) (cells slots : Nat), W p l e R s m args below meth c H locs cells slots (MQ below (fun _ st o t => (o = .returned none ∧ ∃ ad : Nat → Nat, va_P D vwCl (X' ad) t.heap ∧ va_D A0 (X' ad)) ∧ va_F A0 st t) args s k n1 A0) g → W p l e R s m args below meth c H locs cells slots Q g)
    (hP : va_P D vwCl X1 H) (hD : va_D A0 X1) (hS : va_S A0 s.heap H locs) (hX : X1 = X' ad) (hk : cells ≤ k ∧ slots ≤ n1) (hdg : decode cc pc = .ok (.return_, 1)) : W p l e R s m args below meth c H locs cells slots Q (F0 m pc ls []) := by
  subst hX
  exact hQ _ _ _ _ _ (W.widen hk.1 hk.2 (W.vret hx hb hr (fun t ht _ => ⟨⟨rfl, ad, by rw [ht]; exact hP, hD⟩, hS.F ht⟩) hS.2.2 hdg hlocks))
/-- a new array of a class that is known -/
theorem fNA {atype : ArrayType} {ty : FieldType} {cA0 : ClassId} {ws : va_W} (t0 : Nat) (nm : String) (hx : p.tables.exec = Jvm.exec) (hb : c.code = cc) (harr : (Cond.arrayClass (newarray.typeOf atype)).before args s = true) (hty : newarray.typeOf atype = ty) (hK : va_K D vwCl tys s) (hP : va_P D vwCl ws H) (hD : va_D A0 ws) (hS : va_S A0 s.heap H locs) (hA : ∀ q, s.heap.size ≤ q → A0 q)
    (ht : tys[t0]? = some (cA0, ty)) (hra : ∀ c : ClassId, va_RA s c ty → s.vm.findClass nm = some c) {i : Int32} (N' : Nat) (hdv : defaultValue ty = .int 0) (hn : ¬ i < 0) (hN : i.toNatClampNeg = N') (hbytes : N' * componentBytes ty ≤ 536870912) (hc : cells + 1 ≤ R.cells ∧ slots + N' ≤ R.slots) (hdg : decode cc pc = .ok (.newarray atype, 2))
    (kk : ∀ (q : Nat) (H1 : Heap), va_P D vwCl (ws ++ [(q, .inl (cA0, N', .inl (fun _ => 0)))]) H1 → va_D A0 (ws ++ [(q, .inl (cA0, N', .inl (fun _ => 0)))]) → va_S A0 s.heap H1 locs → W p l e R s m args below meth c H1 locs (cells + 1) (slots + N') Q (F0 m (pc + 2) ls (.ref q :: rest))) : W p l e R s m args below meth c H locs cells slots Q (F0 m pc ls (.int i :: rest)) := by
  refine va_newa (a0 := (N', .inl (fun _ => 0))) hx hb harr hty hK hP hD hS hA (fun _ => by rw [vp_cell_i, hdv]) hn hN hbytes hc.1 hc.2 hdg (fun q cA H1 hK1 hP1 hD1 hS1 => ?_)
  have e1 := hra _ (hK1.2 tys.length (cA, ty) (by simp)).2
  have e2 := hra _ (hK.2 t0 _ ht).2
  obtain rfl : cA = cA0 := Option.some.inj (e1.symm.trans e2)
  exact kk q H1 hP1 hD1 hS1
theorem fNQ {C : String} {cA0 : ClassId} {ws : va_W} (t0 : Nat) (hx : p.tables.exec = Jvm.exec) (hb : c.code = cc) (hown : s.vm.findClass own = some m.cls) (hcl : (Cond.classLink own index C).before args s = true) (hO : va_AO C s) (hK : va_K D vwCl tys s) (hP : va_P D vwCl ws H) (hD : va_D A0 ws) (hS : va_S A0 s.heap H locs) (hA : ∀ q, s.heap.size ≤ q → A0 q)
    (ht : tys[t0]? = some (cA0, .object C)) {i : Int32} {N' : Nat} (hn : ¬ i < 0) (hN : i.toNatClampNeg = N') (hbytes : N' * 4 ≤ 536870912) (hc : cells + 1 ≤ R.cells ∧ slots + N' ≤ R.slots) (hdg : decode cc pc = .ok (.anewarray index, 3))
    (kk : ∀ (q : Nat) (H1 : Heap), va_P D vwCl (ws ++ [(q, .inl (cA0, N', .inr (.inr (.inr (.inr (fun _ => none))))))]) H1 → va_D A0 (ws ++ [(q, .inl (cA0, N', .inr (.inr (.inr (.inr (fun _ => none))))))]) → va_S A0 s.heap H1 locs → W p l e R s m args below meth c H1 locs (cells + 1) (slots + N') Q (F0 m (pc + 3) ls (.ref q :: rest))) : W p l e R s m args below meth c H locs cells slots Q (F0 m pc ls (.int i :: rest)) := by
  refine va_newq hx hb hown hcl hO hK hP hD hS hA hn hN hbytes hc.1 hc.2 hdg (fun q cA H1 hK1 hP1 hD1 hS1 => ?_)
  obtain ⟨-, -, -, -, -, e1⟩ : va_RA s cA (.object C) := (hK1.2 tys.length (cA, .object C) (by simp)).2
  obtain ⟨-, -, -, -, -, e2⟩ : va_RA s cA0 (.object C) := (hK.2 t0 _ ht).2
  obtain rfl : cA = cA0 := Option.some.inj (e1.symm.trans e2)
  exact kk q H1 hP1 hD1 hS1
/-- a constructor's call, at the object that was made last -/
theorem fCI (S : CallFix p m c cc nL s args Ts own) (hM : ∀ sz, mC l D tys y ws rm (.ref b :: As) sz Xc X' k n1) (cw : CallB R s args own index y bytes maxL none ws rm k n1 n ∧ y.name = "<init>" ∧ (Cond.instanceMethod y).before args s = true) (hO : cN s) (Xr : va_W) (hX : X = Xr ++ Xc) (hP : va_P D vwCl X H) (hK : va_K D vwCl tys s) (hD : va_D A0 X) (hS : va_S A0 s.heap H locs) (hA : ∀ q, s.heap.size ≤ q → A0 q)
    (hn : As.length = n) (hsz : ls.size = nL) (hst : st = As.reverse ++ .ref b :: rest) (hW : (rest.map fun v => v.category).sum ≤ 8) (hf : cells + k ≤ R.cells ∧ slots + n1 ≤ R.slots) (hdg : decode cc pc = .ok (.invokespecial index, 3))
    (kk : ∀ (ad : Nat → Nat) (H1 : Heap) (locs1 : List Loc), va_P D vwCl (Xr ++ X' ad) H1 → va_D A0 (Xr ++ X' ad) → va_S A0 s.heap H1 locs1 → W p l e R s m args below meth c H1 locs1 (cells + k) (slots + n1) Q (F0 m (pc + 3) ls rest)) : W p l e R s m args below meth c H locs cells slots Q (F0 m pc ls st) := by
  subst hst; subst hX
  have hPc := hP.right
  have hDc : va_D A0 Xc := hD.right
  intro T hT X1
  obtain ⟨v', st₀, t, T', L, h0, X3, hL, e1, e2, ⟨⟨hv, ad, hP1, hD1⟩, hz, hk⟩, go⟩ := va_runI (g := F0 m pc ls (As.reverse ++ .ref b :: rest)) S (hM H.size) cw ⟨fbC, fun U hU hW => ⟨rfl, by rw [hU], by rw [hU]; exact hPc, va_K.moved hW.alike hK, hDc.weaken (fun _ _ _ _ => trivial), hO.go hW⟩⟩ rfl hn hsz rfl (lv_room hW) hdg hf T hT X1
  cases hv
  rw [h0] at hz hk
  have hAc : ∀ q, va_A Xc H.size q → A0 q := fun q hq => by
    rcases hq with ⟨j, e9, h9⟩ | h9
    · exact hDc.2 j (q, e9) h9
    · exact hA q (Nat.le_trans hS.1 h9)
  have hout : ∀ (i : Nat) (q : Nat × va_E), Xr[i]? = some q → ¬ va_A Xc H.size q.1 := fun i q hq hz9 => by
    have hl := (List.getElem?_eq_some_iff.mp hq).1
    have h3 : (Xr ++ Xc)[i]? = some q := by rw [List.getElem?_append_left hl]; exact hq
    rcases hz9 with ⟨j, e9, h9⟩ | h9
    · have h4 : (Xr ++ Xc)[Xr.length + j]? = some (q.1, e9) := by rw [List.getElem?_append_right (by omega), Nat.add_sub_cancel_left]; exact h9
      have := hD.1 _ _ _ _ h3 h4 rfl
      omega
    · exact absurd (hP i q h3).lt (by omega)
  have P2 : va_P D vwCl (Xr ++ X' ad) t.heap := va_P.app (hP.left.kept (fun i q hq => hk q.1 (hP.left i q hq).lt (hout i q hq))) hP1
  have D2 : va_D A0 (Xr ++ X' ad) := va_D.app hD.left (hD1.weaken (fun _ _ _ hq => hAc _ hq)) (fun i j p q hp hq e9 => hout i p hp (by rw [e9]; exact hD1.2 j q hq))
  have S2 : va_S A0 s.heap t.heap (locs ++ L) := ⟨Nat.le_trans hS.1 hz, fun q h1 h2 => by rw [hk q (Nat.lt_of_lt_of_le h1 hS.1) (fun z => h2 (hAc q z))]; exact hS.2.1 q h1 h2, fun q hq => (List.mem_append.mp hq).elim (hS.2.2 q) (fun h => hAc _ (hL q h))⟩
  obtain ⟨t2, a1, b1⟩ := kk ad T'.heap (locs ++ L) (by rw [e1]; exact P2) D2 (by rw [e1]; exact S2) T' rfl X3
  exact ⟨t2, go t2 a1, b1⟩
/-- .. of a nest mate's private one -/
theorem fCIN {host : String} (S : CallFix p m c cc nL s args Ts own) (hM : ∀ sz, mC l D tys y ws rm (.ref b :: As) sz Xc X' k n1) (cw : va_CN R s args own index y host bytes maxL none ws rm k n1 n ∧ y.name = "<init>" ∧ (Cond.instanceMethod y).before args s = true) (hO : cN s) (Xr : va_W) (hX : X = Xr ++ Xc) (hP : va_P D vwCl X H) (hK : va_K D vwCl tys s) (hD : va_D A0 X) (hS : va_S A0 s.heap H locs) (hA : ∀ q, s.heap.size ≤ q → A0 q)
    (hn : As.length = n) (hsz : ls.size = nL) (hst : st = As.reverse ++ .ref b :: rest) (hW : (rest.map fun v => v.category).sum ≤ 8) (hf : cells + k ≤ R.cells ∧ slots + n1 ≤ R.slots) (hdg : decode cc pc = .ok (.invokespecial index, 3))
    (kk : ∀ (ad : Nat → Nat) (H1 : Heap) (locs1 : List Loc), va_P D vwCl (Xr ++ X' ad) H1 → va_D A0 (Xr ++ X' ad) → va_S A0 s.heap H1 locs1 → W p l e R s m args below meth c H1 locs1 (cells + k) (slots + n1) Q (F0 m (pc + 3) ls rest)) : W p l e R s m args below meth c H locs cells slots Q (F0 m pc ls st) := by
  subst hst; subst hX
  have hPc := hP.right
  have hDc : va_D A0 Xc := hD.right
  intro T hT X1
  obtain ⟨v', st₀, t, T', L, h0, X3, hL, e1, e2, ⟨⟨hv, ad, hP1, hD1⟩, hz, hk⟩, go⟩ := va_runIN (g := F0 m pc ls (As.reverse ++ .ref b :: rest)) S (hM H.size) cw ⟨fbC, fun U hU hW => ⟨rfl, by rw [hU], by rw [hU]; exact hPc, va_K.moved hW.alike hK, hDc.weaken (fun _ _ _ _ => trivial), hO.go hW⟩⟩ rfl hn hsz rfl (lv_room hW) hdg hf T hT X1
  cases hv
  rw [h0] at hz hk
  have hAc : ∀ q, va_A Xc H.size q → A0 q := fun q hq => by
    rcases hq with ⟨j, e9, h9⟩ | h9
    · exact hDc.2 j (q, e9) h9
    · exact hA q (Nat.le_trans hS.1 h9)
  have hout : ∀ (i : Nat) (q : Nat × va_E), Xr[i]? = some q → ¬ va_A Xc H.size q.1 := fun i q hq hz9 => by
    have hl := (List.getElem?_eq_some_iff.mp hq).1
    have h3 : (Xr ++ Xc)[i]? = some q := by rw [List.getElem?_append_left hl]; exact hq
    rcases hz9 with ⟨j, e9, h9⟩ | h9
    · have h4 : (Xr ++ Xc)[Xr.length + j]? = some (q.1, e9) := by rw [List.getElem?_append_right (by omega), Nat.add_sub_cancel_left]; exact h9
      have := hD.1 _ _ _ _ h3 h4 rfl
      omega
    · exact absurd (hP i q h3).lt (by omega)
  have P2 : va_P D vwCl (Xr ++ X' ad) t.heap := va_P.app (hP.left.kept (fun i q hq => hk q.1 (hP.left i q hq).lt (hout i q hq))) hP1
  have D2 : va_D A0 (Xr ++ X' ad) := va_D.app hD.left (hD1.weaken (fun _ _ _ hq => hAc _ hq)) (fun i j p q hp hq e9 => hout i p hp (by rw [e9]; exact hD1.2 j q hq))
  have S2 : va_S A0 s.heap t.heap (locs ++ L) := ⟨Nat.le_trans hS.1 hz, fun q h1 h2 => by rw [hk q (Nat.lt_of_lt_of_le h1 hS.1) (fun z => h2 (hAc q z))]; exact hS.2.1 q h1 h2, fun q hq => (List.mem_append.mp hq).elim (hS.2.2 q) (fun h => hAc _ (hL q h))⟩
  obtain ⟨t2, a1, b1⟩ := kk ad T'.heap (locs ++ L) (by rw [e1]; exact P2) D2 (by rw [e1]; exact S2) T' rfl X3
  exact ⟨t2, go t2 a1, b1⟩
end CF
