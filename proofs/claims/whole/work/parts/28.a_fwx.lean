/-! Methods of the class that may throw: what they throw is a word of the answer. -/
def xNm : List String := ["java/lang/IndexOutOfBoundsException", "java/lang/IllegalArgumentException", "java/lang/UnsupportedOperationException", "java/util/NoSuchElementException", "java/lang/IllegalStateException", "java/lang/ArithmeticException"]
abbrev xSup : List String := ["java/lang/RuntimeException", "java/lang/Exception"]
def xTx : List (Nat × String) := [(88, "no such number of a stool"), (105, "no such number of a sitter"), (138, "no swap leaves fewer clashes"), (158, "the bits are out of range"), (176, "no such place by tilt"), (181, "no such place by rank"), (205, "no such index in the line"), (215, "the input is full"), (223, "the text has an error"), (236, "an order is refused"), (239, "an order has a wrong number"), (244, "nothing was refused"), (273, "no such account"), (284, "nobody sits"), (290, "no change can be undone"), (295, "there is no snapshot"), (304, "no such stool"), (309, "no such sitter"), (311, "no such stool or sitter"), (313, "a number is out of range"), (315, "it is refused")]
/-- what a throw asks of the start beside the good words -/
def xDc : List String := ["java/lang/RuntimeException", "java/lang/Exception", "java/lang/Throwable"]
theorem xDw {Y : String} {s U : State} (hW : s.WarmedH U.vm) (hZ : va_Nw (.declares (Bundle.initS Y)) s) : va_Nw (.declares (Bundle.initS Y)) U := va_tabs rfl (rfl : (s.setVm U.vm).vm = U.vm) (by rw [Cond.declares_setVm hW.alike]; exact hZ)
def xE (A : Nat → Prop) (U : State) : Prop := ((∀ E ∈ xNm, va_Nw (.castable E E) U) ∧ ∀ Y ∈ xDc, va_Nw (.declares (Bundle.initS Y)) U) ∧ (∀ q ∈ xTx, ∃ sa : Nat, vk_R RX5 q.1 q.2 sa U) ∧ vx_Zq Bundle.tN "UNASSIGNED_STACK" Bundle.steD A U U.heap ∧ vx_Zq Bundle.tN "SUPPRESSED_SENTINEL" Bundle.listD A U U.heap
theorem xE.go {A B : Nat → Prop} {s U : State} {H : Heap} {locs : List Loc} (h : xE A s) (hW : s.WarmedH U.vm) (hS : va_S A s.heap H locs) (hU : U.heap = H) (hB : ∀ q, B q → A q) : xE B U := by
  obtain ⟨h1, h2, h3, h4⟩ := h
  subst hU
  exact ⟨⟨fun E hE => va_Nw.warmC hW (h1.1 E hE), fun Y hY => xDw hW (h1.2 Y hY)⟩, fun q hq => (h2 q hq).imp fun sa hsa => vk_R.warm hW hsa, ((h3.kept hS.2.1).moved hW.alike).narrow hB, ((h4.kept hS.2.1).moved hW.alike).narrow hB⟩
theorem xE.calling {A : Nat → Prop} {U : State} {g : JFrame} {mk : MethodId} {a : Array Value} (h : xE A U) : xE A (U.calling g mk a) := by
  obtain ⟨h1, h2, h3, h4⟩ := h
  exact ⟨⟨fun E hE => va_Nw.same rfl (show U.vm = (U.calling g mk a).vm from rfl) (h1.1 E hE), fun Y hY => va_Nw.same rfl (show U.vm = (U.calling g mk a).vm from rfl) (h1.2 Y hY)⟩, fun q hq => (h2 q hq).imp fun sa hsa => vk_R.same (show (U.calling g mk a).vm = U.vm from rfl) hsa, vx_Zq.moved (u := U) (U := U.calling g mk a) (Vm.Alike.refl U.vm) h3, vx_Zq.moved (u := U) (U := U.calling g mk a) (Vm.Alike.refl U.vm) h4⟩
def mX (l : Launch) (D : va_G) (tys : List (ClassId × FieldType)) (y : MethodName) (ws : List Cond) (rm : Room) (av : List Value) (X : va_W) (E : Option String) (v : Option Value) (X' : va_W) (k : Nat) : Prop :=
  vx_Met l y ws rm (va_Pc av (fun U => va_P D vwCl X U.heap ∧ va_K D vwCl tys U ∧ va_D (fun _ => True) X ∧ xE (aIn X) U))
    (fun _ st o t => E = none ∧ (o = .returned v ∧ va_P D vwCl X' t.heap) ∧ va_F (aIn X) st t) (fun C st t => E = some C ∧ va_P D vwCl X' t.heap ∧ va_F (aIn X) st t) k (6 * k) (aIn X)
def MXQ (D : va_G) (below : List Frame) (E : Option String) (v : Option Value) (X' : va_W) (k : Nat) (args : Array Value) (s : State) (A : Nat → Prop) : State → Prop :=
  vx_MQ below (fun _ st o t => E = none ∧ (o = .returned v ∧ va_P D vwCl X' t.heap) ∧ va_F A st t) (fun C st t => E = some C ∧ va_P D vwCl X' t.heap ∧ va_F A st t) args s k (6 * k) A
theorem fbX {D : va_G} {tys : List (ClassId × FieldType)} {av : List Value} {X : va_W} : FrameBlind (va_Pc av (fun U => va_P D vwCl X U.heap ∧ va_K D vwCl tys U ∧ va_D (fun _ => True) X ∧ xE (aIn X) U)) := fun a U g mk q => by
  obtain ⟨q0, qP, qK, qD, qE⟩ := q
  exact ⟨q0, qP, va_K.moved (u := U) (U := U.calling g mk a) (Vm.Alike.refl U.vm) qK, qD, qE.calling⟩
theorem mX.ofW {l : Launch} {D : va_G} {tys : List (ClassId × FieldType)} {y : MethodName} {ws ws' : List Cond} {rm : Room} {av : List Value} {X X' : va_W} {E : Option String} {v : Option Value} {k : Nat} {cc : ByteArray} {maxL : Nat} {ret : Option FieldType}
    (hy : plainName y.cls = true) (hw : ws = Cond.code y cc maxL ret :: ws') (hav : (lg_sl av).length ≤ maxL)
    (body : ∀ (p : Program) (e : Env) (s : State) (m : MethodId) (args : Array Value) (below : List Frame) (meth : Method) (c : Code) (Q : State → Prop) (ls : Array Slot) (A : Nat → Prop),
      p.tables.exec = Jvm.exec → c.code = cc → c.maxLocals = maxL → meth.sig.returnType = ret → meth.locks = false → (∀ w ∈ ws, w.before args s = true) → s.vm.findClass y.cls = some m.cls → va_P D vwCl X s.heap → va_K D vwCl tys s → va_D A X → va_S A s.heap s.heap [] → lv_has ls maxL (lv_args 0 av) → xE A s → (∀ x ∈ c.exceptionTable.toList, False) →
      (∀ (g : JFrame) (H : Heap) (locs : List Loc) (cells slots : Nat), W p l e rm s m args below meth c H locs cells slots (MXQ D below E v X' k args s A) g → W p l e rm s m args below meth c H locs cells slots Q g) →
      (∀ (g : JFrame) (H : Heap) (locs : List Loc) (cells slots : Nat) (q : Addr), vx_W p l e rm s m args below meth c H locs cells slots (MXQ D below E v X' k args s A) g q → vx_W p l e rm s m args below meth c H locs cells slots Q g q) →
      W p l e rm s m args below meth c s.heap [] 0 0 Q (F0 m 0 ls [])) : mX l D tys y ws rm av X E v X' k := by
  refine vx_ofW (cc := cc) (maxL := maxL) (ret := ret) hy hw ?_
  intro p e s m args below meth c s₁ B hml ht hv
  obtain ⟨rfl, hP, hK, hD, hE⟩ := hv
  have hl := lv_entry av (n := maxL) hav
  rw [lg_entry_eq]
  exact body p e s m _ below meth c _ _ (aIn X) B.exec B.bytes hml B.returns B.notSynchronized (atoms_spec (ws := ws) B.pre) (findClass_of_methodNamed B.named) hP hK ⟨hD.1, fun k q h => ⟨k, q.2, h⟩⟩ va_S.rf hl hE ht (fun g H locs _ _ h => h) (fun g H locs _ _ q h => h)
section XF
variable {p : Program} {l : Launch} {e : Env} {R : Room} {s : State} {m : MethodId} {args : Array Value} {below : List Frame} {meth : Method} {c : Code} {H : Heap} {locs : List Loc} {cells slots : Nat} {Q : State → Prop}
variable {D : va_G} {tys : List (ClassId × FieldType)} {y : MethodName} {bytes cc : ByteArray} {maxL nL n index pc : Nat} {ret : Option FieldType} {ws Ts : List Cond} {rm : Room} {own C : String} {b : Addr} {As rest st st' : List Value} {ls : Array Slot} {X Xc Xc' : va_W} {E : Option String} {v : Option Value} {k : Nat} {A0 : Nat → Prop} {H0 : Heap}
theorem rXi {ty : FieldType} {r' : Int32} {X1 X2 : va_W} (hx : p.tables.exec = Jvm.exec) (hb : c.code = cc) (hr : meth.sig.returnType = some ty) (hlocks : meth.locks = false)
    (hQ : ∀ (g : JFrame) (H : Heap) (locs : List Loc) (cells slots : Nat), W p l e R s m args below meth c H locs cells slots (MXQ D below E v X2 k args s A0) g → W p l e R s m args below meth c H locs cells slots Q g)
    (hP : va_P D vwCl X1 H) (hS : va_S A0 s.heap H locs) (hE : E = none) (hv : v = some (.int r')) (hX : X1 = X2) (hn : narrow ty (.int r') = .int r') (hk : cells ≤ k ∧ slots ≤ 6 * k) (hdg : decode cc pc = .ok (.ireturn, 1)) : W p l e R s m args below meth c H locs cells slots Q (F0 m pc ls [.int r']) := by
  subst hX
  exact hQ _ _ _ _ _ (W.widen hk.1 hk.2 (vx_ret (W.zret (v := r') hx hb hr hn (fun t ht _ => ⟨hE, ⟨by rw [hv], by rw [ht]; exact hP⟩, hS.F ht⟩) hS.2.2 hdg hlocks)))
theorem rXf {r' : UInt32} {X1 X2 : va_W} (hx : p.tables.exec = Jvm.exec) (hb : c.code = cc) (hr : meth.sig.returnType = some .float) (hlocks : meth.locks = false)
    (hQ : ∀ (g : JFrame) (H : Heap) (locs : List Loc) (cells slots : Nat), W p l e R s m args below meth c H locs cells slots (MXQ D below E v X2 k args s A0) g → W p l e R s m args below meth c H locs cells slots Q g)
    (hP : va_P D vwCl X1 H) (hS : va_S A0 s.heap H locs) (hE : E = none) (hv : v = some (.float r')) (hX : X1 = X2) (hk : cells ≤ k ∧ slots ≤ 6 * k) (hdg : decode cc pc = .ok (.freturn, 1)) : W p l e R s m args below meth c H locs cells slots Q (F0 m pc ls [.float r']) := by
  subst hX
  exact hQ _ _ _ _ _ (W.widen hk.1 hk.2 (vx_ret (W.fret (v := r') hx hb hr (fun t ht _ => ⟨hE, ⟨by rw [hv], by rw [ht]; exact hP⟩, hS.F ht⟩) hS.2.2 hdg (hlocks := hlocks))))
theorem rXd {r' : UInt64} {X1 X2 : va_W} (hx : p.tables.exec = Jvm.exec) (hb : c.code = cc) (hr : meth.sig.returnType = some .double) (hlocks : meth.locks = false)
    (hQ : ∀ (g : JFrame) (H : Heap) (locs : List Loc) (cells slots : Nat), W p l e R s m args below meth c H locs cells slots (MXQ D below E v X2 k args s A0) g → W p l e R s m args below meth c H locs cells slots Q g)
    (hP : va_P D vwCl X1 H) (hS : va_S A0 s.heap H locs) (hE : E = none) (hv : v = some (.double r')) (hX : X1 = X2) (hk : cells ≤ k ∧ slots ≤ 6 * k) (hdg : decode cc pc = .ok (.dreturn, 1)) : W p l e R s m args below meth c H locs cells slots Q (F0 m pc ls [.double r']) := by
  subst hX
  exact hQ _ _ _ _ _ (W.widen hk.1 hk.2 (vx_ret (W.dret (v := r') hx hb hr (fun t ht _ => ⟨hE, ⟨by rw [hv], by rw [ht]; exact hP⟩, hS.F ht⟩) hS.2.2 hdg (hlocks := hlocks))))
theorem rXv {X1 X2 : va_W} (hx : p.tables.exec = Jvm.exec) (hb : c.code = cc) (hr : meth.sig.returnType = none) (hlocks : meth.locks = false)
    (hQ : ∀ (g : JFrame) (H : Heap) (locs : List Loc) (cells slots : Nat), W p l e R s m args below meth c H locs cells slots (MXQ D below E v X2 k args s A0) g → W p l e R s m args below meth c H locs cells slots Q g)
    (hP : va_P D vwCl X1 H) (hS : va_S A0 s.heap H locs) (hE : E = none) (hv : v = none) (hX : X1 = X2) (hk : cells ≤ k ∧ slots ≤ 6 * k) (hdg : decode cc pc = .ok (.return_, 1)) : W p l e R s m args below meth c H locs cells slots Q (F0 m pc ls []) := by
  subst hX
  exact hQ _ _ _ _ _ (W.widen hk.1 hk.2 (vx_ret (W.vret hx hb hr (fun t ht _ => ⟨hE, ⟨by rw [hv], by rw [ht]; exact hP⟩, hS.F ht⟩) hS.2.2 hdg hlocks)))
theorem xP {A1 : Nat → Prop} {X1 : va_W} {t : State} (hP : va_P D vwCl X1 H) (hS : va_S A1 s.heap H locs) (h1 : H.size ≤ t.heap.size) (h2 : ∀ q : Nat, q < H.size → t.heap[q]? = H[q]?) : va_P D vwCl X1 t.heap ∧ va_F A1 s t :=
  ⟨hP.kept (fun k q hk => h2 q.1 (hP k q hk).lt), Nat.le_trans hS.1 h1, fun q a1 a2 => by rw [h2 q (Nat.lt_of_lt_of_le a1 hS.1)]; exact hS.2.1 q a1 a2⟩
/-- a throw of its own -/
theorem rXt {X1 X2 : va_W} {cls text : String} {ik is ic : Nat} (hx : p.tables.exec = Jvm.exec) (hb : c.code = cc) (hst : l.stackTraces = false) (hown : s.vm.findClass RX5 = some m.cls) (hlocks : meth.locks = false) (hts : ∀ w ∈ Ts, w.before args s = true) (hXE : xE A0 s) (htb : ∀ x ∈ c.exceptionTable.toList, False)
    (hQ : ∀ (g : JFrame) (H : Heap) (locs : List Loc) (cells slots : Nat), W p l e R s m args below meth c H locs cells slots (MXQ D below E v X2 k args s A0) g → W p l e R s m args below meth c H locs cells slots Q g)
    (hP : va_P D vwCl X1 H) (hS : va_S A0 s.heap H locs) (hml : c.maxLocals = ls.size) (hcls : Bundle.fit cls = true) (hnm : cls ∈ xNm) (htx : (is, text) ∈ xTx)
    (hk : Cond.classLink RX5 ik cls ∈ Ts) (hini : Cond.initialized cls ∈ Ts) (hat : ∀ w ∈ (vx_atS RX5 ic cls xSup).filter goodWord, w ∈ Ts) (hbad : ∀ w ∈ (vx_atS RX5 ic cls xSup).filter (fun w => !goodWord w), w ∈ [Cond.castable cls cls, Cond.declares (Bundle.initS "java/lang/RuntimeException"), Cond.declares (Bundle.initS "java/lang/Exception"), Cond.declares (Bundle.initS "java/lang/Throwable")])
    (hgood : ∀ w ∈ Cond.classLink RX5 ik cls :: Cond.initialized cls :: vx_atS RX5 ic cls xSup, vx_ot w = true)
    (hR : (6 ≤ R.frames ∧ 82 ≤ R.locals) ∧ (cells + 1 ≤ R.cells ∧ slots + 6 ≤ R.slots) ∧ (cells + 1 ≤ k ∧ slots + 6 ≤ 6 * k)) (hE : E = some cls) (hX : X1 = X2)
    (d0 : decode cc pc = .ok (.new ik, 3)) (d3 : decode cc (pc + 3) = .ok (.dup, 1)) (d4 : (decode cc (pc + 4) = .ok (.ldc is, 2) ∧ decode cc (pc + 6) = .ok (.invokespecial ic, 3) ∧ decode cc (pc + 9) = .ok (.athrow, 1)) ∨ (decode cc (pc + 4) = .ok (.ldc_w is, 3) ∧ decode cc (pc + 7) = .ok (.invokespecial ic, 3) ∧ decode cc (pc + 10) = .ok (.athrow, 1))) :
    W p l e R s m args below meth c H locs cells slots Q (F0 m pc ls []) := by
  subst hX
  obtain ⟨sa, hsa⟩ := hXE.2.1 _ htx
  have hat2 : ∀ w ∈ vx_atS RX5 ic cls xSup, w.before args s = true := vx_hat (fun w hw => hts w (hat w hw)) hbad (vx_c (va_Nw.use (A := args) rfl (hXE.1.1 cls hnm)) (vx_c (va_Nw.use (A := args) rfl (hXE.1.2 _ (by decide +kernel))) (vx_c (va_Nw.use (A := args) rfl (hXE.1.2 _ (by decide +kernel))) (vx_c (va_Nw.use (A := args) rfl (hXE.1.2 _ (by decide +kernel))) vx_n))))
  have hsup : ∀ n ∈ xSup, Bundle.fit n = true := by decide +kernel
  refine hQ _ _ _ _ _ ?_
  rcases d4 with ⟨d4, d6, d9⟩ | ⟨d4, d7, d10⟩
  · exact vx_throwS hx hb hst hown hcls hsup (hts _ hk) (hts _ hini) hsa hat2 hgood hXE.2.2.1 hXE.2.2.2 hS hml.symm d0 d3 d4 d6 d9 (fun x h => (htb x h).elim) hR.1.1 hR.1.2 hR.2.1.1 hR.2.1.2 hlocks (fun t _ h1 h2 => ⟨hE, xP hP hS h1 h2⟩) hS.2.2 hR.2.2.1 hR.2.2.2
  · exact vx_throwSW hx hb hst hown hcls hsup (hts _ hk) (hts _ hini) hsa hat2 hgood hXE.2.2.1 hXE.2.2.2 hS hml.symm d0 d3 d4 d7 d10 (fun x h => (htb x h).elim) hR.1.1 hR.1.2 hR.2.1.1 hR.2.1.2 hlocks (fun t _ h1 h2 => ⟨hE, xP hP hS h1 h2⟩) hS.2.2 hR.2.2.1 hR.2.2.2
/-- what a callee threw goes on -/
theorem rXp {X1 X2 : va_W} {C9 : String} {ce : Cell} {q9 : Addr} (hlocks : meth.locks = false) (htb : ∀ x ∈ c.exceptionTable.toList, False)
    (hQ : ∀ (g : JFrame) (H : Heap) (locs : List Loc) (cells slots : Nat) (q : Addr), vx_W p l e R s m args below meth c H locs cells slots (MXQ D below E v X2 k args s A0) g q → vx_W p l e R s m args below meth c H locs cells slots Q g q)
    (hP : va_P D vwCl X1 H) (hS : va_S A0 s.heap H locs) (hE : E = some C9) (hX : X1 = X2) (h1 : H[q9]? = some ce) (h2 : ce.vm = .none) (h3 : s.vm.findClass C9 = some ce.cls) (hk : cells ≤ k ∧ slots ≤ 6 * k) : vx_W p l e R s m args below meth c H locs cells slots Q (F0 m pc ls rest) q9 := by
  subst hX
  exact hQ _ _ _ _ _ _ (vx_out (fun x h => (htb x h).elim) hlocks h1 h2 h3 (fun t ht _ => ⟨hE, by rw [ht]; exact hP, hS.F ht⟩) hS.2.2 hk.1 hk.2)
theorem aIn.sub {A : Nat → Prop} {w : va_W} (h : va_D A w) : ∀ q, aIn w q → A q := fun _ hq => aIn.lt h hq
/-- a call of an instance method that may throw -/
theorem fXV (S : CallFix p m c cc nL s args Ts own) (hM : mX l D tys y ws rm (.ref b :: As) Xc E v Xc' k) (cw : CallW R s args own C index y bytes maxL ret ws rm k (6 * k) n) (hP : va_P D vwCl X H) (hK : va_K D vwCl tys s) (hD : va_D A0 X) (hS : va_S A0 s.heap H locs) (hXE : xE A0 s)
    (is : List Nat) (his : is.map (fun i => X[i]?) = Xc.map some) (his2 : is.filterMap (fun i => X[i]?) = Xc) (hnd : va_nd is = true) (hl : Xc'.length = is.length) (X2 : va_W) (hX2 : putAtW X is Xc' = X2) (hadr : X2.map Prod.fst = X.map Prod.fst)
    (q0 : Nat) {ci : Nat} {q : vw_C} {fs : List Value} (hc : vwCl[ci]? = some q) (hC : q.1 = C) (he : X[q0]? = some (b, .inr (ci, fs)))
    (hn : As.length = n) (hsz : ls.size = nL) (hst : st = As.reverse ++ .ref b :: rest) (hst' : v.toList ++ rest = st') (hW : (rest.map fun v => v.category).sum ≤ 8) (hf : cells + k ≤ R.cells ∧ slots + 6 * k ≤ R.slots) (hdg : decode cc pc = .ok (.invokevirtual index, 3))
    (kx : ∀ (C1 : String) (ce : Cell) (q9 : Addr) (H1 : Heap) (locs1 : List Loc), E = some C1 → va_P D vwCl X2 H1 → va_D A0 X2 → va_S A0 s.heap H1 locs1 → H1[q9]? = some ce → ce.vm = .none → s.vm.findClass C1 = some ce.cls → vx_W p l e R s m args below meth c H1 locs1 (cells + k) (slots + 6 * k) Q (F0 m pc ls rest) q9)
    (kk : ∀ (H1 : Heap) (locs1 : List Loc), E = none → va_P D vwCl X2 H1 → va_D A0 X2 → va_S A0 s.heap H1 locs1 → W p l e R s m args below meth c H1 locs1 (cells + k) (slots + 6 * k) Q (F0 m (pc + 3) ls st')) : W p l e R s m args below meth c H locs cells slots Q (F0 m pc ls st) := by
  subst hst; subst hst'; subst hC
  have hPc := hP.sub is his2
  have hDc : va_D A0 Xc := hD.sub is hnd his
  intro T hT X'
  rcases vx_runV (g := F0 m pc ls (As.reverse ++ .ref b :: rest)) S hM cw ⟨fbX, va_recv hK hP hc he, fun U hU hW => ⟨rfl, by rw [hU]; exact hPc, va_K.moved hW.alike hK, hDc.weaken (fun _ _ _ _ => trivial), hXE.go hW hS hU (aIn.sub hDc)⟩⟩ rfl hn hsz rfl (lv_room hW) hdg hf T hT X' with ⟨v', st₀, t, T', L, h0, X3, hL, e1, e2, ⟨hE, ⟨hv, hP1⟩, hz, hk⟩, go⟩ | ⟨q9, st₀, t, T', L, E1, ce, h0, X3, hL, e1, e2, ⟨hE, hP1, hz, hk⟩, hce, hcv, hcl, go⟩
  · cases hv
    rw [h0] at hz hk
    have P2 : va_P D vwCl X2 t.heap := by rw [← hX2]; exact va_P.putAt hP hD is his hl hk hP1
    have S2 : va_S A0 s.heap t.heap (locs ++ L) := ⟨Nat.le_trans hS.1 hz, fun q h1 h2 => by rw [hk q (Nat.lt_of_lt_of_le h1 hS.1) (fun z => h2 (aIn.lt hDc z))]; exact hS.2.1 q h1 h2, fun q hq => (List.mem_append.mp hq).elim (hS.2.2 q) (fun h => aIn.lt hDc (hL q h))⟩
    obtain ⟨t2, a1, b1⟩ := kk T'.heap (locs ++ L) hE (by rw [e1]; exact P2) (hD.adr hadr) (by rw [e1]; exact S2) T' rfl X3
    exact ⟨t2, go t2 a1, b1⟩
  · rw [h0] at hz hk
    have P2 : va_P D vwCl X2 t.heap := by rw [← hX2]; exact va_P.putAt hP hD is his hl hk hP1
    have S2 : va_S A0 s.heap t.heap (locs ++ L) := ⟨Nat.le_trans hS.1 hz, fun q h1 h2 => by rw [hk q (Nat.lt_of_lt_of_le h1 hS.1) (fun z => h2 (aIn.lt hDc z))]; exact hS.2.1 q h1 h2, fun q hq => (List.mem_append.mp hq).elim (hS.2.2 q) (fun h => aIn.lt hDc (hL q h))⟩
    obtain ⟨t2, a1, b1⟩ := kx E1 ce q9 T'.heap (locs ++ L) hE (by rw [e1]; exact P2) (hD.adr hadr) (by rw [e1]; exact S2) (by rw [e1]; exact hce) hcv hcl T' rfl X3
    exact ⟨t2, go.trans a1, b1⟩
/-- .. whose cells stand ahead of the others -/
theorem fXVp (S : CallFix p m c cc nL s args Ts own) (hM : mX l D tys y ws rm (.ref b :: As) Xc E v Xc' k) (cw : CallW R s args own C index y bytes maxL ret ws rm k (6 * k) n) (hP : va_P D vwCl X H) (hK : va_K D vwCl tys s) (hD : va_D A0 X) (hS : va_S A0 s.heap H locs) (hXE : xE A0 s)
    (Xr : va_W) (hX : X = Xc ++ Xr) (X2 : va_W) (hX2 : X2 = Xc' ++ Xr) (hadr : X2.map Prod.fst = X.map Prod.fst)
    (q0 : Nat) {ci : Nat} {q : vw_C} {fs : List Value} (hc : vwCl[ci]? = some q) (hC : q.1 = C) (he : X[q0]? = some (b, .inr (ci, fs)))
    (hn : As.length = n) (hsz : ls.size = nL) (hst : st = As.reverse ++ .ref b :: rest) (hst' : v.toList ++ rest = st') (hW : (rest.map fun v => v.category).sum ≤ 8) (hf : cells + k ≤ R.cells ∧ slots + 6 * k ≤ R.slots) (hdg : decode cc pc = .ok (.invokevirtual index, 3))
    (kx : ∀ (C1 : String) (ce : Cell) (q9 : Addr) (H1 : Heap) (locs1 : List Loc), E = some C1 → va_P D vwCl X2 H1 → va_D A0 X2 → va_S A0 s.heap H1 locs1 → H1[q9]? = some ce → ce.vm = .none → s.vm.findClass C1 = some ce.cls → vx_W p l e R s m args below meth c H1 locs1 (cells + k) (slots + 6 * k) Q (F0 m pc ls rest) q9)
    (kk : ∀ (H1 : Heap) (locs1 : List Loc), E = none → va_P D vwCl X2 H1 → va_D A0 X2 → va_S A0 s.heap H1 locs1 → W p l e R s m args below meth c H1 locs1 (cells + k) (slots + 6 * k) Q (F0 m (pc + 3) ls st')) : W p l e R s m args below meth c H locs cells slots Q (F0 m pc ls st) := by
  subst hst; subst hst'; subst hC; subst hX
  have hPc := hP.left
  have hDc : va_D A0 Xc := hD.left
  intro T hT X'
  rcases vx_runV (g := F0 m pc ls (As.reverse ++ .ref b :: rest)) S hM cw ⟨fbX, va_recv hK hP hc he, fun U hU hW => ⟨rfl, by rw [hU]; exact hPc, va_K.moved hW.alike hK, hDc.weaken (fun _ _ _ _ => trivial), hXE.go hW hS hU (aIn.sub hDc)⟩⟩ rfl hn hsz rfl (lv_room hW) hdg hf T hT X' with ⟨v', st₀, t, T', L, h0, X3, hL, e1, e2, ⟨hE, ⟨hv, hP1⟩, hz, hk⟩, go⟩ | ⟨q9, st₀, t, T', L, E1, ce, h0, X3, hL, e1, e2, ⟨hE, hP1, hz, hk⟩, hce, hcv, hcl, go⟩
  · cases hv
    rw [h0] at hz hk
    have P2 : va_P D vwCl X2 t.heap := by rw [hX2]; exact va_P.leftAt hP hD hk hP1
    have S2 : va_S A0 s.heap t.heap (locs ++ L) := ⟨Nat.le_trans hS.1 hz, fun q h1 h2 => by rw [hk q (Nat.lt_of_lt_of_le h1 hS.1) (fun z => h2 (aIn.lt hDc z))]; exact hS.2.1 q h1 h2, fun q hq => (List.mem_append.mp hq).elim (hS.2.2 q) (fun h => aIn.lt hDc (hL q h))⟩
    obtain ⟨t2, a1, b1⟩ := kk T'.heap (locs ++ L) hE (by rw [e1]; exact P2) (hD.adr hadr) (by rw [e1]; exact S2) T' rfl X3
    exact ⟨t2, go t2 a1, b1⟩
  · rw [h0] at hz hk
    have P2 : va_P D vwCl X2 t.heap := by rw [hX2]; exact va_P.leftAt hP hD hk hP1
    have S2 : va_S A0 s.heap t.heap (locs ++ L) := ⟨Nat.le_trans hS.1 hz, fun q h1 h2 => by rw [hk q (Nat.lt_of_lt_of_le h1 hS.1) (fun z => h2 (aIn.lt hDc z))]; exact hS.2.1 q h1 h2, fun q hq => (List.mem_append.mp hq).elim (hS.2.2 q) (fun h => aIn.lt hDc (hL q h))⟩
    obtain ⟨t2, a1, b1⟩ := kx E1 ce q9 T'.heap (locs ++ L) hE (by rw [e1]; exact P2) (hD.adr hadr) (by rw [e1]; exact S2) (by rw [e1]; exact hce) hcv hcl T' rfl X3
    exact ⟨t2, go.trans a1, b1⟩
end XF
