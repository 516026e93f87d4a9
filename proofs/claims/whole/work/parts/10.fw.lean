/-! My own frame: contracts of methods that read, that write and make nothing; and their call rows. -/
abbrev TY (cI cC cT : ClassId) : List (ClassId × FieldType) := [(cI, .int), (cC, .char), (cT, .object "TavernStools$Tavern")]
/-- the cells of a world -/
def aIn (W : va_W) : Nat → Prop := fun q => ∃ (k : Nat) (e : va_E), W[k]? = some (q, e)
/-- a method that reads: its answer, the heap as it was -/
def mR (l : Launch) (D : va_G) (tys : List (ClassId × FieldType)) (y : MethodName) (ws : List Cond) (rm : Room) (av : List Value) (X : va_W) (v : Option Value) : Prop :=
  Met l y ws rm (va_Pc av (fun U => va_P D vwCl X U.heap ∧ va_K D vwCl tys U)) (fun _ st o t => o = .returned v ∧ t.heap = st.heap) 0 0 (fun _ => False)
/-- a method that writes in its world, and makes nothing -/
def mU (l : Launch) (D : va_G) (tys : List (ClassId × FieldType)) (y : MethodName) (ws : List Cond) (rm : Room) (av : List Value) (X : va_W) (v : Option Value) (X' : va_W) : Prop :=
  Met l y ws rm (va_Pc av (fun U => va_P D vwCl X U.heap ∧ va_K D vwCl tys U ∧ va_D (fun _ => True) X)) (fun _ st o t => (o = .returned v ∧ va_P D vwCl X' t.heap) ∧ va_F (aIn X) st t) 0 0 (aIn X)
theorem fbR {D : va_G} {tys : List (ClassId × FieldType)} {av : List Value} {X : va_W} : FrameBlind (va_Pc av (fun U => va_P D vwCl X U.heap ∧ va_K D vwCl tys U)) := fun a U g mk q => by
  obtain ⟨q0, qP, qK⟩ := q
  exact ⟨q0, qP, va_K.moved (u := U) (U := U.calling g mk a) (Vm.Alike.refl U.vm) qK⟩
theorem fbU {D : va_G} {tys : List (ClassId × FieldType)} {av : List Value} {X : va_W} : FrameBlind (va_Pc av (fun U => va_P D vwCl X U.heap ∧ va_K D vwCl tys U ∧ va_D (fun _ => True) X)) := fun a U g mk q => by
  obtain ⟨q0, qP, qK, qD⟩ := q
  exact ⟨q0, qP, va_K.moved (u := U) (U := U.calling g mk a) (Vm.Alike.refl U.vm) qK, qD⟩
/-- the cells at some places anew -/
def putAtW : va_W → List Nat → va_W → va_W
  | w, i :: is, x :: xs => putAtW (w.set i x) is xs
  | w, _, _ => w
theorem putAt_get : ∀ (is : List Nat) (xs w : va_W), xs.length = is.length → ∀ (k : Nat) (q : Nat × va_E), (putAtW w is xs)[k]? = some q → q ∈ xs ∨ (k ∉ is ∧ w[k]? = some q)
  | [], xs, w, _, k, q, h => by
    cases xs <;> exact Or.inr ⟨List.not_mem_nil, h⟩
  | i :: is, [], w, hl, k, q, h => by simp at hl
  | i :: is, x :: xs, w, hl, k, q, h => by
    have hl2 : xs.length = is.length := by simpa using hl
    rcases putAt_get is xs (w.set i x) hl2 k q h with h1 | ⟨h1, h2⟩
    · exact Or.inl (List.mem_cons_of_mem _ h1)
    · by_cases hki : k = i
      · subst hki
        by_cases hlt : k < w.length
        · rw [List.getElem?_set_self hlt] at h2
          cases h2
          exact Or.inl List.mem_cons_self
        · rw [List.getElem?_eq_none (by rw [List.length_set]; omega)] at h2
          cases h2
      · rw [List.getElem?_set_ne (fun z => hki z.symm)] at h2
        exact Or.inr ⟨fun hm => (List.mem_cons.mp hm).elim hki h1, h2⟩
theorem va_D.adr {A : Nat → Prop} {w w2 : va_W} (h : va_D A w) (e : w2.map Prod.fst = w.map Prod.fst) : va_D A w2 := by
  have key : ∀ (k : Nat) (q : Nat × va_E), w2[k]? = some q → ∃ q0 : Nat × va_E, w[k]? = some q0 ∧ q0.1 = q.1 := by
    intro k q hk
    have h1 : (w2.map Prod.fst)[k]? = some q.1 := by rw [List.getElem?_map, hk]; rfl
    rw [e, List.getElem?_map] at h1
    cases hw : w[k]? with
    | none => rw [hw] at h1; cases h1
    | some q0 => rw [hw] at h1; exact ⟨q0, rfl, Option.some.inj h1⟩
  refine ⟨fun i j x y hi hj hxy => ?_, fun k q hk => ?_⟩
  · obtain ⟨x0, a1, a2⟩ := key i x hi
    obtain ⟨y0, b1, b2⟩ := key j y hj
    exact h.1 i j x0 y0 a1 b1 (a2.trans (hxy.trans b2.symm))
  · obtain ⟨q0, a1, a2⟩ := key k q hk
    rw [← a2]
    exact h.2 k q0 a1
/-- behind a call that wrote in the cells at the places 'is' -/
theorem va_P.putAt {D : va_G} {A : Nat → Prop} {w wc wc2 : va_W} {H H1 : Heap} (hP : va_P D vwCl w H) (hD : va_D A w) (is : List Nat) (hC : is.map (fun i => w[i]?) = wc.map some) (hl : wc2.length = is.length)
    (hk : ∀ q : Nat, q < H.size → ¬ aIn wc q → H1[q]? = H[q]?) (hP1 : va_P D vwCl wc2 H1) : va_P D vwCl (putAtW w is wc2) H1 := by
  intro k q hkq
  rcases putAt_get is wc2 w hl k q hkq with h1 | ⟨h1, h2⟩
  · obtain ⟨j, hj⟩ := List.getElem?_of_mem h1
    exact hP1 j q hj
  · refine (hP k q h2).kept (hk q.1 (hP k q h2).lt ?_)
    rintro ⟨k2, e, h⟩
    have h3 : (is.map (fun i => w[i]?))[k2]? = some (some (q.1, e)) := by rw [hC, List.getElem?_map, h]; rfl
    rw [List.getElem?_map] at h3
    cases hi : is[k2]? with
    | none => rw [hi] at h3; cases h3
    | some i =>
      rw [hi] at h3
      have h4 : w[i]? = some (q.1, e) := Option.some.inj h3
      have hij := hD.1 k i q (q.1, e) h2 h4 rfl
      subst hij
      exact h1 (List.mem_of_getElem? hi)
theorem aIn.lt {A : Nat → Prop} {w : va_W} (h : va_D A w) {q : Nat} (hq : aIn w q) : A q := by
  obtain ⟨k, e, h1⟩ := hq
  exact h.2 k (q, e) h1
theorem mR.ofW {l : Launch} {D : va_G} {tys : List (ClassId × FieldType)} {y : MethodName} {ws ws' : List Cond} {rm : Room} {av : List Value} {X : va_W} {v : Option Value} {cc : ByteArray} {maxL : Nat} {ret : Option FieldType}
    (hy : plainName y.cls = true) (hw : ws = Cond.code y cc maxL ret :: ws') (hav : (lg_sl av).length ≤ maxL)
    (body : ∀ (p : Program) (e : Env) (s : State) (m : MethodId) (args : Array Value) (below : List Frame) (meth : Method) (c : Code) (Q : State → Prop) (ls : Array Slot),
      p.tables.exec = Jvm.exec → c.code = cc → c.maxLocals = maxL → meth.sig.returnType = ret → meth.locks = false → (∀ w ∈ ws, w.before args s = true) → s.vm.findClass y.cls = some m.cls → va_P D vwCl X s.heap → va_K D vwCl tys s → lv_has ls maxL (lv_args 0 av) →
      (∀ g : JFrame, W p l e rm s m args below meth c s.heap [] 0 0 (MQ below (fun _ st o t => o = .returned v ∧ t.heap = st.heap) args s 0 0 (fun _ => False)) g → W p l e rm s m args below meth c s.heap [] 0 0 Q g) →
      W p l e rm s m args below meth c s.heap [] 0 0 Q (F0 m 0 ls [])) : mR l D tys y ws rm av X v := by
  refine Met.ofW (cc := cc) (maxL := maxL) (ret := ret) hy hw ?_
  intro p e s m args below meth c s₁ B hml hv
  obtain ⟨rfl, hP, hK⟩ := hv
  have hl := lv_entry av (n := maxL) hav
  rw [lg_entry_eq]
  exact body p e s m _ below meth c _ _ B.exec B.bytes hml B.returns B.notSynchronized (atoms_spec (ws := ws) B.pre) (findClass_of_methodNamed B.named) hP hK hl (fun g h => h)
theorem mU.ofW {l : Launch} {D : va_G} {tys : List (ClassId × FieldType)} {y : MethodName} {ws ws' : List Cond} {rm : Room} {av : List Value} {X X' : va_W} {v : Option Value} {cc : ByteArray} {maxL : Nat} {ret : Option FieldType}
    (hy : plainName y.cls = true) (hw : ws = Cond.code y cc maxL ret :: ws') (hav : (lg_sl av).length ≤ maxL)
    (body : ∀ (p : Program) (e : Env) (s : State) (m : MethodId) (args : Array Value) (below : List Frame) (meth : Method) (c : Code) (Q : State → Prop) (ls : Array Slot) (A : Nat → Prop),
      p.tables.exec = Jvm.exec → c.code = cc → c.maxLocals = maxL → meth.sig.returnType = ret → meth.locks = false → (∀ w ∈ ws, w.before args s = true) → s.vm.findClass y.cls = some m.cls → va_P D vwCl X s.heap → va_K D vwCl tys s → va_D A X → va_S A s.heap s.heap [] → lv_has ls maxL (lv_args 0 av) →
      (∀ (g : JFrame) (H : Heap) (locs : List Loc), va_S A s.heap H locs → W p l e rm s m args below meth c H locs 0 0 (MQ below (fun _ st o t => (o = .returned v ∧ va_P D vwCl X' t.heap) ∧ va_F A st t) args s 0 0 A) g → W p l e rm s m args below meth c H locs 0 0 Q g) →
      W p l e rm s m args below meth c s.heap [] 0 0 Q (F0 m 0 ls [])) : mU l D tys y ws rm av X v X' := by
  refine Met.ofW (cc := cc) (maxL := maxL) (ret := ret) hy hw ?_
  intro p e s m args below meth c s₁ B hml hv
  obtain ⟨rfl, hP, hK, hD⟩ := hv
  have hl := lv_entry av (n := maxL) hav
  rw [lg_entry_eq]
  exact body p e s m _ below meth c _ _ (aIn X) B.exec B.bytes hml B.returns B.notSynchronized (atoms_spec (ws := ws) B.pre) (findClass_of_methodNamed B.named) hP hK ⟨hD.1, fun k q h => ⟨k, q.2, h⟩⟩ va_S.rf hl (fun g H locs _ h => h)
section FW
variable {p : Program} {l : Launch} {e : Env} {R : Room} {s : State} {m : MethodId} {args : Array Value} {below : List Frame} {meth : Method} {c : Code} {H : Heap} {locs : List Loc} {cells slots : Nat} {Q : State → Prop}
variable {D : va_G} {tys : List (ClassId × FieldType)} {y : MethodName} {bytes cc : ByteArray} {maxL nL n index pc : Nat} {ret : Option FieldType} {ws Ts : List Cond} {rm : Room} {own C : String} {b : Addr} {As rest st st' : List Value} {ls : Array Slot} {X Xc Xc' : va_W} {v : Option Value} {A0 : Nat → Prop} {H0 : Heap}
/-- ends of a method that reads -/
theorem rRi {ty : FieldType} {r r' : Int32} (hx : p.tables.exec = Jvm.exec) (hb : c.code = cc) (hr : meth.sig.returnType = some ty) (hlocks : meth.locks = false)
    (hQ : ∀ g : JFrame, W p l e R s m args below meth c s.heap [] 0 0 (MQ below (fun _ st o t => o = .returned (some (.int r)) ∧ t.heap = st.heap) args s 0 0 (fun _ => False)) g → W p l e R s m args below meth c s.heap [] 0 0 Q g)
    (he : r' = r) (hn : narrow ty (.int r') = .int r') (hdg : decode cc pc = .ok (.ireturn, 1)) : W p l e R s m args below meth c s.heap [] 0 0 Q (F0 m pc ls [.int r']) :=
  hQ _ (W.zret (v := r') hx hb hr hn (fun t ht _ => ⟨by rw [he], ht⟩) (fun _ h => by cases h) hdg hlocks)
theorem rRf {r r' : UInt32} (hx : p.tables.exec = Jvm.exec) (hb : c.code = cc) (hr : meth.sig.returnType = some .float) (hlocks : meth.locks = false)
    (hQ : ∀ g : JFrame, W p l e R s m args below meth c s.heap [] 0 0 (MQ below (fun _ st o t => o = .returned (some (.float r)) ∧ t.heap = st.heap) args s 0 0 (fun _ => False)) g → W p l e R s m args below meth c s.heap [] 0 0 Q g)
    (he : r' = r) (hdg : decode cc pc = .ok (.freturn, 1)) : W p l e R s m args below meth c s.heap [] 0 0 Q (F0 m pc ls [.float r']) :=
  hQ _ (W.fret (v := r') hx hb hr (fun t ht _ => ⟨by rw [he], ht⟩) (fun _ h => by cases h) hdg (hlocks := hlocks))
theorem rRd {r r' : UInt64} (hx : p.tables.exec = Jvm.exec) (hb : c.code = cc) (hr : meth.sig.returnType = some .double) (hlocks : meth.locks = false)
    (hQ : ∀ g : JFrame, W p l e R s m args below meth c s.heap [] 0 0 (MQ below (fun _ st o t => o = .returned (some (.double r)) ∧ t.heap = st.heap) args s 0 0 (fun _ => False)) g → W p l e R s m args below meth c s.heap [] 0 0 Q g)
    (he : r' = r) (hdg : decode cc pc = .ok (.dreturn, 1)) : W p l e R s m args below meth c s.heap [] 0 0 Q (F0 m pc ls [.double r']) :=
  hQ _ (W.dret (v := r') hx hb hr (fun t ht _ => ⟨by rw [he], ht⟩) (fun _ h => by cases h) hdg (hlocks := hlocks))
/-- ends of a method that writes -/
theorem rUi {ty : FieldType} {r r' : Int32} {X1 X2 : va_W} (hx : p.tables.exec = Jvm.exec) (hb : c.code = cc) (hr : meth.sig.returnType = some ty) (hlocks : meth.locks = false)
    (hQ : ∀ (g : JFrame) (H : Heap) (locs : List Loc), va_S A0 s.heap H locs → W p l e R s m args below meth c H locs 0 0 (MQ below (fun _ st o t => (o = .returned (some (.int r)) ∧ va_P D vwCl X2 t.heap) ∧ va_F A0 st t) args s 0 0 A0) g → W p l e R s m args below meth c H locs 0 0 Q g)
    (hP : va_P D vwCl X1 H) (hS : va_S A0 s.heap H locs) (he : r' = r) (hX : X1 = X2) (hn : narrow ty (.int r') = .int r') (hdg : decode cc pc = .ok (.ireturn, 1)) : W p l e R s m args below meth c H locs 0 0 Q (F0 m pc ls [.int r']) := by
  subst hX
  exact hQ _ H locs hS (W.zret (v := r') hx hb hr hn (fun t ht _ => ⟨⟨by rw [he], by rw [ht]; exact hP⟩, hS.F ht⟩) hS.2.2 hdg hlocks)
theorem rUv {X1 X2 : va_W} (hx : p.tables.exec = Jvm.exec) (hb : c.code = cc) (hr : meth.sig.returnType = none) (hlocks : meth.locks = false)
    (hQ : ∀ (g : JFrame) (H : Heap) (locs : List Loc), va_S A0 s.heap H locs → W p l e R s m args below meth c H locs 0 0 (MQ below (fun _ st o t => (o = .returned none ∧ va_P D vwCl X2 t.heap) ∧ va_F A0 st t) args s 0 0 A0) g → W p l e R s m args below meth c H locs 0 0 Q g)
    (hP : va_P D vwCl X1 H) (hS : va_S A0 s.heap H locs) (hX : X1 = X2) (hdg : decode cc pc = .ok (.return_, 1)) : W p l e R s m args below meth c H locs 0 0 Q (F0 m pc ls []) := by
  subst hX
  exact hQ _ H locs hS (W.vret hx hb hr (fun t ht _ => ⟨⟨rfl, by rw [ht]; exact hP⟩, hS.F ht⟩) hS.2.2 hdg hlocks)
/-- a call of an instance method that reads -/
theorem fRV (S : CallFix p m c cc nL s args Ts own) (hM : mR l D tys y ws rm (.ref b :: As) Xc v) (cw : CallW R s args own C index y bytes maxL ret ws rm 0 0 n) (hP : va_P D vwCl X H) (hK : va_K D vwCl tys s)
    (is : List Nat) (his : is.filterMap (fun i => X[i]?) = Xc) (q0 : Nat) {ci : Nat} {q : vw_C} {fs : List Value} (hc : vwCl[ci]? = some q) (hC : q.1 = C) (he : X[q0]? = some (b, .inr (ci, fs)))
    (hn : As.length = n) (hsz : ls.size = nL) (hst : st = As.reverse ++ .ref b :: rest) (hst' : v.toList ++ rest = st') (hW : (rest.map fun v => v.category).sum ≤ 8) (hf : cells ≤ R.cells ∧ slots ≤ R.slots) (hdg : decode cc pc = .ok (.invokevirtual index, 3))
    (k : W p l e R s m args below meth c H locs cells slots Q (F0 m (pc + 3) ls st')) : W p l e R s m args below meth c H locs cells slots Q (F0 m pc ls st) := by
  subst hst; subst hst'; subst hC
  have hPc := hP.sub is his
  intro T hT X'
  obtain ⟨v', st₀, t, T', L, h0, X2, hL, e1, e2, ⟨hv, hh⟩, go⟩ := va_runV (g := F0 m pc ls (As.reverse ++ .ref b :: rest)) S hM cw ⟨fbR, va_recv hK hP hc he, fun U hU hW => ⟨rfl, by rw [hU]; exact hPc, va_K.moved hW.alike hK⟩⟩ rfl hn hsz rfl (lv_room hW) hdg hf T hT X'
  cases hv
  obtain ⟨t2, a1, b1⟩ := k T' (by rw [e1, hh, h0]) (Stand.forget X2 (fun q h => (hL q h).elim))
  exact ⟨t2, go t2 a1, b1⟩
/-- a call of a static method that reads -/
theorem fRS (S : CallFix p m c cc nL s args Ts own) (hM : mR l D tys y ws rm As Xc v) (cw : CallB R s args own index y bytes maxL ret ws rm 0 0 n ∧ (Cond.static y).before args s = true) (hP : va_P D vwCl X H) (hK : va_K D vwCl tys s)
    (is : List Nat) (his : is.filterMap (fun i => X[i]?) = Xc) (hn : As.length = n) (hsz : ls.size = nL) (hst : st = As.reverse ++ rest) (hst' : v.toList ++ rest = st') (hW : (rest.map fun v => v.category).sum ≤ 8) (hf : cells ≤ R.cells ∧ slots ≤ R.slots) (hdg : decode cc pc = .ok (.invokestatic index, 3))
    (k : W p l e R s m args below meth c H locs cells slots Q (F0 m (pc + 3) ls st')) : W p l e R s m args below meth c H locs cells slots Q (F0 m pc ls st) := by
  subst hst; subst hst'
  have hPc := hP.sub is his
  intro T hT X'
  obtain ⟨v', st₀, t, T', L, h0, X2, hL, e1, e2, ⟨hv, hh⟩, go⟩ := va_runS (g := F0 m pc ls (As.reverse ++ rest)) S hM cw ⟨fbR, fun U hU hW => ⟨rfl, by rw [hU]; exact hPc, va_K.moved hW.alike hK⟩⟩ rfl hn hsz rfl (lv_room hW) hdg hf T hT X'
  cases hv
  obtain ⟨t2, a1, b1⟩ := k T' (by rw [e1, hh, h0]) (Stand.forget X2 (fun q h => (hL q h).elim))
  exact ⟨t2, go t2 a1, b1⟩
/-- a call of an instance method that writes -/
theorem fUV (S : CallFix p m c cc nL s args Ts own) (hM : mU l D tys y ws rm (.ref b :: As) Xc v Xc') (cw : CallW R s args own C index y bytes maxL ret ws rm 0 0 n) (hP : va_P D vwCl X H) (hK : va_K D vwCl tys s) (hD : va_D A0 X) (hS : va_S A0 H0 H locs)
    (is : List Nat) (his : is.map (fun i => X[i]?) = Xc.map some) (his2 : is.filterMap (fun i => X[i]?) = Xc) (hnd : va_nd is = true) (hl : Xc'.length = is.length) (X2 : va_W) (hX2 : putAtW X is Xc' = X2) (hadr : X2.map Prod.fst = X.map Prod.fst)
    (q0 : Nat) {ci : Nat} {q : vw_C} {fs : List Value} (hc : vwCl[ci]? = some q) (hC : q.1 = C) (he : X[q0]? = some (b, .inr (ci, fs)))
    (hn : As.length = n) (hsz : ls.size = nL) (hst : st = As.reverse ++ .ref b :: rest) (hst' : v.toList ++ rest = st') (hW : (rest.map fun v => v.category).sum ≤ 8) (hf : cells ≤ R.cells ∧ slots ≤ R.slots) (hdg : decode cc pc = .ok (.invokevirtual index, 3))
    (k : ∀ (H1 : Heap) (locs1 : List Loc), va_P D vwCl X2 H1 → va_D A0 X2 → va_S A0 H0 H1 locs1 → W p l e R s m args below meth c H1 locs1 cells slots Q (F0 m (pc + 3) ls st')) : W p l e R s m args below meth c H locs cells slots Q (F0 m pc ls st) := by
  subst hst; subst hst'; subst hC
  have hPc := hP.sub is his2
  have hDc : va_D A0 Xc := hD.sub is hnd his
  intro T hT X'
  obtain ⟨v', st₀, t, T', L, h0, X3, hL, e1, e2, ⟨⟨hv, hP1⟩, hz, hk⟩, go⟩ := va_runV (g := F0 m pc ls (As.reverse ++ .ref b :: rest)) S hM cw ⟨fbU, va_recv hK hP hc he, fun U hU hW => ⟨rfl, by rw [hU]; exact hPc, va_K.moved hW.alike hK, hDc.weaken (fun _ _ _ _ => trivial)⟩⟩ rfl hn hsz rfl (lv_room hW) hdg hf T hT X'
  cases hv
  rw [h0] at hz hk
  have P2 : va_P D vwCl X2 t.heap := by rw [← hX2]; exact va_P.putAt hP hD is his hl hk hP1
  have S2 : va_S A0 H0 t.heap (locs ++ L) := ⟨Nat.le_trans hS.1 hz, fun q h1 h2 => by rw [hk q (Nat.lt_of_lt_of_le h1 hS.1) (fun z => h2 (aIn.lt hDc z))]; exact hS.2.1 q h1 h2, fun q hq => (List.mem_append.mp hq).elim (hS.2.2 q) (fun h => aIn.lt hDc (hL q h))⟩
  obtain ⟨t2, a1, b1⟩ := k T'.heap (locs ++ L) (by rw [e1]; exact P2) (hD.adr hadr) (by rw [e1]; exact S2) T' rfl X3
  exact ⟨t2, go t2 a1, b1⟩
theorem fUS (S : CallFix p m c cc nL s args Ts own) (hM : mU l D tys y ws rm As Xc v Xc') (cw : CallB R s args own index y bytes maxL ret ws rm 0 0 n ∧ (Cond.static y).before args s = true) (hP : va_P D vwCl X H) (hK : va_K D vwCl tys s) (hD : va_D A0 X) (hS : va_S A0 H0 H locs)
    (is : List Nat) (his : is.map (fun i => X[i]?) = Xc.map some) (his2 : is.filterMap (fun i => X[i]?) = Xc) (hnd : va_nd is = true) (hl : Xc'.length = is.length) (X2 : va_W) (hX2 : putAtW X is Xc' = X2) (hadr : X2.map Prod.fst = X.map Prod.fst)
    (hn : As.length = n) (hsz : ls.size = nL) (hst : st = As.reverse ++ rest) (hst' : v.toList ++ rest = st') (hW : (rest.map fun v => v.category).sum ≤ 8) (hf : cells ≤ R.cells ∧ slots ≤ R.slots) (hdg : decode cc pc = .ok (.invokestatic index, 3))
    (k : ∀ (H1 : Heap) (locs1 : List Loc), va_P D vwCl X2 H1 → va_D A0 X2 → va_S A0 H0 H1 locs1 → W p l e R s m args below meth c H1 locs1 cells slots Q (F0 m (pc + 3) ls st')) : W p l e R s m args below meth c H locs cells slots Q (F0 m pc ls st) := by
  subst hst; subst hst'
  have hPc := hP.sub is his2
  have hDc : va_D A0 Xc := hD.sub is hnd his
  intro T hT X'
  obtain ⟨v', st₀, t, T', L, h0, X3, hL, e1, e2, ⟨⟨hv, hP1⟩, hz, hk⟩, go⟩ := va_runS (g := F0 m pc ls (As.reverse ++ rest)) S hM cw ⟨fbU, fun U hU hW => ⟨rfl, by rw [hU]; exact hPc, va_K.moved hW.alike hK, hDc.weaken (fun _ _ _ _ => trivial)⟩⟩ rfl hn hsz rfl (lv_room hW) hdg hf T hT X'
  cases hv
  rw [h0] at hz hk
  have P2 : va_P D vwCl X2 t.heap := by rw [← hX2]; exact va_P.putAt hP hD is his hl hk hP1
  have S2 : va_S A0 H0 t.heap (locs ++ L) := ⟨Nat.le_trans hS.1 hz, fun q h1 h2 => by rw [hk q (Nat.lt_of_lt_of_le h1 hS.1) (fun z => h2 (aIn.lt hDc z))]; exact hS.2.1 q h1 h2, fun q hq => (List.mem_append.mp hq).elim (hS.2.2 q) (fun h => aIn.lt hDc (hL q h))⟩
  obtain ⟨t2, a1, b1⟩ := k T'.heap (locs ++ L) (by rw [e1]; exact P2) (hD.adr hadr) (by rw [e1]; exact S2) T' rfl X3
  exact ⟨t2, go t2 a1, b1⟩
end FW
/-- loops: a step that goes on or ends -/
def itr {σ ρ : Type} (f : σ → σ ⊕ ρ) : Nat → σ → σ ⊕ ρ
  | 0, a => .inl a
  | n + 1, a => match f a with
    | .inl b => itr f n b
    | .inr r => .inr r
/-- what the loop ends with (d: if it never does) -/
def itv {σ ρ : Type} (d : ρ) (f : σ → σ ⊕ ρ) (n : Nat) (a : σ) : ρ := match itr f n a with
  | .inl _ => d
  | .inr r => r
theorem itv_eq {σ ρ : Type} {d r : ρ} {f : σ → σ ⊕ ρ} {n : Nat} {a : σ} (h : itr f n a = .inr r) : itv d f n a = r := by simp only [itv, h]
theorem itr_ends {σ ρ : Type} (f : σ → σ ⊕ ρ) (I : σ → Prop) (μ : σ → Nat) (hd : ∀ a b, I a → f a = .inl b → I b ∧ μ b < μ a) : ∀ (n : Nat) (a : σ), I a → μ a < n → ∃ r, itr f n a = .inr r
  | 0, _, _, h => absurd h (Nat.not_lt_zero _)
  | n + 1, a, hI, h => by
    cases hf : f a with
    | inr r => exact ⟨r, by simp only [itr, hf]⟩
    | inl b =>
      obtain ⟨h1, h2⟩ := hd a b hI hf
      obtain ⟨r, hr⟩ := itr_ends f I μ hd n b h1 (by omega)
      exact ⟨r, by simp only [itr, hf]; exact hr⟩
theorem itr_more {σ ρ : Type} (f : σ → σ ⊕ ρ) : ∀ (n k : Nat) (a : σ) (r : ρ), itr f n a = .inr r → itr f (n + k) a = .inr r
  | 0, _, _, _, h => by simp only [itr] at h; cases h
  | n + 1, k, a, r, h => by
    rw [show n + 1 + k = (n + k) + 1 by omega]
    cases hf : f a with
    | inr q => simp only [itr, hf] at h ⊢; exact h
    | inl b => simp only [itr, hf] at h ⊢; exact itr_more f n k b r h
/-- a loop walked by its step: one round, and the ends -/
theorem loopW {σ ρ : Type} (f : σ → σ ⊕ ρ) (I : σ → Prop) (Wd : σ → Prop) (K : ρ → Prop) (body : ∀ a, I a → (∀ b, f a = .inl b → Wd b) → (∀ r, f a = .inr r → K r) → Wd a) (hI : ∀ a b, I a → f a = .inl b → I b) :
    ∀ (n : Nat) (a : σ) (r : ρ), I a → itr f n a = .inr r → K r → Wd a
  | 0, a, r, _, h, _ => by simp only [itr] at h; cases h
  | n + 1, a, r, h0, h, hk => by
    refine body a h0 (fun b hb => ?_) (fun q hq => ?_)
    · simp only [itr, hb] at h
      exact loopW f I Wd K body hI n b r (hI a b h0 hb) h hk
    · simp only [itr, hq] at h
      cases h
      exact hk
