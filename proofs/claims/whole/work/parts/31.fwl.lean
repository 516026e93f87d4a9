/-! The law's helpers: they catch what the class throws. -/
abbrev TY5 (cI cC cT cJ cD : ClassId) : List (ClassId × FieldType) := [(cI, .int), (cC, .char), (cT, .object "TavernStools$Tavern"), (cJ, .long), (cD, .double)]
def xN (U : State) : Prop := va_Nc "java/lang/UnsupportedOperationException" "java/lang/IllegalArgumentException" U ∧ va_Nc "java/lang/UnsupportedOperationException" "java/lang/IndexOutOfBoundsException" U ∧ va_Nc "java/lang/IllegalArgumentException" "java/lang/IndexOutOfBoundsException" U
theorem xN.moved {u U : State} (hvm : u.vm.Alike U.vm) (h : xN u) : xN U := ⟨h.1.moved hvm, h.2.1.moved hvm, h.2.2.moved hvm⟩
def mL (l : Launch) (D : va_G) (tys : List (ClassId × FieldType)) (y : MethodName) (ws : List Cond) (rm : Room) (av : List Value) (X : va_W) (r : Int32) (X' : va_W) (k : Nat) : Prop :=
  Met l y ws rm (va_Pc av (fun U => va_P D vwCl X U.heap ∧ va_K D vwCl tys U ∧ va_D (fun _ => True) X ∧ xE (aIn X) U ∧ xN U)) (fun _ st o t => (o = .returned (some (.int r)) ∧ va_P D vwCl X' t.heap) ∧ va_F (aIn X) st t) k (6 * k) (aIn X)
theorem fbL {D : va_G} {tys : List (ClassId × FieldType)} {av : List Value} {X : va_W} : FrameBlind (va_Pc av (fun U => va_P D vwCl X U.heap ∧ va_K D vwCl tys U ∧ va_D (fun _ => True) X ∧ xE (aIn X) U ∧ xN U)) := fun a U g mk q => by
  obtain ⟨q0, qP, qK, qD, qE, qN⟩ := q
  exact ⟨q0, qP, va_K.moved (u := U) (U := U.calling g mk a) (Vm.Alike.refl U.vm) qK, qD, qE.calling, qN.moved (u := U) (U := U.calling g mk a) (Vm.Alike.refl U.vm)⟩
theorem mL.ofW {l : Launch} {D : va_G} {tys : List (ClassId × FieldType)} {y : MethodName} {ws ws' : List Cond} {rm : Room} {av : List Value} {X X' : va_W} {r : Int32} {k : Nat} {cc : ByteArray} {maxL : Nat} {ret : Option FieldType} {hh : List (Nat × Nat × Nat × Nat)}
    (hy : plainName y.cls = true) (hw : ws = Cond.codeWith y cc maxL ret hh :: ws') (hav : (lg_sl av).length ≤ maxL)
    (body : ∀ (p : Program) (e : Env) (s : State) (m : MethodId) (args : Array Value) (below : List Frame) (meth : Method) (c : Code) (Q : State → Prop) (ls : Array Slot) (A : Nat → Prop),
      p.tables.exec = Jvm.exec → c.code = cc → c.maxLocals = maxL → meth.sig.returnType = ret → meth.locks = false → (∀ w ∈ ws, w.before args s = true) → s.vm.findClass y.cls = some m.cls → va_P D vwCl X s.heap → va_K D vwCl tys s → va_D A X → va_S A s.heap s.heap [] → lv_has ls maxL (lv_args 0 av) → xE A s → xN s → c.exceptionTable.toList = tableOf hh →
      (∀ (g : JFrame) (H : Heap) (locs : List Loc) (cells slots : Nat), W p l e rm s m args below meth c H locs cells slots (MQ below (fun _ st o t => (o = .returned (some (.int r)) ∧ va_P D vwCl X' t.heap) ∧ va_F A st t) args s k (6 * k) A) g → W p l e rm s m args below meth c H locs cells slots Q g) →
      W p l e rm s m args below meth c s.heap [] 0 0 Q (F0 m 0 ls [])) : mL l D tys y ws rm av X r X' k := by
  refine va_MetW (cc := cc) (maxL := maxL) (ret := ret) (hh := hh) hy hw ?_
  intro p e s m args below meth c s₁ B hml hv
  obtain ⟨rfl, hP, hK, hD, hE, hN⟩ := hv
  have hl := lv_entry av (n := maxL) hav
  rw [lg_entry_eq]
  exact body p e s m _ below meth c _ _ (aIn X) B.exec B.bytes hml B.returns B.notSynchronized (atoms_spec (ws := ws) B.pre) (findClass_of_methodNamed B.named) hP hK ⟨hD.1, fun k q h => ⟨k, q.2, h⟩⟩ va_S.rf hl hE hN (vx_table (x := y) B (atoms_spec (ws := ws) B.pre _ (by rw [hw]; exact List.mem_cons_self))) (fun g H locs _ _ h => h)
section LF
variable {p : Program} {l : Launch} {e : Env} {R : Room} {s : State} {m : MethodId} {args : Array Value} {below : List Frame} {meth : Method} {c : Code} {H : Heap} {locs : List Loc} {cells slots : Nat} {Q : State → Prop}
variable {D : va_G} {tys : List (ClassId × FieldType)} {y : MethodName} {bytes cc : ByteArray} {maxL nL n index pc : Nat} {ret : Option FieldType} {ws Ts : List Cond} {rm : Room} {own C : String} {b : Addr} {As rest st st' : List Value} {ls : Array Slot} {X Xc Xc' : va_W} {k : Nat} {A0 : Nat → Prop} {H0 : Heap}
theorem rLi {ty : FieldType} {r r' : Int32} {X1 X2 : va_W} (hx : p.tables.exec = Jvm.exec) (hb : c.code = cc) (hr : meth.sig.returnType = some ty) (hlocks : meth.locks = false)
    (hQ : ∀ (g : JFrame) (H : Heap) (locs : List Loc) (cells slots : Nat), W p l e R s m args below meth c H locs cells slots (MQ below (fun _ st o t => (o = .returned (some (.int r)) ∧ va_P D vwCl X2 t.heap) ∧ va_F A0 st t) args s k (6 * k) A0) g → W p l e R s m args below meth c H locs cells slots Q g)
    (hP : va_P D vwCl X1 H) (hS : va_S A0 s.heap H locs) (he : r' = r) (hX : X1 = X2) (hn : narrow ty (.int r') = .int r') (hk : cells ≤ k ∧ slots ≤ 6 * k) (hdg : decode cc pc = .ok (.ireturn, 1)) : W p l e R s m args below meth c H locs cells slots Q (F0 m pc ls [.int r']) := by
  subst hX
  exact hQ _ _ _ _ _ (W.widen hk.1 hk.2 (W.zret (v := r') hx hb hr hn (fun t ht _ => ⟨⟨by rw [he], by rw [ht]; exact hP⟩, hS.F ht⟩) hS.2.2 hdg hlocks))
/-- the law's call of a helper -/
theorem fLq {hh : List (Nat × Nat × Nat × Nat)} {r : Int32} (S : CallFix p m c cc nL s args Ts own) (hM : mL l D tys y ws rm As Xc r Xc' k) (cw : vx_CSW R s args own index y bytes maxL ret hh ws rm k (6 * k) n) (hP0 : va_P D vwCl X H) (hK : va_K D vwCl tys s) (hD0 : va_D A0 X) (hS : va_S A0 s.heap H locs) (hXE : xE A0 s) (hXN : xN s)
    (Xr : va_W) (hp : X.Perm (Xc ++ Xr)) (X2 : va_W) (hp2 : (Xc' ++ Xr).Perm X2) (hadr : Xc'.map Prod.fst = Xc.map Prod.fst)
    (hn : As.length = n) (hsz : ls.size = nL) (hst : st = As.reverse ++ rest) (hW : (rest.map fun v => v.category).sum ≤ 8) (hf : cells + k ≤ R.cells ∧ slots + 6 * k ≤ R.slots) (hdg : decode cc pc = .ok (.invokestatic index, 3))
    (kk : ∀ (H1 : Heap) (locs1 : List Loc), va_P D vwCl X2 H1 → va_D A0 X2 → va_S A0 s.heap H1 locs1 → W p l e R s m args below meth c H1 locs1 (cells + k) (slots + 6 * k) Q (F0 m (pc + 3) ls (.int r :: rest))) : W p l e R s m args below meth c H locs cells slots Q (F0 m pc ls st) := by
  subst hst
  have hP := hP0.perm hp
  have hD := hD0.perm hp
  have hPc := hP.left
  have hDc : va_D A0 Xc := hD.left
  intro T hT X'
  obtain ⟨v', st₀, t, T', L, h0, X3, hL, e1, e2, ⟨⟨hv, hP1⟩, hz, hk⟩, go⟩ := vx_runSW (g := F0 m pc ls (As.reverse ++ rest)) S hM cw ⟨fbL, fun U hU hW => ⟨rfl, by rw [hU]; exact hPc, va_K.moved hW.alike hK, hDc.weaken (fun _ _ _ _ => trivial), hXE.go hW hS hU (aIn.sub hDc), hXN.moved hW.alike⟩⟩ rfl hn hsz rfl (lv_room hW) hdg hf T hT X'
  cases hv
  rw [h0] at hz hk
  have P2 : va_P D vwCl (Xc' ++ Xr) t.heap := va_P.leftAt hP hD hk hP1
  have S2 : va_S A0 s.heap t.heap (locs ++ L) := ⟨Nat.le_trans hS.1 hz, fun q h1 h2 => by rw [hk q (Nat.lt_of_lt_of_le h1 hS.1) (fun z => h2 (aIn.lt hDc z))]; exact hS.2.1 q h1 h2, fun q hq => (List.mem_append.mp hq).elim (hS.2.2 q) (fun h => aIn.lt hDc (hL q h))⟩
  obtain ⟨t2, a1, b1⟩ := kk T'.heap (locs ++ L) (by rw [e1]; exact P2.perm hp2) ((hD.adr (by rw [List.map_append, List.map_append, hadr])).perm hp2) (by rw [e1]; exact S2) T' rfl X3
  exact ⟨t2, go t2 a1, b1⟩
end LF
