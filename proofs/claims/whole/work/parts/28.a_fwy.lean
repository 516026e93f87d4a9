/-! A throw of an exception whose constructor calls on at constant 13 -/
section XF13
variable {p : Program} {l : Launch} {e : Env} {R : Room} {s : State} {m : MethodId} {args : Array Value} {below : List Frame} {meth : Method} {c : Code} {H : Heap} {locs : List Loc} {cells slots : Nat} {Q : State → Prop}
variable {D : va_G} {cc : ByteArray} {pc : Nat} {Ts : List Cond} {ls : Array Slot} {E : Option String} {v : Option Value} {k : Nat} {A0 : Nat → Prop}
theorem rXt13 {X1 X2 : va_W} {cls text : String} {ik is ic : Nat} (hx : p.tables.exec = Jvm.exec) (hb : c.code = cc) (hst : l.stackTraces = false) (hown : s.vm.findClass RX5 = some m.cls) (hlocks : meth.locks = false) (hts : ∀ w ∈ Ts, w.before args s = true) (hXE : xE A0 s) (htb : ∀ x ∈ c.exceptionTable.toList, False)
    (hQ : ∀ (g : JFrame) (H : Heap) (locs : List Loc) (cells slots : Nat), W p l e R s m args below meth c H locs cells slots (MXQ D below E v X2 k args s A0) g → W p l e R s m args below meth c H locs cells slots Q g)
    (hP : va_P D vwCl X1 H) (hS : va_S A0 s.heap H locs) (hml : c.maxLocals = ls.size) (hcls : Bundle.fit cls = true) (hnm : cls ∈ xNm) (htx : (is, text) ∈ xTx)
    (hk : Cond.classLink RX5 ik cls ∈ Ts) (hini : Cond.initialized cls ∈ Ts) (hat : ∀ w ∈ (vx_at13 RX5 ic cls xSup).filter goodWord, w ∈ Ts) (hbad : ∀ w ∈ (vx_at13 RX5 ic cls xSup).filter (fun w => !goodWord w), w ∈ [Cond.castable cls cls, Cond.declares (Bundle.initS "java/lang/RuntimeException"), Cond.declares (Bundle.initS "java/lang/Exception"), Cond.declares (Bundle.initS "java/lang/Throwable")])
    (hgood : ∀ w ∈ Cond.classLink RX5 ik cls :: Cond.initialized cls :: vx_at13 RX5 ic cls xSup, vx_ot w = true)
    (hR : (6 ≤ R.frames ∧ 82 ≤ R.locals) ∧ (cells + 1 ≤ R.cells ∧ slots + 6 ≤ R.slots) ∧ (cells + 1 ≤ k ∧ slots + 6 ≤ 6 * k)) (hE : E = some cls) (hX : X1 = X2)
    (d0 : decode cc pc = .ok (.new ik, 3)) (d3 : decode cc (pc + 3) = .ok (.dup, 1)) (d4 : decode cc (pc + 4) = .ok (.ldc is, 2) ∧ decode cc (pc + 6) = .ok (.invokespecial ic, 3) ∧ decode cc (pc + 9) = .ok (.athrow, 1)) :
    W p l e R s m args below meth c H locs cells slots Q (F0 m pc ls []) := by
  subst hX
  obtain ⟨sa, hsa⟩ := hXE.2.1 _ htx
  have hat2 : ∀ w ∈ vx_at13 RX5 ic cls xSup, w.before args s = true := vx_hat (fun w hw => hts w (hat w hw)) hbad (vx_c (va_Nw.use (A := args) rfl (hXE.1.1 cls hnm)) (vx_c (va_Nw.use (A := args) rfl (hXE.1.2 _ (by decide +kernel))) (vx_c (va_Nw.use (A := args) rfl (hXE.1.2 _ (by decide +kernel))) (vx_c (va_Nw.use (A := args) rfl (hXE.1.2 _ (by decide +kernel))) vx_n))))
  have hsup : ∀ n ∈ xSup, Bundle.fit n = true := by decide +kernel
  refine hQ _ _ _ _ _ ?_
  obtain ⟨d4, d6, d9⟩ := d4
  exact vx_throw13 hx hb hst hown hcls hsup (hts _ hk) (hts _ hini) hsa hat2 hgood hXE.2.2.1 hXE.2.2.2 hS hml.symm d0 d3 d4 d6 d9 (fun x h => (htb x h).elim) hR.1.1 hR.1.2 hR.2.1.1 hR.2.1.2 hlocks (fun t _ h1 h2 => ⟨hE, xP hP hS h1 h2⟩) hS.2.2 hR.2.2.1 hR.2.2.2
end XF13
