/-! Worlds by their blocks: the order of cells says nothing. -/
theorem va_P.mem {D : va_G} {cl : List vw_C} {X : va_W} {H : Heap} (hP : va_P D cl X H) {q : Nat × va_E} (h : q ∈ X) : va_at D cl q H := by
  obtain ⟨k, hk⟩ := List.getElem?_of_mem h
  exact hP k q hk
theorem va_P.perm {D : va_G} {cl : List vw_C} {X Y : va_W} {H : Heap} (hP : va_P D cl X H) (h : X.Perm Y) : va_P D cl Y H := fun k q hk => hP.mem (h.mem_iff.mpr (List.mem_of_getElem? hk))
theorem va_D.nd {A : Nat → Prop} {X : va_W} (h : va_D A X) : (X.map Prod.fst).Nodup := by
  rw [List.Nodup, List.pairwise_iff_getElem]
  intro i j hi hj hij e
  rw [List.getElem_map, List.getElem_map] at e
  have hi2 : i < X.length := by simpa using hi
  have hj2 : j < X.length := by simpa using hj
  have := h.1 i j X[i] X[j] (List.getElem?_eq_getElem hi2) (List.getElem?_eq_getElem hj2) e
  omega
theorem va_D.ofNd {A : Nat → Prop} {X : va_W} (h : (X.map Prod.fst).Nodup) (hA : ∀ q ∈ X, A q.1) : va_D A X := by
  rw [List.Nodup, List.pairwise_iff_getElem] at h
  refine ⟨fun i j p q hi hj e => ?_, fun k q hk => hA q (List.mem_of_getElem? hk)⟩
  obtain ⟨hi2, ei⟩ := List.getElem?_eq_some_iff.mp hi
  obtain ⟨hj2, ej⟩ := List.getElem?_eq_some_iff.mp hj
  rcases Nat.lt_trichotomy i j with hlt | rfl | hlt
  · exact absurd (by rw [List.getElem_map, List.getElem_map, ei, ej]; exact e) (h i j (by simpa using hi2) (by simpa using hj2) hlt)
  · rfl
  · exact absurd (by rw [List.getElem_map, List.getElem_map, ei, ej]; exact e.symm) (h j i (by simpa using hj2) (by simpa using hi2) hlt)
theorem va_D.perm {A : Nat → Prop} {X Y : va_W} (hD : va_D A X) (h : X.Perm Y) : va_D A Y := by
  refine va_D.ofNd ((h.map Prod.fst).nodup_iff.mp hD.nd) (fun q hq => ?_)
  obtain ⟨k, hk⟩ := List.getElem?_of_mem (h.mem_iff.mpr hq)
  exact hD.2 k q hk
noncomputable def dW : DecidableEq (Nat × va_E) := fun a b => Classical.propDecidable (a = b)
noncomputable def cntW (a : Nat × va_E) (X : va_W) : Nat := @List.count (Nat × va_E) (@instBEqOfDecidableEq _ dW) a X
theorem cntW_app (a : Nat × va_E) (X Y : va_W) : cntW a (X ++ Y) = cntW a X + cntW a Y := by
  letI : DecidableEq (Nat × va_E) := dW
  exact List.count_append
theorem cntW_nil (a : Nat × va_E) : cntW a [] = 0 := rfl
theorem pmI {X Y : va_W} (h : ∀ a : Nat × va_E, cntW a X = cntW a Y) : X.Perm Y := by
  letI : DecidableEq (Nat × va_E) := dW
  exact List.perm_iff_count.mpr (fun a => h a)
section QF
variable {p : Program} {l : Launch} {e : Env} {R : Room} {s : State} {m : MethodId} {args : Array Value} {below : List Frame} {meth : Method} {c : Code} {H : Heap} {locs : List Loc} {cells slots : Nat} {Q : State → Prop}
variable {D : va_G} {tys : List (ClassId × FieldType)} {y : MethodName} {bytes cc : ByteArray} {maxL nL n index pc : Nat} {ret : Option FieldType} {ws Ts : List Cond} {rm : Room} {own C : String} {b : Addr} {As rest st st' : List Value} {ls : Array Slot} {X Xc Xc' : va_W} {E : Option String} {v : Option Value} {k : Nat} {A0 : Nat → Prop} {H0 : Heap}
theorem fRq (S : CallFix p m c cc nL s args Ts own) (hM : mR l D tys y ws rm (.ref b :: As) Xc v) (cw : CallW R s args own C index y bytes maxL ret ws rm 0 0 n) (hP : va_P D vwCl X H) (hK : va_K D vwCl tys s)
    (Xr : va_W) (hp : X.Perm (Xc ++ Xr)) (q0 : Nat) {ci : Nat} {q : vw_C} {fs : List Value} (hc : vwCl[ci]? = some q) (hC : q.1 = C) (he : X[q0]? = some (b, .inr (ci, fs)))
    (hn : As.length = n) (hsz : ls.size = nL) (hst : st = As.reverse ++ .ref b :: rest) (hst' : v.toList ++ rest = st') (hW : (rest.map fun v => v.category).sum ≤ 8) (hf : cells ≤ R.cells ∧ slots ≤ R.slots) (hdg : decode cc pc = .ok (.invokevirtual index, 3))
    (kk : W p l e R s m args below meth c H locs cells slots Q (F0 m (pc + 3) ls st')) : W p l e R s m args below meth c H locs cells slots Q (F0 m pc ls st) := by
  obtain ⟨q1, h1⟩ := List.getElem?_of_mem (hp.mem_iff.mp (List.mem_of_getElem? he))
  exact fRVp S hM cw (hP.perm hp) hK Xr rfl q1 hc hC h1 hn hsz hst hst' hW hf hdg kk
theorem fUq (S : CallFix p m c cc nL s args Ts own) (hM : mU l D tys y ws rm (.ref b :: As) Xc v Xc') (cw : CallW R s args own C index y bytes maxL ret ws rm 0 0 n) (hP : va_P D vwCl X H) (hK : va_K D vwCl tys s) (hD : va_D A0 X) (hS : va_S A0 H0 H locs)
    (Xr : va_W) (hp : X.Perm (Xc ++ Xr)) (X2 : va_W) (hp2 : (Xc' ++ Xr).Perm X2) (hadr : Xc'.map Prod.fst = Xc.map Prod.fst)
    (q0 : Nat) {ci : Nat} {q : vw_C} {fs : List Value} (hc : vwCl[ci]? = some q) (hC : q.1 = C) (he : X[q0]? = some (b, .inr (ci, fs)))
    (hn : As.length = n) (hsz : ls.size = nL) (hst : st = As.reverse ++ .ref b :: rest) (hst' : v.toList ++ rest = st') (hW : (rest.map fun v => v.category).sum ≤ 8) (hf : cells ≤ R.cells ∧ slots ≤ R.slots) (hdg : decode cc pc = .ok (.invokevirtual index, 3))
    (kk : ∀ (H1 : Heap) (locs1 : List Loc), va_P D vwCl X2 H1 → va_D A0 X2 → va_S A0 H0 H1 locs1 → W p l e R s m args below meth c H1 locs1 cells slots Q (F0 m (pc + 3) ls st')) : W p l e R s m args below meth c H locs cells slots Q (F0 m pc ls st) := by
  obtain ⟨q1, h1⟩ := List.getElem?_of_mem (hp.mem_iff.mp (List.mem_of_getElem? he))
  exact fUVp S hM cw (hP.perm hp) hK (hD.perm hp) hS Xr rfl (Xc' ++ Xr) rfl (by rw [List.map_append, List.map_append, hadr]) q1 hc hC h1 hn hsz hst hst' hW hf hdg (fun H1 locs1 a1 a2 a3 => kk H1 locs1 (a1.perm hp2) (a2.perm hp2) a3)
theorem fXq (S : CallFix p m c cc nL s args Ts own) (hM : mX l D tys y ws rm (.ref b :: As) Xc E v Xc' k) (cw : CallW R s args own C index y bytes maxL ret ws rm k (6 * k) n) (hP : va_P D vwCl X H) (hK : va_K D vwCl tys s) (hD : va_D A0 X) (hS : va_S A0 s.heap H locs) (hXE : xE A0 s)
    (Xr : va_W) (hp : X.Perm (Xc ++ Xr)) (X2 : va_W) (hp2 : (Xc' ++ Xr).Perm X2) (hadr : Xc'.map Prod.fst = Xc.map Prod.fst)
    (q0 : Nat) {ci : Nat} {q : vw_C} {fs : List Value} (hc : vwCl[ci]? = some q) (hC : q.1 = C) (he : X[q0]? = some (b, .inr (ci, fs)))
    (hn : As.length = n) (hsz : ls.size = nL) (hst : st = As.reverse ++ .ref b :: rest) (hst' : v.toList ++ rest = st') (hW : (rest.map fun v => v.category).sum ≤ 8) (hf : cells + k ≤ R.cells ∧ slots + 6 * k ≤ R.slots) (hdg : decode cc pc = .ok (.invokevirtual index, 3))
    (kx : ∀ (C1 : String) (ce : Cell) (q9 : Addr) (H1 : Heap) (locs1 : List Loc), E = some C1 → va_P D vwCl X2 H1 → va_D A0 X2 → va_S A0 s.heap H1 locs1 → H1[q9]? = some ce → ce.vm = .none → s.vm.findClass C1 = some ce.cls → vx_W p l e R s m args below meth c H1 locs1 (cells + k) (slots + 6 * k) Q (F0 m pc ls rest) q9)
    (kk : ∀ (H1 : Heap) (locs1 : List Loc), E = none → va_P D vwCl X2 H1 → va_D A0 X2 → va_S A0 s.heap H1 locs1 → W p l e R s m args below meth c H1 locs1 (cells + k) (slots + 6 * k) Q (F0 m (pc + 3) ls st')) : W p l e R s m args below meth c H locs cells slots Q (F0 m pc ls st) := by
  obtain ⟨q1, h1⟩ := List.getElem?_of_mem (hp.mem_iff.mp (List.mem_of_getElem? he))
  exact fXVp S hM cw (hP.perm hp) hK (hD.perm hp) hS hXE Xr rfl (Xc' ++ Xr) rfl (by rw [List.map_append, List.map_append, hadr]) q1 hc hC h1 hn hsz hst hst' hW hf hdg
    (fun C1 ce q9 H1 locs1 hE a1 a2 a3 b1 b2 b3 => kx C1 ce q9 H1 locs1 hE (a1.perm hp2) (a2.perm hp2) a3 b1 b2 b3) (fun H1 locs1 hE a1 a2 a3 => kk H1 locs1 hE (a1.perm hp2) (a2.perm hp2) a3)
end QF
