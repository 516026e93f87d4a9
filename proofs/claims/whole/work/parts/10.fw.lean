/-! My own frame: contracts of methods that read, that write and make nothing; and their call rows. -/
abbrev TY (cI cC cT : ClassId) : List (ClassId × FieldType) := [(cI, .int), (cC, .char), (cT, .object "TavernStools$Tavern")]
/-- the cells of a world -/
def aIn (W : va_W) : Nat → Prop := fun q => ∃ (k : Nat) (e : va_E), W[k]? = some (q, e)
/-- a method that reads: its answer, the heap as it was -/
def mR (l : Launch) (D : va_G) (tys : List (ClassId × FieldType)) (y : MethodName) (ws : List Cond) (rm : Room) (av : List Value) (X : va_W) (v : Option Value) : Prop :=
  Met l y ws rm (va_Pc av (fun U => va_P D vwCl X U.heap ∧ va_K D vwCl tys U)) (fun _ st o t => o = .returned v ∧ t.heap = st.heap) 0 0 (fun _ => False)
/-- a method that writes in its world, and makes nothing -/
def mU (l : Launch) (D : va_G) (tys : List (ClassId × FieldType)) (y : MethodName) (ws : List Cond) (rm : Room) (av : List Value) (X : va_W) (v : Option Value) (X' : va_W) : Prop :=
  Met l y ws rm (va_Pc av (fun U => va_P D vwCl X U.heap ∧ va_K D vwCl tys U ∧ va_D (fun _ => True) X)) (fun _ st o t => (o = .returned v ∧ va_P D vwCl X' t.heap) ∧ va_F (aIn X) st t) 0 0 (aIn X)
theorem fbR {D : va_G} {tys : List (ClassId × FieldType)} {av : List Value} {X : va_W} : FrameBlind (va_Pc av (fun U => va_P D vwCl X U.heap ∧ va_K D vwCl tys U)) := fun a U g mk q => by
  obtain ⟨q0, qP, qK⟩ := q
  exact ⟨q0, qP, va_K.moved (u := U) (U := U.calling g mk a) (Vm.Alike.refl U.vm) qK⟩
theorem fbU {D : va_G} {tys : List (ClassId × FieldType)} {av : List Value} {X : va_W} : FrameBlind (va_Pc av (fun U => va_P D vwCl X U.heap ∧ va_K D vwCl tys U ∧ va_D (fun _ => True) X)) := fun a U g mk q => by
  obtain ⟨q0, qP, qK, qD⟩ := q
  exact ⟨q0, qP, va_K.moved (u := U) (U := U.calling g mk a) (Vm.Alike.refl U.vm) qK, qD⟩
/-- the cells at some places anew -/
def putAtW : va_W → List Nat → va_W → va_W
  | w, i :: is, x :: xs => putAtW (w.set i x) is xs
  | w, _, _ => w
theorem putAt_get : ∀ (is : List Nat) (xs w : va_W), xs.length = is.length → ∀ (k : Nat) (q : Nat × va_E), (putAtW w is xs)[k]? = some q → q ∈ xs ∨ (k ∉ is ∧ w[k]? = some q)
  | [], xs, w, _, k, q, h => by
    cases xs <;> exact Or.inr ⟨List.not_mem_nil, h⟩
  | i :: is, [], w, hl, k, q, h => by simp at hl
  | i :: is, x :: xs, w, hl, k, q, h => by
    have hl2 : xs.length = is.length := by simpa using hl
    rcases putAt_get is xs (w.set i x) hl2 k q h with h1 | ⟨h1, h2⟩
    · exact Or.inl (List.mem_cons_of_mem _ h1)
    · by_cases hki : k = i
      · subst hki
        by_cases hlt : k < w.length
        · rw [List.getElem?_set_self hlt] at h2
          cases h2
          exact Or.inl List.mem_cons_self
        · rw [List.getElem?_eq_none (by rw [List.length_set]; omega)] at h2
          cases h2
      · rw [List.getElem?_set_ne (fun z => hki z.symm)] at h2
        exact Or.inr ⟨fun hm => (List.mem_cons.mp hm).elim hki h1, h2⟩
theorem va_D.adr {A : Nat → Prop} {w w2 : va_W} (h : va_D A w) (e : w2.map Prod.fst = w.map Prod.fst) : va_D A w2 := by
  have key : ∀ (k : Nat) (q : Nat × va_E), w2[k]? = some q → ∃ q0 : Nat × va_E, w[k]? = some q0 ∧ q0.1 = q.1 := by
    intro k q hk
    have h1 : (w2.map Prod.fst)[k]? = some q.1 := by rw [List.getElem?_map, hk]; rfl
    rw [e, List.getElem?_map] at h1
    cases hw : w[k]? with
    | none => rw [hw] at h1; cases h1
    | some q0 => rw [hw] at h1; exact ⟨q0, rfl, Option.some.inj h1⟩
  refine ⟨fun i j x y hi hj hxy => ?_, fun k q hk => ?_⟩
  · obtain ⟨x0, a1, a2⟩ := key i x hi
    obtain ⟨y0, b1, b2⟩ := key j y hj
    exact h.1 i j x0 y0 a1 b1 (a2.trans (hxy.trans b2.symm))
  · obtain ⟨q0, a1, a2⟩ := key k q hk
    rw [← a2]
    exact h.2 k q0 a1
/-- behind a call that wrote in the cells at the places 'is' -/
theorem va_P.putAt {D : va_G} {A : Nat → Prop} {w wc wc2 : va_W} {H H1 : Heap} (hP : va_P D vwCl w H) (hD : va_D A w) (is : List Nat) (hC : is.map (fun i => w[i]?) = wc.map some) (hl : wc2.length = is.length)
    (hk : ∀ q : Nat, q < H.size → ¬ aIn wc q → H1[q]? = H[q]?) (hP1 : va_P D vwCl wc2 H1) : va_P D vwCl (putAtW w is wc2) H1 := by
  intro k q hkq
  rcases putAt_get is wc2 w hl k q hkq with h1 | ⟨h1, h2⟩
  · obtain ⟨j, hj⟩ := List.getElem?_of_mem h1
    exact hP1 j q hj
  · refine (hP k q h2).kept (hk q.1 (hP k q h2).lt ?_)
    rintro ⟨k2, e, h⟩
    have h3 : (is.map (fun i => w[i]?))[k2]? = some (some (q.1, e)) := by rw [hC, List.getElem?_map, h]; rfl
    rw [List.getElem?_map] at h3
    cases hi : is[k2]? with
    | none => rw [hi] at h3; cases h3
    | some i =>
      rw [hi] at h3
      have h4 : w[i]? = some (q.1, e) := Option.some.inj h3
      have hij := hD.1 k i q (q.1, e) h2 h4 rfl
      subst hij
      exact h1 (List.mem_of_getElem? hi)
