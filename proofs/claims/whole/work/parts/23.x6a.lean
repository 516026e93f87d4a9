/-! Loops with what each round asks: a run that ends, each of its states safe -/
def lrun {σ ρ : Type} (f : σ → σ ⊕ ρ) (P : σ → Prop) : Nat → σ → ρ → Prop
  | 0, _, _ => False
  | n + 1, a, r => P a ∧ ((∃ b, f a = .inl b ∧ lrun f P n b r) ∨ f a = .inr r)
theorem lrun_itr {σ ρ : Type} {f : σ → σ ⊕ ρ} {P : σ → Prop} : ∀ (n : Nat) (a : σ) (r : ρ), lrun f P n a r → itr f n a = .inr r
  | 0, _, _, h => False.elim h
  | n + 1, a, r, h => by
    obtain ⟨-, ⟨b, h1, h2⟩ | h1⟩ := h
    · simp only [itr, h1]; exact lrun_itr n b r h2
    · simp only [itr, h1]
theorem lrun_itv {σ ρ : Type} {d : ρ} {f : σ → σ ⊕ ρ} {P : σ → Prop} {n : Nat} {a : σ} {r : ρ} (h : lrun f P n a r) : itv d f n a = r := itv_eq (lrun_itr n a r h)
theorem lrun_val {σ ρ : Type} {d : ρ} {f : σ → σ ⊕ ρ} {P : σ → Prop} {n : Nat} {a : σ} (h : ∃ r, lrun f P n a r) : lrun f P n a (itv d f n a) := by
  obtain ⟨r, h⟩ := h
  rw [lrun_itv h]
  exact h
theorem loopWs {σ ρ : Type} (f : σ → σ ⊕ ρ) (P : σ → Prop) (Wd : σ → Prop) (K : ρ → Prop) (body : ∀ a, P a → (∀ b, f a = .inl b → Wd b) → (∀ r, f a = .inr r → K r) → Wd a) :
    ∀ (n : Nat) (a : σ) (r : ρ), lrun f P n a r → K r → Wd a
  | 0, _, _, h, _ => False.elim h
  | n + 1, a, r, h, hk => by
    obtain ⟨h0, h1⟩ := h
    refine body a h0 (fun b hb => ?_) (fun q hq => ?_)
    · rcases h1 with ⟨b2, e, h2⟩ | e
      · rw [hb] at e; cases e
        exact loopWs f P Wd K body n b r h2 hk
      · rw [hb] at e; cases e
    · rcases h1 with ⟨b2, e, h2⟩ | e
      · rw [hq] at e; cases e
      · rw [hq] at e; cases e
        exact hk
section FU6
variable {p : Program} {l : Launch} {e : Env} {R : Room} {s : State} {m : MethodId} {args : Array Value} {below : List Frame} {meth : Method} {c : Code} {H : Heap} {locs : List Loc} {Q : State → Prop}
variable {D : va_G} {cc : ByteArray} {pc : Nat} {ls : Array Slot}

theorem rUf {r r' : UInt32} {A0 : Nat → Prop} {X1 X2 : va_W} (hx : p.tables.exec = Jvm.exec) (hb : c.code = cc) (hr : meth.sig.returnType = some .float) (hlocks : meth.locks = false)
    (hQ : ∀ (g : JFrame) (H : Heap) (locs : List Loc), va_S A0 s.heap H locs → W p l e R s m args below meth c H locs 0 0 (MQ below (fun _ st o t => (o = .returned (some (.float r)) ∧ va_P D vwCl X2 t.heap) ∧ va_F A0 st t) args s 0 0 A0) g → W p l e R s m args below meth c H locs 0 0 Q g)
    (hP : va_P D vwCl X1 H) (hS : va_S A0 s.heap H locs) (he : r' = r) (hX : X1 = X2) (hdg : decode cc pc = .ok (.freturn, 1)) : W p l e R s m args below meth c H locs 0 0 Q (F0 m pc ls [.float r']) := by
  subst hX
  exact hQ _ H locs hS (W.fret (v := r') hx hb hr (fun t ht _ => ⟨⟨by rw [he], by rw [ht]; exact hP⟩, hS.F ht⟩) hS.2.2 hdg (hlocks := hlocks))

theorem rUd {r r' : UInt64} {A0 : Nat → Prop} {X1 X2 : va_W} (hx : p.tables.exec = Jvm.exec) (hb : c.code = cc) (hr : meth.sig.returnType = some .double) (hlocks : meth.locks = false)
    (hQ : ∀ (g : JFrame) (H : Heap) (locs : List Loc), va_S A0 s.heap H locs → W p l e R s m args below meth c H locs 0 0 (MQ below (fun _ st o t => (o = .returned (some (.double r)) ∧ va_P D vwCl X2 t.heap) ∧ va_F A0 st t) args s 0 0 A0) g → W p l e R s m args below meth c H locs 0 0 Q g)
    (hP : va_P D vwCl X1 H) (hS : va_S A0 s.heap H locs) (he : r' = r) (hX : X1 = X2) (hdg : decode cc pc = .ok (.dreturn, 1)) : W p l e R s m args below meth c H locs 0 0 Q (F0 m pc ls [.double r']) := by
  subst hX
  exact hQ _ H locs hS (W.dret (v := r') hx hb hr (fun t ht _ => ⟨⟨by rw [he], by rw [ht]; exact hP⟩, hS.F ht⟩) hS.2.2 hdg (hlocks := hlocks))
end FU6
def sS0 (v : (Nat → Int32)) (S : SV) : SV := (v, S.2)
def sS1 (v : (Nat → Int32)) (S : SV) : SV := (S.1, v, S.2.2)
def sS2 (v : (Nat → Int32)) (S : SV) : SV := (S.1, S.2.1, v, S.2.2.2)
def sS3 (v : (Nat → Int32)) (S : SV) : SV := (S.1, S.2.1, S.2.2.1, v, S.2.2.2.2)
def sS4 (v : (Nat → Int32)) (S : SV) : SV := (S.1, S.2.1, S.2.2.1, S.2.2.2.1, v, S.2.2.2.2.2)
def sS5 (v : (Nat → Int32)) (S : SV) : SV := (S.1, S.2.1, S.2.2.1, S.2.2.2.1, S.2.2.2.2.1, v, S.2.2.2.2.2.2)
def sS6 (v : (Nat → Int32)) (S : SV) : SV := (S.1, S.2.1, S.2.2.1, S.2.2.2.1, S.2.2.2.2.1, S.2.2.2.2.2.1, v, S.2.2.2.2.2.2.2)
def sS7 (v : (Nat → Int32)) (S : SV) : SV := (S.1, S.2.1, S.2.2.1, S.2.2.2.1, S.2.2.2.2.1, S.2.2.2.2.2.1, S.2.2.2.2.2.2.1, v, S.2.2.2.2.2.2.2.2)
def sS8 (v : Int32) (S : SV) : SV := (S.1, S.2.1, S.2.2.1, S.2.2.2.1, S.2.2.2.2.1, S.2.2.2.2.2.1, S.2.2.2.2.2.2.1, S.2.2.2.2.2.2.2.1, v, S.2.2.2.2.2.2.2.2.2)
def sS9 (v : Int32) (S : SV) : SV := (S.1, S.2.1, S.2.2.1, S.2.2.2.1, S.2.2.2.2.1, S.2.2.2.2.2.1, S.2.2.2.2.2.2.1, S.2.2.2.2.2.2.2.1, S.2.2.2.2.2.2.2.2.1, v, S.2.2.2.2.2.2.2.2.2.2)
def sS10 (v : Int32) (S : SV) : SV := (S.1, S.2.1, S.2.2.1, S.2.2.2.1, S.2.2.2.2.1, S.2.2.2.2.2.1, S.2.2.2.2.2.2.1, S.2.2.2.2.2.2.2.1, S.2.2.2.2.2.2.2.2.1, S.2.2.2.2.2.2.2.2.2.1, v, S.2.2.2.2.2.2.2.2.2.2.2)
def sS11 (v : Int32) (S : SV) : SV := (S.1, S.2.1, S.2.2.1, S.2.2.2.1, S.2.2.2.2.1, S.2.2.2.2.2.1, S.2.2.2.2.2.2.1, S.2.2.2.2.2.2.2.1, S.2.2.2.2.2.2.2.2.1, S.2.2.2.2.2.2.2.2.2.1, S.2.2.2.2.2.2.2.2.2.2.1, v, S.2.2.2.2.2.2.2.2.2.2.2.2)
def sS12 (v : Int32) (S : SV) : SV := (S.1, S.2.1, S.2.2.1, S.2.2.2.1, S.2.2.2.2.1, S.2.2.2.2.2.1, S.2.2.2.2.2.2.1, S.2.2.2.2.2.2.2.1, S.2.2.2.2.2.2.2.2.1, S.2.2.2.2.2.2.2.2.2.1, S.2.2.2.2.2.2.2.2.2.2.1, S.2.2.2.2.2.2.2.2.2.2.2.1, v, S.2.2.2.2.2.2.2.2.2.2.2.2.2)
def sS13 (v : Int32) (S : SV) : SV := (S.1, S.2.1, S.2.2.1, S.2.2.2.1, S.2.2.2.2.1, S.2.2.2.2.2.1, S.2.2.2.2.2.2.1, S.2.2.2.2.2.2.2.1, S.2.2.2.2.2.2.2.2.1, S.2.2.2.2.2.2.2.2.2.1, S.2.2.2.2.2.2.2.2.2.2.1, S.2.2.2.2.2.2.2.2.2.2.2.1, S.2.2.2.2.2.2.2.2.2.2.2.2.1, v, S.2.2.2.2.2.2.2.2.2.2.2.2.2.2)
def sS14 (v : Int32) (S : SV) : SV := (S.1, S.2.1, S.2.2.1, S.2.2.2.1, S.2.2.2.2.1, S.2.2.2.2.2.1, S.2.2.2.2.2.2.1, S.2.2.2.2.2.2.2.1, S.2.2.2.2.2.2.2.2.1, S.2.2.2.2.2.2.2.2.2.1, S.2.2.2.2.2.2.2.2.2.2.1, S.2.2.2.2.2.2.2.2.2.2.2.1, S.2.2.2.2.2.2.2.2.2.2.2.2.1, S.2.2.2.2.2.2.2.2.2.2.2.2.2.1, v, S.2.2.2.2.2.2.2.2.2.2.2.2.2.2.2)
def sS15 (v : Int32) (S : SV) : SV := (S.1, S.2.1, S.2.2.1, S.2.2.2.1, S.2.2.2.2.1, S.2.2.2.2.2.1, S.2.2.2.2.2.2.1, S.2.2.2.2.2.2.2.1, S.2.2.2.2.2.2.2.2.1, S.2.2.2.2.2.2.2.2.2.1, S.2.2.2.2.2.2.2.2.2.2.1, S.2.2.2.2.2.2.2.2.2.2.2.1, S.2.2.2.2.2.2.2.2.2.2.2.2.1, S.2.2.2.2.2.2.2.2.2.2.2.2.2.1, S.2.2.2.2.2.2.2.2.2.2.2.2.2.2.1, v, S.2.2.2.2.2.2.2.2.2.2.2.2.2.2.2.2)
def sS16 (v : Int32) (S : SV) : SV := (S.1, S.2.1, S.2.2.1, S.2.2.2.1, S.2.2.2.2.1, S.2.2.2.2.2.1, S.2.2.2.2.2.2.1, S.2.2.2.2.2.2.2.1, S.2.2.2.2.2.2.2.2.1, S.2.2.2.2.2.2.2.2.2.1, S.2.2.2.2.2.2.2.2.2.2.1, S.2.2.2.2.2.2.2.2.2.2.2.1, S.2.2.2.2.2.2.2.2.2.2.2.2.1, S.2.2.2.2.2.2.2.2.2.2.2.2.2.1, S.2.2.2.2.2.2.2.2.2.2.2.2.2.2.1, S.2.2.2.2.2.2.2.2.2.2.2.2.2.2.2.1, v, S.2.2.2.2.2.2.2.2.2.2.2.2.2.2.2.2.2)
def sS17 (v : Int32) (S : SV) : SV := (S.1, S.2.1, S.2.2.1, S.2.2.2.1, S.2.2.2.2.1, S.2.2.2.2.2.1, S.2.2.2.2.2.2.1, S.2.2.2.2.2.2.2.1, S.2.2.2.2.2.2.2.2.1, S.2.2.2.2.2.2.2.2.2.1, S.2.2.2.2.2.2.2.2.2.2.1, S.2.2.2.2.2.2.2.2.2.2.2.1, S.2.2.2.2.2.2.2.2.2.2.2.2.1, S.2.2.2.2.2.2.2.2.2.2.2.2.2.1, S.2.2.2.2.2.2.2.2.2.2.2.2.2.2.1, S.2.2.2.2.2.2.2.2.2.2.2.2.2.2.2.1, S.2.2.2.2.2.2.2.2.2.2.2.2.2.2.2.2.1, v, S.2.2.2.2.2.2.2.2.2.2.2.2.2.2.2.2.2.2)
def sS18 (v : Int32) (S : SV) : SV := (S.1, S.2.1, S.2.2.1, S.2.2.2.1, S.2.2.2.2.1, S.2.2.2.2.2.1, S.2.2.2.2.2.2.1, S.2.2.2.2.2.2.2.1, S.2.2.2.2.2.2.2.2.1, S.2.2.2.2.2.2.2.2.2.1, S.2.2.2.2.2.2.2.2.2.2.1, S.2.2.2.2.2.2.2.2.2.2.2.1, S.2.2.2.2.2.2.2.2.2.2.2.2.1, S.2.2.2.2.2.2.2.2.2.2.2.2.2.1, S.2.2.2.2.2.2.2.2.2.2.2.2.2.2.1, S.2.2.2.2.2.2.2.2.2.2.2.2.2.2.2.1, S.2.2.2.2.2.2.2.2.2.2.2.2.2.2.2.2.1, S.2.2.2.2.2.2.2.2.2.2.2.2.2.2.2.2.2.1, v, S.2.2.2.2.2.2.2.2.2.2.2.2.2.2.2.2.2.2.2)
def sS19 (v : Int32) (S : SV) : SV := (S.1, S.2.1, S.2.2.1, S.2.2.2.1, S.2.2.2.2.1, S.2.2.2.2.2.1, S.2.2.2.2.2.2.1, S.2.2.2.2.2.2.2.1, S.2.2.2.2.2.2.2.2.1, S.2.2.2.2.2.2.2.2.2.1, S.2.2.2.2.2.2.2.2.2.2.1, S.2.2.2.2.2.2.2.2.2.2.2.1, S.2.2.2.2.2.2.2.2.2.2.2.2.1, S.2.2.2.2.2.2.2.2.2.2.2.2.2.1, S.2.2.2.2.2.2.2.2.2.2.2.2.2.2.1, S.2.2.2.2.2.2.2.2.2.2.2.2.2.2.2.1, S.2.2.2.2.2.2.2.2.2.2.2.2.2.2.2.2.1, S.2.2.2.2.2.2.2.2.2.2.2.2.2.2.2.2.2.1, S.2.2.2.2.2.2.2.2.2.2.2.2.2.2.2.2.2.2.1, v)
theorem w6p_0 {D : va_G} {cI cC : ClassId} {h a1 a2 a3 a4 a5 a6 a7 a8 : Nat} {Z : SV} {H : Heap} {v : (Nat → Int32)} (hP : va_P D vwCl ((w6 cI cC h a1 a2 a3 a4 a5 a6 a7 a8 Z).set 1 (a1, .inl (cI, 114, .inl v))) H) : va_P D vwCl (w6 cI cC h a1 a2 a3 a4 a5 a6 a7 a8 (sS0 v Z)) H := hP
theorem w6d_0 {cI cC : ClassId} {h a1 a2 a3 a4 a5 a6 a7 a8 : Nat} {Z : SV} {A : Nat → Prop} {v : (Nat → Int32)} (hD : va_D A ((w6 cI cC h a1 a2 a3 a4 a5 a6 a7 a8 Z).set 1 (a1, .inl (cI, 114, .inl v)))) : va_D A (w6 cI cC h a1 a2 a3 a4 a5 a6 a7 a8 (sS0 v Z)) := hD
theorem w6p_1 {D : va_G} {cI cC : ClassId} {h a1 a2 a3 a4 a5 a6 a7 a8 : Nat} {Z : SV} {H : Heap} {v : (Nat → Int32)} (hP : va_P D vwCl ((w6 cI cC h a1 a2 a3 a4 a5 a6 a7 a8 Z).set 2 (a2, .inl (cI, 912, .inl v))) H) : va_P D vwCl (w6 cI cC h a1 a2 a3 a4 a5 a6 a7 a8 (sS1 v Z)) H := hP
theorem w6d_1 {cI cC : ClassId} {h a1 a2 a3 a4 a5 a6 a7 a8 : Nat} {Z : SV} {A : Nat → Prop} {v : (Nat → Int32)} (hD : va_D A ((w6 cI cC h a1 a2 a3 a4 a5 a6 a7 a8 Z).set 2 (a2, .inl (cI, 912, .inl v)))) : va_D A (w6 cI cC h a1 a2 a3 a4 a5 a6 a7 a8 (sS1 v Z)) := hD
theorem w6p_2 {D : va_G} {cI cC : ClassId} {h a1 a2 a3 a4 a5 a6 a7 a8 : Nat} {Z : SV} {H : Heap} {v : (Nat → Int32)} (hP : va_P D vwCl ((w6 cI cC h a1 a2 a3 a4 a5 a6 a7 a8 Z).set 3 (a3, .inl (cI, 114, .inl v))) H) : va_P D vwCl (w6 cI cC h a1 a2 a3 a4 a5 a6 a7 a8 (sS2 v Z)) H := hP
theorem w6d_2 {cI cC : ClassId} {h a1 a2 a3 a4 a5 a6 a7 a8 : Nat} {Z : SV} {A : Nat → Prop} {v : (Nat → Int32)} (hD : va_D A ((w6 cI cC h a1 a2 a3 a4 a5 a6 a7 a8 Z).set 3 (a3, .inl (cI, 114, .inl v)))) : va_D A (w6 cI cC h a1 a2 a3 a4 a5 a6 a7 a8 (sS2 v Z)) := hD
theorem w6p_3 {D : va_G} {cI cC : ClassId} {h a1 a2 a3 a4 a5 a6 a7 a8 : Nat} {Z : SV} {H : Heap} {v : (Nat → Int32)} (hP : va_P D vwCl ((w6 cI cC h a1 a2 a3 a4 a5 a6 a7 a8 Z).set 4 (a4, .inl (cI, 114, .inl v))) H) : va_P D vwCl (w6 cI cC h a1 a2 a3 a4 a5 a6 a7 a8 (sS3 v Z)) H := hP
theorem w6d_3 {cI cC : ClassId} {h a1 a2 a3 a4 a5 a6 a7 a8 : Nat} {Z : SV} {A : Nat → Prop} {v : (Nat → Int32)} (hD : va_D A ((w6 cI cC h a1 a2 a3 a4 a5 a6 a7 a8 Z).set 4 (a4, .inl (cI, 114, .inl v)))) : va_D A (w6 cI cC h a1 a2 a3 a4 a5 a6 a7 a8 (sS3 v Z)) := hD
theorem w6p_4 {D : va_G} {cI cC : ClassId} {h a1 a2 a3 a4 a5 a6 a7 a8 : Nat} {Z : SV} {H : Heap} {v : (Nat → Int32)} (hP : va_P D vwCl ((w6 cI cC h a1 a2 a3 a4 a5 a6 a7 a8 Z).set 5 (a5, .inl (cI, 60, .inl v))) H) : va_P D vwCl (w6 cI cC h a1 a2 a3 a4 a5 a6 a7 a8 (sS4 v Z)) H := hP
theorem w6d_4 {cI cC : ClassId} {h a1 a2 a3 a4 a5 a6 a7 a8 : Nat} {Z : SV} {A : Nat → Prop} {v : (Nat → Int32)} (hD : va_D A ((w6 cI cC h a1 a2 a3 a4 a5 a6 a7 a8 Z).set 5 (a5, .inl (cI, 60, .inl v)))) : va_D A (w6 cI cC h a1 a2 a3 a4 a5 a6 a7 a8 (sS4 v Z)) := hD
theorem w6p_5 {D : va_G} {cI cC : ClassId} {h a1 a2 a3 a4 a5 a6 a7 a8 : Nat} {Z : SV} {H : Heap} {v : (Nat → Int32)} (hP : va_P D vwCl ((w6 cI cC h a1 a2 a3 a4 a5 a6 a7 a8 Z).set 6 (a6, .inl (cC, 900, .inl v))) H) : va_P D vwCl (w6 cI cC h a1 a2 a3 a4 a5 a6 a7 a8 (sS5 v Z)) H := hP
theorem w6d_5 {cI cC : ClassId} {h a1 a2 a3 a4 a5 a6 a7 a8 : Nat} {Z : SV} {A : Nat → Prop} {v : (Nat → Int32)} (hD : va_D A ((w6 cI cC h a1 a2 a3 a4 a5 a6 a7 a8 Z).set 6 (a6, .inl (cC, 900, .inl v)))) : va_D A (w6 cI cC h a1 a2 a3 a4 a5 a6 a7 a8 (sS5 v Z)) := hD
theorem w6p_6 {D : va_G} {cI cC : ClassId} {h a1 a2 a3 a4 a5 a6 a7 a8 : Nat} {Z : SV} {H : Heap} {v : (Nat → Int32)} (hP : va_P D vwCl ((w6 cI cC h a1 a2 a3 a4 a5 a6 a7 a8 Z).set 7 (a7, .inl (cI, 12, .inl v))) H) : va_P D vwCl (w6 cI cC h a1 a2 a3 a4 a5 a6 a7 a8 (sS6 v Z)) H := hP
theorem w6d_6 {cI cC : ClassId} {h a1 a2 a3 a4 a5 a6 a7 a8 : Nat} {Z : SV} {A : Nat → Prop} {v : (Nat → Int32)} (hD : va_D A ((w6 cI cC h a1 a2 a3 a4 a5 a6 a7 a8 Z).set 7 (a7, .inl (cI, 12, .inl v)))) : va_D A (w6 cI cC h a1 a2 a3 a4 a5 a6 a7 a8 (sS6 v Z)) := hD
theorem w6p_7 {D : va_G} {cI cC : ClassId} {h a1 a2 a3 a4 a5 a6 a7 a8 : Nat} {Z : SV} {H : Heap} {v : (Nat → Int32)} (hP : va_P D vwCl ((w6 cI cC h a1 a2 a3 a4 a5 a6 a7 a8 Z).set 8 (a8, .inl (cI, 155, .inl v))) H) : va_P D vwCl (w6 cI cC h a1 a2 a3 a4 a5 a6 a7 a8 (sS7 v Z)) H := hP
theorem w6d_7 {cI cC : ClassId} {h a1 a2 a3 a4 a5 a6 a7 a8 : Nat} {Z : SV} {A : Nat → Prop} {v : (Nat → Int32)} (hD : va_D A ((w6 cI cC h a1 a2 a3 a4 a5 a6 a7 a8 Z).set 8 (a8, .inl (cI, 155, .inl v)))) : va_D A (w6 cI cC h a1 a2 a3 a4 a5 a6 a7 a8 (sS7 v Z)) := hD
theorem w6p_8 {D : va_G} {cI cC : ClassId} {h a1 a2 a3 a4 a5 a6 a7 a8 : Nat} {Z : SV} {H : Heap} {v : Int32} (hP : va_P D vwCl ((w6 cI cC h a1 a2 a3 a4 a5 a6 a7 a8 Z).set 0 (h, .inr (7, ([.ref a1, .ref a2, .ref a3, .ref a4, .int Z.2.2.2.2.2.2.2.2.1, .int Z.2.2.2.2.2.2.2.2.2.1, .int Z.2.2.2.2.2.2.2.2.2.2.1, .int Z.2.2.2.2.2.2.2.2.2.2.2.1, .int Z.2.2.2.2.2.2.2.2.2.2.2.2.1, .int Z.2.2.2.2.2.2.2.2.2.2.2.2.2.1, .int Z.2.2.2.2.2.2.2.2.2.2.2.2.2.2.1, .ref a5, .int Z.2.2.2.2.2.2.2.2.2.2.2.2.2.2.2.1, .int Z.2.2.2.2.2.2.2.2.2.2.2.2.2.2.2.2.1, .ref a6, .int Z.2.2.2.2.2.2.2.2.2.2.2.2.2.2.2.2.2.1, .ref a7, .int Z.2.2.2.2.2.2.2.2.2.2.2.2.2.2.2.2.2.2.1, .ref a8, .int Z.2.2.2.2.2.2.2.2.2.2.2.2.2.2.2.2.2.2.2] : List Value).set 4 (.int v)))) H) : va_P D vwCl (w6 cI cC h a1 a2 a3 a4 a5 a6 a7 a8 (sS8 v Z)) H := hP
theorem w6d_8 {cI cC : ClassId} {h a1 a2 a3 a4 a5 a6 a7 a8 : Nat} {Z : SV} {A : Nat → Prop} {v : Int32} (hD : va_D A ((w6 cI cC h a1 a2 a3 a4 a5 a6 a7 a8 Z).set 0 (h, .inr (7, ([.ref a1, .ref a2, .ref a3, .ref a4, .int Z.2.2.2.2.2.2.2.2.1, .int Z.2.2.2.2.2.2.2.2.2.1, .int Z.2.2.2.2.2.2.2.2.2.2.1, .int Z.2.2.2.2.2.2.2.2.2.2.2.1, .int Z.2.2.2.2.2.2.2.2.2.2.2.2.1, .int Z.2.2.2.2.2.2.2.2.2.2.2.2.2.1, .int Z.2.2.2.2.2.2.2.2.2.2.2.2.2.2.1, .ref a5, .int Z.2.2.2.2.2.2.2.2.2.2.2.2.2.2.2.1, .int Z.2.2.2.2.2.2.2.2.2.2.2.2.2.2.2.2.1, .ref a6, .int Z.2.2.2.2.2.2.2.2.2.2.2.2.2.2.2.2.2.1, .ref a7, .int Z.2.2.2.2.2.2.2.2.2.2.2.2.2.2.2.2.2.2.1, .ref a8, .int Z.2.2.2.2.2.2.2.2.2.2.2.2.2.2.2.2.2.2.2] : List Value).set 4 (.int v))))) : va_D A (w6 cI cC h a1 a2 a3 a4 a5 a6 a7 a8 (sS8 v Z)) := hD
theorem w6p_9 {D : va_G} {cI cC : ClassId} {h a1 a2 a3 a4 a5 a6 a7 a8 : Nat} {Z : SV} {H : Heap} {v : Int32} (hP : va_P D vwCl ((w6 cI cC h a1 a2 a3 a4 a5 a6 a7 a8 Z).set 0 (h, .inr (7, ([.ref a1, .ref a2, .ref a3, .ref a4, .int Z.2.2.2.2.2.2.2.2.1, .int Z.2.2.2.2.2.2.2.2.2.1, .int Z.2.2.2.2.2.2.2.2.2.2.1, .int Z.2.2.2.2.2.2.2.2.2.2.2.1, .int Z.2.2.2.2.2.2.2.2.2.2.2.2.1, .int Z.2.2.2.2.2.2.2.2.2.2.2.2.2.1, .int Z.2.2.2.2.2.2.2.2.2.2.2.2.2.2.1, .ref a5, .int Z.2.2.2.2.2.2.2.2.2.2.2.2.2.2.2.1, .int Z.2.2.2.2.2.2.2.2.2.2.2.2.2.2.2.2.1, .ref a6, .int Z.2.2.2.2.2.2.2.2.2.2.2.2.2.2.2.2.2.1, .ref a7, .int Z.2.2.2.2.2.2.2.2.2.2.2.2.2.2.2.2.2.2.1, .ref a8, .int Z.2.2.2.2.2.2.2.2.2.2.2.2.2.2.2.2.2.2.2] : List Value).set 5 (.int v)))) H) : va_P D vwCl (w6 cI cC h a1 a2 a3 a4 a5 a6 a7 a8 (sS9 v Z)) H := hP
theorem w6d_9 {cI cC : ClassId} {h a1 a2 a3 a4 a5 a6 a7 a8 : Nat} {Z : SV} {A : Nat → Prop} {v : Int32} (hD : va_D A ((w6 cI cC h a1 a2 a3 a4 a5 a6 a7 a8 Z).set 0 (h, .inr (7, ([.ref a1, .ref a2, .ref a3, .ref a4, .int Z.2.2.2.2.2.2.2.2.1, .int Z.2.2.2.2.2.2.2.2.2.1, .int Z.2.2.2.2.2.2.2.2.2.2.1, .int Z.2.2.2.2.2.2.2.2.2.2.2.1, .int Z.2.2.2.2.2.2.2.2.2.2.2.2.1, .int Z.2.2.2.2.2.2.2.2.2.2.2.2.2.1, .int Z.2.2.2.2.2.2.2.2.2.2.2.2.2.2.1, .ref a5, .int Z.2.2.2.2.2.2.2.2.2.2.2.2.2.2.2.1, .int Z.2.2.2.2.2.2.2.2.2.2.2.2.2.2.2.2.1, .ref a6, .int Z.2.2.2.2.2.2.2.2.2.2.2.2.2.2.2.2.2.1, .ref a7, .int Z.2.2.2.2.2.2.2.2.2.2.2.2.2.2.2.2.2.2.1, .ref a8, .int Z.2.2.2.2.2.2.2.2.2.2.2.2.2.2.2.2.2.2.2] : List Value).set 5 (.int v))))) : va_D A (w6 cI cC h a1 a2 a3 a4 a5 a6 a7 a8 (sS9 v Z)) := hD
theorem w6p_10 {D : va_G} {cI cC : ClassId} {h a1 a2 a3 a4 a5 a6 a7 a8 : Nat} {Z : SV} {H : Heap} {v : Int32} (hP : va_P D vwCl ((w6 cI cC h a1 a2 a3 a4 a5 a6 a7 a8 Z).set 0 (h, .inr (7, ([.ref a1, .ref a2, .ref a3, .ref a4, .int Z.2.2.2.2.2.2.2.2.1, .int Z.2.2.2.2.2.2.2.2.2.1, .int Z.2.2.2.2.2.2.2.2.2.2.1, .int Z.2.2.2.2.2.2.2.2.2.2.2.1, .int Z.2.2.2.2.2.2.2.2.2.2.2.2.1, .int Z.2.2.2.2.2.2.2.2.2.2.2.2.2.1, .int Z.2.2.2.2.2.2.2.2.2.2.2.2.2.2.1, .ref a5, .int Z.2.2.2.2.2.2.2.2.2.2.2.2.2.2.2.1, .int Z.2.2.2.2.2.2.2.2.2.2.2.2.2.2.2.2.1, .ref a6, .int Z.2.2.2.2.2.2.2.2.2.2.2.2.2.2.2.2.2.1, .ref a7, .int Z.2.2.2.2.2.2.2.2.2.2.2.2.2.2.2.2.2.2.1, .ref a8, .int Z.2.2.2.2.2.2.2.2.2.2.2.2.2.2.2.2.2.2.2] : List Value).set 6 (.int v)))) H) : va_P D vwCl (w6 cI cC h a1 a2 a3 a4 a5 a6 a7 a8 (sS10 v Z)) H := hP
theorem w6d_10 {cI cC : ClassId} {h a1 a2 a3 a4 a5 a6 a7 a8 : Nat} {Z : SV} {A : Nat → Prop} {v : Int32} (hD : va_D A ((w6 cI cC h a1 a2 a3 a4 a5 a6 a7 a8 Z).set 0 (h, .inr (7, ([.ref a1, .ref a2, .ref a3, .ref a4, .int Z.2.2.2.2.2.2.2.2.1, .int Z.2.2.2.2.2.2.2.2.2.1, .int Z.2.2.2.2.2.2.2.2.2.2.1, .int Z.2.2.2.2.2.2.2.2.2.2.2.1, .int Z.2.2.2.2.2.2.2.2.2.2.2.2.1, .int Z.2.2.2.2.2.2.2.2.2.2.2.2.2.1, .int Z.2.2.2.2.2.2.2.2.2.2.2.2.2.2.1, .ref a5, .int Z.2.2.2.2.2.2.2.2.2.2.2.2.2.2.2.1, .int Z.2.2.2.2.2.2.2.2.2.2.2.2.2.2.2.2.1, .ref a6, .int Z.2.2.2.2.2.2.2.2.2.2.2.2.2.2.2.2.2.1, .ref a7, .int Z.2.2.2.2.2.2.2.2.2.2.2.2.2.2.2.2.2.2.1, .ref a8, .int Z.2.2.2.2.2.2.2.2.2.2.2.2.2.2.2.2.2.2.2] : List Value).set 6 (.int v))))) : va_D A (w6 cI cC h a1 a2 a3 a4 a5 a6 a7 a8 (sS10 v Z)) := hD
theorem w6p_11 {D : va_G} {cI cC : ClassId} {h a1 a2 a3 a4 a5 a6 a7 a8 : Nat} {Z : SV} {H : Heap} {v : Int32} (hP : va_P D vwCl ((w6 cI cC h a1 a2 a3 a4 a5 a6 a7 a8 Z).set 0 (h, .inr (7, ([.ref a1, .ref a2, .ref a3, .ref a4, .int Z.2.2.2.2.2.2.2.2.1, .int Z.2.2.2.2.2.2.2.2.2.1, .int Z.2.2.2.2.2.2.2.2.2.2.1, .int Z.2.2.2.2.2.2.2.2.2.2.2.1, .int Z.2.2.2.2.2.2.2.2.2.2.2.2.1, .int Z.2.2.2.2.2.2.2.2.2.2.2.2.2.1, .int Z.2.2.2.2.2.2.2.2.2.2.2.2.2.2.1, .ref a5, .int Z.2.2.2.2.2.2.2.2.2.2.2.2.2.2.2.1, .int Z.2.2.2.2.2.2.2.2.2.2.2.2.2.2.2.2.1, .ref a6, .int Z.2.2.2.2.2.2.2.2.2.2.2.2.2.2.2.2.2.1, .ref a7, .int Z.2.2.2.2.2.2.2.2.2.2.2.2.2.2.2.2.2.2.1, .ref a8, .int Z.2.2.2.2.2.2.2.2.2.2.2.2.2.2.2.2.2.2.2] : List Value).set 7 (.int v)))) H) : va_P D vwCl (w6 cI cC h a1 a2 a3 a4 a5 a6 a7 a8 (sS11 v Z)) H := hP
theorem w6d_11 {cI cC : ClassId} {h a1 a2 a3 a4 a5 a6 a7 a8 : Nat} {Z : SV} {A : Nat → Prop} {v : Int32} (hD : va_D A ((w6 cI cC h a1 a2 a3 a4 a5 a6 a7 a8 Z).set 0 (h, .inr (7, ([.ref a1, .ref a2, .ref a3, .ref a4, .int Z.2.2.2.2.2.2.2.2.1, .int Z.2.2.2.2.2.2.2.2.2.1, .int Z.2.2.2.2.2.2.2.2.2.2.1, .int Z.2.2.2.2.2.2.2.2.2.2.2.1, .int Z.2.2.2.2.2.2.2.2.2.2.2.2.1, .int Z.2.2.2.2.2.2.2.2.2.2.2.2.2.1, .int Z.2.2.2.2.2.2.2.2.2.2.2.2.2.2.1, .ref a5, .int Z.2.2.2.2.2.2.2.2.2.2.2.2.2.2.2.1, .int Z.2.2.2.2.2.2.2.2.2.2.2.2.2.2.2.2.1, .ref a6, .int Z.2.2.2.2.2.2.2.2.2.2.2.2.2.2.2.2.2.1, .ref a7, .int Z.2.2.2.2.2.2.2.2.2.2.2.2.2.2.2.2.2.2.1, .ref a8, .int Z.2.2.2.2.2.2.2.2.2.2.2.2.2.2.2.2.2.2.2] : List Value).set 7 (.int v))))) : va_D A (w6 cI cC h a1 a2 a3 a4 a5 a6 a7 a8 (sS11 v Z)) := hD
theorem w6p_12 {D : va_G} {cI cC : ClassId} {h a1 a2 a3 a4 a5 a6 a7 a8 : Nat} {Z : SV} {H : Heap} {v : Int32} (hP : va_P D vwCl ((w6 cI cC h a1 a2 a3 a4 a5 a6 a7 a8 Z).set 0 (h, .inr (7, ([.ref a1, .ref a2, .ref a3, .ref a4, .int Z.2.2.2.2.2.2.2.2.1, .int Z.2.2.2.2.2.2.2.2.2.1, .int Z.2.2.2.2.2.2.2.2.2.2.1, .int Z.2.2.2.2.2.2.2.2.2.2.2.1, .int Z.2.2.2.2.2.2.2.2.2.2.2.2.1, .int Z.2.2.2.2.2.2.2.2.2.2.2.2.2.1, .int Z.2.2.2.2.2.2.2.2.2.2.2.2.2.2.1, .ref a5, .int Z.2.2.2.2.2.2.2.2.2.2.2.2.2.2.2.1, .int Z.2.2.2.2.2.2.2.2.2.2.2.2.2.2.2.2.1, .ref a6, .int Z.2.2.2.2.2.2.2.2.2.2.2.2.2.2.2.2.2.1, .ref a7, .int Z.2.2.2.2.2.2.2.2.2.2.2.2.2.2.2.2.2.2.1, .ref a8, .int Z.2.2.2.2.2.2.2.2.2.2.2.2.2.2.2.2.2.2.2] : List Value).set 8 (.int v)))) H) : va_P D vwCl (w6 cI cC h a1 a2 a3 a4 a5 a6 a7 a8 (sS12 v Z)) H := hP
theorem w6d_12 {cI cC : ClassId} {h a1 a2 a3 a4 a5 a6 a7 a8 : Nat} {Z : SV} {A : Nat → Prop} {v : Int32} (hD : va_D A ((w6 cI cC h a1 a2 a3 a4 a5 a6 a7 a8 Z).set 0 (h, .inr (7, ([.ref a1, .ref a2, .ref a3, .ref a4, .int Z.2.2.2.2.2.2.2.2.1, .int Z.2.2.2.2.2.2.2.2.2.1, .int Z.2.2.2.2.2.2.2.2.2.2.1, .int Z.2.2.2.2.2.2.2.2.2.2.2.1, .int Z.2.2.2.2.2.2.2.2.2.2.2.2.1, .int Z.2.2.2.2.2.2.2.2.2.2.2.2.2.1, .int Z.2.2.2.2.2.2.2.2.2.2.2.2.2.2.1, .ref a5, .int Z.2.2.2.2.2.2.2.2.2.2.2.2.2.2.2.1, .int Z.2.2.2.2.2.2.2.2.2.2.2.2.2.2.2.2.1, .ref a6, .int Z.2.2.2.2.2.2.2.2.2.2.2.2.2.2.2.2.2.1, .ref a7, .int Z.2.2.2.2.2.2.2.2.2.2.2.2.2.2.2.2.2.2.1, .ref a8, .int Z.2.2.2.2.2.2.2.2.2.2.2.2.2.2.2.2.2.2.2] : List Value).set 8 (.int v))))) : va_D A (w6 cI cC h a1 a2 a3 a4 a5 a6 a7 a8 (sS12 v Z)) := hD
theorem w6p_13 {D : va_G} {cI cC : ClassId} {h a1 a2 a3 a4 a5 a6 a7 a8 : Nat} {Z : SV} {H : Heap} {v : Int32} (hP : va_P D vwCl ((w6 cI cC h a1 a2 a3 a4 a5 a6 a7 a8 Z).set 0 (h, .inr (7, ([.ref a1, .ref a2, .ref a3, .ref a4, .int Z.2.2.2.2.2.2.2.2.1, .int Z.2.2.2.2.2.2.2.2.2.1, .int Z.2.2.2.2.2.2.2.2.2.2.1, .int Z.2.2.2.2.2.2.2.2.2.2.2.1, .int Z.2.2.2.2.2.2.2.2.2.2.2.2.1, .int Z.2.2.2.2.2.2.2.2.2.2.2.2.2.1, .int Z.2.2.2.2.2.2.2.2.2.2.2.2.2.2.1, .ref a5, .int Z.2.2.2.2.2.2.2.2.2.2.2.2.2.2.2.1, .int Z.2.2.2.2.2.2.2.2.2.2.2.2.2.2.2.2.1, .ref a6, .int Z.2.2.2.2.2.2.2.2.2.2.2.2.2.2.2.2.2.1, .ref a7, .int Z.2.2.2.2.2.2.2.2.2.2.2.2.2.2.2.2.2.2.1, .ref a8, .int Z.2.2.2.2.2.2.2.2.2.2.2.2.2.2.2.2.2.2.2] : List Value).set 9 (.int v)))) H) : va_P D vwCl (w6 cI cC h a1 a2 a3 a4 a5 a6 a7 a8 (sS13 v Z)) H := hP
theorem w6d_13 {cI cC : ClassId} {h a1 a2 a3 a4 a5 a6 a7 a8 : Nat} {Z : SV} {A : Nat → Prop} {v : Int32} (hD : va_D A ((w6 cI cC h a1 a2 a3 a4 a5 a6 a7 a8 Z).set 0 (h, .inr (7, ([.ref a1, .ref a2, .ref a3, .ref a4, .int Z.2.2.2.2.2.2.2.2.1, .int Z.2.2.2.2.2.2.2.2.2.1, .int Z.2.2.2.2.2.2.2.2.2.2.1, .int Z.2.2.2.2.2.2.2.2.2.2.2.1, .int Z.2.2.2.2.2.2.2.2.2.2.2.2.1, .int Z.2.2.2.2.2.2.2.2.2.2.2.2.2.1, .int Z.2.2.2.2.2.2.2.2.2.2.2.2.2.2.1, .ref a5, .int Z.2.2.2.2.2.2.2.2.2.2.2.2.2.2.2.1, .int Z.2.2.2.2.2.2.2.2.2.2.2.2.2.2.2.2.1, .ref a6, .int Z.2.2.2.2.2.2.2.2.2.2.2.2.2.2.2.2.2.1, .ref a7, .int Z.2.2.2.2.2.2.2.2.2.2.2.2.2.2.2.2.2.2.1, .ref a8, .int Z.2.2.2.2.2.2.2.2.2.2.2.2.2.2.2.2.2.2.2] : List Value).set 9 (.int v))))) : va_D A (w6 cI cC h a1 a2 a3 a4 a5 a6 a7 a8 (sS13 v Z)) := hD
theorem w6p_14 {D : va_G} {cI cC : ClassId} {h a1 a2 a3 a4 a5 a6 a7 a8 : Nat} {Z : SV} {H : Heap} {v : Int32} (hP : va_P D vwCl ((w6 cI cC h a1 a2 a3 a4 a5 a6 a7 a8 Z).set 0 (h, .inr (7, ([.ref a1, .ref a2, .ref a3, .ref a4, .int Z.2.2.2.2.2.2.2.2.1, .int Z.2.2.2.2.2.2.2.2.2.1, .int Z.2.2.2.2.2.2.2.2.2.2.1, .int Z.2.2.2.2.2.2.2.2.2.2.2.1, .int Z.2.2.2.2.2.2.2.2.2.2.2.2.1, .int Z.2.2.2.2.2.2.2.2.2.2.2.2.2.1, .int Z.2.2.2.2.2.2.2.2.2.2.2.2.2.2.1, .ref a5, .int Z.2.2.2.2.2.2.2.2.2.2.2.2.2.2.2.1, .int Z.2.2.2.2.2.2.2.2.2.2.2.2.2.2.2.2.1, .ref a6, .int Z.2.2.2.2.2.2.2.2.2.2.2.2.2.2.2.2.2.1, .ref a7, .int Z.2.2.2.2.2.2.2.2.2.2.2.2.2.2.2.2.2.2.1, .ref a8, .int Z.2.2.2.2.2.2.2.2.2.2.2.2.2.2.2.2.2.2.2] : List Value).set 10 (.int v)))) H) : va_P D vwCl (w6 cI cC h a1 a2 a3 a4 a5 a6 a7 a8 (sS14 v Z)) H := hP
theorem w6d_14 {cI cC : ClassId} {h a1 a2 a3 a4 a5 a6 a7 a8 : Nat} {Z : SV} {A : Nat → Prop} {v : Int32} (hD : va_D A ((w6 cI cC h a1 a2 a3 a4 a5 a6 a7 a8 Z).set 0 (h, .inr (7, ([.ref a1, .ref a2, .ref a3, .ref a4, .int Z.2.2.2.2.2.2.2.2.1, .int Z.2.2.2.2.2.2.2.2.2.1, .int Z.2.2.2.2.2.2.2.2.2.2.1, .int Z.2.2.2.2.2.2.2.2.2.2.2.1, .int Z.2.2.2.2.2.2.2.2.2.2.2.2.1, .int Z.2.2.2.2.2.2.2.2.2.2.2.2.2.1, .int Z.2.2.2.2.2.2.2.2.2.2.2.2.2.2.1, .ref a5, .int Z.2.2.2.2.2.2.2.2.2.2.2.2.2.2.2.1, .int Z.2.2.2.2.2.2.2.2.2.2.2.2.2.2.2.2.1, .ref a6, .int Z.2.2.2.2.2.2.2.2.2.2.2.2.2.2.2.2.2.1, .ref a7, .int Z.2.2.2.2.2.2.2.2.2.2.2.2.2.2.2.2.2.2.1, .ref a8, .int Z.2.2.2.2.2.2.2.2.2.2.2.2.2.2.2.2.2.2.2] : List Value).set 10 (.int v))))) : va_D A (w6 cI cC h a1 a2 a3 a4 a5 a6 a7 a8 (sS14 v Z)) := hD
theorem w6p_15 {D : va_G} {cI cC : ClassId} {h a1 a2 a3 a4 a5 a6 a7 a8 : Nat} {Z : SV} {H : Heap} {v : Int32} (hP : va_P D vwCl ((w6 cI cC h a1 a2 a3 a4 a5 a6 a7 a8 Z).set 0 (h, .inr (7, ([.ref a1, .ref a2, .ref a3, .ref a4, .int Z.2.2.2.2.2.2.2.2.1, .int Z.2.2.2.2.2.2.2.2.2.1, .int Z.2.2.2.2.2.2.2.2.2.2.1, .int Z.2.2.2.2.2.2.2.2.2.2.2.1, .int Z.2.2.2.2.2.2.2.2.2.2.2.2.1, .int Z.2.2.2.2.2.2.2.2.2.2.2.2.2.1, .int Z.2.2.2.2.2.2.2.2.2.2.2.2.2.2.1, .ref a5, .int Z.2.2.2.2.2.2.2.2.2.2.2.2.2.2.2.1, .int Z.2.2.2.2.2.2.2.2.2.2.2.2.2.2.2.2.1, .ref a6, .int Z.2.2.2.2.2.2.2.2.2.2.2.2.2.2.2.2.2.1, .ref a7, .int Z.2.2.2.2.2.2.2.2.2.2.2.2.2.2.2.2.2.2.1, .ref a8, .int Z.2.2.2.2.2.2.2.2.2.2.2.2.2.2.2.2.2.2.2] : List Value).set 12 (.int v)))) H) : va_P D vwCl (w6 cI cC h a1 a2 a3 a4 a5 a6 a7 a8 (sS15 v Z)) H := hP
theorem w6d_15 {cI cC : ClassId} {h a1 a2 a3 a4 a5 a6 a7 a8 : Nat} {Z : SV} {A : Nat → Prop} {v : Int32} (hD : va_D A ((w6 cI cC h a1 a2 a3 a4 a5 a6 a7 a8 Z).set 0 (h, .inr (7, ([.ref a1, .ref a2, .ref a3, .ref a4, .int Z.2.2.2.2.2.2.2.2.1, .int Z.2.2.2.2.2.2.2.2.2.1, .int Z.2.2.2.2.2.2.2.2.2.2.1, .int Z.2.2.2.2.2.2.2.2.2.2.2.1, .int Z.2.2.2.2.2.2.2.2.2.2.2.2.1, .int Z.2.2.2.2.2.2.2.2.2.2.2.2.2.1, .int Z.2.2.2.2.2.2.2.2.2.2.2.2.2.2.1, .ref a5, .int Z.2.2.2.2.2.2.2.2.2.2.2.2.2.2.2.1, .int Z.2.2.2.2.2.2.2.2.2.2.2.2.2.2.2.2.1, .ref a6, .int Z.2.2.2.2.2.2.2.2.2.2.2.2.2.2.2.2.2.1, .ref a7, .int Z.2.2.2.2.2.2.2.2.2.2.2.2.2.2.2.2.2.2.1, .ref a8, .int Z.2.2.2.2.2.2.2.2.2.2.2.2.2.2.2.2.2.2.2] : List Value).set 12 (.int v))))) : va_D A (w6 cI cC h a1 a2 a3 a4 a5 a6 a7 a8 (sS15 v Z)) := hD
theorem w6p_16 {D : va_G} {cI cC : ClassId} {h a1 a2 a3 a4 a5 a6 a7 a8 : Nat} {Z : SV} {H : Heap} {v : Int32} (hP : va_P D vwCl ((w6 cI cC h a1 a2 a3 a4 a5 a6 a7 a8 Z).set 0 (h, .inr (7, ([.ref a1, .ref a2, .ref a3, .ref a4, .int Z.2.2.2.2.2.2.2.2.1, .int Z.2.2.2.2.2.2.2.2.2.1, .int Z.2.2.2.2.2.2.2.2.2.2.1, .int Z.2.2.2.2.2.2.2.2.2.2.2.1, .int Z.2.2.2.2.2.2.2.2.2.2.2.2.1, .int Z.2.2.2.2.2.2.2.2.2.2.2.2.2.1, .int Z.2.2.2.2.2.2.2.2.2.2.2.2.2.2.1, .ref a5, .int Z.2.2.2.2.2.2.2.2.2.2.2.2.2.2.2.1, .int Z.2.2.2.2.2.2.2.2.2.2.2.2.2.2.2.2.1, .ref a6, .int Z.2.2.2.2.2.2.2.2.2.2.2.2.2.2.2.2.2.1, .ref a7, .int Z.2.2.2.2.2.2.2.2.2.2.2.2.2.2.2.2.2.2.1, .ref a8, .int Z.2.2.2.2.2.2.2.2.2.2.2.2.2.2.2.2.2.2.2] : List Value).set 13 (.int v)))) H) : va_P D vwCl (w6 cI cC h a1 a2 a3 a4 a5 a6 a7 a8 (sS16 v Z)) H := hP
theorem w6d_16 {cI cC : ClassId} {h a1 a2 a3 a4 a5 a6 a7 a8 : Nat} {Z : SV} {A : Nat → Prop} {v : Int32} (hD : va_D A ((w6 cI cC h a1 a2 a3 a4 a5 a6 a7 a8 Z).set 0 (h, .inr (7, ([.ref a1, .ref a2, .ref a3, .ref a4, .int Z.2.2.2.2.2.2.2.2.1, .int Z.2.2.2.2.2.2.2.2.2.1, .int Z.2.2.2.2.2.2.2.2.2.2.1, .int Z.2.2.2.2.2.2.2.2.2.2.2.1, .int Z.2.2.2.2.2.2.2.2.2.2.2.2.1, .int Z.2.2.2.2.2.2.2.2.2.2.2.2.2.1, .int Z.2.2.2.2.2.2.2.2.2.2.2.2.2.2.1, .ref a5, .int Z.2.2.2.2.2.2.2.2.2.2.2.2.2.2.2.1, .int Z.2.2.2.2.2.2.2.2.2.2.2.2.2.2.2.2.1, .ref a6, .int Z.2.2.2.2.2.2.2.2.2.2.2.2.2.2.2.2.2.1, .ref a7, .int Z.2.2.2.2.2.2.2.2.2.2.2.2.2.2.2.2.2.2.1, .ref a8, .int Z.2.2.2.2.2.2.2.2.2.2.2.2.2.2.2.2.2.2.2] : List Value).set 13 (.int v))))) : va_D A (w6 cI cC h a1 a2 a3 a4 a5 a6 a7 a8 (sS16 v Z)) := hD
theorem w6p_17 {D : va_G} {cI cC : ClassId} {h a1 a2 a3 a4 a5 a6 a7 a8 : Nat} {Z : SV} {H : Heap} {v : Int32} (hP : va_P D vwCl ((w6 cI cC h a1 a2 a3 a4 a5 a6 a7 a8 Z).set 0 (h, .inr (7, ([.ref a1, .ref a2, .ref a3, .ref a4, .int Z.2.2.2.2.2.2.2.2.1, .int Z.2.2.2.2.2.2.2.2.2.1, .int Z.2.2.2.2.2.2.2.2.2.2.1, .int Z.2.2.2.2.2.2.2.2.2.2.2.1, .int Z.2.2.2.2.2.2.2.2.2.2.2.2.1, .int Z.2.2.2.2.2.2.2.2.2.2.2.2.2.1, .int Z.2.2.2.2.2.2.2.2.2.2.2.2.2.2.1, .ref a5, .int Z.2.2.2.2.2.2.2.2.2.2.2.2.2.2.2.1, .int Z.2.2.2.2.2.2.2.2.2.2.2.2.2.2.2.2.1, .ref a6, .int Z.2.2.2.2.2.2.2.2.2.2.2.2.2.2.2.2.2.1, .ref a7, .int Z.2.2.2.2.2.2.2.2.2.2.2.2.2.2.2.2.2.2.1, .ref a8, .int Z.2.2.2.2.2.2.2.2.2.2.2.2.2.2.2.2.2.2.2] : List Value).set 15 (.int v)))) H) : va_P D vwCl (w6 cI cC h a1 a2 a3 a4 a5 a6 a7 a8 (sS17 v Z)) H := hP
theorem w6d_17 {cI cC : ClassId} {h a1 a2 a3 a4 a5 a6 a7 a8 : Nat} {Z : SV} {A : Nat → Prop} {v : Int32} (hD : va_D A ((w6 cI cC h a1 a2 a3 a4 a5 a6 a7 a8 Z).set 0 (h, .inr (7, ([.ref a1, .ref a2, .ref a3, .ref a4, .int Z.2.2.2.2.2.2.2.2.1, .int Z.2.2.2.2.2.2.2.2.2.1, .int Z.2.2.2.2.2.2.2.2.2.2.1, .int Z.2.2.2.2.2.2.2.2.2.2.2.1, .int Z.2.2.2.2.2.2.2.2.2.2.2.2.1, .int Z.2.2.2.2.2.2.2.2.2.2.2.2.2.1, .int Z.2.2.2.2.2.2.2.2.2.2.2.2.2.2.1, .ref a5, .int Z.2.2.2.2.2.2.2.2.2.2.2.2.2.2.2.1, .int Z.2.2.2.2.2.2.2.2.2.2.2.2.2.2.2.2.1, .ref a6, .int Z.2.2.2.2.2.2.2.2.2.2.2.2.2.2.2.2.2.1, .ref a7, .int Z.2.2.2.2.2.2.2.2.2.2.2.2.2.2.2.2.2.2.1, .ref a8, .int Z.2.2.2.2.2.2.2.2.2.2.2.2.2.2.2.2.2.2.2] : List Value).set 15 (.int v))))) : va_D A (w6 cI cC h a1 a2 a3 a4 a5 a6 a7 a8 (sS17 v Z)) := hD
theorem w6p_18 {D : va_G} {cI cC : ClassId} {h a1 a2 a3 a4 a5 a6 a7 a8 : Nat} {Z : SV} {H : Heap} {v : Int32} (hP : va_P D vwCl ((w6 cI cC h a1 a2 a3 a4 a5 a6 a7 a8 Z).set 0 (h, .inr (7, ([.ref a1, .ref a2, .ref a3, .ref a4, .int Z.2.2.2.2.2.2.2.2.1, .int Z.2.2.2.2.2.2.2.2.2.1, .int Z.2.2.2.2.2.2.2.2.2.2.1, .int Z.2.2.2.2.2.2.2.2.2.2.2.1, .int Z.2.2.2.2.2.2.2.2.2.2.2.2.1, .int Z.2.2.2.2.2.2.2.2.2.2.2.2.2.1, .int Z.2.2.2.2.2.2.2.2.2.2.2.2.2.2.1, .ref a5, .int Z.2.2.2.2.2.2.2.2.2.2.2.2.2.2.2.1, .int Z.2.2.2.2.2.2.2.2.2.2.2.2.2.2.2.2.1, .ref a6, .int Z.2.2.2.2.2.2.2.2.2.2.2.2.2.2.2.2.2.1, .ref a7, .int Z.2.2.2.2.2.2.2.2.2.2.2.2.2.2.2.2.2.2.1, .ref a8, .int Z.2.2.2.2.2.2.2.2.2.2.2.2.2.2.2.2.2.2.2] : List Value).set 17 (.int v)))) H) : va_P D vwCl (w6 cI cC h a1 a2 a3 a4 a5 a6 a7 a8 (sS18 v Z)) H := hP
theorem w6d_18 {cI cC : ClassId} {h a1 a2 a3 a4 a5 a6 a7 a8 : Nat} {Z : SV} {A : Nat → Prop} {v : Int32} (hD : va_D A ((w6 cI cC h a1 a2 a3 a4 a5 a6 a7 a8 Z).set 0 (h, .inr (7, ([.ref a1, .ref a2, .ref a3, .ref a4, .int Z.2.2.2.2.2.2.2.2.1, .int Z.2.2.2.2.2.2.2.2.2.1, .int Z.2.2.2.2.2.2.2.2.2.2.1, .int Z.2.2.2.2.2.2.2.2.2.2.2.1, .int Z.2.2.2.2.2.2.2.2.2.2.2.2.1, .int Z.2.2.2.2.2.2.2.2.2.2.2.2.2.1, .int Z.2.2.2.2.2.2.2.2.2.2.2.2.2.2.1, .ref a5, .int Z.2.2.2.2.2.2.2.2.2.2.2.2.2.2.2.1, .int Z.2.2.2.2.2.2.2.2.2.2.2.2.2.2.2.2.1, .ref a6, .int Z.2.2.2.2.2.2.2.2.2.2.2.2.2.2.2.2.2.1, .ref a7, .int Z.2.2.2.2.2.2.2.2.2.2.2.2.2.2.2.2.2.2.1, .ref a8, .int Z.2.2.2.2.2.2.2.2.2.2.2.2.2.2.2.2.2.2.2] : List Value).set 17 (.int v))))) : va_D A (w6 cI cC h a1 a2 a3 a4 a5 a6 a7 a8 (sS18 v Z)) := hD
theorem w6p_19 {D : va_G} {cI cC : ClassId} {h a1 a2 a3 a4 a5 a6 a7 a8 : Nat} {Z : SV} {H : Heap} {v : Int32} (hP : va_P D vwCl ((w6 cI cC h a1 a2 a3 a4 a5 a6 a7 a8 Z).set 0 (h, .inr (7, ([.ref a1, .ref a2, .ref a3, .ref a4, .int Z.2.2.2.2.2.2.2.2.1, .int Z.2.2.2.2.2.2.2.2.2.1, .int Z.2.2.2.2.2.2.2.2.2.2.1, .int Z.2.2.2.2.2.2.2.2.2.2.2.1, .int Z.2.2.2.2.2.2.2.2.2.2.2.2.1, .int Z.2.2.2.2.2.2.2.2.2.2.2.2.2.1, .int Z.2.2.2.2.2.2.2.2.2.2.2.2.2.2.1, .ref a5, .int Z.2.2.2.2.2.2.2.2.2.2.2.2.2.2.2.1, .int Z.2.2.2.2.2.2.2.2.2.2.2.2.2.2.2.2.1, .ref a6, .int Z.2.2.2.2.2.2.2.2.2.2.2.2.2.2.2.2.2.1, .ref a7, .int Z.2.2.2.2.2.2.2.2.2.2.2.2.2.2.2.2.2.2.1, .ref a8, .int Z.2.2.2.2.2.2.2.2.2.2.2.2.2.2.2.2.2.2.2] : List Value).set 19 (.int v)))) H) : va_P D vwCl (w6 cI cC h a1 a2 a3 a4 a5 a6 a7 a8 (sS19 v Z)) H := hP
theorem w6d_19 {cI cC : ClassId} {h a1 a2 a3 a4 a5 a6 a7 a8 : Nat} {Z : SV} {A : Nat → Prop} {v : Int32} (hD : va_D A ((w6 cI cC h a1 a2 a3 a4 a5 a6 a7 a8 Z).set 0 (h, .inr (7, ([.ref a1, .ref a2, .ref a3, .ref a4, .int Z.2.2.2.2.2.2.2.2.1, .int Z.2.2.2.2.2.2.2.2.2.1, .int Z.2.2.2.2.2.2.2.2.2.2.1, .int Z.2.2.2.2.2.2.2.2.2.2.2.1, .int Z.2.2.2.2.2.2.2.2.2.2.2.2.1, .int Z.2.2.2.2.2.2.2.2.2.2.2.2.2.1, .int Z.2.2.2.2.2.2.2.2.2.2.2.2.2.2.1, .ref a5, .int Z.2.2.2.2.2.2.2.2.2.2.2.2.2.2.2.1, .int Z.2.2.2.2.2.2.2.2.2.2.2.2.2.2.2.2.1, .ref a6, .int Z.2.2.2.2.2.2.2.2.2.2.2.2.2.2.2.2.2.1, .ref a7, .int Z.2.2.2.2.2.2.2.2.2.2.2.2.2.2.2.2.2.2.1, .ref a8, .int Z.2.2.2.2.2.2.2.2.2.2.2.2.2.2.2.2.2.2.2] : List Value).set 19 (.int v))))) : va_D A (w6 cI cC h a1 a2 a3 a4 a5 a6 a7 a8 (sS19 v Z)) := hD
def fX6_thrown (S : SV)  : Int32 := S.2.2.2.2.2.2.2.2.2.2.2.2.1
abbrev rmX6_thrown : Room := { frames := 0, cells := 0, slots := 0, locals := 0 }
set_option maxHeartbeats 4000000 in
set_option maxRecDepth 100000 in
theorem kX6_thrown (l : Launch) (D : va_G) (cI cC cT : ClassId) (h a1 a2 a3 a4 a5 a6 a7 a8 : Nat) (S : SV)   : mR l D (TY cI cC cT) yX6_thrown wsX6_thrown rmX6_thrown [.ref h] (w6 cI cC h a1 a2 a3 a4 a5 a6 a7 a8 S) (some (.int (fX6_thrown S))) := by
  refine mR.ofW (cc := cX6_thrown) (maxL := 1) (ret := (some .int)) (by decide) rfl (Nat.le_of_ble_eq_true rfl) ?_
  intro p e s m args below meth c Q ls hx hb hml hr hlk hts hown hP hK hl hQ
  have hown : s.vm.findClass RX6 = some m.cls := hown
  have hP : va_P D vwCl (w6 cI cC h a1 a2 a3 a4 a5 a6 a7 a8 S) s.heap := hP
  have hl : lv_has ls 1 [(0, .ref h)] := hl
  have q0 := hts (Cond.fieldLink RX6 39 "TavernStoolsModel" "code" "I") (by decide +kernel)
  have q1 : ∀ w ∈ u_ws RX6 TX6 20, w ∈ wsX6_thrown := by decide +kernel
  refine lv_aload_n hx hb dX6_thrown_0 rfl (lv_at hl 0 rfl) ?_
  refine va_get (D := D) (ci := 7) (v := .int S.2.2.2.2.2.2.2.2.2.2.2.2.1) (C := RX6) (T := TX6) (N := 20) hx hb hts q1 hown hK hP 0 rfl rfl 8 (by decide) q0 (fun _ h9 => h9) rfl dX6_thrown_1 ?_
  exact rRi hx hb hr hlk hQ (by rw [fX6_thrown]) rfl dX6_thrown_4
def fX6_fails (S : SV) (x1 : Int32) : (Int32 × SV) := (if x1 ≤ 0 then (0, (sS11 0 (sS12 x1 S))) else (1, (sS11 0 (sS12 x1 S))))
abbrev rmX6_fails : Room := { frames := 0, cells := 0, slots := 0, locals := 0 }
set_option maxHeartbeats 4000000 in
set_option maxRecDepth 100000 in
theorem kX6_fails (l : Launch) (D : va_G) (cI cC cT : ClassId) (h a1 a2 a3 a4 a5 a6 a7 a8 : Nat) (S : SV) (x1 : Int32)  : mU l D (TY cI cC cT) yX6_fails wsX6_fails rmX6_fails [.ref h, .int x1] (w6 cI cC h a1 a2 a3 a4 a5 a6 a7 a8 S) (some (.int (fX6_fails S x1).1)) (w6 cI cC h a1 a2 a3 a4 a5 a6 a7 a8 (fX6_fails S x1).2) := by
  refine mU.ofW (cc := cX6_fails) (maxL := 2) (ret := (some .boolean)) (by decide) rfl (Nat.le_of_ble_eq_true rfl) ?_
  intro p e s m args below meth c Q ls A hx hb hml hr hlk hts hown hP hK hD hS hl hQ
  have hown : s.vm.findClass RX6 = some m.cls := hown
  have hP : va_P D vwCl (w6 cI cC h a1 a2 a3 a4 a5 a6 a7 a8 S) s.heap := hP
  have hD : va_D A (w6 cI cC h a1 a2 a3 a4 a5 a6 a7 a8 S) := hD
  have hl : lv_has ls 2 [(0, .ref h), (1, .int x1)] := hl
  have q0 := hts (Cond.fieldLink RX6 39 "TavernStoolsModel" "code" "I") (by decide +kernel)
  have q1 : ∀ w ∈ u_ws RX6 TX6 20, w ∈ wsX6_fails := by decide +kernel
  have q2 := hts (Cond.fieldLink RX6 42 "TavernStoolsModel" "isRefused" "Z") (by decide +kernel)
  generalize hHe : s.heap = H at hP ⊢
  have hS : va_S A s.heap H [] := hHe ▸ hS
  generalize hLe : ([] : List Loc) = locs at hS ⊢
  refine lv_aload_n hx hb dX6_fails_0 rfl (lv_at hl 0 rfl) ?_
  refine lv_iload_n hx hb dX6_fails_1 rfl (lv_at hl 1 rfl) ?_
  refine va_put (D := D) (ci := 7) (v := .int x1) (ty := .int) (C := RX6) (T := TX6) (N := 20) hx hb hts q1 tyX6 tyX6_ok nmX6 hown hK hP hD hS 0 rfl rfl 8 (by decide) q0 (fun _ h9 => h9) rfl (by decide +kernel) rfl rfl (Nat.le_of_ble_eq_true rfl) dX6_fails_2 (fun H locs hP hD hS => ?_)
  have hP : va_P D vwCl (w6 cI cC h a1 a2 a3 a4 a5 a6 a7 a8 (sS12 x1 S)) H := w6p_12 hP
  have hD : va_D A (w6 cI cC h a1 a2 a3 a4 a5 a6 a7 a8 (sS12 x1 S)) := w6d_12 hD
  refine lv_aload_n hx hb dX6_fails_5 rfl (lv_at hl 0 rfl) ?_
  refine lv_iconst (v := 0) hx hb dX6_fails_6 (by decide) ?_
  refine va_put (D := D) (ci := 7) (v := .int 0) (ty := .boolean) (C := RX6) (T := TX6) (N := 20) hx hb hts q1 tyX6 tyX6_ok nmX6 hown hK hP hD hS 0 rfl rfl 7 (by decide) q2 (fun _ h9 => h9) rfl (by decide +kernel) rfl rfl (Nat.le_of_ble_eq_true rfl) dX6_fails_7 (fun H locs hP hD hS => ?_)
  have hP : va_P D vwCl (w6 cI cC h a1 a2 a3 a4 a5 a6 a7 a8 (sS11 0 (sS12 x1 S))) H := w6p_11 hP
  have hD : va_D A (w6 cI cC h a1 a2 a3 a4 a5 a6 a7 a8 (sS11 0 (sS12 x1 S))) := w6d_11 hD
  refine lv_iload_n hx hb dX6_fails_10 rfl (lv_at hl 1 rfl) ?_
  refine lv_if_le (tgt := 18) hx hb dX6_fails_11 (by decide) (fun c_11_1 => ?_) (fun c_11_1 => ?_)
  · refine lv_iconst (v := 0) hx hb dX6_fails_18 (by decide) ?_
    have e9 : fX6_fails S x1 = (0, (sS11 0 (sS12 x1 S))) := by rw [fX6_fails, if_pos c_11_1]
    exact rUi hx hb hr hlk hQ hP hS (by rw [e9]) (congrArg (fun z9 : (Int32 × SV) => (w6 cI cC h a1 a2 a3 a4 a5 a6 a7 a8 z9.2 : va_W)) e9).symm rfl dX6_fails_19
  · refine lv_iconst (v := 1) hx hb dX6_fails_14 (by decide) ?_
    refine lv_goto (tgt := 19) hx hb dX6_fails_15 (by decide) ?_
    have e9 : fX6_fails S x1 = (1, (sS11 0 (sS12 x1 S))) := by rw [fX6_fails, if_neg c_11_1]
    exact rUi hx hb hr hlk hQ hP hS (by rw [e9]) (congrArg (fun z9 : (Int32 × SV) => (w6 cI cC h a1 a2 a3 a4 a5 a6 a7 a8 z9.2 : va_W)) e9).symm rfl dX6_fails_19
theorem zX6_fails (S : SV) (x1 : Int32) : (fX6_fails S x1).1 = 0 ∨ (fX6_fails S x1).1 = 1 := by
  unfold fX6_fails
  repeat' split
  all_goals first | exact Or.inl rfl | exact Or.inr rfl
theorem fails_0 (S : SV) : (fX6_fails S 0).1 = 0 := by
  rw [fX6_fails, if_pos (by decide)]
theorem fails_1 (S : SV) : (fX6_fails S 1).1 = 1 := by
  rw [fX6_fails, if_neg (by decide)]
theorem fails_2 (S : SV) : (fX6_fails S 2).1 = 1 := by
  rw [fX6_fails, if_neg (by decide)]
theorem fails_3 (S : SV) : (fX6_fails S 3).1 = 1 := by
  rw [fX6_fails, if_neg (by decide)]
def fX6_refuses (S : SV) (x1 : Int32) (x2 : Int32) (x3 : Int32) : (Int32 × SV) := (0, (sS14 x3 (sS13 x2 (sS11 1 (sS12 x1 S)))))
abbrev rmX6_refuses : Room := { frames := 0, cells := 0, slots := 0, locals := 0 }
set_option maxHeartbeats 4000000 in
set_option maxRecDepth 100000 in
theorem kX6_refuses (l : Launch) (D : va_G) (cI cC cT : ClassId) (h a1 a2 a3 a4 a5 a6 a7 a8 : Nat) (S : SV) (x1 : Int32) (x2 : Int32) (x3 : Int32)  : mU l D (TY cI cC cT) yX6_refuses wsX6_refuses rmX6_refuses [.ref h, .int x1, .int x2, .int x3] (w6 cI cC h a1 a2 a3 a4 a5 a6 a7 a8 S) (some (.int (fX6_refuses S x1 x2 x3).1)) (w6 cI cC h a1 a2 a3 a4 a5 a6 a7 a8 (fX6_refuses S x1 x2 x3).2) := by
  refine mU.ofW (cc := cX6_refuses) (maxL := 4) (ret := (some .int)) (by decide) rfl (Nat.le_of_ble_eq_true rfl) ?_
  intro p e s m args below meth c Q ls A hx hb hml hr hlk hts hown hP hK hD hS hl hQ
  have hown : s.vm.findClass RX6 = some m.cls := hown
  have hP : va_P D vwCl (w6 cI cC h a1 a2 a3 a4 a5 a6 a7 a8 S) s.heap := hP
  have hD : va_D A (w6 cI cC h a1 a2 a3 a4 a5 a6 a7 a8 S) := hD
  have hl : lv_has ls 4 [(0, .ref h), (1, .int x1), (2, .int x2), (3, .int x3)] := hl
  have q0 := hts (Cond.fieldLink RX6 39 "TavernStoolsModel" "code" "I") (by decide +kernel)
  have q1 : ∀ w ∈ u_ws RX6 TX6 20, w ∈ wsX6_refuses := by decide +kernel
  have q2 := hts (Cond.fieldLink RX6 42 "TavernStoolsModel" "isRefused" "Z") (by decide +kernel)
  have q3 := hts (Cond.fieldLink RX6 46 "TavernStoolsModel" "why" "I") (by decide +kernel)
  have q4 := hts (Cond.fieldLink RX6 49 "TavernStoolsModel" "detail" "I") (by decide +kernel)
  generalize hHe : s.heap = H at hP ⊢
  have hS : va_S A s.heap H [] := hHe ▸ hS
  generalize hLe : ([] : List Loc) = locs at hS ⊢
  refine lv_aload_n hx hb dX6_refuses_0 rfl (lv_at hl 0 rfl) ?_
  refine lv_iload_n hx hb dX6_refuses_1 rfl (lv_at hl 1 rfl) ?_
  refine va_put (D := D) (ci := 7) (v := .int x1) (ty := .int) (C := RX6) (T := TX6) (N := 20) hx hb hts q1 tyX6 tyX6_ok nmX6 hown hK hP hD hS 0 rfl rfl 8 (by decide) q0 (fun _ h9 => h9) rfl (by decide +kernel) rfl rfl (Nat.le_of_ble_eq_true rfl) dX6_refuses_2 (fun H locs hP hD hS => ?_)
  have hP : va_P D vwCl (w6 cI cC h a1 a2 a3 a4 a5 a6 a7 a8 (sS12 x1 S)) H := w6p_12 hP
  have hD : va_D A (w6 cI cC h a1 a2 a3 a4 a5 a6 a7 a8 (sS12 x1 S)) := w6d_12 hD
  refine lv_aload_n hx hb dX6_refuses_5 rfl (lv_at hl 0 rfl) ?_
  refine lv_iconst (v := 1) hx hb dX6_refuses_6 (by decide) ?_
  refine va_put (D := D) (ci := 7) (v := .int 1) (ty := .boolean) (C := RX6) (T := TX6) (N := 20) hx hb hts q1 tyX6 tyX6_ok nmX6 hown hK hP hD hS 0 rfl rfl 7 (by decide) q2 (fun _ h9 => h9) rfl (by decide +kernel) rfl rfl (Nat.le_of_ble_eq_true rfl) dX6_refuses_7 (fun H locs hP hD hS => ?_)
  have hP : va_P D vwCl (w6 cI cC h a1 a2 a3 a4 a5 a6 a7 a8 (sS11 1 (sS12 x1 S))) H := w6p_11 hP
  have hD : va_D A (w6 cI cC h a1 a2 a3 a4 a5 a6 a7 a8 (sS11 1 (sS12 x1 S))) := w6d_11 hD
  refine lv_aload_n hx hb dX6_refuses_10 rfl (lv_at hl 0 rfl) ?_
  refine lv_iload_n hx hb dX6_refuses_11 rfl (lv_at hl 2 rfl) ?_
  refine va_put (D := D) (ci := 7) (v := .int x2) (ty := .int) (C := RX6) (T := TX6) (N := 20) hx hb hts q1 tyX6 tyX6_ok nmX6 hown hK hP hD hS 0 rfl rfl 9 (by decide) q3 (fun _ h9 => h9) rfl (by decide +kernel) rfl rfl (Nat.le_of_ble_eq_true rfl) dX6_refuses_12 (fun H locs hP hD hS => ?_)
  have hP : va_P D vwCl (w6 cI cC h a1 a2 a3 a4 a5 a6 a7 a8 (sS13 x2 (sS11 1 (sS12 x1 S)))) H := w6p_13 hP
  have hD : va_D A (w6 cI cC h a1 a2 a3 a4 a5 a6 a7 a8 (sS13 x2 (sS11 1 (sS12 x1 S)))) := w6d_13 hD
  refine lv_aload_n hx hb dX6_refuses_15 rfl (lv_at hl 0 rfl) ?_
  refine lv_iload_n hx hb dX6_refuses_16 rfl (lv_at hl 3 rfl) ?_
  refine va_put (D := D) (ci := 7) (v := .int x3) (ty := .int) (C := RX6) (T := TX6) (N := 20) hx hb hts q1 tyX6 tyX6_ok nmX6 hown hK hP hD hS 0 rfl rfl 10 (by decide) q4 (fun _ h9 => h9) rfl (by decide +kernel) rfl rfl (Nat.le_of_ble_eq_true rfl) dX6_refuses_17 (fun H locs hP hD hS => ?_)
  have hP : va_P D vwCl (w6 cI cC h a1 a2 a3 a4 a5 a6 a7 a8 (sS14 x3 (sS13 x2 (sS11 1 (sS12 x1 S))))) H := w6p_14 hP
  have hD : va_D A (w6 cI cC h a1 a2 a3 a4 a5 a6 a7 a8 (sS14 x3 (sS13 x2 (sS11 1 (sS12 x1 S))))) := w6d_14 hD
  refine lv_iconst (v := 0) hx hb dX6_refuses_20 (by decide) ?_
  have e9 : fX6_refuses S x1 x2 x3 = (0, (sS14 x3 (sS13 x2 (sS11 1 (sS12 x1 S))))) := by rw [fX6_refuses]
  exact rUi hx hb hr hlk hQ hP hS (by rw [e9]) (congrArg (fun z9 : (Int32 × SV) => (w6 cI cC h a1 a2 a3 a4 a5 a6 a7 a8 z9.2 : va_W)) e9).symm rfl dX6_refuses_21
def fX6_in  (x1 : Int32) (x2 : Int32) (x3 : Int32) : Int32 := (if x1 < x2 then 0 else (if x3 < x1 then 0 else 1))
abbrev rmX6_in : Room := { frames := 0, cells := 0, slots := 0, locals := 0 }
set_option maxHeartbeats 4000000 in
set_option maxRecDepth 100000 in
theorem kX6_in (l : Launch) (D : va_G) (cI cC cT : ClassId)  (x1 : Int32) (x2 : Int32) (x3 : Int32)  : mR l D (TY cI cC cT) yX6_in wsX6_in rmX6_in [.int x1, .int x2, .int x3] ([]) (some (.int (fX6_in x1 x2 x3))) := by
  refine mR.ofW (cc := cX6_in) (maxL := 3) (ret := (some .boolean)) (by decide) rfl (Nat.le_of_ble_eq_true rfl) ?_
  intro p e s m args below meth c Q ls hx hb hml hr hlk hts hown hP hK hl hQ
  have hown : s.vm.findClass RX6 = some m.cls := hown
  have hP : va_P D vwCl [] s.heap := hP
  have hl : lv_has ls 3 [(0, .int x1), (1, .int x2), (2, .int x3)] := hl
  refine lv_iload_n hx hb dX6_in_0 rfl (lv_at hl 0 rfl) ?_
  refine lv_iload_n hx hb dX6_in_1 rfl (lv_at hl 1 rfl) ?_
  refine lv_icmp_lt (tgt := 14) hx hb dX6_in_2 (by decide) (fun c_2_1 => ?_) (fun c_2_1 => ?_)
  · refine lv_iconst (v := 0) hx hb dX6_in_14 (by decide) ?_
    exact rRi hx hb hr hlk hQ (by rw [fX6_in, if_pos c_2_1]) rfl dX6_in_15
  · refine lv_iload_n hx hb dX6_in_5 rfl (lv_at hl 0 rfl) ?_
    refine lv_iload_n hx hb dX6_in_6 rfl (lv_at hl 2 rfl) ?_
    refine lv_icmp_gt (tgt := 14) hx hb dX6_in_7 (by decide) (fun c_7_2 => ?_) (fun c_7_2 => ?_)
    · refine lv_iconst (v := 0) hx hb dX6_in_14 (by decide) ?_
      exact rRi hx hb hr hlk hQ (by rw [fX6_in, if_neg c_2_1, if_pos c_7_2]) rfl dX6_in_15
    · refine lv_iconst (v := 1) hx hb dX6_in_10 (by decide) ?_
      refine lv_goto (tgt := 15) hx hb dX6_in_11 (by decide) ?_
      exact rRi hx hb hr hlk hQ (by rw [fX6_in, if_neg c_2_1, if_neg c_7_2]) rfl dX6_in_15
theorem zX6_in  (x1 : Int32) (x2 : Int32) (x3 : Int32) : (fX6_in x1 x2 x3) = 0 ∨ (fX6_in x1 x2 x3) = 1 := by
  unfold fX6_in
  repeat' split
  all_goals first | exact Or.inl rfl | exact Or.inr rfl
def fX6_atMost  (x1 : Int32) (x2 : Int32) : Int32 := (if x2 ≤ x1 then x2 else x1)
abbrev rmX6_atMost : Room := { frames := 0, cells := 0, slots := 0, locals := 0 }
set_option maxHeartbeats 4000000 in
set_option maxRecDepth 100000 in
theorem kX6_atMost (l : Launch) (D : va_G) (cI cC cT : ClassId)  (x1 : Int32) (x2 : Int32)  : mR l D (TY cI cC cT) yX6_atMost wsX6_atMost rmX6_atMost [.int x1, .int x2] ([]) (some (.int (fX6_atMost x1 x2))) := by
  refine mR.ofW (cc := cX6_atMost) (maxL := 2) (ret := (some .int)) (by decide) rfl (Nat.le_of_ble_eq_true rfl) ?_
  intro p e s m args below meth c Q ls hx hb hml hr hlk hts hown hP hK hl hQ
  have hown : s.vm.findClass RX6 = some m.cls := hown
  have hP : va_P D vwCl [] s.heap := hP
  have hl : lv_has ls 2 [(0, .int x1), (1, .int x2)] := hl
  refine lv_iload_n hx hb dX6_atMost_0 rfl (lv_at hl 0 rfl) ?_
  refine lv_iload_n hx hb dX6_atMost_1 rfl (lv_at hl 1 rfl) ?_
  refine lv_icmp_ge (tgt := 9) hx hb dX6_atMost_2 (by decide) (fun c_2_1 => ?_) (fun c_2_1 => ?_)
  · refine lv_iload_n hx hb dX6_atMost_9 rfl (lv_at hl 1 rfl) ?_
    exact rRi hx hb hr hlk hQ (by rw [fX6_atMost, if_pos c_2_1]) rfl dX6_atMost_10
  · refine lv_iload_n hx hb dX6_atMost_5 rfl (lv_at hl 0 rfl) ?_
    refine lv_goto (tgt := 10) hx hb dX6_atMost_6 (by decide) ?_
    exact rRi hx hb hr hlk hQ (by rw [fX6_atMost, if_neg c_2_1]) rfl dX6_atMost_10
def lX6_copies_3 (F : (Nat → Int32)) (na : Nat) (nb : Nat) (x2 : Int32) (x4 : Int32) (v : ((Nat → Int32) × Int32)) : ((Nat → Int32) × Int32) ⊕ (((Nat → Int32) × Int32)) := (if 114 ≤ v.2 then (.inr (v.1, v.2)) else (.inl ((upd v.1 ((x4 + v.2)).toNatClampNeg (F ((x2 + v.2)).toNatClampNeg)), (v.2 + 1))))
def glX6_copies_3 (F : (Nat → Int32)) (na : Nat) (nb : Nat) (x2 : Int32) (x4 : Int32) (v : ((Nat → Int32) × Int32)) : Prop := (if 114 ≤ v.2 then True else ((vp_in (x2 + v.2) na) ∧ (vp_in (x4 + v.2) nb) ∧ True))
def fX6_copies (F : (Nat → Int32)) (na : Nat) (G : (Nat → Int32)) (nb : Nat) (x2 : Int32) (x4 : Int32) : (Nat → Int32) := (itv (G, 0) (lX6_copies_3 F na nb x2 x4) ((fun v : ((Nat → Int32) × Int32) => ((114 : Int32).toInt - v.2.toInt).toNat) (G, 0) + 1) (G, 0)).1
def gX6_copies (F : (Nat → Int32)) (na : Nat) (G : (Nat → Int32)) (nb : Nat) (x2 : Int32) (x4 : Int32) : Prop := ((∃ r9 : ((Nat → Int32) × Int32), lrun (lX6_copies_3 F na nb x2 x4) (glX6_copies_3 F na nb x2 x4) ((fun v : ((Nat → Int32) × Int32) => ((114 : Int32).toInt - v.2.toInt).toNat) (G, 0) + 1) (G, 0) r9) ∧ True)
abbrev rmX6_copies : Room := { frames := 0, cells := 0, slots := 0, locals := 0 }
set_option maxHeartbeats 4000000 in
set_option maxRecDepth 100000 in
theorem kX6_copies (l : Launch) (D : va_G) (cI cC cT : ClassId) (a b : Nat) (F : (Nat → Int32)) (na : Nat) (G : (Nat → Int32)) (nb : Nat) (x2 : Int32) (x4 : Int32) (hg : gX6_copies F na G nb x2 x4) : mU l D (TY cI cC cT) yX6_copies wsX6_copies rmX6_copies [.ref a, .int x2, .ref b, .int x4] ([(a, .inl (cI, na, .inl F))] ++ [(b, .inl (cI, nb, .inl G))]) none ([(a, .inl (cI, na, .inl F))] ++ [(b, .inl (cI, nb, .inl (fX6_copies F na G nb x2 x4)))]) := by
  refine mU.ofW (cc := cX6_copies) (maxL := 5) (ret := none) (by decide) rfl (Nat.le_of_ble_eq_true rfl) ?_
  intro p e s m args below meth c Q ls A hx hb hml hr hlk hts hown hP hK hD hS hl hQ
  have hown : s.vm.findClass RX6 = some m.cls := hown
  have hP : va_P D vwCl [(a, .inl (cI, na, .inl F)), (b, .inl (cI, nb, .inl G))] s.heap := hP
  have hD : va_D A [(a, .inl (cI, na, .inl F)), (b, .inl (cI, nb, .inl G))] := hD
  have hl : lv_has ls 5 [(0, .ref a), (1, .int x2), (2, .ref b), (3, .int x4)] := hl
  unfold gX6_copies at hg
  generalize hHe : s.heap = H at hP ⊢
  have hS : va_S A s.heap H [] := hHe ▸ hS
  generalize hLe : ([] : List Loc) = locs at hS ⊢
  refine lv_iconst (v := 0) hx hb dX6_copies_0 (by decide) ?_
  refine lv_istore (lv' := [(4, .int 0), (0, .ref a), (1, .int x2), (2, .ref b), (3, .int x4)]) hx hb dX6_copies_1 hl (by decide) rfl (fun ls hl => ?_)
  obtain ⟨n1, en1⟩ : ∃ z9, z9 = (itv (G, 0) (lX6_copies_3 F na nb x2 x4) ((fun v : ((Nat → Int32) × Int32) => ((114 : Int32).toInt - v.2.toInt).toNat) (G, 0) + 1) (G, 0)) := ⟨_, rfl⟩
  try rw [← en1] at hg
  obtain ⟨o3, hg⟩ := hg
  have L9 := lrun_val (d := (G, 0)) o3
  rw [← en1] at L9
  refine loopWs (lX6_copies_3 F na nb x2 x4) (glX6_copies_3 F na nb x2 x4) (fun v : ((Nat → Int32) × Int32) => ∀ (H : Heap) (locs : List Loc) ls, va_P D vwCl [(a, .inl (cI, na, .inl F)), (b, .inl (cI, nb, .inl v.1))] H → va_D A [(a, .inl (cI, na, .inl F)), (b, .inl (cI, nb, .inl v.1))] → va_S A s.heap H locs → lv_has ls 5 [(0, .ref a), (1, .int x2), (2, .ref b), (3, .int x4), (4, .int v.2)] → W p l e rmX6_copies s m args below meth c H locs 0 0 Q (F0 m 3 ls [])) (fun r9 : ((Nat → Int32) × Int32) => ∀ (H : Heap) (locs : List Loc) ls, va_P D vwCl [(a, .inl (cI, na, .inl F)), (b, .inl (cI, nb, .inl r9.1))] H → va_D A [(a, .inl (cI, na, .inl F)), (b, .inl (cI, nb, .inl r9.1))] → va_S A s.heap H locs → lv_has ls 5 [(0, .ref a), (1, .int x2), (2, .ref b), (3, .int x4), (4, .int r9.2)] → W p l e rmX6_copies s m args below meth c H locs 0 0 Q (F0 m 28 ls [])) ?_ _ (G, 0) n1 L9 ?_ _ _ ls hP hD hS (lv_sub hl [1, 2, 3, 4, 0] rfl)
  · intro v hg kb kx H locs ls hP hD hS hl
    unfold glX6_copies_3 at hg
    refine lv_iload hx hb dX6_copies_3 (lv_at hl 4 rfl) ?_
    refine lv_bipush (v := 114) hx hb dX6_copies_5 (by decide) ?_
    refine lv_icmp_ge (tgt := 28) hx hb dX6_copies_7 (by decide) (fun c_7_1 => ?_) (fun c_7_1 => ?_)
    · rw [if_pos c_7_1] at hg
      exact kx (v.1, v.2) (by rw [lX6_copies_3, if_pos c_7_1]) H locs ls hP hD hS (lv_sub hl [0, 1, 2, 3, 4] rfl)
    · rw [if_neg c_7_1] at hg
      refine lv_aload_n hx hb dX6_copies_10 rfl (lv_at hl 2 rfl) ?_
      refine lv_iload_n hx hb dX6_copies_11 rfl (lv_at hl 3 rfl) ?_
      refine lv_iload hx hb dX6_copies_12 (lv_at hl 4 rfl) ?_
      refine lv_iadd hx hb dX6_copies_14 ?_
      refine lv_aload_n hx hb dX6_copies_15 rfl (lv_at hl 0 rfl) ?_
      refine lv_iload_n hx hb dX6_copies_16 rfl (lv_at hl 1 rfl) ?_
      refine lv_iload hx hb dX6_copies_17 (lv_at hl 4 rfl) ?_
      refine lv_iadd hx hb dX6_copies_19 ?_
      obtain ⟨o1, hg⟩ := hg
      refine va_iald hx hb hK hP 0 0 rfl rfl o1 dX6_copies_20 ?_
      obtain ⟨o2, hg⟩ := hg
      refine va_iast hx hb hK hP hD hS 1 0 rfl rfl o2 dX6_copies_21 (fun H locs hP hD hS => ?_)
      have hP : va_P D vwCl [(a, .inl (cI, na, .inl F)), (b, .inl (cI, nb, .inl (upd v.1 ((x4 + v.2)).toNatClampNeg (F ((x2 + v.2)).toNatClampNeg))))] H := hP
      have hD : va_D A [(a, .inl (cI, na, .inl F)), (b, .inl (cI, nb, .inl (upd v.1 ((x4 + v.2)).toNatClampNeg (F ((x2 + v.2)).toNatClampNeg))))] := hD
      refine lv_iinc (v := (v.2 + 1)) (lv' := [(4, .int (v.2 + 1)), (0, .ref a), (1, .int x2), (2, .ref b), (3, .int x4)]) hx hb dX6_copies_22 hl (k := 4) rfl rfl (by decide) rfl (fun ls hl => ?_)
      refine lv_goto (tgt := 3) hx hb dX6_copies_25 (by decide) ?_
      exact kb ((upd v.1 ((x4 + v.2)).toNatClampNeg (F ((x2 + v.2)).toNatClampNeg)), (v.2 + 1)) (by rw [lX6_copies_3, if_neg c_7_1]) H locs ls hP hD hS (lv_sub hl [1, 2, 3, 4, 0] rfl)
  · intro H locs ls hP hD hS hl
    have e9 : fX6_copies F na G nb x2 x4 = n1.1 := by rw [fX6_copies, ← en1]
    exact rUv hx hb hr hlk hQ hP hS (congrArg (fun z9 : (Nat → Int32) => ([(a, .inl (cI, na, .inl F))] ++ [(b, .inl (cI, nb, .inl z9))] : va_W)) e9).symm dX6_copies_28
def lX6_keeps_g_24  (v : (SV × Int32)) : (SV × Int32) ⊕ ((SV × Int32)) := (if 798 ≤ v.2 then (.inr (v.1, v.2)) else (.inl ((sS1 (upd v.1.2.1 (v.2).toNatClampNeg (v.1.2.1 ((v.2 + 114)).toNatClampNeg)) v.1), (v.2 + 1))))
def glX6_keeps_g_24  (v : (SV × Int32)) : Prop := (if 798 ≤ v.2 then True else ((vp_in (v.2 + 114) 912) ∧ (vp_in v.2 912) ∧ True))
def fX6_keeps_g (S : SV)  : SV := (if S.2.2.2.2.2.2.2.2.2.2.1 = 0 then (if S.2.2.2.2.2.2.2.2.2.1 = 8 then (sS9 (((itv ((sS12 0 S), 0) lX6_keeps_g_24 ((fun v : (SV × Int32) => ((798 : Int32).toInt - v.2.toInt).toNat) ((sS12 0 S), 0) + 1) ((sS12 0 S), 0)).1.2.2.2.2.2.2.2.2.2.1 - 1) + 1) (sS1 (fX6_copies (itv ((sS12 0 S), 0) lX6_keeps_g_24 ((fun v : (SV × Int32) => ((798 : Int32).toInt - v.2.toInt).toNat) ((sS12 0 S), 0) + 1) ((sS12 0 S), 0)).1.1 114 (itv ((sS12 0 S), 0) lX6_keeps_g_24 ((fun v : (SV × Int32) => ((798 : Int32).toInt - v.2.toInt).toNat) ((sS12 0 S), 0) + 1) ((sS12 0 S), 0)).1.2.1 912 0 (114 * ((itv ((sS12 0 S), 0) lX6_keeps_g_24 ((fun v : (SV × Int32) => ((798 : Int32).toInt - v.2.toInt).toNat) ((sS12 0 S), 0) + 1) ((sS12 0 S), 0)).1.2.2.2.2.2.2.2.2.2.1 - 1))) (sS9 ((itv ((sS12 0 S), 0) lX6_keeps_g_24 ((fun v : (SV × Int32) => ((798 : Int32).toInt - v.2.toInt).toNat) ((sS12 0 S), 0) + 1) ((sS12 0 S), 0)).1.2.2.2.2.2.2.2.2.2.1 - 1) (itv ((sS12 0 S), 0) lX6_keeps_g_24 ((fun v : (SV × Int32) => ((798 : Int32).toInt - v.2.toInt).toNat) ((sS12 0 S), 0) + 1) ((sS12 0 S), 0)).1))) else (sS9 (S.2.2.2.2.2.2.2.2.2.1 + 1) (sS1 (fX6_copies S.1 114 S.2.1 912 0 (114 * S.2.2.2.2.2.2.2.2.2.1)) (sS12 0 S)))) else (sS12 0 S))
def gX6_keeps_g (S : SV)  : Prop := (if S.2.2.2.2.2.2.2.2.2.2.1 = 0 then (if S.2.2.2.2.2.2.2.2.2.1 = 8 then ((∃ r9 : (SV × Int32), lrun lX6_keeps_g_24 glX6_keeps_g_24 ((fun v : (SV × Int32) => ((798 : Int32).toInt - v.2.toInt).toNat) ((sS12 0 S), 0) + 1) ((sS12 0 S), 0) r9) ∧ ((gX6_copies (itv ((sS12 0 S), 0) lX6_keeps_g_24 ((fun v : (SV × Int32) => ((798 : Int32).toInt - v.2.toInt).toNat) ((sS12 0 S), 0) + 1) ((sS12 0 S), 0)).1.1 114 (itv ((sS12 0 S), 0) lX6_keeps_g_24 ((fun v : (SV × Int32) => ((798 : Int32).toInt - v.2.toInt).toNat) ((sS12 0 S), 0) + 1) ((sS12 0 S), 0)).1.2.1 912 0 (114 * ((itv ((sS12 0 S), 0) lX6_keeps_g_24 ((fun v : (SV × Int32) => ((798 : Int32).toInt - v.2.toInt).toNat) ((sS12 0 S), 0) + 1) ((sS12 0 S), 0)).1.2.2.2.2.2.2.2.2.2.1 - 1))) ∧ True)) else ((gX6_copies S.1 114 S.2.1 912 0 (114 * S.2.2.2.2.2.2.2.2.2.1)) ∧ True)) else True)
abbrev rmX6_keeps_g : Room := { frames := 1, cells := 0, slots := 0, locals := 24 }
set_option maxHeartbeats 4000000 in
set_option maxRecDepth 100000 in
theorem kX6_keeps_g (l : Launch) (D : va_G) (cI cC cT : ClassId) (h a1 a2 a3 a4 a5 a6 a7 a8 : Nat) (S : SV)  (hg : gX6_keeps_g S) : mU l D (TY cI cC cT) yX6_keeps wsX6_keeps rmX6_keeps_g [.ref h, .ref a1] (w6 cI cC h a1 a2 a3 a4 a5 a6 a7 a8 S) none (w6 cI cC h a1 a2 a3 a4 a5 a6 a7 a8 (fX6_keeps_g S)) := by
  refine mU.ofW (cc := cX6_keeps) (maxL := 3) (ret := none) (by decide) rfl (Nat.le_of_ble_eq_true rfl) ?_
  intro p e s m args below meth c Q ls A hx hb hml hr hlk hts hown hP hK hD hS hl hQ
  have hown : s.vm.findClass RX6 = some m.cls := hown
  have hP : va_P D vwCl (w6 cI cC h a1 a2 a3 a4 a5 a6 a7 a8 S) s.heap := hP
  have hD : va_D A (w6 cI cC h a1 a2 a3 a4 a5 a6 a7 a8 S) := hD
  have hl : lv_has ls 3 [(0, .ref h), (1, .ref a1)] := hl
  have q0 := hts (Cond.fieldLink RX6 39 "TavernStoolsModel" "code" "I") (by decide +kernel)
  have q1 : ∀ w ∈ u_ws RX6 TX6 20, w ∈ wsX6_keeps := by decide +kernel
  have q2 := hts (Cond.fieldLink RX6 52 "TavernStoolsModel" "isWithin" "Z") (by decide +kernel)
  have q3 := hts (Cond.fieldLink RX6 55 "TavernStoolsModel" "changes" "I") (by decide +kernel)
  have q4 := hts (Cond.fieldLink RX6 13 "TavernStoolsModel" "kept" "[I") (by decide +kernel)
  unfold gX6_keeps_g at hg
  generalize hHe : s.heap = H at hP ⊢
  have hS : va_S A s.heap H [] := hHe ▸ hS
  generalize hLe : ([] : List Loc) = locs at hS ⊢
  refine lv_aload_n hx hb dX6_keeps_0 rfl (lv_at hl 0 rfl) ?_
  refine lv_iconst (v := 0) hx hb dX6_keeps_1 (by decide) ?_
  refine va_put (D := D) (ci := 7) (v := .int 0) (ty := .int) (C := RX6) (T := TX6) (N := 20) hx hb hts q1 tyX6 tyX6_ok nmX6 hown hK hP hD hS 0 rfl rfl 8 (by decide) q0 (fun _ h9 => h9) rfl (by decide +kernel) rfl rfl (Nat.le_of_ble_eq_true rfl) dX6_keeps_2 (fun H locs hP hD hS => ?_)
  have hP : va_P D vwCl (w6 cI cC h a1 a2 a3 a4 a5 a6 a7 a8 (sS12 0 S)) H := w6p_12 hP
  have hD : va_D A (w6 cI cC h a1 a2 a3 a4 a5 a6 a7 a8 (sS12 0 S)) := w6d_12 hD
  refine lv_aload_n hx hb dX6_keeps_5 rfl (lv_at hl 0 rfl) ?_
  refine va_get (D := D) (ci := 7) (v := .int S.2.2.2.2.2.2.2.2.2.2.1) (C := RX6) (T := TX6) (N := 20) hx hb hts q1 hown hK hP 0 rfl rfl 6 (by decide) q2 (fun _ h9 => h9) rfl dX6_keeps_6 ?_
  refine lv_if_eq (tgt := 13) hx hb dX6_keeps_9 (by decide) (fun c_9_1 => ?_) (fun c_9_1 => ?_)
  · rw [if_pos c_9_1] at hg
    refine lv_aload_n hx hb dX6_keeps_13 rfl (lv_at hl 0 rfl) ?_
    refine va_get (D := D) (ci := 7) (v := .int S.2.2.2.2.2.2.2.2.2.1) (C := RX6) (T := TX6) (N := 20) hx hb hts q1 hown hK hP 0 rfl rfl 5 (by decide) q3 (fun _ h9 => h9) rfl dX6_keeps_14 ?_
    refine lv_bipush (v := 8) hx hb dX6_keeps_17 (by decide) ?_
    refine lv_icmp_ne (tgt := 62) hx hb dX6_keeps_19 (by decide) (fun c_19_2 => ?_) (fun c_19_2 => ?_)
    · rw [if_neg c_19_2] at hg
      refine lv_aload_n hx hb dX6_keeps_62 rfl (lv_at hl 1 rfl) ?_
      refine lv_iconst (v := 0) hx hb dX6_keeps_63 (by decide) ?_
      refine lv_aload_n hx hb dX6_keeps_64 rfl (lv_at hl 0 rfl) ?_
      refine va_get (D := D) (ci := 7) (v := .ref a2) (C := RX6) (T := TX6) (N := 20) hx hb hts q1 hown hK hP 0 rfl rfl 1 (by decide) q4 (fun _ h9 => h9) rfl dX6_keeps_65 ?_
      refine lv_bipush (v := 114) hx hb dX6_keeps_68 (by decide) ?_
      refine lv_aload_n hx hb dX6_keeps_70 rfl (lv_at hl 0 rfl) ?_
      refine va_get (D := D) (ci := 7) (v := .int S.2.2.2.2.2.2.2.2.2.1) (C := RX6) (T := TX6) (N := 20) hx hb hts q1 hown hK hP 0 rfl rfl 5 (by decide) q3 (fun _ h9 => h9) rfl dX6_keeps_71 ?_
      refine lv_imul hx hb dX6_keeps_74 ?_
      obtain ⟨n1, en1⟩ : ∃ z9, z9 = (fX6_copies S.1 114 S.2.1 912 0 (114 * S.2.2.2.2.2.2.2.2.2.1)) := ⟨_, rfl⟩
      try rw [← en1] at hg
      obtain ⟨o1, hg⟩ := hg
      have k9 := (kX6_copies l D cI cC cT a1 a2 S.1 114 S.2.1 912 0 (114 * S.2.2.2.2.2.2.2.2.2.1) o1)
      rw [← en1] at k9
      refine fUS (As := [.ref a1, .int 0, .ref a2, .int (114 * S.2.2.2.2.2.2.2.2.2.1)]) (rest := []) (st' := []) ⟨hx, hb, hml, hown, hts⟩ k9 (va_cwS 4 hts gX6_keeps_X6_copies rfl rfl rfl (by decide +kernel) ⟨Nat.le_of_ble_eq_true rfl, Nat.le_of_ble_eq_true rfl⟩) hP hK hD hS [1, 2] rfl rfl (by decide) rfl (w6 cI cC h a1 a2 a3 a4 a5 a6 a7 a8 (sS1 n1 (sS12 0 S))) rfl rfl rfl hl.1 rfl rfl (Nat.le_of_ble_eq_true rfl) ⟨Nat.zero_le _, Nat.zero_le _⟩ dX6_keeps_75 (fun H locs hP hD hS => ?_)
      refine lv_aload_n hx hb dX6_keeps_78 rfl (lv_at hl 0 rfl) ?_
      refine lv_dup hx hb dX6_keeps_79 rfl ?_
      refine va_get (D := D) (ci := 7) (v := .int S.2.2.2.2.2.2.2.2.2.1) (C := RX6) (T := TX6) (N := 20) hx hb hts q1 hown hK hP 0 rfl rfl 5 (by decide) q3 (fun _ h9 => h9) rfl dX6_keeps_80 ?_
      refine lv_iconst (v := 1) hx hb dX6_keeps_83 (by decide) ?_
      refine lv_iadd hx hb dX6_keeps_84 ?_
      refine va_put (D := D) (ci := 7) (v := .int (S.2.2.2.2.2.2.2.2.2.1 + 1)) (ty := .int) (C := RX6) (T := TX6) (N := 20) hx hb hts q1 tyX6 tyX6_ok nmX6 hown hK hP hD hS 0 rfl rfl 5 (by decide) q3 (fun _ h9 => h9) rfl (by decide +kernel) rfl rfl (Nat.le_of_ble_eq_true rfl) dX6_keeps_85 (fun H locs hP hD hS => ?_)
      have hP : va_P D vwCl (w6 cI cC h a1 a2 a3 a4 a5 a6 a7 a8 (sS9 (S.2.2.2.2.2.2.2.2.2.1 + 1) (sS1 n1 (sS12 0 S)))) H := w6p_9 hP
      have hD : va_D A (w6 cI cC h a1 a2 a3 a4 a5 a6 a7 a8 (sS9 (S.2.2.2.2.2.2.2.2.2.1 + 1) (sS1 n1 (sS12 0 S)))) := w6d_9 hD
      have e9 : fX6_keeps_g S = (sS9 (S.2.2.2.2.2.2.2.2.2.1 + 1) (sS1 n1 (sS12 0 S))) := by rw [fX6_keeps_g, if_pos c_9_1, if_neg c_19_2, ← en1]
      exact rUv hx hb hr hlk hQ hP hS (congrArg (fun z9 : SV => (w6 cI cC h a1 a2 a3 a4 a5 a6 a7 a8 z9 : va_W)) e9).symm dX6_keeps_88
    · rw [if_pos c_19_2] at hg
      refine lv_iconst (v := 0) hx hb dX6_keeps_22 (by decide) ?_
      refine lv_istore_n (lv' := [(2, .int 0), (0, .ref h), (1, .ref a1)]) hx hb dX6_keeps_23 rfl hl (by decide) rfl (fun ls hl => ?_)
      obtain ⟨n2, en2⟩ : ∃ z9, z9 = (itv ((sS12 0 S), 0) lX6_keeps_g_24 ((fun v : (SV × Int32) => ((798 : Int32).toInt - v.2.toInt).toNat) ((sS12 0 S), 0) + 1) ((sS12 0 S), 0)) := ⟨_, rfl⟩
      try rw [← en2] at hg
      obtain ⟨o4, hg⟩ := hg
      have L9 := lrun_val (d := ((sS12 0 S), 0)) o4
      rw [← en2] at L9
      refine loopWs lX6_keeps_g_24 glX6_keeps_g_24 (fun v : (SV × Int32) => ∀ (H : Heap) (locs : List Loc) ls, va_P D vwCl (w6 cI cC h a1 a2 a3 a4 a5 a6 a7 a8 v.1) H → va_D A (w6 cI cC h a1 a2 a3 a4 a5 a6 a7 a8 v.1) → va_S A s.heap H locs → lv_has ls 3 [(0, .ref h), (1, .ref a1), (2, .int v.2)] → W p l e rmX6_keeps_g s m args below meth c H locs 0 0 Q (F0 m 24 ls [])) (fun r9 : (SV × Int32) => ∀ (H : Heap) (locs : List Loc) ls, va_P D vwCl (w6 cI cC h a1 a2 a3 a4 a5 a6 a7 a8 r9.1) H → va_D A (w6 cI cC h a1 a2 a3 a4 a5 a6 a7 a8 r9.1) → va_S A s.heap H locs → lv_has ls 3 [(0, .ref h), (1, .ref a1), (2, .int r9.2)] → W p l e rmX6_keeps_g s m args below meth c H locs 0 0 Q (F0 m 52 ls [])) ?_ _ ((sS12 0 S), 0) n2 L9 ?_ _ _ ls hP hD hS (lv_sub hl [1, 2, 0] rfl)
      · intro v hg kb kx H locs ls hP hD hS hl
        unfold glX6_keeps_g_24 at hg
        refine lv_iload_n hx hb dX6_keeps_24 rfl (lv_at hl 2 rfl) ?_
        refine lv_sipush (v := 798) hx hb dX6_keeps_25 (by decide) ?_
        refine lv_icmp_ge (tgt := 52) hx hb dX6_keeps_28 (by decide) (fun c_28_3 => ?_) (fun c_28_3 => ?_)
        · rw [if_pos c_28_3] at hg
          exact kx (v.1, v.2) (by rw [lX6_keeps_g_24, if_pos c_28_3]) H locs ls hP hD hS (lv_sub hl [0, 1, 2] rfl)
        · rw [if_neg c_28_3] at hg
          refine lv_aload_n hx hb dX6_keeps_31 rfl (lv_at hl 0 rfl) ?_
          refine va_get (D := D) (ci := 7) (v := .ref a2) (C := RX6) (T := TX6) (N := 20) hx hb hts q1 hown hK hP 0 rfl rfl 1 (by decide) q4 (fun _ h9 => h9) rfl dX6_keeps_32 ?_
          refine lv_iload_n hx hb dX6_keeps_35 rfl (lv_at hl 2 rfl) ?_
          refine lv_aload_n hx hb dX6_keeps_36 rfl (lv_at hl 0 rfl) ?_
          refine va_get (D := D) (ci := 7) (v := .ref a2) (C := RX6) (T := TX6) (N := 20) hx hb hts q1 hown hK hP 0 rfl rfl 1 (by decide) q4 (fun _ h9 => h9) rfl dX6_keeps_37 ?_
          refine lv_iload_n hx hb dX6_keeps_40 rfl (lv_at hl 2 rfl) ?_
          refine lv_bipush (v := 114) hx hb dX6_keeps_41 (by decide) ?_
          refine lv_iadd hx hb dX6_keeps_43 ?_
          obtain ⟨o2, hg⟩ := hg
          refine va_iald hx hb hK hP 2 0 rfl rfl o2 dX6_keeps_44 ?_
          obtain ⟨o3, hg⟩ := hg
          refine va_iast hx hb hK hP hD hS 2 0 rfl rfl o3 dX6_keeps_45 (fun H locs hP hD hS => ?_)
          have hP : va_P D vwCl (w6 cI cC h a1 a2 a3 a4 a5 a6 a7 a8 (sS1 (upd v.1.2.1 (v.2).toNatClampNeg (v.1.2.1 ((v.2 + 114)).toNatClampNeg)) v.1)) H := w6p_1 hP
          have hD : va_D A (w6 cI cC h a1 a2 a3 a4 a5 a6 a7 a8 (sS1 (upd v.1.2.1 (v.2).toNatClampNeg (v.1.2.1 ((v.2 + 114)).toNatClampNeg)) v.1)) := w6d_1 hD
          refine lv_iinc (v := (v.2 + 1)) (lv' := [(2, .int (v.2 + 1)), (0, .ref h), (1, .ref a1)]) hx hb dX6_keeps_46 hl (k := 2) rfl rfl (by decide) rfl (fun ls hl => ?_)
          refine lv_goto (tgt := 24) hx hb dX6_keeps_49 (by decide) ?_
          exact kb ((sS1 (upd v.1.2.1 (v.2).toNatClampNeg (v.1.2.1 ((v.2 + 114)).toNatClampNeg)) v.1), (v.2 + 1)) (by rw [lX6_keeps_g_24, if_neg c_28_3]) H locs ls hP hD hS (lv_sub hl [1, 2, 0] rfl)
      · intro H locs ls hP hD hS hl
        refine lv_aload_n hx hb dX6_keeps_52 rfl (lv_at hl 0 rfl) ?_
        refine lv_dup hx hb dX6_keeps_53 rfl ?_
        refine va_get (D := D) (ci := 7) (v := .int n2.1.2.2.2.2.2.2.2.2.2.1) (C := RX6) (T := TX6) (N := 20) hx hb hts q1 hown hK hP 0 rfl rfl 5 (by decide) q3 (fun _ h9 => h9) rfl dX6_keeps_54 ?_
        refine lv_iconst (v := 1) hx hb dX6_keeps_57 (by decide) ?_
        refine lv_isub hx hb dX6_keeps_58 ?_
        refine va_put (D := D) (ci := 7) (v := .int (n2.1.2.2.2.2.2.2.2.2.2.1 - 1)) (ty := .int) (C := RX6) (T := TX6) (N := 20) hx hb hts q1 tyX6 tyX6_ok nmX6 hown hK hP hD hS 0 rfl rfl 5 (by decide) q3 (fun _ h9 => h9) rfl (by decide +kernel) rfl rfl (Nat.le_of_ble_eq_true rfl) dX6_keeps_59 (fun H locs hP hD hS => ?_)
        have hP : va_P D vwCl (w6 cI cC h a1 a2 a3 a4 a5 a6 a7 a8 (sS9 (n2.1.2.2.2.2.2.2.2.2.2.1 - 1) n2.1)) H := w6p_9 hP
        have hD : va_D A (w6 cI cC h a1 a2 a3 a4 a5 a6 a7 a8 (sS9 (n2.1.2.2.2.2.2.2.2.2.2.1 - 1) n2.1)) := w6d_9 hD
        refine lv_aload_n hx hb dX6_keeps_62 rfl (lv_at hl 1 rfl) ?_
        refine lv_iconst (v := 0) hx hb dX6_keeps_63 (by decide) ?_
        refine lv_aload_n hx hb dX6_keeps_64 rfl (lv_at hl 0 rfl) ?_
        refine va_get (D := D) (ci := 7) (v := .ref a2) (C := RX6) (T := TX6) (N := 20) hx hb hts q1 hown hK hP 0 rfl rfl 1 (by decide) q4 (fun _ h9 => h9) rfl dX6_keeps_65 ?_
        refine lv_bipush (v := 114) hx hb dX6_keeps_68 (by decide) ?_
        refine lv_aload_n hx hb dX6_keeps_70 rfl (lv_at hl 0 rfl) ?_
        refine va_get (D := D) (ci := 7) (v := .int (n2.1.2.2.2.2.2.2.2.2.2.1 - 1)) (C := RX6) (T := TX6) (N := 20) hx hb hts q1 hown hK hP 0 rfl rfl 5 (by decide) q3 (fun _ h9 => h9) rfl dX6_keeps_71 ?_
        refine lv_imul hx hb dX6_keeps_74 ?_
        obtain ⟨n3, en3⟩ : ∃ z9, z9 = (fX6_copies n2.1.1 114 n2.1.2.1 912 0 (114 * (n2.1.2.2.2.2.2.2.2.2.2.1 - 1))) := ⟨_, rfl⟩
        try rw [← en3] at hg
        obtain ⟨o5, hg⟩ := hg
        have k9 := (kX6_copies l D cI cC cT a1 a2 n2.1.1 114 n2.1.2.1 912 0 (114 * (n2.1.2.2.2.2.2.2.2.2.2.1 - 1)) o5)
        rw [← en3] at k9
        refine fUS (As := [.ref a1, .int 0, .ref a2, .int (114 * (n2.1.2.2.2.2.2.2.2.2.2.1 - 1))]) (rest := []) (st' := []) ⟨hx, hb, hml, hown, hts⟩ k9 (va_cwS 4 hts gX6_keeps_X6_copies rfl rfl rfl (by decide +kernel) ⟨Nat.le_of_ble_eq_true rfl, Nat.le_of_ble_eq_true rfl⟩) hP hK hD hS [1, 2] rfl rfl (by decide) rfl (w6 cI cC h a1 a2 a3 a4 a5 a6 a7 a8 (sS1 n3 (sS9 (n2.1.2.2.2.2.2.2.2.2.2.1 - 1) n2.1))) rfl rfl rfl hl.1 rfl rfl (Nat.le_of_ble_eq_true rfl) ⟨Nat.zero_le _, Nat.zero_le _⟩ dX6_keeps_75 (fun H locs hP hD hS => ?_)
        refine lv_aload_n hx hb dX6_keeps_78 rfl (lv_at hl 0 rfl) ?_
        refine lv_dup hx hb dX6_keeps_79 rfl ?_
        refine va_get (D := D) (ci := 7) (v := .int (n2.1.2.2.2.2.2.2.2.2.2.1 - 1)) (C := RX6) (T := TX6) (N := 20) hx hb hts q1 hown hK hP 0 rfl rfl 5 (by decide) q3 (fun _ h9 => h9) rfl dX6_keeps_80 ?_
        refine lv_iconst (v := 1) hx hb dX6_keeps_83 (by decide) ?_
        refine lv_iadd hx hb dX6_keeps_84 ?_
        refine va_put (D := D) (ci := 7) (v := .int ((n2.1.2.2.2.2.2.2.2.2.2.1 - 1) + 1)) (ty := .int) (C := RX6) (T := TX6) (N := 20) hx hb hts q1 tyX6 tyX6_ok nmX6 hown hK hP hD hS 0 rfl rfl 5 (by decide) q3 (fun _ h9 => h9) rfl (by decide +kernel) rfl rfl (Nat.le_of_ble_eq_true rfl) dX6_keeps_85 (fun H locs hP hD hS => ?_)
        have hP : va_P D vwCl (w6 cI cC h a1 a2 a3 a4 a5 a6 a7 a8 (sS9 ((n2.1.2.2.2.2.2.2.2.2.2.1 - 1) + 1) (sS1 n3 (sS9 (n2.1.2.2.2.2.2.2.2.2.2.1 - 1) n2.1)))) H := w6p_9 hP
        have hD : va_D A (w6 cI cC h a1 a2 a3 a4 a5 a6 a7 a8 (sS9 ((n2.1.2.2.2.2.2.2.2.2.2.1 - 1) + 1) (sS1 n3 (sS9 (n2.1.2.2.2.2.2.2.2.2.2.1 - 1) n2.1)))) := w6d_9 hD
        have e9 : fX6_keeps_g S = (sS9 ((n2.1.2.2.2.2.2.2.2.2.2.1 - 1) + 1) (sS1 n3 (sS9 (n2.1.2.2.2.2.2.2.2.2.2.1 - 1) n2.1))) := by rw [fX6_keeps_g, if_pos c_9_1, if_pos c_19_2, ← en2, ← en3]
        exact rUv hx hb hr hlk hQ hP hS (congrArg (fun z9 : SV => (w6 cI cC h a1 a2 a3 a4 a5 a6 a7 a8 z9 : va_W)) e9).symm dX6_keeps_88
  · rw [if_neg c_9_1] at hg
    have e9 : fX6_keeps_g S = (sS12 0 S) := by rw [fX6_keeps_g, if_neg c_9_1]
    exact rUv hx hb hr hlk hQ hP hS (congrArg (fun z9 : SV => (w6 cI cC h a1 a2 a3 a4 a5 a6 a7 a8 z9 : va_W)) e9).symm dX6_keeps_12
def lX6_keeps_b_24  (v : (SV × Int32)) : (SV × Int32) ⊕ ((SV × Int32)) := (if 798 ≤ v.2 then (.inr (v.1, v.2)) else (.inl ((sS1 (upd v.1.2.1 (v.2).toNatClampNeg (v.1.2.1 ((v.2 + 114)).toNatClampNeg)) v.1), (v.2 + 1))))
def glX6_keeps_b_24  (v : (SV × Int32)) : Prop := (if 798 ≤ v.2 then True else ((vp_in (v.2 + 114) 912) ∧ (vp_in v.2 912) ∧ True))
def fX6_keeps_b (S : SV)  : SV := (if S.2.2.2.2.2.2.2.2.2.2.1 = 0 then (if S.2.2.2.2.2.2.2.2.2.1 = 8 then (sS9 (((itv ((sS12 0 S), 0) lX6_keeps_b_24 ((fun v : (SV × Int32) => ((798 : Int32).toInt - v.2.toInt).toNat) ((sS12 0 S), 0) + 1) ((sS12 0 S), 0)).1.2.2.2.2.2.2.2.2.2.1 - 1) + 1) (sS1 (fX6_copies (itv ((sS12 0 S), 0) lX6_keeps_b_24 ((fun v : (SV × Int32) => ((798 : Int32).toInt - v.2.toInt).toNat) ((sS12 0 S), 0) + 1) ((sS12 0 S), 0)).1.2.2.2.1 114 (itv ((sS12 0 S), 0) lX6_keeps_b_24 ((fun v : (SV × Int32) => ((798 : Int32).toInt - v.2.toInt).toNat) ((sS12 0 S), 0) + 1) ((sS12 0 S), 0)).1.2.1 912 0 (114 * ((itv ((sS12 0 S), 0) lX6_keeps_b_24 ((fun v : (SV × Int32) => ((798 : Int32).toInt - v.2.toInt).toNat) ((sS12 0 S), 0) + 1) ((sS12 0 S), 0)).1.2.2.2.2.2.2.2.2.2.1 - 1))) (sS9 ((itv ((sS12 0 S), 0) lX6_keeps_b_24 ((fun v : (SV × Int32) => ((798 : Int32).toInt - v.2.toInt).toNat) ((sS12 0 S), 0) + 1) ((sS12 0 S), 0)).1.2.2.2.2.2.2.2.2.2.1 - 1) (itv ((sS12 0 S), 0) lX6_keeps_b_24 ((fun v : (SV × Int32) => ((798 : Int32).toInt - v.2.toInt).toNat) ((sS12 0 S), 0) + 1) ((sS12 0 S), 0)).1))) else (sS9 (S.2.2.2.2.2.2.2.2.2.1 + 1) (sS1 (fX6_copies S.2.2.2.1 114 S.2.1 912 0 (114 * S.2.2.2.2.2.2.2.2.2.1)) (sS12 0 S)))) else (sS12 0 S))
def gX6_keeps_b (S : SV)  : Prop := (if S.2.2.2.2.2.2.2.2.2.2.1 = 0 then (if S.2.2.2.2.2.2.2.2.2.1 = 8 then ((∃ r9 : (SV × Int32), lrun lX6_keeps_b_24 glX6_keeps_b_24 ((fun v : (SV × Int32) => ((798 : Int32).toInt - v.2.toInt).toNat) ((sS12 0 S), 0) + 1) ((sS12 0 S), 0) r9) ∧ ((gX6_copies (itv ((sS12 0 S), 0) lX6_keeps_b_24 ((fun v : (SV × Int32) => ((798 : Int32).toInt - v.2.toInt).toNat) ((sS12 0 S), 0) + 1) ((sS12 0 S), 0)).1.2.2.2.1 114 (itv ((sS12 0 S), 0) lX6_keeps_b_24 ((fun v : (SV × Int32) => ((798 : Int32).toInt - v.2.toInt).toNat) ((sS12 0 S), 0) + 1) ((sS12 0 S), 0)).1.2.1 912 0 (114 * ((itv ((sS12 0 S), 0) lX6_keeps_b_24 ((fun v : (SV × Int32) => ((798 : Int32).toInt - v.2.toInt).toNat) ((sS12 0 S), 0) + 1) ((sS12 0 S), 0)).1.2.2.2.2.2.2.2.2.2.1 - 1))) ∧ True)) else ((gX6_copies S.2.2.2.1 114 S.2.1 912 0 (114 * S.2.2.2.2.2.2.2.2.2.1)) ∧ True)) else True)
abbrev rmX6_keeps_b : Room := { frames := 1, cells := 0, slots := 0, locals := 24 }
set_option maxHeartbeats 4000000 in
set_option maxRecDepth 100000 in
theorem kX6_keeps_b (l : Launch) (D : va_G) (cI cC cT : ClassId) (h a1 a2 a3 a4 a5 a6 a7 a8 : Nat) (S : SV)  (hg : gX6_keeps_b S) : mU l D (TY cI cC cT) yX6_keeps wsX6_keeps rmX6_keeps_b [.ref h, .ref a4] (w6 cI cC h a1 a2 a3 a4 a5 a6 a7 a8 S) none (w6 cI cC h a1 a2 a3 a4 a5 a6 a7 a8 (fX6_keeps_b S)) := by
  refine mU.ofW (cc := cX6_keeps) (maxL := 3) (ret := none) (by decide) rfl (Nat.le_of_ble_eq_true rfl) ?_
  intro p e s m args below meth c Q ls A hx hb hml hr hlk hts hown hP hK hD hS hl hQ
  have hown : s.vm.findClass RX6 = some m.cls := hown
  have hP : va_P D vwCl (w6 cI cC h a1 a2 a3 a4 a5 a6 a7 a8 S) s.heap := hP
  have hD : va_D A (w6 cI cC h a1 a2 a3 a4 a5 a6 a7 a8 S) := hD
  have hl : lv_has ls 3 [(0, .ref h), (1, .ref a4)] := hl
  have q0 := hts (Cond.fieldLink RX6 39 "TavernStoolsModel" "code" "I") (by decide +kernel)
  have q1 : ∀ w ∈ u_ws RX6 TX6 20, w ∈ wsX6_keeps := by decide +kernel
  have q2 := hts (Cond.fieldLink RX6 52 "TavernStoolsModel" "isWithin" "Z") (by decide +kernel)
  have q3 := hts (Cond.fieldLink RX6 55 "TavernStoolsModel" "changes" "I") (by decide +kernel)
  have q4 := hts (Cond.fieldLink RX6 13 "TavernStoolsModel" "kept" "[I") (by decide +kernel)
  unfold gX6_keeps_b at hg
  generalize hHe : s.heap = H at hP ⊢
  have hS : va_S A s.heap H [] := hHe ▸ hS
  generalize hLe : ([] : List Loc) = locs at hS ⊢
  refine lv_aload_n hx hb dX6_keeps_0 rfl (lv_at hl 0 rfl) ?_
  refine lv_iconst (v := 0) hx hb dX6_keeps_1 (by decide) ?_
  refine va_put (D := D) (ci := 7) (v := .int 0) (ty := .int) (C := RX6) (T := TX6) (N := 20) hx hb hts q1 tyX6 tyX6_ok nmX6 hown hK hP hD hS 0 rfl rfl 8 (by decide) q0 (fun _ h9 => h9) rfl (by decide +kernel) rfl rfl (Nat.le_of_ble_eq_true rfl) dX6_keeps_2 (fun H locs hP hD hS => ?_)
  have hP : va_P D vwCl (w6 cI cC h a1 a2 a3 a4 a5 a6 a7 a8 (sS12 0 S)) H := w6p_12 hP
  have hD : va_D A (w6 cI cC h a1 a2 a3 a4 a5 a6 a7 a8 (sS12 0 S)) := w6d_12 hD
  refine lv_aload_n hx hb dX6_keeps_5 rfl (lv_at hl 0 rfl) ?_
  refine va_get (D := D) (ci := 7) (v := .int S.2.2.2.2.2.2.2.2.2.2.1) (C := RX6) (T := TX6) (N := 20) hx hb hts q1 hown hK hP 0 rfl rfl 6 (by decide) q2 (fun _ h9 => h9) rfl dX6_keeps_6 ?_
  refine lv_if_eq (tgt := 13) hx hb dX6_keeps_9 (by decide) (fun c_9_1 => ?_) (fun c_9_1 => ?_)
  · rw [if_pos c_9_1] at hg
    refine lv_aload_n hx hb dX6_keeps_13 rfl (lv_at hl 0 rfl) ?_
    refine va_get (D := D) (ci := 7) (v := .int S.2.2.2.2.2.2.2.2.2.1) (C := RX6) (T := TX6) (N := 20) hx hb hts q1 hown hK hP 0 rfl rfl 5 (by decide) q3 (fun _ h9 => h9) rfl dX6_keeps_14 ?_
    refine lv_bipush (v := 8) hx hb dX6_keeps_17 (by decide) ?_
    refine lv_icmp_ne (tgt := 62) hx hb dX6_keeps_19 (by decide) (fun c_19_2 => ?_) (fun c_19_2 => ?_)
    · rw [if_neg c_19_2] at hg
      refine lv_aload_n hx hb dX6_keeps_62 rfl (lv_at hl 1 rfl) ?_
      refine lv_iconst (v := 0) hx hb dX6_keeps_63 (by decide) ?_
      refine lv_aload_n hx hb dX6_keeps_64 rfl (lv_at hl 0 rfl) ?_
      refine va_get (D := D) (ci := 7) (v := .ref a2) (C := RX6) (T := TX6) (N := 20) hx hb hts q1 hown hK hP 0 rfl rfl 1 (by decide) q4 (fun _ h9 => h9) rfl dX6_keeps_65 ?_
      refine lv_bipush (v := 114) hx hb dX6_keeps_68 (by decide) ?_
      refine lv_aload_n hx hb dX6_keeps_70 rfl (lv_at hl 0 rfl) ?_
      refine va_get (D := D) (ci := 7) (v := .int S.2.2.2.2.2.2.2.2.2.1) (C := RX6) (T := TX6) (N := 20) hx hb hts q1 hown hK hP 0 rfl rfl 5 (by decide) q3 (fun _ h9 => h9) rfl dX6_keeps_71 ?_
      refine lv_imul hx hb dX6_keeps_74 ?_
      obtain ⟨n1, en1⟩ : ∃ z9, z9 = (fX6_copies S.2.2.2.1 114 S.2.1 912 0 (114 * S.2.2.2.2.2.2.2.2.2.1)) := ⟨_, rfl⟩
      try rw [← en1] at hg
      obtain ⟨o1, hg⟩ := hg
      have k9 := (kX6_copies l D cI cC cT a4 a2 S.2.2.2.1 114 S.2.1 912 0 (114 * S.2.2.2.2.2.2.2.2.2.1) o1)
      rw [← en1] at k9
      refine fUS (As := [.ref a4, .int 0, .ref a2, .int (114 * S.2.2.2.2.2.2.2.2.2.1)]) (rest := []) (st' := []) ⟨hx, hb, hml, hown, hts⟩ k9 (va_cwS 4 hts gX6_keeps_X6_copies rfl rfl rfl (by decide +kernel) ⟨Nat.le_of_ble_eq_true rfl, Nat.le_of_ble_eq_true rfl⟩) hP hK hD hS [4, 2] rfl rfl (by decide) rfl (w6 cI cC h a1 a2 a3 a4 a5 a6 a7 a8 (sS1 n1 (sS12 0 S))) rfl rfl rfl hl.1 rfl rfl (Nat.le_of_ble_eq_true rfl) ⟨Nat.zero_le _, Nat.zero_le _⟩ dX6_keeps_75 (fun H locs hP hD hS => ?_)
      refine lv_aload_n hx hb dX6_keeps_78 rfl (lv_at hl 0 rfl) ?_
      refine lv_dup hx hb dX6_keeps_79 rfl ?_
      refine va_get (D := D) (ci := 7) (v := .int S.2.2.2.2.2.2.2.2.2.1) (C := RX6) (T := TX6) (N := 20) hx hb hts q1 hown hK hP 0 rfl rfl 5 (by decide) q3 (fun _ h9 => h9) rfl dX6_keeps_80 ?_
      refine lv_iconst (v := 1) hx hb dX6_keeps_83 (by decide) ?_
      refine lv_iadd hx hb dX6_keeps_84 ?_
      refine va_put (D := D) (ci := 7) (v := .int (S.2.2.2.2.2.2.2.2.2.1 + 1)) (ty := .int) (C := RX6) (T := TX6) (N := 20) hx hb hts q1 tyX6 tyX6_ok nmX6 hown hK hP hD hS 0 rfl rfl 5 (by decide) q3 (fun _ h9 => h9) rfl (by decide +kernel) rfl rfl (Nat.le_of_ble_eq_true rfl) dX6_keeps_85 (fun H locs hP hD hS => ?_)
      have hP : va_P D vwCl (w6 cI cC h a1 a2 a3 a4 a5 a6 a7 a8 (sS9 (S.2.2.2.2.2.2.2.2.2.1 + 1) (sS1 n1 (sS12 0 S)))) H := w6p_9 hP
      have hD : va_D A (w6 cI cC h a1 a2 a3 a4 a5 a6 a7 a8 (sS9 (S.2.2.2.2.2.2.2.2.2.1 + 1) (sS1 n1 (sS12 0 S)))) := w6d_9 hD
      have e9 : fX6_keeps_b S = (sS9 (S.2.2.2.2.2.2.2.2.2.1 + 1) (sS1 n1 (sS12 0 S))) := by rw [fX6_keeps_b, if_pos c_9_1, if_neg c_19_2, ← en1]
      exact rUv hx hb hr hlk hQ hP hS (congrArg (fun z9 : SV => (w6 cI cC h a1 a2 a3 a4 a5 a6 a7 a8 z9 : va_W)) e9).symm dX6_keeps_88
    · rw [if_pos c_19_2] at hg
      refine lv_iconst (v := 0) hx hb dX6_keeps_22 (by decide) ?_
      refine lv_istore_n (lv' := [(2, .int 0), (0, .ref h), (1, .ref a4)]) hx hb dX6_keeps_23 rfl hl (by decide) rfl (fun ls hl => ?_)
      obtain ⟨n2, en2⟩ : ∃ z9, z9 = (itv ((sS12 0 S), 0) lX6_keeps_b_24 ((fun v : (SV × Int32) => ((798 : Int32).toInt - v.2.toInt).toNat) ((sS12 0 S), 0) + 1) ((sS12 0 S), 0)) := ⟨_, rfl⟩
      try rw [← en2] at hg
      obtain ⟨o4, hg⟩ := hg
      have L9 := lrun_val (d := ((sS12 0 S), 0)) o4
      rw [← en2] at L9
      refine loopWs lX6_keeps_b_24 glX6_keeps_b_24 (fun v : (SV × Int32) => ∀ (H : Heap) (locs : List Loc) ls, va_P D vwCl (w6 cI cC h a1 a2 a3 a4 a5 a6 a7 a8 v.1) H → va_D A (w6 cI cC h a1 a2 a3 a4 a5 a6 a7 a8 v.1) → va_S A s.heap H locs → lv_has ls 3 [(0, .ref h), (1, .ref a4), (2, .int v.2)] → W p l e rmX6_keeps_b s m args below meth c H locs 0 0 Q (F0 m 24 ls [])) (fun r9 : (SV × Int32) => ∀ (H : Heap) (locs : List Loc) ls, va_P D vwCl (w6 cI cC h a1 a2 a3 a4 a5 a6 a7 a8 r9.1) H → va_D A (w6 cI cC h a1 a2 a3 a4 a5 a6 a7 a8 r9.1) → va_S A s.heap H locs → lv_has ls 3 [(0, .ref h), (1, .ref a4), (2, .int r9.2)] → W p l e rmX6_keeps_b s m args below meth c H locs 0 0 Q (F0 m 52 ls [])) ?_ _ ((sS12 0 S), 0) n2 L9 ?_ _ _ ls hP hD hS (lv_sub hl [1, 2, 0] rfl)
      · intro v hg kb kx H locs ls hP hD hS hl
        unfold glX6_keeps_b_24 at hg
        refine lv_iload_n hx hb dX6_keeps_24 rfl (lv_at hl 2 rfl) ?_
        refine lv_sipush (v := 798) hx hb dX6_keeps_25 (by decide) ?_
        refine lv_icmp_ge (tgt := 52) hx hb dX6_keeps_28 (by decide) (fun c_28_3 => ?_) (fun c_28_3 => ?_)
        · rw [if_pos c_28_3] at hg
          exact kx (v.1, v.2) (by rw [lX6_keeps_b_24, if_pos c_28_3]) H locs ls hP hD hS (lv_sub hl [0, 1, 2] rfl)
        · rw [if_neg c_28_3] at hg
          refine lv_aload_n hx hb dX6_keeps_31 rfl (lv_at hl 0 rfl) ?_
          refine va_get (D := D) (ci := 7) (v := .ref a2) (C := RX6) (T := TX6) (N := 20) hx hb hts q1 hown hK hP 0 rfl rfl 1 (by decide) q4 (fun _ h9 => h9) rfl dX6_keeps_32 ?_
          refine lv_iload_n hx hb dX6_keeps_35 rfl (lv_at hl 2 rfl) ?_
          refine lv_aload_n hx hb dX6_keeps_36 rfl (lv_at hl 0 rfl) ?_
          refine va_get (D := D) (ci := 7) (v := .ref a2) (C := RX6) (T := TX6) (N := 20) hx hb hts q1 hown hK hP 0 rfl rfl 1 (by decide) q4 (fun _ h9 => h9) rfl dX6_keeps_37 ?_
          refine lv_iload_n hx hb dX6_keeps_40 rfl (lv_at hl 2 rfl) ?_
          refine lv_bipush (v := 114) hx hb dX6_keeps_41 (by decide) ?_
          refine lv_iadd hx hb dX6_keeps_43 ?_
          obtain ⟨o2, hg⟩ := hg
          refine va_iald hx hb hK hP 2 0 rfl rfl o2 dX6_keeps_44 ?_
          obtain ⟨o3, hg⟩ := hg
          refine va_iast hx hb hK hP hD hS 2 0 rfl rfl o3 dX6_keeps_45 (fun H locs hP hD hS => ?_)
          have hP : va_P D vwCl (w6 cI cC h a1 a2 a3 a4 a5 a6 a7 a8 (sS1 (upd v.1.2.1 (v.2).toNatClampNeg (v.1.2.1 ((v.2 + 114)).toNatClampNeg)) v.1)) H := w6p_1 hP
          have hD : va_D A (w6 cI cC h a1 a2 a3 a4 a5 a6 a7 a8 (sS1 (upd v.1.2.1 (v.2).toNatClampNeg (v.1.2.1 ((v.2 + 114)).toNatClampNeg)) v.1)) := w6d_1 hD
          refine lv_iinc (v := (v.2 + 1)) (lv' := [(2, .int (v.2 + 1)), (0, .ref h), (1, .ref a4)]) hx hb dX6_keeps_46 hl (k := 2) rfl rfl (by decide) rfl (fun ls hl => ?_)
          refine lv_goto (tgt := 24) hx hb dX6_keeps_49 (by decide) ?_
          exact kb ((sS1 (upd v.1.2.1 (v.2).toNatClampNeg (v.1.2.1 ((v.2 + 114)).toNatClampNeg)) v.1), (v.2 + 1)) (by rw [lX6_keeps_b_24, if_neg c_28_3]) H locs ls hP hD hS (lv_sub hl [1, 2, 0] rfl)
      · intro H locs ls hP hD hS hl
        refine lv_aload_n hx hb dX6_keeps_52 rfl (lv_at hl 0 rfl) ?_
        refine lv_dup hx hb dX6_keeps_53 rfl ?_
        refine va_get (D := D) (ci := 7) (v := .int n2.1.2.2.2.2.2.2.2.2.2.1) (C := RX6) (T := TX6) (N := 20) hx hb hts q1 hown hK hP 0 rfl rfl 5 (by decide) q3 (fun _ h9 => h9) rfl dX6_keeps_54 ?_
        refine lv_iconst (v := 1) hx hb dX6_keeps_57 (by decide) ?_
        refine lv_isub hx hb dX6_keeps_58 ?_
        refine va_put (D := D) (ci := 7) (v := .int (n2.1.2.2.2.2.2.2.2.2.2.1 - 1)) (ty := .int) (C := RX6) (T := TX6) (N := 20) hx hb hts q1 tyX6 tyX6_ok nmX6 hown hK hP hD hS 0 rfl rfl 5 (by decide) q3 (fun _ h9 => h9) rfl (by decide +kernel) rfl rfl (Nat.le_of_ble_eq_true rfl) dX6_keeps_59 (fun H locs hP hD hS => ?_)
        have hP : va_P D vwCl (w6 cI cC h a1 a2 a3 a4 a5 a6 a7 a8 (sS9 (n2.1.2.2.2.2.2.2.2.2.2.1 - 1) n2.1)) H := w6p_9 hP
        have hD : va_D A (w6 cI cC h a1 a2 a3 a4 a5 a6 a7 a8 (sS9 (n2.1.2.2.2.2.2.2.2.2.2.1 - 1) n2.1)) := w6d_9 hD
        refine lv_aload_n hx hb dX6_keeps_62 rfl (lv_at hl 1 rfl) ?_
        refine lv_iconst (v := 0) hx hb dX6_keeps_63 (by decide) ?_
        refine lv_aload_n hx hb dX6_keeps_64 rfl (lv_at hl 0 rfl) ?_
        refine va_get (D := D) (ci := 7) (v := .ref a2) (C := RX6) (T := TX6) (N := 20) hx hb hts q1 hown hK hP 0 rfl rfl 1 (by decide) q4 (fun _ h9 => h9) rfl dX6_keeps_65 ?_
        refine lv_bipush (v := 114) hx hb dX6_keeps_68 (by decide) ?_
        refine lv_aload_n hx hb dX6_keeps_70 rfl (lv_at hl 0 rfl) ?_
        refine va_get (D := D) (ci := 7) (v := .int (n2.1.2.2.2.2.2.2.2.2.2.1 - 1)) (C := RX6) (T := TX6) (N := 20) hx hb hts q1 hown hK hP 0 rfl rfl 5 (by decide) q3 (fun _ h9 => h9) rfl dX6_keeps_71 ?_
        refine lv_imul hx hb dX6_keeps_74 ?_
        obtain ⟨n3, en3⟩ : ∃ z9, z9 = (fX6_copies n2.1.2.2.2.1 114 n2.1.2.1 912 0 (114 * (n2.1.2.2.2.2.2.2.2.2.2.1 - 1))) := ⟨_, rfl⟩
        try rw [← en3] at hg
        obtain ⟨o5, hg⟩ := hg
        have k9 := (kX6_copies l D cI cC cT a4 a2 n2.1.2.2.2.1 114 n2.1.2.1 912 0 (114 * (n2.1.2.2.2.2.2.2.2.2.2.1 - 1)) o5)
        rw [← en3] at k9
        refine fUS (As := [.ref a4, .int 0, .ref a2, .int (114 * (n2.1.2.2.2.2.2.2.2.2.2.1 - 1))]) (rest := []) (st' := []) ⟨hx, hb, hml, hown, hts⟩ k9 (va_cwS 4 hts gX6_keeps_X6_copies rfl rfl rfl (by decide +kernel) ⟨Nat.le_of_ble_eq_true rfl, Nat.le_of_ble_eq_true rfl⟩) hP hK hD hS [4, 2] rfl rfl (by decide) rfl (w6 cI cC h a1 a2 a3 a4 a5 a6 a7 a8 (sS1 n3 (sS9 (n2.1.2.2.2.2.2.2.2.2.2.1 - 1) n2.1))) rfl rfl rfl hl.1 rfl rfl (Nat.le_of_ble_eq_true rfl) ⟨Nat.zero_le _, Nat.zero_le _⟩ dX6_keeps_75 (fun H locs hP hD hS => ?_)
        refine lv_aload_n hx hb dX6_keeps_78 rfl (lv_at hl 0 rfl) ?_
        refine lv_dup hx hb dX6_keeps_79 rfl ?_
        refine va_get (D := D) (ci := 7) (v := .int (n2.1.2.2.2.2.2.2.2.2.2.1 - 1)) (C := RX6) (T := TX6) (N := 20) hx hb hts q1 hown hK hP 0 rfl rfl 5 (by decide) q3 (fun _ h9 => h9) rfl dX6_keeps_80 ?_
        refine lv_iconst (v := 1) hx hb dX6_keeps_83 (by decide) ?_
        refine lv_iadd hx hb dX6_keeps_84 ?_
        refine va_put (D := D) (ci := 7) (v := .int ((n2.1.2.2.2.2.2.2.2.2.2.1 - 1) + 1)) (ty := .int) (C := RX6) (T := TX6) (N := 20) hx hb hts q1 tyX6 tyX6_ok nmX6 hown hK hP hD hS 0 rfl rfl 5 (by decide) q3 (fun _ h9 => h9) rfl (by decide +kernel) rfl rfl (Nat.le_of_ble_eq_true rfl) dX6_keeps_85 (fun H locs hP hD hS => ?_)
        have hP : va_P D vwCl (w6 cI cC h a1 a2 a3 a4 a5 a6 a7 a8 (sS9 ((n2.1.2.2.2.2.2.2.2.2.2.1 - 1) + 1) (sS1 n3 (sS9 (n2.1.2.2.2.2.2.2.2.2.2.1 - 1) n2.1)))) H := w6p_9 hP
        have hD : va_D A (w6 cI cC h a1 a2 a3 a4 a5 a6 a7 a8 (sS9 ((n2.1.2.2.2.2.2.2.2.2.2.1 - 1) + 1) (sS1 n3 (sS9 (n2.1.2.2.2.2.2.2.2.2.2.1 - 1) n2.1)))) := w6d_9 hD
        have e9 : fX6_keeps_b S = (sS9 ((n2.1.2.2.2.2.2.2.2.2.2.1 - 1) + 1) (sS1 n3 (sS9 (n2.1.2.2.2.2.2.2.2.2.2.1 - 1) n2.1))) := by rw [fX6_keeps_b, if_pos c_9_1, if_pos c_19_2, ← en2, ← en3]
        exact rUv hx hb hr hlk hQ hP hS (congrArg (fun z9 : SV => (w6 cI cC h a1 a2 a3 a4 a5 a6 a7 a8 z9 : va_W)) e9).symm dX6_keeps_88
  · rw [if_neg c_9_1] at hg
    have e9 : fX6_keeps_b S = (sS12 0 S) := by rw [fX6_keeps_b, if_neg c_9_1]
    exact rUv hx hb hr hlk hQ hP hS (congrArg (fun z9 : SV => (w6 cI cC h a1 a2 a3 a4 a5 a6 a7 a8 z9 : va_W)) e9).symm dX6_keeps_12
def fX6_of (S : SV) (x1 : Int32) (x2 : Int32) : Int32 := (S.1 (((6 + (6 * x1)) + x2)).toNatClampNeg)
def gX6_of (S : SV) (x1 : Int32) (x2 : Int32) : Prop := ((vp_in ((6 + (6 * x1)) + x2) 114) ∧ True)
abbrev rmX6_of : Room := { frames := 0, cells := 0, slots := 0, locals := 0 }
set_option maxHeartbeats 4000000 in
set_option maxRecDepth 100000 in
theorem kX6_of (l : Launch) (D : va_G) (cI cC cT : ClassId) (h a1 a2 a3 a4 a5 a6 a7 a8 : Nat) (S : SV) (x1 : Int32) (x2 : Int32) (hg : gX6_of S x1 x2) : mR l D (TY cI cC cT) yX6_of wsX6_of rmX6_of [.ref h, .int x1, .int x2] (w6 cI cC h a1 a2 a3 a4 a5 a6 a7 a8 S) (some (.int (fX6_of S x1 x2))) := by
  refine mR.ofW (cc := cX6_of) (maxL := 3) (ret := (some .int)) (by decide) rfl (Nat.le_of_ble_eq_true rfl) ?_
  intro p e s m args below meth c Q ls hx hb hml hr hlk hts hown hP hK hl hQ
  have hown : s.vm.findClass RX6 = some m.cls := hown
  have hP : va_P D vwCl (w6 cI cC h a1 a2 a3 a4 a5 a6 a7 a8 S) s.heap := hP
  have hl : lv_has ls 3 [(0, .ref h), (1, .int x1), (2, .int x2)] := hl
  have q0 := hts (Cond.fieldLink RX6 7 "TavernStoolsModel" "g" "[I") (by decide +kernel)
  have q1 : ∀ w ∈ u_ws RX6 TX6 20, w ∈ wsX6_of := by decide +kernel
  unfold gX6_of at hg
  refine lv_aload_n hx hb dX6_of_0 rfl (lv_at hl 0 rfl) ?_
  refine va_get (D := D) (ci := 7) (v := .ref a1) (C := RX6) (T := TX6) (N := 20) hx hb hts q1 hown hK hP 0 rfl rfl 0 (by decide) q0 (fun _ h9 => h9) rfl dX6_of_1 ?_
  refine lv_bipush (v := 6) hx hb dX6_of_4 (by decide) ?_
  refine lv_bipush (v := 6) hx hb dX6_of_6 (by decide) ?_
  refine lv_iload_n hx hb dX6_of_8 rfl (lv_at hl 1 rfl) ?_
  refine lv_imul hx hb dX6_of_9 ?_
  refine lv_iadd hx hb dX6_of_10 ?_
  refine lv_iload_n hx hb dX6_of_11 rfl (lv_at hl 2 rfl) ?_
  refine lv_iadd hx hb dX6_of_12 ?_
  obtain ⟨o1, hg⟩ := hg
  refine va_iald hx hb hK hP 1 0 rfl rfl o1 dX6_of_13 ?_
  exact rRi hx hb hr hlk hQ (by rw [fX6_of]) rfl dX6_of_14
def fX6_lays (S : SV) (x1 : Int32) (x2 : Int32) (x3 : Int32) : SV := (sS0 (upd S.1 (((6 + (6 * x1)) + x2)).toNatClampNeg x3) S)
def gX6_lays (S : SV) (x1 : Int32) (x2 : Int32) (x3 : Int32) : Prop := ((vp_in ((6 + (6 * x1)) + x2) 114) ∧ True)
abbrev rmX6_lays : Room := { frames := 0, cells := 0, slots := 0, locals := 0 }
set_option maxHeartbeats 4000000 in
set_option maxRecDepth 100000 in
theorem kX6_lays (l : Launch) (D : va_G) (cI cC cT : ClassId) (h a1 a2 a3 a4 a5 a6 a7 a8 : Nat) (S : SV) (x1 : Int32) (x2 : Int32) (x3 : Int32) (hg : gX6_lays S x1 x2 x3) : mU l D (TY cI cC cT) yX6_lays wsX6_lays rmX6_lays [.ref h, .int x1, .int x2, .int x3] (w6 cI cC h a1 a2 a3 a4 a5 a6 a7 a8 S) none (w6 cI cC h a1 a2 a3 a4 a5 a6 a7 a8 (fX6_lays S x1 x2 x3)) := by
  refine mU.ofW (cc := cX6_lays) (maxL := 4) (ret := none) (by decide) rfl (Nat.le_of_ble_eq_true rfl) ?_
  intro p e s m args below meth c Q ls A hx hb hml hr hlk hts hown hP hK hD hS hl hQ
  have hown : s.vm.findClass RX6 = some m.cls := hown
  have hP : va_P D vwCl (w6 cI cC h a1 a2 a3 a4 a5 a6 a7 a8 S) s.heap := hP
  have hD : va_D A (w6 cI cC h a1 a2 a3 a4 a5 a6 a7 a8 S) := hD
  have hl : lv_has ls 4 [(0, .ref h), (1, .int x1), (2, .int x2), (3, .int x3)] := hl
  have q0 := hts (Cond.fieldLink RX6 7 "TavernStoolsModel" "g" "[I") (by decide +kernel)
  have q1 : ∀ w ∈ u_ws RX6 TX6 20, w ∈ wsX6_lays := by decide +kernel
  unfold gX6_lays at hg
  generalize hHe : s.heap = H at hP ⊢
  have hS : va_S A s.heap H [] := hHe ▸ hS
  generalize hLe : ([] : List Loc) = locs at hS ⊢
  refine lv_aload_n hx hb dX6_lays_0 rfl (lv_at hl 0 rfl) ?_
  refine va_get (D := D) (ci := 7) (v := .ref a1) (C := RX6) (T := TX6) (N := 20) hx hb hts q1 hown hK hP 0 rfl rfl 0 (by decide) q0 (fun _ h9 => h9) rfl dX6_lays_1 ?_
  refine lv_bipush (v := 6) hx hb dX6_lays_4 (by decide) ?_
  refine lv_bipush (v := 6) hx hb dX6_lays_6 (by decide) ?_
  refine lv_iload_n hx hb dX6_lays_8 rfl (lv_at hl 1 rfl) ?_
  refine lv_imul hx hb dX6_lays_9 ?_
  refine lv_iadd hx hb dX6_lays_10 ?_
  refine lv_iload_n hx hb dX6_lays_11 rfl (lv_at hl 2 rfl) ?_
  refine lv_iadd hx hb dX6_lays_12 ?_
  refine lv_iload_n hx hb dX6_lays_13 rfl (lv_at hl 3 rfl) ?_
  obtain ⟨o1, hg⟩ := hg
  refine va_iast hx hb hK hP hD hS 1 0 rfl rfl o1 dX6_lays_14 (fun H locs hP hD hS => ?_)
  have hP : va_P D vwCl (w6 cI cC h a1 a2 a3 a4 a5 a6 a7 a8 (sS0 (upd S.1 (((6 + (6 * x1)) + x2)).toNatClampNeg x3) S)) H := w6p_0 hP
  have hD : va_D A (w6 cI cC h a1 a2 a3 a4 a5 a6 a7 a8 (sS0 (upd S.1 (((6 + (6 * x1)) + x2)).toNatClampNeg x3) S)) := w6d_0 hD
  have e9 : fX6_lays S x1 x2 x3 = (sS0 (upd S.1 (((6 + (6 * x1)) + x2)).toNatClampNeg x3) S) := by rw [fX6_lays]
  exact rUv hx hb hr hlk hQ hP hS (congrArg (fun z9 : SV => (w6 cI cC h a1 a2 a3 a4 a5 a6 a7 a8 z9 : va_W)) e9).symm dX6_lays_15
def fX6_by (S : SV) (x1 : Int32) (x2 : Int32) : Int32 := (S.1 (((78 + (3 * x1)) + x2)).toNatClampNeg)
def gX6_by (S : SV) (x1 : Int32) (x2 : Int32) : Prop := ((vp_in ((78 + (3 * x1)) + x2) 114) ∧ True)
abbrev rmX6_by : Room := { frames := 0, cells := 0, slots := 0, locals := 0 }
set_option maxHeartbeats 4000000 in
set_option maxRecDepth 100000 in
theorem kX6_by (l : Launch) (D : va_G) (cI cC cT : ClassId) (h a1 a2 a3 a4 a5 a6 a7 a8 : Nat) (S : SV) (x1 : Int32) (x2 : Int32) (hg : gX6_by S x1 x2) : mR l D (TY cI cC cT) yX6_by wsX6_by rmX6_by [.ref h, .int x1, .int x2] (w6 cI cC h a1 a2 a3 a4 a5 a6 a7 a8 S) (some (.int (fX6_by S x1 x2))) := by
  refine mR.ofW (cc := cX6_by) (maxL := 3) (ret := (some .int)) (by decide) rfl (Nat.le_of_ble_eq_true rfl) ?_
  intro p e s m args below meth c Q ls hx hb hml hr hlk hts hown hP hK hl hQ
  have hown : s.vm.findClass RX6 = some m.cls := hown
  have hP : va_P D vwCl (w6 cI cC h a1 a2 a3 a4 a5 a6 a7 a8 S) s.heap := hP
  have hl : lv_has ls 3 [(0, .ref h), (1, .int x1), (2, .int x2)] := hl
  have q0 := hts (Cond.fieldLink RX6 7 "TavernStoolsModel" "g" "[I") (by decide +kernel)
  have q1 : ∀ w ∈ u_ws RX6 TX6 20, w ∈ wsX6_by := by decide +kernel
  unfold gX6_by at hg
  refine lv_aload_n hx hb dX6_by_0 rfl (lv_at hl 0 rfl) ?_
  refine va_get (D := D) (ci := 7) (v := .ref a1) (C := RX6) (T := TX6) (N := 20) hx hb hts q1 hown hK hP 0 rfl rfl 0 (by decide) q0 (fun _ h9 => h9) rfl dX6_by_1 ?_
  refine lv_bipush (v := 78) hx hb dX6_by_4 (by decide) ?_
  refine lv_iconst (v := 3) hx hb dX6_by_6 (by decide) ?_
  refine lv_iload_n hx hb dX6_by_7 rfl (lv_at hl 1 rfl) ?_
  refine lv_imul hx hb dX6_by_8 ?_
  refine lv_iadd hx hb dX6_by_9 ?_
  refine lv_iload_n hx hb dX6_by_10 rfl (lv_at hl 2 rfl) ?_
  refine lv_iadd hx hb dX6_by_11 ?_
  obtain ⟨o1, hg⟩ := hg
  refine va_iald hx hb hK hP 1 0 rfl rfl o1 dX6_by_12 ?_
  exact rRi hx hb hr hlk hQ (by rw [fX6_by]) rfl dX6_by_13
def fX6_isStool (S : SV) (x1 : Int32) : Int32 := (fX6_in x1 0 ((S.1 (0 : Int32).toNatClampNeg) - 1))
def gX6_isStool (S : SV) (x1 : Int32) : Prop := ((vp_in 0 114) ∧ True)
abbrev rmX6_isStool : Room := { frames := 1, cells := 0, slots := 0, locals := 22 }
set_option maxHeartbeats 4000000 in
set_option maxRecDepth 100000 in
theorem kX6_isStool (l : Launch) (D : va_G) (cI cC cT : ClassId) (h a1 a2 a3 a4 a5 a6 a7 a8 : Nat) (S : SV) (x1 : Int32) (hg : gX6_isStool S x1) : mR l D (TY cI cC cT) yX6_isStool wsX6_isStool rmX6_isStool [.ref h, .int x1] (w6 cI cC h a1 a2 a3 a4 a5 a6 a7 a8 S) (some (.int (fX6_isStool S x1))) := by
  refine mR.ofW (cc := cX6_isStool) (maxL := 2) (ret := (some .boolean)) (by decide) rfl (Nat.le_of_ble_eq_true rfl) ?_
  intro p e s m args below meth c Q ls hx hb hml hr hlk hts hown hP hK hl hQ
  have hown : s.vm.findClass RX6 = some m.cls := hown
  have hP : va_P D vwCl (w6 cI cC h a1 a2 a3 a4 a5 a6 a7 a8 S) s.heap := hP
  have hl : lv_has ls 2 [(0, .ref h), (1, .int x1)] := hl
  have q0 := hts (Cond.fieldLink RX6 7 "TavernStoolsModel" "g" "[I") (by decide +kernel)
  have q1 : ∀ w ∈ u_ws RX6 TX6 20, w ∈ wsX6_isStool := by decide +kernel
  unfold gX6_isStool at hg
  refine lv_iload_n hx hb dX6_isStool_0 rfl (lv_at hl 1 rfl) ?_
  refine lv_iconst (v := 0) hx hb dX6_isStool_1 (by decide) ?_
  refine lv_aload_n hx hb dX6_isStool_2 rfl (lv_at hl 0 rfl) ?_
  refine va_get (D := D) (ci := 7) (v := .ref a1) (C := RX6) (T := TX6) (N := 20) hx hb hts q1 hown hK hP 0 rfl rfl 0 (by decide) q0 (fun _ h9 => h9) rfl dX6_isStool_3 ?_
  refine lv_iconst (v := 0) hx hb dX6_isStool_6 (by decide) ?_
  obtain ⟨o1, hg⟩ := hg
  refine va_iald hx hb hK hP 1 0 rfl rfl o1 dX6_isStool_7 ?_
  refine lv_iconst (v := 1) hx hb dX6_isStool_8 (by decide) ?_
  refine lv_isub hx hb dX6_isStool_9 ?_
  refine fRS (As := [.int x1, .int 0, .int ((S.1 (0 : Int32).toNatClampNeg) - 1)]) (rest := []) (st' := [.int (fX6_in x1 0 ((S.1 (0 : Int32).toNatClampNeg) - 1))]) ⟨hx, hb, hml, hown, hts⟩ (kX6_in l D cI cC cT x1 0 ((S.1 (0 : Int32).toNatClampNeg) - 1)) (va_cwS 3 hts gX6_isStool_X6_in rfl rfl rfl (by decide +kernel) ⟨Nat.le_of_ble_eq_true rfl, Nat.le_of_ble_eq_true rfl⟩) hP hK [] rfl rfl hl.1 rfl rfl (Nat.le_of_ble_eq_true rfl) ⟨Nat.zero_le _, Nat.zero_le _⟩ dX6_isStool_10 ?_
  exact rRi hx hb hr hlk hQ (by rw [fX6_isStool]) (nzb (zX6_in x1 0 ((S.1 (0 : Int32).toNatClampNeg) - 1))) dX6_isStool_13
theorem zX6_isStool (S : SV) (x1 : Int32) : (fX6_isStool S x1) = 0 ∨ (fX6_isStool S x1) = 1 := by
  unfold fX6_isStool
  repeat' split
  all_goals first | exact Or.inl rfl | exact Or.inr rfl | exact zX6_in ..
def fX6_isSitter (S : SV) (x1 : Int32) : Int32 := (fX6_in x1 0 ((S.1 (1 : Int32).toNatClampNeg) - 1))
def gX6_isSitter (S : SV) (x1 : Int32) : Prop := ((vp_in 1 114) ∧ True)
abbrev rmX6_isSitter : Room := { frames := 1, cells := 0, slots := 0, locals := 22 }
set_option maxHeartbeats 4000000 in
set_option maxRecDepth 100000 in
theorem kX6_isSitter (l : Launch) (D : va_G) (cI cC cT : ClassId) (h a1 a2 a3 a4 a5 a6 a7 a8 : Nat) (S : SV) (x1 : Int32) (hg : gX6_isSitter S x1) : mR l D (TY cI cC cT) yX6_isSitter wsX6_isSitter rmX6_isSitter [.ref h, .int x1] (w6 cI cC h a1 a2 a3 a4 a5 a6 a7 a8 S) (some (.int (fX6_isSitter S x1))) := by
  refine mR.ofW (cc := cX6_isSitter) (maxL := 2) (ret := (some .boolean)) (by decide) rfl (Nat.le_of_ble_eq_true rfl) ?_
  intro p e s m args below meth c Q ls hx hb hml hr hlk hts hown hP hK hl hQ
  have hown : s.vm.findClass RX6 = some m.cls := hown
  have hP : va_P D vwCl (w6 cI cC h a1 a2 a3 a4 a5 a6 a7 a8 S) s.heap := hP
  have hl : lv_has ls 2 [(0, .ref h), (1, .int x1)] := hl
  have q0 := hts (Cond.fieldLink RX6 7 "TavernStoolsModel" "g" "[I") (by decide +kernel)
  have q1 : ∀ w ∈ u_ws RX6 TX6 20, w ∈ wsX6_isSitter := by decide +kernel
  unfold gX6_isSitter at hg
  refine lv_iload_n hx hb dX6_isSitter_0 rfl (lv_at hl 1 rfl) ?_
  refine lv_iconst (v := 0) hx hb dX6_isSitter_1 (by decide) ?_
  refine lv_aload_n hx hb dX6_isSitter_2 rfl (lv_at hl 0 rfl) ?_
  refine va_get (D := D) (ci := 7) (v := .ref a1) (C := RX6) (T := TX6) (N := 20) hx hb hts q1 hown hK hP 0 rfl rfl 0 (by decide) q0 (fun _ h9 => h9) rfl dX6_isSitter_3 ?_
  refine lv_iconst (v := 1) hx hb dX6_isSitter_6 (by decide) ?_
  obtain ⟨o1, hg⟩ := hg
  refine va_iald hx hb hK hP 1 0 rfl rfl o1 dX6_isSitter_7 ?_
  refine lv_iconst (v := 1) hx hb dX6_isSitter_8 (by decide) ?_
  refine lv_isub hx hb dX6_isSitter_9 ?_
  refine fRS (As := [.int x1, .int 0, .int ((S.1 (1 : Int32).toNatClampNeg) - 1)]) (rest := []) (st' := [.int (fX6_in x1 0 ((S.1 (1 : Int32).toNatClampNeg) - 1))]) ⟨hx, hb, hml, hown, hts⟩ (kX6_in l D cI cC cT x1 0 ((S.1 (1 : Int32).toNatClampNeg) - 1)) (va_cwS 3 hts gX6_isSitter_X6_in rfl rfl rfl (by decide +kernel) ⟨Nat.le_of_ble_eq_true rfl, Nat.le_of_ble_eq_true rfl⟩) hP hK [] rfl rfl hl.1 rfl rfl (Nat.le_of_ble_eq_true rfl) ⟨Nat.zero_le _, Nat.zero_le _⟩ dX6_isSitter_10 ?_
  exact rRi hx hb hr hlk hQ (by rw [fX6_isSitter]) (nzb (zX6_in x1 0 ((S.1 (1 : Int32).toNatClampNeg) - 1))) dX6_isSitter_13
theorem zX6_isSitter (S : SV) (x1 : Int32) : (fX6_isSitter S x1) = 0 ∨ (fX6_isSitter S x1) = 1 := by
  unfold fX6_isSitter
  repeat' split
  all_goals first | exact Or.inl rfl | exact Or.inr rfl | exact zX6_in ..
def fX6_isCat (S : SV) (x1 : Int32) : Int32 := (if (fX6_by S x1 0) = 0 then 1 else 0)
def gX6_isCat (S : SV) (x1 : Int32) : Prop := ((gX6_by S x1 0) ∧ True)
abbrev rmX6_isCat : Room := { frames := 1, cells := 0, slots := 0, locals := 22 }
set_option maxHeartbeats 4000000 in
set_option maxRecDepth 100000 in
theorem kX6_isCat (l : Launch) (D : va_G) (cI cC cT : ClassId) (h a1 a2 a3 a4 a5 a6 a7 a8 : Nat) (S : SV) (x1 : Int32) (hg : gX6_isCat S x1) : mR l D (TY cI cC cT) yX6_isCat wsX6_isCat rmX6_isCat [.ref h, .int x1] (w6 cI cC h a1 a2 a3 a4 a5 a6 a7 a8 S) (some (.int (fX6_isCat S x1))) := by
  refine mR.ofW (cc := cX6_isCat) (maxL := 2) (ret := (some .boolean)) (by decide) rfl (Nat.le_of_ble_eq_true rfl) ?_
  intro p e s m args below meth c Q ls hx hb hml hr hlk hts hown hP hK hl hQ
  have hown : s.vm.findClass RX6 = some m.cls := hown
  have hP : va_P D vwCl (w6 cI cC h a1 a2 a3 a4 a5 a6 a7 a8 S) s.heap := hP
  have hl : lv_has ls 2 [(0, .ref h), (1, .int x1)] := hl
  unfold gX6_isCat at hg
  refine lv_aload_n hx hb dX6_isCat_0 rfl (lv_at hl 0 rfl) ?_
  refine lv_iload_n hx hb dX6_isCat_1 rfl (lv_at hl 1 rfl) ?_
  refine lv_iconst (v := 0) hx hb dX6_isCat_2 (by decide) ?_
  obtain ⟨o1, hg⟩ := hg
  refine fRV (As := [.int x1, .int 0]) (rest := []) (st' := [.int (fX6_by S x1 0)]) ⟨hx, hb, hml, hown, hts⟩ (kX6_by l D cI cC cT h a1 a2 a3 a4 a5 a6 a7 a8 S x1 0 o1) (cwV 2 hts gX6_isCat_X6_by rfl rfl rfl (by decide +kernel) ⟨Nat.le_of_ble_eq_true rfl, Nat.le_of_ble_eq_true rfl⟩) hP hK [0, 1, 2, 3, 4, 5, 6, 7, 8] rfl 0 (ci := 7) rfl rfl rfl rfl hl.1 rfl rfl (Nat.le_of_ble_eq_true rfl) ⟨Nat.zero_le _, Nat.zero_le _⟩ dX6_isCat_3 ?_
  refine lv_if_ne (tgt := 13) hx hb dX6_isCat_6 (by decide) (fun c_6_1 => ?_) (fun c_6_1 => ?_)
  · refine lv_iconst (v := 0) hx hb dX6_isCat_13 (by decide) ?_
    exact rRi hx hb hr hlk hQ (by rw [fX6_isCat, if_neg c_6_1]) rfl dX6_isCat_14
  · refine lv_iconst (v := 1) hx hb dX6_isCat_9 (by decide) ?_
    refine lv_goto (tgt := 14) hx hb dX6_isCat_10 (by decide) ?_
    exact rRi hx hb hr hlk hQ (by rw [fX6_isCat, if_pos c_6_1]) rfl dX6_isCat_14
theorem zX6_isCat (S : SV) (x1 : Int32) : (fX6_isCat S x1) = 0 ∨ (fX6_isCat S x1) = 1 := by
  unfold fX6_isCat
  repeat' split
  all_goals first | exact Or.inl rfl | exact Or.inr rfl
def fX6_maySit (S : SV) (x1 : Int32) (x2 : Int32) : Int32 := (if (fX6_isCat S x1) = 0 then 1 else (if (fX6_of S x2 3) = 0 then 1 else 0))
def gX6_maySit (S : SV) (x1 : Int32) (x2 : Int32) : Prop := ((gX6_isCat S x1) ∧ (if (fX6_isCat S x1) = 0 then True else ((gX6_of S x2 3) ∧ True)))
abbrev rmX6_maySit : Room := { frames := 2, cells := 0, slots := 0, locals := 43 }
set_option maxHeartbeats 4000000 in
set_option maxRecDepth 100000 in
theorem kX6_maySit (l : Launch) (D : va_G) (cI cC cT : ClassId) (h a1 a2 a3 a4 a5 a6 a7 a8 : Nat) (S : SV) (x1 : Int32) (x2 : Int32) (hg : gX6_maySit S x1 x2) : mR l D (TY cI cC cT) yX6_maySit wsX6_maySit rmX6_maySit [.ref h, .int x1, .int x2] (w6 cI cC h a1 a2 a3 a4 a5 a6 a7 a8 S) (some (.int (fX6_maySit S x1 x2))) := by
  refine mR.ofW (cc := cX6_maySit) (maxL := 3) (ret := (some .boolean)) (by decide) rfl (Nat.le_of_ble_eq_true rfl) ?_
  intro p e s m args below meth c Q ls hx hb hml hr hlk hts hown hP hK hl hQ
  have hown : s.vm.findClass RX6 = some m.cls := hown
  have hP : va_P D vwCl (w6 cI cC h a1 a2 a3 a4 a5 a6 a7 a8 S) s.heap := hP
  have hl : lv_has ls 3 [(0, .ref h), (1, .int x1), (2, .int x2)] := hl
  unfold gX6_maySit at hg
  refine lv_aload_n hx hb dX6_maySit_0 rfl (lv_at hl 0 rfl) ?_
  refine lv_iload_n hx hb dX6_maySit_1 rfl (lv_at hl 1 rfl) ?_
  obtain ⟨o1, hg⟩ := hg
  refine fRV (As := [.int x1]) (rest := []) (st' := [.int (fX6_isCat S x1)]) ⟨hx, hb, hml, hown, hts⟩ (kX6_isCat l D cI cC cT h a1 a2 a3 a4 a5 a6 a7 a8 S x1 o1) (cwV 1 hts gX6_maySit_X6_isCat rfl rfl rfl (by decide +kernel) ⟨Nat.le_of_ble_eq_true rfl, Nat.le_of_ble_eq_true rfl⟩) hP hK [0, 1, 2, 3, 4, 5, 6, 7, 8] rfl 0 (ci := 7) rfl rfl rfl rfl hl.1 rfl rfl (Nat.le_of_ble_eq_true rfl) ⟨Nat.zero_le _, Nat.zero_le _⟩ dX6_maySit_2 ?_
  refine lv_if_eq (tgt := 17) hx hb dX6_maySit_5 (by decide) (fun c_5_1 => ?_) (fun c_5_1 => ?_)
  · rw [if_pos c_5_1] at hg
    refine lv_iconst (v := 1) hx hb dX6_maySit_17 (by decide) ?_
    refine lv_goto (tgt := 22) hx hb dX6_maySit_18 (by decide) ?_
    exact rRi hx hb hr hlk hQ (by rw [fX6_maySit, if_pos c_5_1]) rfl dX6_maySit_22
  · rw [if_neg c_5_1] at hg
    refine lv_aload_n hx hb dX6_maySit_8 rfl (lv_at hl 0 rfl) ?_
    refine lv_iload_n hx hb dX6_maySit_9 rfl (lv_at hl 2 rfl) ?_
    refine lv_iconst (v := 3) hx hb dX6_maySit_10 (by decide) ?_
    obtain ⟨o2, hg⟩ := hg
    refine fRV (As := [.int x2, .int 3]) (rest := []) (st' := [.int (fX6_of S x2 3)]) ⟨hx, hb, hml, hown, hts⟩ (kX6_of l D cI cC cT h a1 a2 a3 a4 a5 a6 a7 a8 S x2 3 o2) (cwV 2 hts gX6_maySit_X6_of rfl rfl rfl (by decide +kernel) ⟨Nat.le_of_ble_eq_true rfl, Nat.le_of_ble_eq_true rfl⟩) hP hK [0, 1, 2, 3, 4, 5, 6, 7, 8] rfl 0 (ci := 7) rfl rfl rfl rfl hl.1 rfl rfl (Nat.le_of_ble_eq_true rfl) ⟨Nat.zero_le _, Nat.zero_le _⟩ dX6_maySit_11 ?_
    refine lv_if_ne (tgt := 21) hx hb dX6_maySit_14 (by decide) (fun c_14_2 => ?_) (fun c_14_2 => ?_)
    · refine lv_iconst (v := 0) hx hb dX6_maySit_21 (by decide) ?_
      exact rRi hx hb hr hlk hQ (by rw [fX6_maySit, if_neg c_5_1, if_neg c_14_2]) rfl dX6_maySit_22
    · refine lv_iconst (v := 1) hx hb dX6_maySit_17 (by decide) ?_
      refine lv_goto (tgt := 22) hx hb dX6_maySit_18 (by decide) ?_
      exact rRi hx hb hr hlk hQ (by rw [fX6_maySit, if_neg c_5_1, if_pos c_14_2]) rfl dX6_maySit_22
theorem zX6_maySit (S : SV) (x1 : Int32) (x2 : Int32) : (fX6_maySit S x1 x2) = 0 ∨ (fX6_maySit S x1 x2) = 1 := by
  unfold fX6_maySit
  repeat' split
  all_goals first | exact Or.inl rfl | exact Or.inr rfl | exact zX6_isCat ..
