set_option maxHeartbeats 8000000 in
set_option maxRecDepth 100000 in
theorem law_loop_open {p : Program} {e : Env} {s : State} {m : MethodId} {below : List Frame} {meth : Method} {c : Code} (l : Launch) (D : va_G) (cI cC cT cJ cQ : ClassId) (b x ot ou ov oh ox oy ot1 ot2 ou1 ou2 ov1 ov2 rr ox1 ox2 oy1 mh m1 m2 m3 m4 m5 m6 m7 m8 o oq : Nat) (ra rb rc : Nat → Nat) (xs : Nat → Int32) (L : Nat) (hL : L ≤ 2560) (hst : l.stackTraces = false)
    (hx : p.tables.exec = Jvm.exec) (hb : c.code = cL_law) (hr : meth.sig.returnType = ret) (hlk : meth.locks = false) (hml : c.maxLocals = 9) (hown : s.vm.findClass RL = some m.cls) (hts : ∀ w ∈ wsL_law, w.before #[Value.ref b] s = true) (hK : va_K D vwCl (TY5 cI cC cT cJ cQ) s) (hX : va_X b L xs s s.heap) (hbl : b < s.heap.size) (hbA : ¬ (fun q : Nat => s.heap.size ≤ q) b) (hXE : xE (fun q : Nat => s.heap.size ≤ q) s) (hXN : xN s)
    (Rel : Nat → CV → TV → TV → TV → HV → (Nat → TV) → XV → LV → SV → (Nat → Int64) → (Nat → UInt64) → Prop) (hRn : ∀ (i : Nat) (S : CV) (T : TV) (Tr : TV) (Sn : TV) (Hs : HV) (G : (Nat → TV)) (Xt : XV) (Ln : LV) (Mo : SV) (O : (Nat → Int64)) (Oq : (Nat → UInt64)), Rel i S T Tr Sn Hs G Xt Ln Mo O Oq → ∃ j : Nat, j < 9 ∧ Hs.1 = nI j) (hRc : ∀ (i : Nat) (S : CV) (T : TV) (Tr : TV) (Sn : TV) (Hs : HV) (G : (Nat → TV)) (Xt : XV) (Ln : LV) (Mo : SV) (O : (Nat → Int64)) (Oq : (Nat → UInt64)), Rel i S T Tr Sn Hs G Xt Ln Mo O Oq → ∀ z, narrow .char (.int (Ln.1 z)) = .int (Ln.1 z)) (hsd : ∀ (i : Nat) (S : CV) (T : TV) (Tr : TV) (Sn : TV) (Hs : HV) (G : (Nat → TV)) (Xt : XV) (Ln : LV) (Mo : SV) (O : (Nat → Int64)) (Oq : (Nat → UInt64)), i + 5 ≤ L → Rel i S T Tr Sn Hs G Xt Ln Mo O Oq → Rel (i + 5) S T Tr Sn Hs G Xt Ln Mo O Oq)
    (hs0 : ∀ (i : Nat) (S : CV) (T : TV) (Tr : TV) (Sn : TV) (Hs : HV) (G : (Nat → TV)) (Xt : XV) (Ln : LV) (Mo : SV) (O : (Nat → Int64)) (Oq : (Nat → UInt64)), i + 5 ≤ L → Rel i S T Tr Sn Hs G Xt Ln Mo O Oq → gM_0 S T Tr Sn Hs G Xt Ln Mo O Oq xs L (nI i) ∧ Rel (i + 5) (fM_0 S T Tr Sn Hs G Xt Ln Mo O Oq xs L (nI i)).1 (fM_0 S T Tr Sn Hs G Xt Ln Mo O Oq xs L (nI i)).2.1 Tr Sn (fM_0 S T Tr Sn Hs G Xt Ln Mo O Oq xs L (nI i)).2.2.1 (fM_0 S T Tr Sn Hs G Xt Ln Mo O Oq xs L (nI i)).2.2.2.1 Xt Ln (fM_0 S T Tr Sn Hs G Xt Ln Mo O Oq xs L (nI i)).2.2.2.2.1 (fM_0 S T Tr Sn Hs G Xt Ln Mo O Oq xs L (nI i)).2.2.2.2.2 Oq)
    (hs1 : ∀ (i : Nat) (S : CV) (T : TV) (Tr : TV) (Sn : TV) (Hs : HV) (G : (Nat → TV)) (Xt : XV) (Ln : LV) (Mo : SV) (O : (Nat → Int64)) (Oq : (Nat → UInt64)), i + 5 ≤ L → Rel i S T Tr Sn Hs G Xt Ln Mo O Oq → gM_1 S T Tr Sn Hs G Xt Ln Mo O Oq xs L (nI i) ∧ Rel (i + 5) (fM_1 S T Tr Sn Hs G Xt Ln Mo O Oq xs L (nI i)).1 (fM_1 S T Tr Sn Hs G Xt Ln Mo O Oq xs L (nI i)).2.1 Tr Sn (fM_1 S T Tr Sn Hs G Xt Ln Mo O Oq xs L (nI i)).2.2.1 (fM_1 S T Tr Sn Hs G Xt Ln Mo O Oq xs L (nI i)).2.2.2.1 Xt Ln (fM_1 S T Tr Sn Hs G Xt Ln Mo O Oq xs L (nI i)).2.2.2.2.1 (fM_1 S T Tr Sn Hs G Xt Ln Mo O Oq xs L (nI i)).2.2.2.2.2 Oq)
    (hs2 : ∀ (i : Nat) (S : CV) (T : TV) (Tr : TV) (Sn : TV) (Hs : HV) (G : (Nat → TV)) (Xt : XV) (Ln : LV) (Mo : SV) (O : (Nat → Int64)) (Oq : (Nat → UInt64)), i + 5 ≤ L → Rel i S T Tr Sn Hs G Xt Ln Mo O Oq → gM_2 S T Tr Sn Hs G Xt Ln Mo O Oq xs L (nI i) ∧ Rel (i + 5) (fM_2 S T Tr Sn Hs G Xt Ln Mo O Oq xs L (nI i)).1 (fM_2 S T Tr Sn Hs G Xt Ln Mo O Oq xs L (nI i)).2.1 Tr Sn (fM_2 S T Tr Sn Hs G Xt Ln Mo O Oq xs L (nI i)).2.2.1 (fM_2 S T Tr Sn Hs G Xt Ln Mo O Oq xs L (nI i)).2.2.2.1 Xt Ln (fM_2 S T Tr Sn Hs G Xt Ln Mo O Oq xs L (nI i)).2.2.2.2.1 (fM_2 S T Tr Sn Hs G Xt Ln Mo O Oq xs L (nI i)).2.2.2.2.2 Oq)
    (hs3 : ∀ (i : Nat) (S : CV) (T : TV) (Tr : TV) (Sn : TV) (Hs : HV) (G : (Nat → TV)) (Xt : XV) (Ln : LV) (Mo : SV) (O : (Nat → Int64)) (Oq : (Nat → UInt64)), i + 5 ≤ L → Rel i S T Tr Sn Hs G Xt Ln Mo O Oq → gM_3 S T Tr Sn Hs G Xt Ln Mo O Oq xs L (nI i) ∧ Rel (i + 5) (fM_3 S T Tr Sn Hs G Xt Ln Mo O Oq xs L (nI i)).1 (fM_3 S T Tr Sn Hs G Xt Ln Mo O Oq xs L (nI i)).2.1 Tr Sn (fM_3 S T Tr Sn Hs G Xt Ln Mo O Oq xs L (nI i)).2.2.1 (fM_3 S T Tr Sn Hs G Xt Ln Mo O Oq xs L (nI i)).2.2.2.1 Xt Ln (fM_3 S T Tr Sn Hs G Xt Ln Mo O Oq xs L (nI i)).2.2.2.2.1 (fM_3 S T Tr Sn Hs G Xt Ln Mo O Oq xs L (nI i)).2.2.2.2.2 Oq)
    (hs4 : ∀ (i : Nat) (S : CV) (T : TV) (Tr : TV) (Sn : TV) (Hs : HV) (G : (Nat → TV)) (Xt : XV) (Ln : LV) (Mo : SV) (O : (Nat → Int64)) (Oq : (Nat → UInt64)), i + 5 ≤ L → Rel i S T Tr Sn Hs G Xt Ln Mo O Oq → gM_4 S T Tr Sn Hs G Xt Ln Mo O Oq xs L (nI i) ∧ Rel (i + 5) (fM_4 S T Tr Sn Hs G Xt Ln Mo O Oq xs L (nI i)).1 (fM_4 S T Tr Sn Hs G Xt Ln Mo O Oq xs L (nI i)).2.1 Tr Sn (fM_4 S T Tr Sn Hs G Xt Ln Mo O Oq xs L (nI i)).2.2.1 (fM_4 S T Tr Sn Hs G Xt Ln Mo O Oq xs L (nI i)).2.2.2.1 Xt Ln (fM_4 S T Tr Sn Hs G Xt Ln Mo O Oq xs L (nI i)).2.2.2.2.1 (fM_4 S T Tr Sn Hs G Xt Ln Mo O Oq xs L (nI i)).2.2.2.2.2 Oq)
    (hs5 : ∀ (i : Nat) (S : CV) (T : TV) (Tr : TV) (Sn : TV) (Hs : HV) (G : (Nat → TV)) (Xt : XV) (Ln : LV) (Mo : SV) (O : (Nat → Int64)) (Oq : (Nat → UInt64)), i + 5 ≤ L → Rel i S T Tr Sn Hs G Xt Ln Mo O Oq → gM_5 S T Tr Sn Hs G Xt Ln Mo O Oq xs L (nI i) ∧ Rel (i + 5) S T Tr Sn Hs G Xt Ln (fM_5 S T Tr Sn Hs G Xt Ln Mo O Oq xs L (nI i)).1 (fM_5 S T Tr Sn Hs G Xt Ln Mo O Oq xs L (nI i)).2 Oq)
    (hs6 : ∀ (i : Nat) (S : CV) (T : TV) (Tr : TV) (Sn : TV) (Hs : HV) (G : (Nat → TV)) (Xt : XV) (Ln : LV) (Mo : SV) (O : (Nat → Int64)) (Oq : (Nat → UInt64)), i + 5 ≤ L → Rel i S T Tr Sn Hs G Xt Ln Mo O Oq → gM_6 S T Tr Sn Hs G Xt Ln Mo O Oq xs L (nI i) ∧ Rel (i + 5) S T Tr Sn Hs G Xt Ln (fM_6 S T Tr Sn Hs G Xt Ln Mo O Oq xs L (nI i)).1 (fM_6 S T Tr Sn Hs G Xt Ln Mo O Oq xs L (nI i)).2 Oq)
    (hs7 : ∀ (i : Nat) (S : CV) (T : TV) (Tr : TV) (Sn : TV) (Hs : HV) (G : (Nat → TV)) (Xt : XV) (Ln : LV) (Mo : SV) (O : (Nat → Int64)) (Oq : (Nat → UInt64)), i + 5 ≤ L → Rel i S T Tr Sn Hs G Xt Ln Mo O Oq → gM_7 S T Tr Sn Hs G Xt Ln Mo O Oq xs L (nI i) ∧ Rel (i + 5) S T Tr Sn Hs G Xt Ln (fM_7 S T Tr Sn Hs G Xt Ln Mo O Oq xs L (nI i)) O Oq)
    (hs8 : ∀ (i : Nat) (S : CV) (T : TV) (Tr : TV) (Sn : TV) (Hs : HV) (G : (Nat → TV)) (Xt : XV) (Ln : LV) (Mo : SV) (O : (Nat → Int64)) (Oq : (Nat → UInt64)), i + 5 ≤ L → Rel i S T Tr Sn Hs G Xt Ln Mo O Oq → gM_8 S T Tr Sn Hs G Xt Ln Mo O Oq xs L (nI i) ∧ Rel (i + 5) S T Tr Sn Hs G Xt Ln (fM_8 S T Tr Sn Hs G Xt Ln Mo O Oq xs L (nI i)).1 (fM_8 S T Tr Sn Hs G Xt Ln Mo O Oq xs L (nI i)).2 Oq)
    (hs9 : ∀ (i : Nat) (S : CV) (T : TV) (Tr : TV) (Sn : TV) (Hs : HV) (G : (Nat → TV)) (Xt : XV) (Ln : LV) (Mo : SV) (O : (Nat → Int64)) (Oq : (Nat → UInt64)), i + 5 ≤ L → Rel i S T Tr Sn Hs G Xt Ln Mo O Oq → gM_9 S T Tr Sn Hs G Xt Ln Mo O Oq xs L (nI i) ∧ Rel (i + 5) (fM_9 S T Tr Sn Hs G Xt Ln Mo O Oq xs L (nI i)).1 (fM_9 S T Tr Sn Hs G Xt Ln Mo O Oq xs L (nI i)).2.1 Tr Sn (fM_9 S T Tr Sn Hs G Xt Ln Mo O Oq xs L (nI i)).2.2.1 (fM_9 S T Tr Sn Hs G Xt Ln Mo O Oq xs L (nI i)).2.2.2.1 Xt Ln (fM_9 S T Tr Sn Hs G Xt Ln Mo O Oq xs L (nI i)).2.2.2.2.1 (fM_9 S T Tr Sn Hs G Xt Ln Mo O Oq xs L (nI i)).2.2.2.2.2 Oq)
    (hs10 : ∀ (i : Nat) (S : CV) (T : TV) (Tr : TV) (Sn : TV) (Hs : HV) (G : (Nat → TV)) (Xt : XV) (Ln : LV) (Mo : SV) (O : (Nat → Int64)) (Oq : (Nat → UInt64)), i + 5 ≤ L → Rel i S T Tr Sn Hs G Xt Ln Mo O Oq → gM_10 S T Tr Sn Hs G Xt Ln Mo O Oq xs L (nI i) ∧ Rel (i + 5) S T (fM_10 S T Tr Sn Hs G Xt Ln Mo O Oq xs L (nI i)).1 Sn Hs G Xt Ln (fM_10 S T Tr Sn Hs G Xt Ln Mo O Oq xs L (nI i)).2 O Oq)
    (hs11 : ∀ (i : Nat) (S : CV) (T : TV) (Tr : TV) (Sn : TV) (Hs : HV) (G : (Nat → TV)) (Xt : XV) (Ln : LV) (Mo : SV) (O : (Nat → Int64)) (Oq : (Nat → UInt64)), i + 5 ≤ L → Rel i S T Tr Sn Hs G Xt Ln Mo O Oq → gM_11 S T Tr Sn Hs G Xt Ln Mo O Oq xs L (nI i) ∧ Rel (i + 5) (fM_11 S T Tr Sn Hs G Xt Ln Mo O Oq xs L (nI i)).1 (fM_11 S T Tr Sn Hs G Xt Ln Mo O Oq xs L (nI i)).2.1 Tr Sn (fM_11 S T Tr Sn Hs G Xt Ln Mo O Oq xs L (nI i)).2.2.1 (fM_11 S T Tr Sn Hs G Xt Ln Mo O Oq xs L (nI i)).2.2.2.1 Xt Ln (fM_11 S T Tr Sn Hs G Xt Ln Mo O Oq xs L (nI i)).2.2.2.2.1 (fM_11 S T Tr Sn Hs G Xt Ln Mo O Oq xs L (nI i)).2.2.2.2.2 Oq)
    (hs12 : ∀ (i : Nat) (S : CV) (T : TV) (Tr : TV) (Sn : TV) (Hs : HV) (G : (Nat → TV)) (Xt : XV) (Ln : LV) (Mo : SV) (O : (Nat → Int64)) (Oq : (Nat → UInt64)), i + 5 ≤ L → Rel i S T Tr Sn Hs G Xt Ln Mo O Oq → gM_12 S T Tr Sn Hs G Xt Ln Mo O Oq xs L (nI i) ∧ Rel (i + 5) S T (fM_12 S T Tr Sn Hs G Xt Ln Mo O Oq xs L (nI i)).1 Sn Hs G Xt Ln (fM_12 S T Tr Sn Hs G Xt Ln Mo O Oq xs L (nI i)).2.1 (fM_12 S T Tr Sn Hs G Xt Ln Mo O Oq xs L (nI i)).2.2 Oq)
    (hs13 : ∀ (i : Nat) (S : CV) (T : TV) (Tr : TV) (Sn : TV) (Hs : HV) (G : (Nat → TV)) (Xt : XV) (Ln : LV) (Mo : SV) (O : (Nat → Int64)) (Oq : (Nat → UInt64)), i + 5 ≤ L → Rel i S T Tr Sn Hs G Xt Ln Mo O Oq → gM_13 S T Tr Sn Hs G Xt Ln Mo O Oq xs L (nI i) ∧ Rel (i + 5) (fM_13 S T Tr Sn Hs G Xt Ln Mo O Oq xs L (nI i)).1 (fM_13 S T Tr Sn Hs G Xt Ln Mo O Oq xs L (nI i)).2.1 Tr Sn (fM_13 S T Tr Sn Hs G Xt Ln Mo O Oq xs L (nI i)).2.2.1 (fM_13 S T Tr Sn Hs G Xt Ln Mo O Oq xs L (nI i)).2.2.2.1 Xt Ln (fM_13 S T Tr Sn Hs G Xt Ln Mo O Oq xs L (nI i)).2.2.2.2.1 (fM_13 S T Tr Sn Hs G Xt Ln Mo O Oq xs L (nI i)).2.2.2.2.2 Oq)
    (hs14 : ∀ (i : Nat) (S : CV) (T : TV) (Tr : TV) (Sn : TV) (Hs : HV) (G : (Nat → TV)) (Xt : XV) (Ln : LV) (Mo : SV) (O : (Nat → Int64)) (Oq : (Nat → UInt64)), i + 5 ≤ L → Rel i S T Tr Sn Hs G Xt Ln Mo O Oq → gM_14 S T Tr Sn Hs G Xt Ln Mo O Oq xs L (nI i) ∧ Rel (i + 5) (fM_14 S T Tr Sn Hs G Xt Ln Mo O Oq xs L (nI i)).1 (fM_14 S T Tr Sn Hs G Xt Ln Mo O Oq xs L (nI i)).2.1 Tr Sn (fM_14 S T Tr Sn Hs G Xt Ln Mo O Oq xs L (nI i)).2.2.1 (fM_14 S T Tr Sn Hs G Xt Ln Mo O Oq xs L (nI i)).2.2.2.1 Xt Ln (fM_14 S T Tr Sn Hs G Xt Ln Mo O Oq xs L (nI i)).2.2.2.2.1 (fM_14 S T Tr Sn Hs G Xt Ln Mo O Oq xs L (nI i)).2.2.2.2.2 Oq)
    (hs15 : ∀ (i : Nat) (S : CV) (T : TV) (Tr : TV) (Sn : TV) (Hs : HV) (G : (Nat → TV)) (Xt : XV) (Ln : LV) (Mo : SV) (O : (Nat → Int64)) (Oq : (Nat → UInt64)), i + 5 ≤ L → Rel i S T Tr Sn Hs G Xt Ln Mo O Oq → gM_15 S T Tr Sn Hs G Xt Ln Mo O Oq xs L (nI i) ∧ Rel (i + 5) S T Tr Sn Hs G Xt Ln (fM_15 S T Tr Sn Hs G Xt Ln Mo O Oq xs L (nI i)).1 O (fM_15 S T Tr Sn Hs G Xt Ln Mo O Oq xs L (nI i)).2)
    (hs16 : ∀ (i : Nat) (S : CV) (T : TV) (Tr : TV) (Sn : TV) (Hs : HV) (G : (Nat → TV)) (Xt : XV) (Ln : LV) (Mo : SV) (O : (Nat → Int64)) (Oq : (Nat → UInt64)), i + 5 ≤ L → Rel i S T Tr Sn Hs G Xt Ln Mo O Oq → gM_16 S T Tr Sn Hs G Xt Ln Mo O Oq xs L (nI i) ∧ Rel (i + 5) S T Tr Sn Hs G Xt Ln (fM_16 S T Tr Sn Hs G Xt Ln Mo O Oq xs L (nI i)).1 (fM_16 S T Tr Sn Hs G Xt Ln Mo O Oq xs L (nI i)).2 Oq)
    (hs17 : ∀ (i : Nat) (S : CV) (T : TV) (Tr : TV) (Sn : TV) (Hs : HV) (G : (Nat → TV)) (Xt : XV) (Ln : LV) (Mo : SV) (O : (Nat → Int64)) (Oq : (Nat → UInt64)), i + 5 ≤ L → Rel i S T Tr Sn Hs G Xt Ln Mo O Oq → gM_17 S T Tr Sn Hs G Xt Ln Mo O Oq xs L (nI i) ∧ Rel (i + 5) S T Tr Sn Hs G Xt Ln (fM_17 S T Tr Sn Hs G Xt Ln Mo O Oq xs L (nI i)).1 (fM_17 S T Tr Sn Hs G Xt Ln Mo O Oq xs L (nI i)).2 Oq)
    (hs18 : ∀ (i : Nat) (S : CV) (T : TV) (Tr : TV) (Sn : TV) (Hs : HV) (G : (Nat → TV)) (Xt : XV) (Ln : LV) (Mo : SV) (O : (Nat → Int64)) (Oq : (Nat → UInt64)), i + 5 ≤ L → Rel i S T Tr Sn Hs G Xt Ln Mo O Oq → gM_18 S T Tr Sn Hs G Xt Ln Mo O Oq xs L (nI i) ∧ Rel (i + 5) S T Tr Sn Hs G Xt Ln (fM_18 S T Tr Sn Hs G Xt Ln Mo O Oq xs L (nI i)).1 O (fM_18 S T Tr Sn Hs G Xt Ln Mo O Oq xs L (nI i)).2)
    (hs19 : ∀ (i : Nat) (S : CV) (T : TV) (Tr : TV) (Sn : TV) (Hs : HV) (G : (Nat → TV)) (Xt : XV) (Ln : LV) (Mo : SV) (O : (Nat → Int64)) (Oq : (Nat → UInt64)), i + 5 ≤ L → Rel i S T Tr Sn Hs G Xt Ln Mo O Oq → gM_19 S T Tr Sn Hs G Xt Ln Mo O Oq xs L (nI i) ∧ Rel (i + 5) S T Tr Sn Hs G Xt Ln (fM_19 S T Tr Sn Hs G Xt Ln Mo O Oq xs L (nI i)) O Oq)
    (hs20 : ∀ (i : Nat) (S : CV) (T : TV) (Tr : TV) (Sn : TV) (Hs : HV) (G : (Nat → TV)) (Xt : XV) (Ln : LV) (Mo : SV) (O : (Nat → Int64)) (Oq : (Nat → UInt64)), i + 5 ≤ L → Rel i S T Tr Sn Hs G Xt Ln Mo O Oq → gM_20 S T Tr Sn Hs G Xt Ln Mo O Oq xs L (nI i) ∧ Rel (i + 5) S (fM_20 S T Tr Sn Hs G Xt Ln Mo O Oq xs L (nI i)).1 Tr Sn (fM_20 S T Tr Sn Hs G Xt Ln Mo O Oq xs L (nI i)).2.1 (fM_20 S T Tr Sn Hs G Xt Ln Mo O Oq xs L (nI i)).2.2.1 Xt Ln (fM_20 S T Tr Sn Hs G Xt Ln Mo O Oq xs L (nI i)).2.2.2 O Oq)
    (hs21 : ∀ (i : Nat) (S : CV) (T : TV) (Tr : TV) (Sn : TV) (Hs : HV) (G : (Nat → TV)) (Xt : XV) (Ln : LV) (Mo : SV) (O : (Nat → Int64)) (Oq : (Nat → UInt64)), i + 5 ≤ L → Rel i S T Tr Sn Hs G Xt Ln Mo O Oq → gM_21 S T Tr Sn Hs G Xt Ln Mo O Oq xs L (nI i) ∧ Rel (i + 5) S T Tr Sn Hs G Xt Ln (fM_21 S T Tr Sn Hs G Xt Ln Mo O Oq xs L (nI i)).1 (fM_21 S T Tr Sn Hs G Xt Ln Mo O Oq xs L (nI i)).2 Oq)
    (hs22 : ∀ (i : Nat) (S : CV) (T : TV) (Tr : TV) (Sn : TV) (Hs : HV) (G : (Nat → TV)) (Xt : XV) (Ln : LV) (Mo : SV) (O : (Nat → Int64)) (Oq : (Nat → UInt64)), i + 5 ≤ L → Rel i S T Tr Sn Hs G Xt Ln Mo O Oq → gM_22 S T Tr Sn Hs G Xt Ln Mo O Oq xs L (nI i) ∧ Rel (i + 5) S T Tr Sn Hs G Xt Ln (fM_22 S T Tr Sn Hs G Xt Ln Mo O Oq xs L (nI i)).1 (fM_22 S T Tr Sn Hs G Xt Ln Mo O Oq xs L (nI i)).2 Oq)
    (hs23 : ∀ (i : Nat) (S : CV) (T : TV) (Tr : TV) (Sn : TV) (Hs : HV) (G : (Nat → TV)) (Xt : XV) (Ln : LV) (Mo : SV) (O : (Nat → Int64)) (Oq : (Nat → UInt64)), i + 5 ≤ L → Rel i S T Tr Sn Hs G Xt Ln Mo O Oq → gM_23 S T Tr Sn Hs G Xt Ln Mo O Oq xs L (nI i) ∧ Rel (i + 5) S T Tr Sn Hs G Xt (fM_23 S T Tr Sn Hs G Xt Ln Mo O Oq xs L (nI i)).1 (fM_23 S T Tr Sn Hs G Xt Ln Mo O Oq xs L (nI i)).2 O Oq)
    (hs24 : ∀ (i : Nat) (S : CV) (T : TV) (Tr : TV) (Sn : TV) (Hs : HV) (G : (Nat → TV)) (Xt : XV) (Ln : LV) (Mo : SV) (O : (Nat → Int64)) (Oq : (Nat → UInt64)), i + 5 ≤ L → Rel i S T Tr Sn Hs G Xt Ln Mo O Oq → gM_24 S T Tr Sn Hs G Xt Ln Mo O Oq xs L (nI i) ∧ Rel (i + 5) S T Tr Sn Hs G Xt (fM_24 S T Tr Sn Hs G Xt Ln Mo O Oq xs L (nI i)).1 (fM_24 S T Tr Sn Hs G Xt Ln Mo O Oq xs L (nI i)).2.1 (fM_24 S T Tr Sn Hs G Xt Ln Mo O Oq xs L (nI i)).2.2 Oq)
    (hs25 : ∀ (i : Nat) (S : CV) (T : TV) (Tr : TV) (Sn : TV) (Hs : HV) (G : (Nat → TV)) (Xt : XV) (Ln : LV) (Mo : SV) (O : (Nat → Int64)) (Oq : (Nat → UInt64)), i + 5 ≤ L → Rel i S T Tr Sn Hs G Xt Ln Mo O Oq → gM_25 S T Tr Sn Hs G Xt Ln Mo O Oq xs L (nI i) ∧ Rel (i + 5) S T Tr Sn Hs G Xt Ln (fM_25 S T Tr Sn Hs G Xt Ln Mo O Oq xs L (nI i)).1 (fM_25 S T Tr Sn Hs G Xt Ln Mo O Oq xs L (nI i)).2 Oq)
    (hs26 : ∀ (i : Nat) (S : CV) (T : TV) (Tr : TV) (Sn : TV) (Hs : HV) (G : (Nat → TV)) (Xt : XV) (Ln : LV) (Mo : SV) (O : (Nat → Int64)) (Oq : (Nat → UInt64)), i + 5 ≤ L → Rel i S T Tr Sn Hs G Xt Ln Mo O Oq → gM_26 S T Tr Sn Hs G Xt Ln Mo O Oq xs L (nI i) ∧ Rel (i + 5) S T Tr Sn Hs G (fM_26 S T Tr Sn Hs G Xt Ln Mo O Oq xs L (nI i)).1 Ln (fM_26 S T Tr Sn Hs G Xt Ln Mo O Oq xs L (nI i)).2.1 (fM_26 S T Tr Sn Hs G Xt Ln Mo O Oq xs L (nI i)).2.2 Oq)
    (hs27 : ∀ (i : Nat) (S : CV) (T : TV) (Tr : TV) (Sn : TV) (Hs : HV) (G : (Nat → TV)) (Xt : XV) (Ln : LV) (Mo : SV) (O : (Nat → Int64)) (Oq : (Nat → UInt64)), i + 5 ≤ L → Rel i S T Tr Sn Hs G Xt Ln Mo O Oq → gM_27 S T Tr Sn Hs G Xt Ln Mo O Oq xs L (nI i) ∧ Rel (i + 5) (fM_27 S T Tr Sn Hs G Xt Ln Mo O Oq xs L (nI i)).1 (fM_27 S T Tr Sn Hs G Xt Ln Mo O Oq xs L (nI i)).2.1 Tr Sn (fM_27 S T Tr Sn Hs G Xt Ln Mo O Oq xs L (nI i)).2.2.1 (fM_27 S T Tr Sn Hs G Xt Ln Mo O Oq xs L (nI i)).2.2.2.1 (fM_27 S T Tr Sn Hs G Xt Ln Mo O Oq xs L (nI i)).2.2.2.2.1 Ln (fM_27 S T Tr Sn Hs G Xt Ln Mo O Oq xs L (nI i)).2.2.2.2.2.1 (fM_27 S T Tr Sn Hs G Xt Ln Mo O Oq xs L (nI i)).2.2.2.2.2.2 Oq)
    (hs28 : ∀ (i : Nat) (S : CV) (T : TV) (Tr : TV) (Sn : TV) (Hs : HV) (G : (Nat → TV)) (Xt : XV) (Ln : LV) (Mo : SV) (O : (Nat → Int64)) (Oq : (Nat → UInt64)), i + 5 ≤ L → Rel i S T Tr Sn Hs G Xt Ln Mo O Oq → gM_28 S T Tr Sn Hs G Xt Ln Mo O Oq xs L (nI i) ∧ Rel (i + 5) S T Tr Sn Hs G Xt Ln (fM_28 S T Tr Sn Hs G Xt Ln Mo O Oq xs L (nI i)) O Oq)
    (hs29 : ∀ (i : Nat) (S : CV) (T : TV) (Tr : TV) (Sn : TV) (Hs : HV) (G : (Nat → TV)) (Xt : XV) (Ln : LV) (Mo : SV) (O : (Nat → Int64)) (Oq : (Nat → UInt64)), i + 5 ≤ L → Rel i S T Tr Sn Hs G Xt Ln Mo O Oq → gM_29 S T Tr Sn Hs G Xt Ln Mo O Oq xs L (nI i) ∧ Rel (i + 5) S T Tr Sn Hs G Xt Ln (fM_29 S T Tr Sn Hs G Xt Ln Mo O Oq xs L (nI i)).1 (fM_29 S T Tr Sn Hs G Xt Ln Mo O Oq xs L (nI i)).2 Oq)
    (hs30 : ∀ (i : Nat) (S : CV) (T : TV) (Tr : TV) (Sn : TV) (Hs : HV) (G : (Nat → TV)) (Xt : XV) (Ln : LV) (Mo : SV) (O : (Nat → Int64)) (Oq : (Nat → UInt64)), i + 5 ≤ L → Rel i S T Tr Sn Hs G Xt Ln Mo O Oq → gM_30 S T Tr Sn Hs G Xt Ln Mo O Oq xs L (nI i) ∧ Rel (i + 5) S T Tr Sn Hs G Xt Ln (fM_30 S T Tr Sn Hs G Xt Ln Mo O Oq xs L (nI i)).1 (fM_30 S T Tr Sn Hs G Xt Ln Mo O Oq xs L (nI i)).2 Oq)
    (hs31 : ∀ (i : Nat) (S : CV) (T : TV) (Tr : TV) (Sn : TV) (Hs : HV) (G : (Nat → TV)) (Xt : XV) (Ln : LV) (Mo : SV) (O : (Nat → Int64)) (Oq : (Nat → UInt64)), i + 5 ≤ L → Rel i S T Tr Sn Hs G Xt Ln Mo O Oq → gM_31 S T Tr Sn Hs G Xt Ln Mo O Oq xs L (nI i) ∧ Rel (i + 5) S T Tr Sn Hs G Xt Ln (fM_31 S T Tr Sn Hs G Xt Ln Mo O Oq xs L (nI i)) O Oq)
    (hs32 : ∀ (i : Nat) (S : CV) (T : TV) (Tr : TV) (Sn : TV) (Hs : HV) (G : (Nat → TV)) (Xt : XV) (Ln : LV) (Mo : SV) (O : (Nat → Int64)) (Oq : (Nat → UInt64)), i + 5 ≤ L → Rel i S T Tr Sn Hs G Xt Ln Mo O Oq → gM_32 S T Tr Sn Hs G Xt Ln Mo O Oq xs L (nI i) ∧ Rel (i + 5) S T Tr Sn Hs G Xt Ln (fM_32 S T Tr Sn Hs G Xt Ln Mo O Oq xs L (nI i)).1 O (fM_32 S T Tr Sn Hs G Xt Ln Mo O Oq xs L (nI i)).2)
    (hs33 : ∀ (i : Nat) (S : CV) (T : TV) (Tr : TV) (Sn : TV) (Hs : HV) (G : (Nat → TV)) (Xt : XV) (Ln : LV) (Mo : SV) (O : (Nat → Int64)) (Oq : (Nat → UInt64)), i + 5 ≤ L → Rel i S T Tr Sn Hs G Xt Ln Mo O Oq → gM_33 S T Tr Sn Hs G Xt Ln Mo O Oq xs L (nI i) ∧ Rel (i + 5) S (fM_33 S T Tr Sn Hs G Xt Ln Mo O Oq xs L (nI i)).1 Tr Sn (fM_33 S T Tr Sn Hs G Xt Ln Mo O Oq xs L (nI i)).2.1 G Xt Ln (fM_33 S T Tr Sn Hs G Xt Ln Mo O Oq xs L (nI i)).2.2.1 (fM_33 S T Tr Sn Hs G Xt Ln Mo O Oq xs L (nI i)).2.2.2 Oq)
    (hs34 : ∀ (i : Nat) (S : CV) (T : TV) (Tr : TV) (Sn : TV) (Hs : HV) (G : (Nat → TV)) (Xt : XV) (Ln : LV) (Mo : SV) (O : (Nat → Int64)) (Oq : (Nat → UInt64)), i + 5 ≤ L → Rel i S T Tr Sn Hs G Xt Ln Mo O Oq → gM_34 S T Tr Sn Hs G Xt Ln Mo O Oq xs L (nI i) ∧ Rel (i + 5) (fM_34 S T Tr Sn Hs G Xt Ln Mo O Oq xs L (nI i)).1 T Tr (fM_34 S T Tr Sn Hs G Xt Ln Mo O Oq xs L (nI i)).2.1 Hs G Xt Ln (fM_34 S T Tr Sn Hs G Xt Ln Mo O Oq xs L (nI i)).2.2 O Oq)
    (hs35 : ∀ (i : Nat) (S : CV) (T : TV) (Tr : TV) (Sn : TV) (Hs : HV) (G : (Nat → TV)) (Xt : XV) (Ln : LV) (Mo : SV) (O : (Nat → Int64)) (Oq : (Nat → UInt64)), i + 5 ≤ L → Rel i S T Tr Sn Hs G Xt Ln Mo O Oq → gM_35 S T Tr Sn Hs G Xt Ln Mo O Oq xs L (nI i) ∧ Rel (i + 5) S (fM_35 S T Tr Sn Hs G Xt Ln Mo O Oq xs L (nI i)).1 Tr Sn (fM_35 S T Tr Sn Hs G Xt Ln Mo O Oq xs L (nI i)).2.1 G Xt Ln (fM_35 S T Tr Sn Hs G Xt Ln Mo O Oq xs L (nI i)).2.2.1 (fM_35 S T Tr Sn Hs G Xt Ln Mo O Oq xs L (nI i)).2.2.2 Oq)
    : ∀ (n i : Nat) (S : CV) (T : TV) (Tr : TV) (Sn : TV) (Hs : HV) (G : (Nat → TV)) (Xt : XV) (Ln : LV) (Mo : SV) (O : (Nat → Int64)) (Oq : (Nat → UInt64)), i ≤ L → L < i + n → Rel i S T Tr Sn Hs G Xt Ln Mo O Oq → ∀ (H : Heap) (locs : List Loc) (ls : Array Slot) (cells slots : Nat), cells ≤ 100 + 2 * i → slots ≤ 10000 + 12 * i → va_P D vwCl (w5 x ot ou ov oh ox oy S ++ w3 cI ot ot1 ot2 T ++ w3 cI ou ou1 ou2 Tr ++ w3 cI ov ov1 ov2 Sn ++ w1 oh rr Hs ++ wR cI cT rr ra rb rc G ++ w4 cI cC ox ox1 ox2 Xt ++ w2 cC oy oy1 Ln ++ w6 cI cC mh m1 m2 m3 m4 m5 m6 m7 m8 Mo ++ [(o, .inl (cJ, 1, .inr (.inl O)))] ++ [(oq, .inl (cQ, 1, .inr (.inr (.inr (.inl Oq)))))]) H → va_D (fun q : Nat => s.heap.size ≤ q) (w5 x ot ou ov oh ox oy S ++ w3 cI ot ot1 ot2 T ++ w3 cI ou ou1 ou2 Tr ++ w3 cI ov ov1 ov2 Sn ++ w1 oh rr Hs ++ wR cI cT rr ra rb rc G ++ w4 cI cC ox ox1 ox2 Xt ++ w2 cC oy oy1 Ln ++ w6 cI cC mh m1 m2 m3 m4 m5 m6 m7 m8 Mo ++ [(o, .inl (cJ, 1, .inr (.inl O)))] ++ [(oq, .inl (cQ, 1, .inr (.inr (.inr (.inl Oq)))))]) → va_S (fun q : Nat => s.heap.size ≤ q) s.heap H locs → lv_has ls 9 [(0, .ref b), (1, .ref x), (2, .ref mh), (3, .ref o), (4, .ref oq), (5, .int (nI i))] → W p l e room_1 s m #[Value.ref b] below meth c H locs cells slots (lw_Z below #[Value.ref b] s) (F0 m 28 ls []) := by
  intro n
  induction n with
  | zero =>
    intro i S T Tr Sn Hs G Xt Ln Mo O Oq h1 h2
    exact absurd h2 (by omega)
  | succ n ih =>
    intro i S T Tr Sn Hs G Xt Ln Mo O Oq h1 h2 hR H locs ls cells slots hce hsl hP hD hS hl
    have hn := hRn _ _ _ _ _ _ _ _ _ _ _ _ hR
    have hcc := hRc _ _ _ _ _ _ _ _ _ _ _ _ hR
    have hcr : cells + 2 ≤ room_1.cells ∧ slots + 12 ≤ room_1.slots := ⟨Nat.le_trans (show cells + 2 ≤ 603072 by omega) (Nat.le_refl _), Nat.le_trans (show slots + 12 ≤ 7207018 by omega) (Nat.le_refl _)⟩
    refine lv_iload hx hb dL_law_28 (lv_at hl 5 rfl) ?_
    refine lv_aload_n hx hb dL_law_30 rfl (lv_at hl 0 rfl) ?_
    refine va_slen hx hb hX hbl hbA hS dL_law_31 ?_
    refine lv_iconst (v := 5) hx hb dL_law_32 (by decide) ?_
    refine lv_isub hx hb dL_law_33 ?_
    have h5 : (Int32.ofNat L - 5 < nI i) ↔ L < i + 5 := by
      have e1 : (Int32.ofNat L).toInt = (L : Int) := nI_toInt (n := L) (by omega)
      have e2 : (nI i).toInt = (i : Int) := nI_toInt (by omega)
      have e3 : (5 : Int32).toInt = 5 := by decide
      rw [Int32.lt_iff_toInt_lt, fb_subI (by omega) (by omega), e1, e2, e3]
      omega
    refine lv_icmp_gt (tgt := 2116) hx hb dL_law_34 (by decide) (fun c0 => ?_) (fun c0 => ?_)
    · refine lv_iconst (v := 1) hx hb dL_law_2116 (by decide) ?_
      refine va_forget (fun q hq => hS.2.2 q hq) ?_
      refine W.widen (k := 603072) (n := 7207018) (by omega) (by omega) ?_
      exact lw_ret (d0 := s.drawn) (Drawn.sameBut.refl s.drawn lw_cs) hx hb hr hlk dL_law_2117
    · have hi5 : i + 5 ≤ L := by
        rcases Nat.lt_or_ge L (i + 5) with h9 | h9
        · exact absurd (h5.mpr h9) c0
        · exact h9
      refine lv_aload_n hx hb dL_law_37 rfl (lv_at hl 0 rfl) ?_
      refine lv_iload hx hb dL_law_38 (lv_at hl 5 rfl) ?_
      refine va_sld hx hb hX hbl hbA hS (vp_in_nI (by omega) (by omega)) dL_law_40 ?_
      refine lv_bipush (v := 63) hx hb dL_law_41 (by decide) ?_
      refine lv_iand hx hb dL_law_43 ?_
      generalize (xs (nI i).toNatClampNeg &&& 63) = sw
      by_cases c0 : sw = 0
      · refine lv_tableIn (off := 160) (tgt := 204) hx hb dL_law_44 (by rw [c0]; decide) (by rw [c0]; decide) (by rw [c0]; rfl) (by decide) ?_
        obtain ⟨g9, r9⟩ := hs0 i S T Tr Sn Hs G Xt Ln Mo O Oq hi5 hR
        refine cM_0 l D cI cC cT cJ cQ b x ot ou ov oh ox oy ot1 ot2 ou1 ou2 ov1 ov2 rr ox1 ox2 oy1 mh m1 m2 m3 m4 m5 m6 m7 m8 o oq ra rb rc S T Tr Sn Hs G Xt Ln Mo O Oq xs L (nI i) hst hn hcc hx hb hml hown hts hK hX hbl hbA hXE hXN H locs ls cells slots hcr hP hD hS hl g9 (fun z9 hz9 H locs ls hP hD hS hl => ?_)
        rw [← hz9] at r9
        exact ih (i + 5) z9.1 z9.2.1 Tr Sn z9.2.2.1 z9.2.2.2.1 Xt Ln z9.2.2.2.2.1 z9.2.2.2.2.2 Oq hi5 (by omega) r9 H locs ls (cells + 2) (slots + 12) (by omega) (by omega) hP hD hS (by rw [← nI_add i 5]; exact hl)
      · skip
        by_cases c1 : sw = 1
        · refine lv_tableIn (off := 268) (tgt := 312) hx hb dL_law_44 (by rw [c1]; decide) (by rw [c1]; decide) (by rw [c1]; rfl) (by decide) ?_
          obtain ⟨g9, r9⟩ := hs1 i S T Tr Sn Hs G Xt Ln Mo O Oq hi5 hR
          refine cM_1 l D cI cC cT cJ cQ b x ot ou ov oh ox oy ot1 ot2 ou1 ou2 ov1 ov2 rr ox1 ox2 oy1 mh m1 m2 m3 m4 m5 m6 m7 m8 o oq ra rb rc S T Tr Sn Hs G Xt Ln Mo O Oq xs L (nI i) hst hn hcc hx hb hml hown hts hK hX hbl hbA hXE hXN H locs ls cells slots hcr hP hD hS hl g9 (fun z9 hz9 H locs ls hP hD hS hl => ?_)
          rw [← hz9] at r9
          exact ih (i + 5) z9.1 z9.2.1 Tr Sn z9.2.2.1 z9.2.2.2.1 Xt Ln z9.2.2.2.2.1 z9.2.2.2.2.2 Oq hi5 (by omega) r9 H locs ls (cells + 2) (slots + 12) (by omega) (by omega) hP hD hS (by rw [← nI_add i 5]; exact hl)
        · skip
          by_cases c2 : sw = 2
          · refine lv_tableIn (off := 336) (tgt := 380) hx hb dL_law_44 (by rw [c2]; decide) (by rw [c2]; decide) (by rw [c2]; rfl) (by decide) ?_
            obtain ⟨g9, r9⟩ := hs2 i S T Tr Sn Hs G Xt Ln Mo O Oq hi5 hR
            refine cM_2 l D cI cC cT cJ cQ b x ot ou ov oh ox oy ot1 ot2 ou1 ou2 ov1 ov2 rr ox1 ox2 oy1 mh m1 m2 m3 m4 m5 m6 m7 m8 o oq ra rb rc S T Tr Sn Hs G Xt Ln Mo O Oq xs L (nI i) hst hn hcc hx hb hml hown hts hK hX hbl hbA hXE hXN H locs ls cells slots hcr hP hD hS hl g9 (fun z9 hz9 H locs ls hP hD hS hl => ?_)
            rw [← hz9] at r9
            exact ih (i + 5) z9.1 z9.2.1 Tr Sn z9.2.2.1 z9.2.2.2.1 Xt Ln z9.2.2.2.2.1 z9.2.2.2.2.2 Oq hi5 (by omega) r9 H locs ls (cells + 2) (slots + 12) (by omega) (by omega) hP hD hS (by rw [← nI_add i 5]; exact hl)
          · skip
            by_cases c3 : sw = 3
            · refine lv_tableIn (off := 392) (tgt := 436) hx hb dL_law_44 (by rw [c3]; decide) (by rw [c3]; decide) (by rw [c3]; rfl) (by decide) ?_
              obtain ⟨g9, r9⟩ := hs3 i S T Tr Sn Hs G Xt Ln Mo O Oq hi5 hR
              refine cM_3 l D cI cC cT cJ cQ b x ot ou ov oh ox oy ot1 ot2 ou1 ou2 ov1 ov2 rr ox1 ox2 oy1 mh m1 m2 m3 m4 m5 m6 m7 m8 o oq ra rb rc S T Tr Sn Hs G Xt Ln Mo O Oq xs L (nI i) hst hn hcc hx hb hml hown hts hK hX hbl hbA hXE hXN H locs ls cells slots hcr hP hD hS hl g9 (fun z9 hz9 H locs ls hP hD hS hl => ?_)
              rw [← hz9] at r9
              exact ih (i + 5) z9.1 z9.2.1 Tr Sn z9.2.2.1 z9.2.2.2.1 Xt Ln z9.2.2.2.2.1 z9.2.2.2.2.2 Oq hi5 (by omega) r9 H locs ls (cells + 2) (slots + 12) (by omega) (by omega) hP hD hS (by rw [← nI_add i 5]; exact hl)
            · skip
              by_cases c4 : sw = 4
              · refine lv_tableIn (off := 460) (tgt := 504) hx hb dL_law_44 (by rw [c4]; decide) (by rw [c4]; decide) (by rw [c4]; rfl) (by decide) ?_
                obtain ⟨g9, r9⟩ := hs4 i S T Tr Sn Hs G Xt Ln Mo O Oq hi5 hR
                refine cM_4 l D cI cC cT cJ cQ b x ot ou ov oh ox oy ot1 ot2 ou1 ou2 ov1 ov2 rr ox1 ox2 oy1 mh m1 m2 m3 m4 m5 m6 m7 m8 o oq ra rb rc S T Tr Sn Hs G Xt Ln Mo O Oq xs L (nI i) hst hn hcc hx hb hml hown hts hK hX hbl hbA hXE hXN H locs ls cells slots hcr hP hD hS hl g9 (fun z9 hz9 H locs ls hP hD hS hl => ?_)
                rw [← hz9] at r9
                exact ih (i + 5) z9.1 z9.2.1 Tr Sn z9.2.2.1 z9.2.2.2.1 Xt Ln z9.2.2.2.2.1 z9.2.2.2.2.2 Oq hi5 (by omega) r9 H locs ls (cells + 2) (slots + 12) (by omega) (by omega) hP hD hS (by rw [← nI_add i 5]; exact hl)
              · skip
                by_cases c5 : sw = 5
                · refine lv_tableIn (off := 516) (tgt := 560) hx hb dL_law_44 (by rw [c5]; decide) (by rw [c5]; decide) (by rw [c5]; rfl) (by decide) ?_
                  obtain ⟨g9, r9⟩ := hs5 i S T Tr Sn Hs G Xt Ln Mo O Oq hi5 hR
                  refine cM_5 l D cI cC cT cJ cQ b x ot ou ov oh ox oy ot1 ot2 ou1 ou2 ov1 ov2 rr ox1 ox2 oy1 mh m1 m2 m3 m4 m5 m6 m7 m8 o oq ra rb rc S T Tr Sn Hs G Xt Ln Mo O Oq xs L (nI i) hst hn hcc hx hb hml hown hts hK hX hbl hbA hXE hXN H locs ls cells slots hcr hP hD hS hl g9 (fun z9 hz9 H locs ls hP hD hS hl => ?_)
                  rw [← hz9] at r9
                  exact ih (i + 5) S T Tr Sn Hs G Xt Ln z9.1 z9.2 Oq hi5 (by omega) r9 H locs ls (cells + 2) (slots + 12) (by omega) (by omega) hP hD hS (by rw [← nI_add i 5]; exact hl)
                · skip
                  by_cases c6 : sw = 6
                  · refine lv_tableIn (off := 584) (tgt := 628) hx hb dL_law_44 (by rw [c6]; decide) (by rw [c6]; decide) (by rw [c6]; rfl) (by decide) ?_
                    obtain ⟨g9, r9⟩ := hs6 i S T Tr Sn Hs G Xt Ln Mo O Oq hi5 hR
                    refine cM_6 l D cI cC cT cJ cQ b x ot ou ov oh ox oy ot1 ot2 ou1 ou2 ov1 ov2 rr ox1 ox2 oy1 mh m1 m2 m3 m4 m5 m6 m7 m8 o oq ra rb rc S T Tr Sn Hs G Xt Ln Mo O Oq xs L (nI i) hst hn hcc hx hb hml hown hts hK hX hbl hbA hXE hXN H locs ls cells slots hcr hP hD hS hl g9 (fun z9 hz9 H locs ls hP hD hS hl => ?_)
                    rw [← hz9] at r9
                    exact ih (i + 5) S T Tr Sn Hs G Xt Ln z9.1 z9.2 Oq hi5 (by omega) r9 H locs ls (cells + 2) (slots + 12) (by omega) (by omega) hP hD hS (by rw [← nI_add i 5]; exact hl)
                  · skip
                    by_cases c7 : sw = 7
                    · refine lv_tableIn (off := 652) (tgt := 696) hx hb dL_law_44 (by rw [c7]; decide) (by rw [c7]; decide) (by rw [c7]; rfl) (by decide) ?_
                      obtain ⟨g9, r9⟩ := hs7 i S T Tr Sn Hs G Xt Ln Mo O Oq hi5 hR
                      refine cM_7 l D cI cC cT cJ cQ b x ot ou ov oh ox oy ot1 ot2 ou1 ou2 ov1 ov2 rr ox1 ox2 oy1 mh m1 m2 m3 m4 m5 m6 m7 m8 o oq ra rb rc S T Tr Sn Hs G Xt Ln Mo O Oq xs L (nI i) hst hn hcc hx hb hml hown hts hK hX hbl hbA hXE hXN H locs ls cells slots hcr hP hD hS hl g9 (fun z9 hz9 H locs ls hP hD hS hl => ?_)
                      rw [← hz9] at r9
                      exact ih (i + 5) S T Tr Sn Hs G Xt Ln z9 O Oq hi5 (by omega) r9 H locs ls (cells + 2) (slots + 12) (by omega) (by omega) hP hD hS (by rw [← nI_add i 5]; exact hl)
                    · skip
                      by_cases c8 : sw = 8
                      · refine lv_tableIn (off := 693) (tgt := 737) hx hb dL_law_44 (by rw [c8]; decide) (by rw [c8]; decide) (by rw [c8]; rfl) (by decide) ?_
                        obtain ⟨g9, r9⟩ := hs8 i S T Tr Sn Hs G Xt Ln Mo O Oq hi5 hR
                        refine cM_8 l D cI cC cT cJ cQ b x ot ou ov oh ox oy ot1 ot2 ou1 ou2 ov1 ov2 rr ox1 ox2 oy1 mh m1 m2 m3 m4 m5 m6 m7 m8 o oq ra rb rc S T Tr Sn Hs G Xt Ln Mo O Oq xs L (nI i) hst hn hcc hx hb hml hown hts hK hX hbl hbA hXE hXN H locs ls cells slots hcr hP hD hS hl g9 (fun z9 hz9 H locs ls hP hD hS hl => ?_)
                        rw [← hz9] at r9
                        exact ih (i + 5) S T Tr Sn Hs G Xt Ln z9.1 z9.2 Oq hi5 (by omega) r9 H locs ls (cells + 2) (slots + 12) (by omega) (by omega) hP hD hS (by rw [← nI_add i 5]; exact hl)
                      · skip
                        by_cases c9 : sw = 9
                        · refine lv_tableIn (off := 768) (tgt := 812) hx hb dL_law_44 (by rw [c9]; decide) (by rw [c9]; decide) (by rw [c9]; rfl) (by decide) ?_
                          obtain ⟨g9, r9⟩ := hs9 i S T Tr Sn Hs G Xt Ln Mo O Oq hi5 hR
                          refine cM_9 l D cI cC cT cJ cQ b x ot ou ov oh ox oy ot1 ot2 ou1 ou2 ov1 ov2 rr ox1 ox2 oy1 mh m1 m2 m3 m4 m5 m6 m7 m8 o oq ra rb rc S T Tr Sn Hs G Xt Ln Mo O Oq xs L (nI i) hst hn hcc hx hb hml hown hts hK hX hbl hbA hXE hXN H locs ls cells slots hcr hP hD hS hl g9 (fun z9 hz9 H locs ls hP hD hS hl => ?_)
                          rw [← hz9] at r9
                          exact ih (i + 5) z9.1 z9.2.1 Tr Sn z9.2.2.1 z9.2.2.2.1 Xt Ln z9.2.2.2.2.1 z9.2.2.2.2.2 Oq hi5 (by omega) r9 H locs ls (cells + 2) (slots + 12) (by omega) (by omega) hP hD hS (by rw [← nI_add i 5]; exact hl)
                        · skip
                          by_cases c10 : sw = 10
                          · refine lv_tableIn (off := 836) (tgt := 880) hx hb dL_law_44 (by rw [c10]; decide) (by rw [c10]; decide) (by rw [c10]; rfl) (by decide) ?_
                            obtain ⟨g9, r9⟩ := hs10 i S T Tr Sn Hs G Xt Ln Mo O Oq hi5 hR
                            refine cM_10 l D cI cC cT cJ cQ b x ot ou ov oh ox oy ot1 ot2 ou1 ou2 ov1 ov2 rr ox1 ox2 oy1 mh m1 m2 m3 m4 m5 m6 m7 m8 o oq ra rb rc S T Tr Sn Hs G Xt Ln Mo O Oq xs L (nI i) hst hn hcc hx hb hml hown hts hK hX hbl hbA hXE hXN H locs ls cells slots hcr hP hD hS hl g9 (fun z9 hz9 H locs ls hP hD hS hl => ?_)
                            rw [← hz9] at r9
                            exact ih (i + 5) S T z9.1 Sn Hs G Xt Ln z9.2 O Oq hi5 (by omega) r9 H locs ls (cells + 2) (slots + 12) (by omega) (by omega) hP hD hS (by rw [← nI_add i 5]; exact hl)
                          · skip
                            by_cases c11 : sw = 11
                            · refine lv_tableIn (off := 849) (tgt := 893) hx hb dL_law_44 (by rw [c11]; decide) (by rw [c11]; decide) (by rw [c11]; rfl) (by decide) ?_
                              obtain ⟨g9, r9⟩ := hs11 i S T Tr Sn Hs G Xt Ln Mo O Oq hi5 hR
                              refine cM_11 l D cI cC cT cJ cQ b x ot ou ov oh ox oy ot1 ot2 ou1 ou2 ov1 ov2 rr ox1 ox2 oy1 mh m1 m2 m3 m4 m5 m6 m7 m8 o oq ra rb rc S T Tr Sn Hs G Xt Ln Mo O Oq xs L (nI i) hst hn hcc hx hb hml hown hts hK hX hbl hbA hXE hXN H locs ls cells slots hcr hP hD hS hl g9 (fun z9 hz9 H locs ls hP hD hS hl => ?_)
                              rw [← hz9] at r9
                              exact ih (i + 5) z9.1 z9.2.1 Tr Sn z9.2.2.1 z9.2.2.2.1 Xt Ln z9.2.2.2.2.1 z9.2.2.2.2.2 Oq hi5 (by omega) r9 H locs ls (cells + 2) (slots + 12) (by omega) (by omega) hP hD hS (by rw [← nI_add i 5]; exact hl)
                            · skip
                              by_cases c12 : sw = 12
                              · refine lv_tableIn (off := 917) (tgt := 961) hx hb dL_law_44 (by rw [c12]; decide) (by rw [c12]; decide) (by rw [c12]; rfl) (by decide) ?_
                                obtain ⟨g9, r9⟩ := hs12 i S T Tr Sn Hs G Xt Ln Mo O Oq hi5 hR
                                refine cM_12 l D cI cC cT cJ cQ b x ot ou ov oh ox oy ot1 ot2 ou1 ou2 ov1 ov2 rr ox1 ox2 oy1 mh m1 m2 m3 m4 m5 m6 m7 m8 o oq ra rb rc S T Tr Sn Hs G Xt Ln Mo O Oq xs L (nI i) hst hn hcc hx hb hml hown hts hK hX hbl hbA hXE hXN H locs ls cells slots hcr hP hD hS hl g9 (fun z9 hz9 H locs ls hP hD hS hl => ?_)
                                rw [← hz9] at r9
                                exact ih (i + 5) S T z9.1 Sn Hs G Xt Ln z9.2.1 z9.2.2 Oq hi5 (by omega) r9 H locs ls (cells + 2) (slots + 12) (by omega) (by omega) hP hD hS (by rw [← nI_add i 5]; exact hl)
                              · skip
                                by_cases c13 : sw = 13
                                · refine lv_tableIn (off := 989) (tgt := 1033) hx hb dL_law_44 (by rw [c13]; decide) (by rw [c13]; decide) (by rw [c13]; rfl) (by decide) ?_
                                  obtain ⟨g9, r9⟩ := hs13 i S T Tr Sn Hs G Xt Ln Mo O Oq hi5 hR
                                  refine cM_13 l D cI cC cT cJ cQ b x ot ou ov oh ox oy ot1 ot2 ou1 ou2 ov1 ov2 rr ox1 ox2 oy1 mh m1 m2 m3 m4 m5 m6 m7 m8 o oq ra rb rc S T Tr Sn Hs G Xt Ln Mo O Oq xs L (nI i) hst hn hcc hx hb hml hown hts hK hX hbl hbA hXE hXN H locs ls cells slots hcr hP hD hS hl g9 (fun z9 hz9 H locs ls hP hD hS hl => ?_)
                                  rw [← hz9] at r9
                                  exact ih (i + 5) z9.1 z9.2.1 Tr Sn z9.2.2.1 z9.2.2.2.1 Xt Ln z9.2.2.2.2.1 z9.2.2.2.2.2 Oq hi5 (by omega) r9 H locs ls (cells + 2) (slots + 12) (by omega) (by omega) hP hD hS (by rw [← nI_add i 5]; exact hl)
                                · skip
                                  by_cases c14 : sw = 14
                                  · refine lv_tableIn (off := 1045) (tgt := 1089) hx hb dL_law_44 (by rw [c14]; decide) (by rw [c14]; decide) (by rw [c14]; rfl) (by decide) ?_
                                    obtain ⟨g9, r9⟩ := hs14 i S T Tr Sn Hs G Xt Ln Mo O Oq hi5 hR
                                    refine cM_14 l D cI cC cT cJ cQ b x ot ou ov oh ox oy ot1 ot2 ou1 ou2 ov1 ov2 rr ox1 ox2 oy1 mh m1 m2 m3 m4 m5 m6 m7 m8 o oq ra rb rc S T Tr Sn Hs G Xt Ln Mo O Oq xs L (nI i) hst hn hcc hx hb hml hown hts hK hX hbl hbA hXE hXN H locs ls cells slots hcr hP hD hS hl g9 (fun z9 hz9 H locs ls hP hD hS hl => ?_)
                                    rw [← hz9] at r9
                                    exact ih (i + 5) z9.1 z9.2.1 Tr Sn z9.2.2.1 z9.2.2.2.1 Xt Ln z9.2.2.2.2.1 z9.2.2.2.2.2 Oq hi5 (by omega) r9 H locs ls (cells + 2) (slots + 12) (by omega) (by omega) hP hD hS (by rw [← nI_add i 5]; exact hl)
                                  · skip
                                    by_cases c15 : sw = 15
                                    · refine lv_tableIn (off := 1101) (tgt := 1145) hx hb dL_law_44 (by rw [c15]; decide) (by rw [c15]; decide) (by rw [c15]; rfl) (by decide) ?_
                                      obtain ⟨g9, r9⟩ := hs15 i S T Tr Sn Hs G Xt Ln Mo O Oq hi5 hR
                                      refine cM_15 l D cI cC cT cJ cQ b x ot ou ov oh ox oy ot1 ot2 ou1 ou2 ov1 ov2 rr ox1 ox2 oy1 mh m1 m2 m3 m4 m5 m6 m7 m8 o oq ra rb rc S T Tr Sn Hs G Xt Ln Mo O Oq xs L (nI i) hst hn hcc hx hb hml hown hts hK hX hbl hbA hXE hXN H locs ls cells slots hcr hP hD hS hl g9 (fun z9 hz9 H locs ls hP hD hS hl => ?_)
                                      rw [← hz9] at r9
                                      exact ih (i + 5) S T Tr Sn Hs G Xt Ln z9.1 O z9.2 hi5 (by omega) r9 H locs ls (cells + 2) (slots + 12) (by omega) (by omega) hP hD hS (by rw [← nI_add i 5]; exact hl)
                                    · skip
                                      by_cases c16 : sw = 16
                                      · refine lv_tableIn (off := 1179) (tgt := 1223) hx hb dL_law_44 (by rw [c16]; decide) (by rw [c16]; decide) (by rw [c16]; rfl) (by decide) ?_
                                        obtain ⟨g9, r9⟩ := hs16 i S T Tr Sn Hs G Xt Ln Mo O Oq hi5 hR
                                        refine cM_16 l D cI cC cT cJ cQ b x ot ou ov oh ox oy ot1 ot2 ou1 ou2 ov1 ov2 rr ox1 ox2 oy1 mh m1 m2 m3 m4 m5 m6 m7 m8 o oq ra rb rc S T Tr Sn Hs G Xt Ln Mo O Oq xs L (nI i) hst hn hcc hx hb hml hown hts hK hX hbl hbA hXE hXN H locs ls cells slots hcr hP hD hS hl g9 (fun z9 hz9 H locs ls hP hD hS hl => ?_)
                                        rw [← hz9] at r9
                                        exact ih (i + 5) S T Tr Sn Hs G Xt Ln z9.1 z9.2 Oq hi5 (by omega) r9 H locs ls (cells + 2) (slots + 12) (by omega) (by omega) hP hD hS (by rw [← nI_add i 5]; exact hl)
                                      · skip
                                        by_cases c17 : sw = 17
                                        · refine lv_tableIn (off := 1235) (tgt := 1279) hx hb dL_law_44 (by rw [c17]; decide) (by rw [c17]; decide) (by rw [c17]; rfl) (by decide) ?_
                                          obtain ⟨g9, r9⟩ := hs17 i S T Tr Sn Hs G Xt Ln Mo O Oq hi5 hR
                                          refine cM_17 l D cI cC cT cJ cQ b x ot ou ov oh ox oy ot1 ot2 ou1 ou2 ov1 ov2 rr ox1 ox2 oy1 mh m1 m2 m3 m4 m5 m6 m7 m8 o oq ra rb rc S T Tr Sn Hs G Xt Ln Mo O Oq xs L (nI i) hst hn hcc hx hb hml hown hts hK hX hbl hbA hXE hXN H locs ls cells slots hcr hP hD hS hl g9 (fun z9 hz9 H locs ls hP hD hS hl => ?_)
                                          rw [← hz9] at r9
                                          exact ih (i + 5) S T Tr Sn Hs G Xt Ln z9.1 z9.2 Oq hi5 (by omega) r9 H locs ls (cells + 2) (slots + 12) (by omega) (by omega) hP hD hS (by rw [← nI_add i 5]; exact hl)
                                        · skip
                                          by_cases c18 : sw = 18
                                          · refine lv_tableIn (off := 1303) (tgt := 1347) hx hb dL_law_44 (by rw [c18]; decide) (by rw [c18]; decide) (by rw [c18]; rfl) (by decide) ?_
                                            obtain ⟨g9, r9⟩ := hs18 i S T Tr Sn Hs G Xt Ln Mo O Oq hi5 hR
                                            refine cM_18 l D cI cC cT cJ cQ b x ot ou ov oh ox oy ot1 ot2 ou1 ou2 ov1 ov2 rr ox1 ox2 oy1 mh m1 m2 m3 m4 m5 m6 m7 m8 o oq ra rb rc S T Tr Sn Hs G Xt Ln Mo O Oq xs L (nI i) hst hn hcc hx hb hml hown hts hK hX hbl hbA hXE hXN H locs ls cells slots hcr hP hD hS hl g9 (fun z9 hz9 H locs ls hP hD hS hl => ?_)
                                            rw [← hz9] at r9
                                            exact ih (i + 5) S T Tr Sn Hs G Xt Ln z9.1 O z9.2 hi5 (by omega) r9 H locs ls (cells + 2) (slots + 12) (by omega) (by omega) hP hD hS (by rw [← nI_add i 5]; exact hl)
                                          · skip
                                            by_cases c19 : sw = 19
                                            · refine lv_tableIn (off := 1381) (tgt := 1425) hx hb dL_law_44 (by rw [c19]; decide) (by rw [c19]; decide) (by rw [c19]; rfl) (by decide) ?_
                                              obtain ⟨g9, r9⟩ := hs19 i S T Tr Sn Hs G Xt Ln Mo O Oq hi5 hR
                                              refine cM_19 l D cI cC cT cJ cQ b x ot ou ov oh ox oy ot1 ot2 ou1 ou2 ov1 ov2 rr ox1 ox2 oy1 mh m1 m2 m3 m4 m5 m6 m7 m8 o oq ra rb rc S T Tr Sn Hs G Xt Ln Mo O Oq xs L (nI i) hst hn hcc hx hb hml hown hts hK hX hbl hbA hXE hXN H locs ls cells slots hcr hP hD hS hl g9 (fun z9 hz9 H locs ls hP hD hS hl => ?_)
                                              rw [← hz9] at r9
                                              exact ih (i + 5) S T Tr Sn Hs G Xt Ln z9 O Oq hi5 (by omega) r9 H locs ls (cells + 2) (slots + 12) (by omega) (by omega) hP hD hS (by rw [← nI_add i 5]; exact hl)
                                            · skip
                                              by_cases c20 : sw = 20
                                              · refine lv_tableIn (off := 1394) (tgt := 1438) hx hb dL_law_44 (by rw [c20]; decide) (by rw [c20]; decide) (by rw [c20]; rfl) (by decide) ?_
                                                obtain ⟨g9, r9⟩ := hs20 i S T Tr Sn Hs G Xt Ln Mo O Oq hi5 hR
                                                refine cM_20 l D cI cC cT cJ cQ b x ot ou ov oh ox oy ot1 ot2 ou1 ou2 ov1 ov2 rr ox1 ox2 oy1 mh m1 m2 m3 m4 m5 m6 m7 m8 o oq ra rb rc S T Tr Sn Hs G Xt Ln Mo O Oq xs L (nI i) hst hn hcc hx hb hml hown hts hK hX hbl hbA hXE hXN H locs ls cells slots hcr hP hD hS hl g9 (fun z9 hz9 H locs ls hP hD hS hl => ?_)
                                                rw [← hz9] at r9
                                                exact ih (i + 5) S z9.1 Tr Sn z9.2.1 z9.2.2.1 Xt Ln z9.2.2.2 O Oq hi5 (by omega) r9 H locs ls (cells + 2) (slots + 12) (by omega) (by omega) hP hD hS (by rw [← nI_add i 5]; exact hl)
                                              · skip
                                                by_cases c21 : sw = 21
                                                · refine lv_tableIn (off := 1407) (tgt := 1451) hx hb dL_law_44 (by rw [c21]; decide) (by rw [c21]; decide) (by rw [c21]; rfl) (by decide) ?_
                                                  obtain ⟨g9, r9⟩ := hs21 i S T Tr Sn Hs G Xt Ln Mo O Oq hi5 hR
                                                  refine cM_21 l D cI cC cT cJ cQ b x ot ou ov oh ox oy ot1 ot2 ou1 ou2 ov1 ov2 rr ox1 ox2 oy1 mh m1 m2 m3 m4 m5 m6 m7 m8 o oq ra rb rc S T Tr Sn Hs G Xt Ln Mo O Oq xs L (nI i) hst hn hcc hx hb hml hown hts hK hX hbl hbA hXE hXN H locs ls cells slots hcr hP hD hS hl g9 (fun z9 hz9 H locs ls hP hD hS hl => ?_)
                                                  rw [← hz9] at r9
                                                  exact ih (i + 5) S T Tr Sn Hs G Xt Ln z9.1 z9.2 Oq hi5 (by omega) r9 H locs ls (cells + 2) (slots + 12) (by omega) (by omega) hP hD hS (by rw [← nI_add i 5]; exact hl)
                                                · skip
                                                  by_cases c22 : sw = 22
                                                  · refine lv_tableIn (off := 1463) (tgt := 1507) hx hb dL_law_44 (by rw [c22]; decide) (by rw [c22]; decide) (by rw [c22]; rfl) (by decide) ?_
                                                    obtain ⟨g9, r9⟩ := hs22 i S T Tr Sn Hs G Xt Ln Mo O Oq hi5 hR
                                                    refine cM_22 l D cI cC cT cJ cQ b x ot ou ov oh ox oy ot1 ot2 ou1 ou2 ov1 ov2 rr ox1 ox2 oy1 mh m1 m2 m3 m4 m5 m6 m7 m8 o oq ra rb rc S T Tr Sn Hs G Xt Ln Mo O Oq xs L (nI i) hst hn hcc hx hb hml hown hts hK hX hbl hbA hXE hXN H locs ls cells slots hcr hP hD hS hl g9 (fun z9 hz9 H locs ls hP hD hS hl => ?_)
                                                    rw [← hz9] at r9
                                                    exact ih (i + 5) S T Tr Sn Hs G Xt Ln z9.1 z9.2 Oq hi5 (by omega) r9 H locs ls (cells + 2) (slots + 12) (by omega) (by omega) hP hD hS (by rw [← nI_add i 5]; exact hl)
                                                  · skip
                                                    by_cases c23 : sw = 23
                                                    · refine lv_tableIn (off := 1519) (tgt := 1563) hx hb dL_law_44 (by rw [c23]; decide) (by rw [c23]; decide) (by rw [c23]; rfl) (by decide) ?_
                                                      obtain ⟨g9, r9⟩ := hs23 i S T Tr Sn Hs G Xt Ln Mo O Oq hi5 hR
                                                      refine cM_23 l D cI cC cT cJ cQ b x ot ou ov oh ox oy ot1 ot2 ou1 ou2 ov1 ov2 rr ox1 ox2 oy1 mh m1 m2 m3 m4 m5 m6 m7 m8 o oq ra rb rc S T Tr Sn Hs G Xt Ln Mo O Oq xs L (nI i) hst hn hcc hx hb hml hown hts hK hX hbl hbA hXE hXN H locs ls cells slots hcr hP hD hS hl g9 (fun z9 hz9 H locs ls hP hD hS hl => ?_)
                                                      rw [← hz9] at r9
                                                      exact ih (i + 5) S T Tr Sn Hs G Xt z9.1 z9.2 O Oq hi5 (by omega) r9 H locs ls (cells + 2) (slots + 12) (by omega) (by omega) hP hD hS (by rw [← nI_add i 5]; exact hl)
                                                    · skip
                                                      by_cases c24 : sw = 24
                                                      · refine lv_tableIn (off := 1532) (tgt := 1576) hx hb dL_law_44 (by rw [c24]; decide) (by rw [c24]; decide) (by rw [c24]; rfl) (by decide) ?_
                                                        obtain ⟨g9, r9⟩ := hs24 i S T Tr Sn Hs G Xt Ln Mo O Oq hi5 hR
                                                        refine cM_24 l D cI cC cT cJ cQ b x ot ou ov oh ox oy ot1 ot2 ou1 ou2 ov1 ov2 rr ox1 ox2 oy1 mh m1 m2 m3 m4 m5 m6 m7 m8 o oq ra rb rc S T Tr Sn Hs G Xt Ln Mo O Oq xs L (nI i) hst hn hcc hx hb hml hown hts hK hX hbl hbA hXE hXN H locs ls cells slots hcr hP hD hS hl g9 (fun z9 hz9 H locs ls hP hD hS hl => ?_)
                                                        rw [← hz9] at r9
                                                        exact ih (i + 5) S T Tr Sn Hs G Xt z9.1 z9.2.1 z9.2.2 Oq hi5 (by omega) r9 H locs ls (cells + 2) (slots + 12) (by omega) (by omega) hP hD hS (by rw [← nI_add i 5]; exact hl)
                                                      · skip
                                                        by_cases c25 : sw = 25
                                                        · refine lv_tableIn (off := 1588) (tgt := 1632) hx hb dL_law_44 (by rw [c25]; decide) (by rw [c25]; decide) (by rw [c25]; rfl) (by decide) ?_
                                                          obtain ⟨g9, r9⟩ := hs25 i S T Tr Sn Hs G Xt Ln Mo O Oq hi5 hR
                                                          refine cM_25 l D cI cC cT cJ cQ b x ot ou ov oh ox oy ot1 ot2 ou1 ou2 ov1 ov2 rr ox1 ox2 oy1 mh m1 m2 m3 m4 m5 m6 m7 m8 o oq ra rb rc S T Tr Sn Hs G Xt Ln Mo O Oq xs L (nI i) hst hn hcc hx hb hml hown hts hK hX hbl hbA hXE hXN H locs ls cells slots hcr hP hD hS hl g9 (fun z9 hz9 H locs ls hP hD hS hl => ?_)
                                                          rw [← hz9] at r9
                                                          exact ih (i + 5) S T Tr Sn Hs G Xt Ln z9.1 z9.2 Oq hi5 (by omega) r9 H locs ls (cells + 2) (slots + 12) (by omega) (by omega) hP hD hS (by rw [← nI_add i 5]; exact hl)
                                                        · skip
                                                          by_cases c26 : sw = 26
                                                          · refine lv_tableIn (off := 1644) (tgt := 1688) hx hb dL_law_44 (by rw [c26]; decide) (by rw [c26]; decide) (by rw [c26]; rfl) (by decide) ?_
                                                            obtain ⟨g9, r9⟩ := hs26 i S T Tr Sn Hs G Xt Ln Mo O Oq hi5 hR
                                                            refine cM_26 l D cI cC cT cJ cQ b x ot ou ov oh ox oy ot1 ot2 ou1 ou2 ov1 ov2 rr ox1 ox2 oy1 mh m1 m2 m3 m4 m5 m6 m7 m8 o oq ra rb rc S T Tr Sn Hs G Xt Ln Mo O Oq xs L (nI i) hst hn hcc hx hb hml hown hts hK hX hbl hbA hXE hXN H locs ls cells slots hcr hP hD hS hl g9 (fun z9 hz9 H locs ls hP hD hS hl => ?_)
                                                            rw [← hz9] at r9
                                                            exact ih (i + 5) S T Tr Sn Hs G z9.1 Ln z9.2.1 z9.2.2 Oq hi5 (by omega) r9 H locs ls (cells + 2) (slots + 12) (by omega) (by omega) hP hD hS (by rw [← nI_add i 5]; exact hl)
                                                          · skip
                                                            by_cases c27 : sw = 27
                                                            · refine lv_tableIn (off := 1702) (tgt := 1746) hx hb dL_law_44 (by rw [c27]; decide) (by rw [c27]; decide) (by rw [c27]; rfl) (by decide) ?_
                                                              obtain ⟨g9, r9⟩ := hs27 i S T Tr Sn Hs G Xt Ln Mo O Oq hi5 hR
                                                              refine cM_27 l D cI cC cT cJ cQ b x ot ou ov oh ox oy ot1 ot2 ou1 ou2 ov1 ov2 rr ox1 ox2 oy1 mh m1 m2 m3 m4 m5 m6 m7 m8 o oq ra rb rc S T Tr Sn Hs G Xt Ln Mo O Oq xs L (nI i) hst hn hcc hx hb hml hown hts hK hX hbl hbA hXE hXN H locs ls cells slots hcr hP hD hS hl g9 (fun z9 hz9 H locs ls hP hD hS hl => ?_)
                                                              rw [← hz9] at r9
                                                              exact ih (i + 5) z9.1 z9.2.1 Tr Sn z9.2.2.1 z9.2.2.2.1 z9.2.2.2.2.1 Ln z9.2.2.2.2.2.1 z9.2.2.2.2.2.2 Oq hi5 (by omega) r9 H locs ls (cells + 2) (slots + 12) (by omega) (by omega) hP hD hS (by rw [← nI_add i 5]; exact hl)
                                                            · skip
                                                              by_cases c28 : sw = 28
                                                              · refine lv_tableIn (off := 1746) (tgt := 1790) hx hb dL_law_44 (by rw [c28]; decide) (by rw [c28]; decide) (by rw [c28]; rfl) (by decide) ?_
                                                                obtain ⟨g9, r9⟩ := hs28 i S T Tr Sn Hs G Xt Ln Mo O Oq hi5 hR
                                                                refine cM_28 l D cI cC cT cJ cQ b x ot ou ov oh ox oy ot1 ot2 ou1 ou2 ov1 ov2 rr ox1 ox2 oy1 mh m1 m2 m3 m4 m5 m6 m7 m8 o oq ra rb rc S T Tr Sn Hs G Xt Ln Mo O Oq xs L (nI i) hst hn hcc hx hb hml hown hts hK hX hbl hbA hXE hXN H locs ls cells slots hcr hP hD hS hl g9 (fun z9 hz9 H locs ls hP hD hS hl => ?_)
                                                                rw [← hz9] at r9
                                                                exact ih (i + 5) S T Tr Sn Hs G Xt Ln z9 O Oq hi5 (by omega) r9 H locs ls (cells + 2) (slots + 12) (by omega) (by omega) hP hD hS (by rw [← nI_add i 5]; exact hl)
                                                              · skip
                                                                by_cases c29 : sw = 29
                                                                · refine lv_tableIn (off := 1759) (tgt := 1803) hx hb dL_law_44 (by rw [c29]; decide) (by rw [c29]; decide) (by rw [c29]; rfl) (by decide) ?_
                                                                  obtain ⟨g9, r9⟩ := hs29 i S T Tr Sn Hs G Xt Ln Mo O Oq hi5 hR
                                                                  refine cM_29 l D cI cC cT cJ cQ b x ot ou ov oh ox oy ot1 ot2 ou1 ou2 ov1 ov2 rr ox1 ox2 oy1 mh m1 m2 m3 m4 m5 m6 m7 m8 o oq ra rb rc S T Tr Sn Hs G Xt Ln Mo O Oq xs L (nI i) hst hn hcc hx hb hml hown hts hK hX hbl hbA hXE hXN H locs ls cells slots hcr hP hD hS hl g9 (fun z9 hz9 H locs ls hP hD hS hl => ?_)
                                                                  rw [← hz9] at r9
                                                                  exact ih (i + 5) S T Tr Sn Hs G Xt Ln z9.1 z9.2 Oq hi5 (by omega) r9 H locs ls (cells + 2) (slots + 12) (by omega) (by omega) hP hD hS (by rw [← nI_add i 5]; exact hl)
                                                                · skip
                                                                  by_cases c30 : sw = 30
                                                                  · refine lv_tableIn (off := 1831) (tgt := 1875) hx hb dL_law_44 (by rw [c30]; decide) (by rw [c30]; decide) (by rw [c30]; rfl) (by decide) ?_
                                                                    obtain ⟨g9, r9⟩ := hs30 i S T Tr Sn Hs G Xt Ln Mo O Oq hi5 hR
                                                                    refine cM_30 l D cI cC cT cJ cQ b x ot ou ov oh ox oy ot1 ot2 ou1 ou2 ov1 ov2 rr ox1 ox2 oy1 mh m1 m2 m3 m4 m5 m6 m7 m8 o oq ra rb rc S T Tr Sn Hs G Xt Ln Mo O Oq xs L (nI i) hst hn hcc hx hb hml hown hts hK hX hbl hbA hXE hXN H locs ls cells slots hcr hP hD hS hl g9 (fun z9 hz9 H locs ls hP hD hS hl => ?_)
                                                                    rw [← hz9] at r9
                                                                    exact ih (i + 5) S T Tr Sn Hs G Xt Ln z9.1 z9.2 Oq hi5 (by omega) r9 H locs ls (cells + 2) (slots + 12) (by omega) (by omega) hP hD hS (by rw [← nI_add i 5]; exact hl)
                                                                  · skip
                                                                    by_cases c31 : sw = 31
                                                                    · refine lv_tableIn (off := 1887) (tgt := 1931) hx hb dL_law_44 (by rw [c31]; decide) (by rw [c31]; decide) (by rw [c31]; rfl) (by decide) ?_
                                                                      obtain ⟨g9, r9⟩ := hs31 i S T Tr Sn Hs G Xt Ln Mo O Oq hi5 hR
                                                                      refine cM_31 l D cI cC cT cJ cQ b x ot ou ov oh ox oy ot1 ot2 ou1 ou2 ov1 ov2 rr ox1 ox2 oy1 mh m1 m2 m3 m4 m5 m6 m7 m8 o oq ra rb rc S T Tr Sn Hs G Xt Ln Mo O Oq xs L (nI i) hst hn hcc hx hb hml hown hts hK hX hbl hbA hXE hXN H locs ls cells slots hcr hP hD hS hl g9 (fun z9 hz9 H locs ls hP hD hS hl => ?_)
                                                                      rw [← hz9] at r9
                                                                      exact ih (i + 5) S T Tr Sn Hs G Xt Ln z9 O Oq hi5 (by omega) r9 H locs ls (cells + 2) (slots + 12) (by omega) (by omega) hP hD hS (by rw [← nI_add i 5]; exact hl)
                                                                    · skip
                                                                      by_cases c32 : sw = 32
                                                                      · refine lv_tableIn (off := 1900) (tgt := 1944) hx hb dL_law_44 (by rw [c32]; decide) (by rw [c32]; decide) (by rw [c32]; rfl) (by decide) ?_
                                                                        obtain ⟨g9, r9⟩ := hs32 i S T Tr Sn Hs G Xt Ln Mo O Oq hi5 hR
                                                                        refine cM_32 l D cI cC cT cJ cQ b x ot ou ov oh ox oy ot1 ot2 ou1 ou2 ov1 ov2 rr ox1 ox2 oy1 mh m1 m2 m3 m4 m5 m6 m7 m8 o oq ra rb rc S T Tr Sn Hs G Xt Ln Mo O Oq xs L (nI i) hst hn hcc hx hb hml hown hts hK hX hbl hbA hXE hXN H locs ls cells slots hcr hP hD hS hl g9 (fun z9 hz9 H locs ls hP hD hS hl => ?_)
                                                                        rw [← hz9] at r9
                                                                        exact ih (i + 5) S T Tr Sn Hs G Xt Ln z9.1 O z9.2 hi5 (by omega) r9 H locs ls (cells + 2) (slots + 12) (by omega) (by omega) hP hD hS (by rw [← nI_add i 5]; exact hl)
                                                                      · skip
                                                                        by_cases c33 : sw = 33
                                                                        · refine lv_tableIn (off := 1965) (tgt := 2009) hx hb dL_law_44 (by rw [c33]; decide) (by rw [c33]; decide) (by rw [c33]; rfl) (by decide) ?_
                                                                          obtain ⟨g9, r9⟩ := hs33 i S T Tr Sn Hs G Xt Ln Mo O Oq hi5 hR
                                                                          refine cM_33 l D cI cC cT cJ cQ b x ot ou ov oh ox oy ot1 ot2 ou1 ou2 ov1 ov2 rr ox1 ox2 oy1 mh m1 m2 m3 m4 m5 m6 m7 m8 o oq ra rb rc S T Tr Sn Hs G Xt Ln Mo O Oq xs L (nI i) hst hn hcc hx hb hml hown hts hK hX hbl hbA hXE hXN H locs ls cells slots hcr hP hD hS hl g9 (fun z9 hz9 H locs ls hP hD hS hl => ?_)
                                                                          rw [← hz9] at r9
                                                                          exact ih (i + 5) S z9.1 Tr Sn z9.2.1 G Xt Ln z9.2.2.1 z9.2.2.2 Oq hi5 (by omega) r9 H locs ls (cells + 2) (slots + 12) (by omega) (by omega) hP hD hS (by rw [← nI_add i 5]; exact hl)
                                                                        · skip
                                                                          by_cases c34 : sw = 34
                                                                          · refine lv_tableIn (off := 2009) (tgt := 2053) hx hb dL_law_44 (by rw [c34]; decide) (by rw [c34]; decide) (by rw [c34]; rfl) (by decide) ?_
                                                                            obtain ⟨g9, r9⟩ := hs34 i S T Tr Sn Hs G Xt Ln Mo O Oq hi5 hR
                                                                            refine cM_34 l D cI cC cT cJ cQ b x ot ou ov oh ox oy ot1 ot2 ou1 ou2 ov1 ov2 rr ox1 ox2 oy1 mh m1 m2 m3 m4 m5 m6 m7 m8 o oq ra rb rc S T Tr Sn Hs G Xt Ln Mo O Oq xs L (nI i) hst hn hcc hx hb hml hown hts hK hX hbl hbA hXE hXN H locs ls cells slots hcr hP hD hS hl g9 (fun z9 hz9 H locs ls hP hD hS hl => ?_)
                                                                            rw [← hz9] at r9
                                                                            exact ih (i + 5) z9.1 T Tr z9.2.1 Hs G Xt Ln z9.2.2 O Oq hi5 (by omega) r9 H locs ls (cells + 2) (slots + 12) (by omega) (by omega) hP hD hS (by rw [← nI_add i 5]; exact hl)
                                                                          · skip
                                                                            by_cases c35 : sw = 35
                                                                            · refine lv_tableIn (off := 2022) (tgt := 2066) hx hb dL_law_44 (by rw [c35]; decide) (by rw [c35]; decide) (by rw [c35]; rfl) (by decide) ?_
                                                                              obtain ⟨g9, r9⟩ := hs35 i S T Tr Sn Hs G Xt Ln Mo O Oq hi5 hR
                                                                              refine cM_35 l D cI cC cT cJ cQ b x ot ou ov oh ox oy ot1 ot2 ou1 ou2 ov1 ov2 rr ox1 ox2 oy1 mh m1 m2 m3 m4 m5 m6 m7 m8 o oq ra rb rc S T Tr Sn Hs G Xt Ln Mo O Oq xs L (nI i) hst hn hcc hx hb hml hown hts hK hX hbl hbA hXE hXN H locs ls cells slots hcr hP hD hS hl g9 (fun z9 hz9 H locs ls hP hD hS hl => ?_)
                                                                              rw [← hz9] at r9
                                                                              exact ih (i + 5) S z9.1 Tr Sn z9.2.1 G Xt Ln z9.2.2.1 z9.2.2.2 Oq hi5 (by omega) r9 H locs ls (cells + 2) (slots + 12) (by omega) (by omega) hP hD hS (by rw [← nI_add i 5]; exact hl)
                                                                            · skip
                                                                              refine lv_tableDef (tgt := 2110) [0, 1, 2, 3, 4, 5, 6, 7, 8, 9, 10, 11, 12, 13, 14, 15, 16, 17, 18, 19, 20, 21, 22, 23, 24, 25, 26, 27, 28, 29, 30, 31, 32, 33, 34, 35] hx hb dL_law_44 (by decide) (by decide) (List.forall_mem_cons.mpr ⟨tn c0 (by decide), List.forall_mem_cons.mpr ⟨tn c1 (by decide), List.forall_mem_cons.mpr ⟨tn c2 (by decide), List.forall_mem_cons.mpr ⟨tn c3 (by decide), List.forall_mem_cons.mpr ⟨tn c4 (by decide), List.forall_mem_cons.mpr ⟨tn c5 (by decide), List.forall_mem_cons.mpr ⟨tn c6 (by decide), List.forall_mem_cons.mpr ⟨tn c7 (by decide), List.forall_mem_cons.mpr ⟨tn c8 (by decide), List.forall_mem_cons.mpr ⟨tn c9 (by decide), List.forall_mem_cons.mpr ⟨tn c10 (by decide), List.forall_mem_cons.mpr ⟨tn c11 (by decide), List.forall_mem_cons.mpr ⟨tn c12 (by decide), List.forall_mem_cons.mpr ⟨tn c13 (by decide), List.forall_mem_cons.mpr ⟨tn c14 (by decide), List.forall_mem_cons.mpr ⟨tn c15 (by decide), List.forall_mem_cons.mpr ⟨tn c16 (by decide), List.forall_mem_cons.mpr ⟨tn c17 (by decide), List.forall_mem_cons.mpr ⟨tn c18 (by decide), List.forall_mem_cons.mpr ⟨tn c19 (by decide), List.forall_mem_cons.mpr ⟨tn c20 (by decide), List.forall_mem_cons.mpr ⟨tn c21 (by decide), List.forall_mem_cons.mpr ⟨tn c22 (by decide), List.forall_mem_cons.mpr ⟨tn c23 (by decide), List.forall_mem_cons.mpr ⟨tn c24 (by decide), List.forall_mem_cons.mpr ⟨tn c25 (by decide), List.forall_mem_cons.mpr ⟨tn c26 (by decide), List.forall_mem_cons.mpr ⟨tn c27 (by decide), List.forall_mem_cons.mpr ⟨tn c28 (by decide), List.forall_mem_cons.mpr ⟨tn c29 (by decide), List.forall_mem_cons.mpr ⟨tn c30 (by decide), List.forall_mem_cons.mpr ⟨tn c31 (by decide), List.forall_mem_cons.mpr ⟨tn c32 (by decide), List.forall_mem_cons.mpr ⟨tn c33 (by decide), List.forall_mem_cons.mpr ⟨tn c34 (by decide), List.forall_mem_cons.mpr ⟨tn c35 (by decide), List.forall_mem_nil _⟩⟩⟩⟩⟩⟩⟩⟩⟩⟩⟩⟩⟩⟩⟩⟩⟩⟩⟩⟩⟩⟩⟩⟩⟩⟩⟩⟩⟩⟩⟩⟩⟩⟩⟩⟩) (by decide) ?_
                                                                              refine lv_iinc (v := (nI i + 5)) (lv' := [(5, .int (nI i + 5)), (0, .ref b), (1, .ref x), (2, .ref mh), (3, .ref o), (4, .ref oq)]) hx hb dL_law_2110 hl (k := 5) rfl rfl (by decide) rfl (fun ls hl => ?_)
                                                                              refine lv_goto (tgt := 28) hx hb dL_law_2113 (by decide) ?_
                                                                              exact ih (i + 5) S T Tr Sn Hs G Xt Ln Mo O Oq hi5 (by omega) (hsd i S T Tr Sn Hs G Xt Ln Mo O Oq hi5 hR) H locs ls cells slots (by omega) (by omega) hP hD hS (by rw [← nI_add i 5]; exact lv_sub hl [1, 2, 3, 4, 5, 0] rfl)
