theorem str_at {s : State} {A : Array Value} {k : Nat} {tx : String} (h1 : (Cond.stringRef RX5 k tx).before A s = true) (h2 : (Cond.exactly (.string RX5 k) "java/lang/String").before A s = true) : ∃ sa : Nat, vk_R RX5 k tx sa s := by
  obtain ⟨a, c, k', kl, ha, h3⟩ := Cond.exactly_spec h2
  exact ⟨a, vk_R.of h1 ha⟩
theorem s_castable : ∀ E ∈ xNm, Cond.castable E E ∈ lw_tbl := by decide +kernel
theorem s_declares : ∀ Y ∈ xDc, Cond.declares (Bundle.initS Y) ∈ lw_tbl := by decide +kernel
theorem s_str : ∀ q ∈ xTx, Cond.stringRef RX5 q.1 q.2 ∈ lw_tbl := by decide +kernel
theorem s_exact : ∀ q ∈ xTx, Cond.exactly (.string RX5 q.1) "java/lang/String" ∈ flatC (Jvm.Cond.and given_1 narrow_1) := by decide +kernel
theorem start_E {s : State} {b : Nat} (hts : ∀ w ∈ lw_tbl, w.before #[Value.ref b] s = true) (hgv : (Jvm.Cond.and given_1 narrow_1).before #[Value.ref b] s = true) : xE (fun q : Nat => s.heap.size ≤ q) s ∧ xN s ∧ cN s := by
  have hs := flat_of_before _ hgv
  have hA : ∀ a : Nat, a < s.heap.size → ¬ (fun q : Nat => s.heap.size ≤ q) a := fun a h => Nat.not_le.mpr h
  refine ⟨⟨⟨fun E hE => va_Nw.of rfl (hts _ (s_castable E hE)), fun Y hY => va_Nw.of rfl (hts _ (s_declares Y hY))⟩, fun q hq => str_at (hts _ (s_str q hq)) (hs _ (s_exact q hq)), vx_Zqof (hts _ (by decide +kernel)) (hts _ (by decide +kernel)) (hs _ (by decide +kernel)) hA, vx_Zqof (hts _ (by decide +kernel)) (hts _ (by decide +kernel)) (hs _ (by decide +kernel)) hA⟩, ⟨va_Nc.of (hs _ (by decide +kernel)), va_Nc.of (hs _ (by decide +kernel)), va_Nc.of (hs _ (by decide +kernel))⟩, va_AO.of (hts _ (by decide +kernel)), va_Nw.of rfl (hts _ (by decide +kernel)), va_Nw.of rfl (hts _ (by decide +kernel)), va_Nw.of rfl (hts _ (by decide +kernel)), va_Nw.of rfl (hts _ (by decide +kernel))⟩
