
theorem arr_of {s : State} {A : Array Value} {ty : FieldType} (h : (Cond.arrayClass ty).before A s = true) : ∃ c, ArrOfT s c ty ∧ s.vm.findClass ("[" ++ ty.toString) = some c := by
  obtain ⟨c, k, comp, h1, h2, h3⟩ := Cond.arrayClass_spec h
  exact ⟨c, fun n z => ⟨(fun _ e => by cases e), k, h2, comp, h3⟩, h1⟩
theorem arr_ofO {s : State} {A : Array Value} {C : String} (h : (Cond.arrayOver (.object C)).before A s = true) : ∃ c, ArrOfT s c (.object C) ∧ va_RA s c (.object C) := by
  obtain ⟨comp, c, k, h1, h2, h3, h4, h5⟩ := Cond.arrayOver_spec h
  exact ⟨c, fun n z => ⟨(fun _ e => by cases e), k, h3, comp, h4⟩, k, comp, h3, h4, h1, h5⟩
theorem start_K {s : State} {A : Array Value} (hts : ∀ w ∈ lw_tbl, w.before A s = true) (iJ0 : ∀ w ∈ u_ws RJ0 TJ0 2, w ∈ lw_tbl) (iJ1 : ∀ w ∈ u_ws RJx00060 TJx00060 6, w ∈ lw_tbl) (i1 : ∀ w ∈ u_ws RX1 TX1 3, w ∈ lw_tbl) (i2 : ∀ w ∈ u_ws RX2 TX2 2, w ∈ lw_tbl) (i3 : ∀ w ∈ u_ws RX3 TX3 8, w ∈ lw_tbl) (i4 : ∀ w ∈ u_ws RX4 TX4 5, w ∈ lw_tbl) (i5 : ∀ w ∈ u_ws RX5 TX5 10, w ∈ lw_tbl) (i6 : ∀ w ∈ u_ws RX6 TX6 20, w ∈ lw_tbl) : ∃ (D : va_G) (cI cC cT cJ cD : ClassId), va_K D vwCl (TY5 cI cC cT cJ cD) s := by
  obtain ⟨k0, j0, e0⟩ := u_known (N := 2) (n := 4) hts iJ0 (hts _ (by decide +kernel))
  obtain ⟨k1, j1, e1⟩ := u_known (N := 6) (n := 6) hts iJ1 (hts _ (by decide +kernel))
  obtain ⟨k2, j2, e2⟩ := u_known (N := 3) (n := 3) hts i1 (hts _ (by decide +kernel))
  obtain ⟨k3, j3, e3⟩ := u_known (N := 2) (n := 2) hts i2 (hts _ (by decide +kernel))
  obtain ⟨k4, j4, e4⟩ := u_known (N := 8) (n := 8) hts i3 (hts _ (by decide +kernel))
  obtain ⟨k5, j5, e5⟩ := u_known (N := 5) (n := 5) hts i4 (hts _ (by decide +kernel))
  obtain ⟨k6, j6, e6⟩ := u_known (N := 10) (n := 10) hts i5 (hts _ (by decide +kernel))
  obtain ⟨k7, j7, e7⟩ := u_known (N := 20) (n := 20) hts i6 (hts _ (by decide +kernel))
  obtain ⟨cI, aI, fI⟩ := arr_of (hts (.arrayClass .int) (by decide +kernel))
  obtain ⟨cC, aC, fC⟩ := arr_of (hts (.arrayClass .char) (by decide +kernel))
  obtain ⟨cJ, aJ, fJ⟩ := arr_of (hts (.arrayClass .long) (by decide +kernel))
  obtain ⟨cD, aD, fD⟩ := arr_of (hts (.arrayClass .double) (by decide +kernel))
  obtain ⟨cT, aT, fT⟩ := arr_ofO (hts (.arrayOver (.object "TavernStools$Tavern")) (by decide +kernel))
  refine ⟨(fun k => [k0, k1, k2, k3, k4, k5, k6, k7].getD k k0, fun k => [j0, j1, j2, j3, j4, j5, j6, j7].getD k j0), cI, cC, cT, cJ, cD, ?_, ?_⟩
  · intro k q hq
    match k, hq with
    | 0, hq => cases hq; exact e0
    | 1, hq => cases hq; exact e1
    | 2, hq => cases hq; exact e2
    | 3, hq => cases hq; exact e3
    | 4, hq => cases hq; exact e4
    | 5, hq => cases hq; exact e5
    | 6, hq => cases hq; exact e6
    | 7, hq => cases hq; exact e7
    | k + 8, hq => simp [vwCl] at hq
  · intro k q hq
    match k, hq with
    | 0, hq => cases hq; exact ⟨aI, fI⟩
    | 1, hq => cases hq; exact ⟨aC, fC⟩
    | 2, hq => cases hq; exact ⟨aT, fT⟩
    | 3, hq => cases hq; exact ⟨aJ, fJ⟩
    | 4, hq => cases hq; exact ⟨aD, fD⟩
    | k + 5, hq => simp [TY5] at hq
