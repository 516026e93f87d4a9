/-! The start: all is zero, the purse is six -/
theorem tv0_eq : tvOf sv0.1 = tv0 := by
  have e1 : (fun j => if j < 72 then sv0.1 (6 + j) else 0) = (fun _ => (0 : Int32)) := by
    funext j
    by_cases h : j < 72
    · rw [if_pos h]
      show (if 6 + j = (2 : Int32).toNatClampNeg then (6 : Int32) else 0) = 0
      rw [c2', if_neg (by omega)]
    · rw [if_neg h]
  have e2 : (fun j => if j < 36 then sv0.1 (78 + j) else 0) = (fun _ => (0 : Int32)) := by
    funext j
    by_cases h : j < 36
    · rw [if_pos h]
      show (if 78 + j = (2 : Int32).toNatClampNeg then (6 : Int32) else 0) = 0
      rw [c2', if_neg (by omega)]
    · rw [if_neg h]
  show ((fun j => if j < 72 then sv0.1 (6 + j) else 0), (fun j => if j < 36 then sv0.1 (78 + j) else 0), sv0.1 0, sv0.1 1, sv0.1 2, sv0.1 3, sv0.1 4, sv0.1 5) = tv0
  rw [e1, e2]; rfl
theorem wt0 : WT 0 0 0 sv0.1 :=
  ⟨⟨rfl, rfl, by omega, by omega, by decide, by decide⟩, fun i hi => absurd hi (by omega), fun k hk => absurd hk (by omega)⟩
theorem Rel0 (O : Nat → Int64) (Oq : Nat → UInt64) : Rel 0 cv0 tv0 tv0 tv0 hv0 (fun _ => tv0) xv0 lv0 sv0 O Oq :=
  ⟨0, 0, by omega, ⟨0, 0, wt0⟩, tv0_eq.symm, rfl, ⟨0, 0, by omega, by omega, rfl, rfl, fun k hk => absurd hk (by omega)⟩, ⟨rfl, rfl, by omega, fun t ht => absurd ht (by omega)⟩, ⟨0, by omega, rfl, rfl, fun t ht => absurd ht (by omega), fun t => rfl⟩, rfl, .inl rfl, rfl, rfl, rfl⟩
