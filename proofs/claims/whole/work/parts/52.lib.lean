/-! Folds, sums, and loops by them -/
def fo {α : Type} (step : α → Nat → α) : Nat → Nat → α → α
  | _, 0, a => a
  | k, c + 1, a => fo step (k + 1) c (step a k)
theorem fo_succ {α : Type} (step : α → Nat → α) : ∀ (c k : Nat) (a : α), fo step k (c + 1) a = step (fo step k c a) (k + c)
  | 0, k, a => rfl
  | c + 1, k, a => by
    show fo step (k + 1) (c + 1) (step a k) = step (fo step (k + 1) c (step a k)) (k + (c + 1))
    rw [fo_succ step c (k + 1) (step a k)]
    congr 1
    omega
theorem fo_loop {σ ρ α : Type} {f : σ → σ ⊕ ρ} {P : σ → Prop} (E : α → Nat → σ) (R : α → ρ) (step : α → Nat → α) (I : α → Nat → Prop) (n : Nat)
    (h : ∀ a k, k < n → I a k → P (E a k) ∧ f (E a k) = .inl (E (step a k) (k + 1)) ∧ I (step a k) (k + 1))
    (he : ∀ a, I a n → P (E a n) ∧ f (E a n) = .inr (R a)) :
    ∀ (c k : Nat) (a : α) (fuel : Nat), k + c = n → c < fuel → I a k → lrun f P fuel (E a k) (R (fo step k c a)) ∧ I (fo step k c a) n
  | _, _, _, 0, _, hf, _ => absurd hf (Nat.not_lt_zero _)
  | 0, k, a, fuel + 1, hk, _, hI => by
    have hk2 : k = n := by omega
    subst hk2
    exact ⟨⟨(he a hI).1, Or.inr (he a hI).2⟩, hI⟩
  | c + 1, k, a, fuel + 1, hk, hf, hI => by
    obtain ⟨h1, h2, h3⟩ := h a k (by omega) hI
    obtain ⟨h4, h5⟩ := fo_loop E R step I n h he c (k + 1) (step a k) fuel (by omega) (by omega) h3
    exact ⟨⟨h1, Or.inl ⟨_, h2, h4⟩⟩, h5⟩
theorem fo_itv {σ ρ α : Type} {f : σ → σ ⊕ ρ} (d : ρ) (E : α → Nat → σ) (R : α → ρ) (step : α → Nat → α) (I : α → Nat → Prop) (n : Nat)
    (h : ∀ a k, k < n → I a k → f (E a k) = .inl (E (step a k) (k + 1)) ∧ I (step a k) (k + 1))
    (he : ∀ a, I a n → f (E a n) = .inr (R a)) (c k : Nat) (a : α) (fuel : Nat) (hk : k + c = n) (hf : c < fuel) (hI : I a k) : itv d f fuel (E a k) = R (fo step k c a) ∧ I (fo step k c a) n := by
  obtain ⟨h1, h2⟩ := fo_loop (P := fun _ => True) E R step I n (fun a k hk hI => ⟨trivial, h a k hk hI⟩) (fun a hI => ⟨trivial, he a hI⟩) c k a fuel hk hf hI
  exact ⟨lrun_itv h1, h2⟩
/-- the first place at which something holds -/
def fd (p : Nat → Bool) : Nat → Nat → Option Nat
  | _, 0 => none
  | k, c + 1 => if p k = true then some k else fd p (k + 1) c
theorem fd_loop {σ ρ : Type} {f : σ → σ ⊕ ρ} {P : σ → Prop} (E : Nat → σ) (Rn : ρ) (Rf : Nat → ρ) (p : Nat → Bool) (n : Nat)
    (h : ∀ k, k < n → P (E k) ∧ (p k = false → f (E k) = .inl (E (k + 1))) ∧ (p k = true → f (E k) = .inr (Rf k)))
    (he : P (E n) ∧ f (E n) = .inr Rn) :
    ∀ (c k : Nat) (fuel : Nat), k + c = n → c < fuel → lrun f P fuel (E k) ((fd p k c).elim Rn Rf)
  | _, _, 0, _, hf => absurd hf (Nat.not_lt_zero _)
  | 0, k, fuel + 1, hk, _ => by
    have hk2 : k = n := by omega
    subst hk2
    exact ⟨he.1, Or.inr he.2⟩
  | c + 1, k, fuel + 1, hk, hf => by
    obtain ⟨h1, h2, h3⟩ := h k (by omega)
    cases hp : p k with
    | true => 
      refine ⟨h1, Or.inr ?_⟩
      rw [h3 hp, fd, if_pos hp]; rfl
    | false =>
      have := fd_loop E Rn Rf p n h he c (k + 1) fuel (by omega) (by omega)
      refine ⟨h1, Or.inl ⟨_, h2 hp, ?_⟩⟩
      rw [fd, if_neg (by rw [hp]; exact Bool.false_ne_true)]
      exact this
theorem fd_itv {σ ρ : Type} {f : σ → σ ⊕ ρ} (d : ρ) (E : Nat → σ) (Rn : ρ) (Rf : Nat → ρ) (p : Nat → Bool) (n : Nat)
    (h : ∀ k, k < n → (p k = false → f (E k) = .inl (E (k + 1))) ∧ (p k = true → f (E k) = .inr (Rf k)))
    (he : f (E n) = .inr Rn) (c k : Nat) (fuel : Nat) (hk : k + c = n) (hf : c < fuel) : itv d f fuel (E k) = (fd p k c).elim Rn Rf :=
  lrun_itv (fd_loop (P := fun _ => True) E Rn Rf p n (fun k hk => ⟨trivial, h k hk⟩) ⟨trivial, he⟩ c k fuel hk hf)
theorem fd_some {p : Nat → Bool} {j : Nat} : ∀ {c k : Nat}, fd p k c = some j → k ≤ j ∧ j < k + c ∧ p j = true ∧ ∀ i, k ≤ i → i < j → p i = false
  | 0, k, h => by simp only [fd] at h; cases h
  | c + 1, k, h => by
    rw [fd] at h
    split at h
    · rename_i hp
      cases h
      exact ⟨Nat.le_refl _, by omega, hp, fun i a b => absurd b (by omega)⟩
    · rename_i hp
      obtain ⟨h1, h2, h3, h4⟩ := fd_some h
      refine ⟨by omega, by omega, h3, fun i a b => ?_⟩
      by_cases hi : i = k
      · subst hi; exact Bool.eq_false_iff.mpr hp
      · exact h4 i (by omega) b
theorem fd_none {p : Nat → Bool} : ∀ {c k : Nat}, fd p k c = none → ∀ i, k ≤ i → i < k + c → p i = false
  | 0, k, _ => fun i a b => absurd b (by omega)
  | c + 1, k, h => by
    rw [fd] at h
    split at h
    · cases h
    · rename_i hp
      intro i a b
      by_cases hi : i = k
      · subst hi; exact Bool.eq_false_iff.mpr hp
      · exact fd_none h i (by omega) (by omega)
theorem fd_congr {p q : Nat → Bool} : ∀ {c k : Nat}, (∀ i, k ≤ i → i < k + c → p i = q i) → fd p k c = fd q k c
  | 0, k, _ => rfl
  | c + 1, k, h => by
    rw [fd, fd, h k (Nat.le_refl _) (by omega), fd_congr (c := c) (k := k + 1) (fun i a b => h i (by omega) (by omega))]
theorem fo_congr {α : Type} {s t : α → Nat → α} : ∀ {c k : Nat} {a : α}, (∀ b i, k ≤ i → i < k + c → s b i = t b i) → fo s k c a = fo t k c a
  | 0, k, a, _ => rfl
  | c + 1, k, a, h => by
    rw [fo, fo, h a k (Nat.le_refl _) (by omega), fo_congr (c := c) (k := k + 1) (fun b i u v => h b i (by omega) (by omega))]
/-- sums of numbers -/
def sf (w : Nat → Nat) : Nat → Nat → Nat
  | _, 0 => 0
  | k, c + 1 => w k + sf w (k + 1) c
theorem sf_succ (w : Nat → Nat) : ∀ (c k : Nat), sf w k (c + 1) = sf w k c + w (k + c)
  | 0, k => by simp only [sf]; rw [Nat.add_zero, Nat.zero_add, Nat.add_zero]
  | c + 1, k => by
    rw [sf, sf_succ w c (k + 1), sf]
    have : k + 1 + c = k + (c + 1) := by omega
    rw [this]; omega
theorem fo_sf (w : Nat → Nat) : ∀ (c k a : Nat), fo (fun a j => a + w j) k c a = a + sf w k c
  | 0, k, a => rfl
  | c + 1, k, a => by
    rw [fo, fo_sf w c (k + 1) (a + w k), sf]; omega
theorem sf_congr {w u : Nat → Nat} : ∀ {c k : Nat}, (∀ i, k ≤ i → i < k + c → w i = u i) → sf w k c = sf u k c
  | 0, _, _ => rfl
  | c + 1, k, h => by
    rw [sf, sf, h k (Nat.le_refl _) (by omega), sf_congr (c := c) (k := k + 1) (fun i a b => h i (by omega) (by omega))]
theorem sf_le {w u : Nat → Nat} : ∀ {c k : Nat}, (∀ i, k ≤ i → i < k + c → w i ≤ u i) → sf w k c ≤ sf u k c
  | 0, _, _ => Nat.le_refl _
  | c + 1, k, h => by
    rw [sf, sf]
    exact Nat.add_le_add (h k (Nat.le_refl _) (by omega)) (sf_le (c := c) (k := k + 1) (fun i a b => h i (by omega) (by omega)))
theorem sf_bound {w : Nat → Nat} (B : Nat) : ∀ {c k : Nat}, (∀ i, k ≤ i → i < k + c → w i ≤ B) → sf w k c ≤ c * B
  | 0, _, _ => by simp only [sf]; exact Nat.zero_le _
  | c + 1, k, h => by
    rw [sf, Nat.succ_mul]
    have h1 := h k (Nat.le_refl _) (by omega)
    have h2 := sf_bound B (c := c) (k := k + 1) (fun i a b => h i (by omega) (by omega))
    omega
theorem sf_add {w u : Nat → Nat} : ∀ {c k : Nat}, sf (fun i => w i + u i) k c = sf w k c + sf u k c
  | 0, _ => rfl
  | c + 1, k => by
    rw [sf, sf, sf, sf_add (c := c) (k := k + 1)]; omega
theorem sf_zero : ∀ {c k : Nat}, sf (fun _ => 0) k c = 0
  | 0, _ => rfl
  | c + 1, k => by rw [sf, sf_zero (c := c) (k := k + 1)]
theorem sf_none {w : Nat → Nat} {c k : Nat} (h : ∀ i, k ≤ i → i < k + c → w i = 0) : sf w k c = 0 := by
  rw [sf_congr h]; exact sf_zero
theorem sf_swap (w : Nat → Nat → Nat) (d l : Nat) : ∀ {c k : Nat}, sf (fun i => sf (fun j => w i j) l d) k c = sf (fun j => sf (fun i => w i j) k c) l d
  | 0, k => by simp only [sf]; exact sf_zero.symm
  | c + 1, k => by
    simp only [sf]
    rw [sf_swap w d l (c := c) (k := k + 1), sf_add]
theorem sf_mul (w : Nat → Nat) (b : Nat) : ∀ {c k : Nat}, sf (fun i => w i * b) k c = sf w k c * b
  | 0, _ => by simp only [sf]; rw [Nat.zero_mul]
  | c + 1, k => by rw [sf, sf, sf_mul w b (c := c) (k := k + 1), Nat.add_mul]
/-- one only -/
theorem sf_one (j v : Nat) : ∀ {c k : Nat}, sf (fun i => if i = j then v else 0) k c = if k ≤ j ∧ j < k + c then v else 0
  | 0, k => by simp only [sf]; rw [if_neg (by omega)]
  | c + 1, k => by
    rw [sf, sf_one j v (c := c) (k := k + 1)]
    by_cases h : k = j
    · rw [if_pos h, if_neg (by omega), if_pos (by omega)]; omega
    · rw [if_neg h, Nat.zero_add]
      by_cases h2 : k + 1 ≤ j ∧ j < k + 1 + c
      · rw [if_pos h2, if_pos (by omega)]
      · rw [if_neg h2, if_neg (by omega)]
theorem sf_split (w : Nat → Nat) : ∀ (c d k : Nat), sf w k (c + d) = sf w k c + sf w (k + c) d
  | 0, d, k => by rw [Nat.zero_add, sf, Nat.zero_add, Nat.add_zero]
  | c + 1, d, k => by
    rw [show c + 1 + d = (c + d) + 1 by omega, sf, sf_split w c d (k + 1), sf, show k + 1 + c = k + (c + 1) by omega]; omega
theorem sf_lt {w u : Nat → Nat} {j : Nat} : ∀ {c k : Nat}, (∀ i, k ≤ i → i < k + c → w i ≤ u i) → k ≤ j → j < k + c → w j < u j → sf w k c < sf u k c
  | 0, k, _, _, h, _ => absurd h (by omega)
  | c + 1, k, h, h1, h2, h3 => by
    rw [sf, sf]
    by_cases hj : j = k
    · subst hj
      have := sf_le (c := c) (k := j + 1) (w := w) (u := u) (fun i a b => h i (by omega) (by omega))
      omega
    · have := sf_lt (c := c) (k := k + 1) (w := w) (u := u) (fun i a b => h i (by omega) (by omega)) (by omega) (by omega) h3
      have := h k (Nat.le_refl _) (by omega)
      omega
/-- each pair twice -/
theorem sf_pairs (w : Nat → Nat → Nat) (hs : ∀ i j, w i j = w j i) (hd : ∀ i, w i i = 0) : ∀ (n : Nat), sf (fun i => sf (fun j => w i j) 0 n) 0 n = 2 * sf (fun i => sf (fun j => w i j) (i + 1) (n - (i + 1))) 0 n
  | 0 => rfl
  | n + 1 => by
    have ih := sf_pairs w hs hd n
    rw [sf_succ, sf_succ (fun i => sf (fun j => w i j) (i + 1) (n + 1 - (i + 1)))]
    have e1 : sf (fun i => sf (fun j => w i j) 0 (n + 1)) 0 n = sf (fun i => sf (fun j => w i j) 0 n) 0 n + sf (fun i => w i n) 0 n := by
      rw [← sf_add]
      exact sf_congr (fun i _ _ => by rw [sf_succ, Nat.zero_add])
    have e2 : sf (fun i => sf (fun j => w i j) (i + 1) (n + 1 - (i + 1))) 0 n = sf (fun i => sf (fun j => w i j) (i + 1) (n - (i + 1))) 0 n + sf (fun i => w i n) 0 n := by
      rw [← sf_add]
      refine sf_congr (fun i _ hi => ?_)
      rw [show n + 1 - (i + 1) = (n - (i + 1)) + 1 by omega, sf_succ, show i + 1 + (n - (i + 1)) = n by omega]
    rw [e1, e2]
    simp only [Nat.zero_add]
    rw [sf_succ, Nat.zero_add, hd, show n + 1 - (n + 1) = 0 by omega, sf]
    have e3 : sf (fun j => w n j) 0 n = sf (fun i => w i n) 0 n := sf_congr (fun i _ _ => hs n i)
    rw [e3, ih]
    omega
