/-! pure rows: loops, counting -/
theorem zit_seq {σ ρ : Type} {step : σ → Option (σ ⊕ ρ)} {r : ρ} : ∀ (n fuel : Nat) (st : Nat → σ), (∀ i, i < n → step (st i) = some (.inl (st (i + 1)))) → step (st n) = some (.inr r) → n < fuel → zit step fuel (st 0) = some r
  | 0, fuel + 1, st, _, he, _ => by
    show Option.bind (step (st 0)) _ = _
    rw [he]
    rfl
  | n + 1, fuel + 1, st, h, he, hf => by
    show Option.bind (step (st 0)) _ = _
    rw [h 0 (Nat.succ_pos n)]
    exact zit_seq n fuel (fun i => st (i + 1)) (fun i hi => h (i + 1) (by omega)) he (by omega)
  | _, 0, _, _, _, hf => absurd hf (Nat.not_lt_zero _)
theorem zit_inv {σ ρ : Type} {step : σ → Option (σ ⊕ ρ)} (I : Nat → σ → Prop) (Post : ρ → Prop) (n : Nat)
    (h : ∀ i s, i ≤ n → I i s → (∃ s', step s = some (.inl s') ∧ i < n ∧ I (i + 1) s') ∨ ∃ r, step s = some (.inr r) ∧ Post r) :
    ∀ (fuel i : Nat) (s : σ), i ≤ n → n < fuel + i → I i s → ∃ r, zit step fuel s = some r ∧ Post r
  | 0, i, s, hi, hf, _ => by omega
  | fuel + 1, i, s, hi, hf, hI => by
    rcases h i s hi hI with ⟨s', e, hl, hI'⟩ | ⟨r, e, hp⟩
    · obtain ⟨r, e2, hp⟩ := zit_inv I Post n h fuel (i + 1) s' (by omega) (by omega) hI'
      refine ⟨r, ?_, hp⟩
      show Option.bind (step s) _ = _
      rw [e]
      exact e2
    · refine ⟨r, ?_, hp⟩
      show Option.bind (step s) _ = _
      rw [e]
      rfl
theorem zup_e {σ ρ : Type} (r : ρ) : (zup (some r) : Option (σ ⊕ ρ)) = some (.inr r) := rfl
/-- how many of the first n have P -/
def zct (P : Nat → Bool) : Nat → Nat
  | 0 => 0
  | n + 1 => zct P n + (if P n then 1 else 0)
theorem zct_s (P : Nat → Bool) (n : Nat) : zct P (n + 1) = zct P n + (if P n then 1 else 0) := rfl
theorem zct_le (P : Nat → Bool) : ∀ n, zct P n ≤ n
  | 0 => Nat.le_refl _
  | n + 1 => by
    have := zct_le P n
    rw [zct_s]
    split <;> omega
theorem zct_congr {P P' : Nat → Bool} : ∀ {n : Nat}, (∀ i, i < n → P i = P' i) → zct P n = zct P' n
  | 0, _ => rfl
  | n + 1, h => by rw [zct_s, zct_s, zct_congr (n := n) (fun i hi => h i (by omega)), h n (Nat.lt_succ_self n)]
theorem zct_true : ∀ n, zct (fun _ => true) n = n
  | 0 => rfl
  | n + 1 => by rw [zct_s, zct_true n]; rfl
theorem zct_mono (P : Nat → Bool) {a b : Nat} (h : a ≤ b) : zct P a ≤ zct P b := by
  induction h with
  | refl => exact Nat.le_refl _
  | step _ ih => rw [Nat.succ_eq_add_one, zct_s]; omega
theorem zct_sub {P P' : Nat → Bool} : ∀ {n : Nat}, (∀ i, i < n → P i = true → P' i = true) → zct P n ≤ zct P' n
  | 0, _ => Nat.le_refl _
  | n + 1, h => by
    have ih := zct_sub (n := n) (fun i hi => h i (by omega))
    have h1 := h n (Nat.lt_succ_self n)
    rw [zct_s, zct_s]
    cases hP : P n with
    | false => simp; omega
    | true => rw [h1 hP]; simp; omega
theorem zct_pos {P : Nat → Bool} : ∀ {n : Nat}, 0 < zct P n ↔ ∃ i, i < n ∧ P i = true
  | 0 => ⟨fun h => absurd h (Nat.lt_irrefl 0), fun ⟨i, h, _⟩ => absurd h (Nat.not_lt_zero i)⟩
  | n + 1 => by
    rw [zct_s]
    constructor
    · intro h
      cases hP : P n with
      | true => exact ⟨n, Nat.lt_succ_self n, hP⟩
      | false =>
        rw [hP] at h
        obtain ⟨i, hi, h2⟩ := zct_pos.mp (by simpa using h)
        exact ⟨i, by omega, h2⟩
    · rintro ⟨i, hi, h2⟩
      by_cases hin : i = n
      · subst hin; rw [h2]; simp
      · have := zct_pos.mpr ⟨i, (by omega : i < n), h2⟩
        omega
theorem zct_zero {P : Nat → Bool} {n : Nat} (h : ∀ i, i < n → P i = false) : zct P n = 0 := by
  apply Nat.eq_zero_of_not_pos
  intro hp
  obtain ⟨i, hi, h2⟩ := zct_pos.mp hp
  rw [h i hi] at h2
  cases h2
theorem zct_add (P : Nat → Bool) (a : Nat) : ∀ b, zct P (a + b) = zct P a + zct (fun i => P (a + i)) b
  | 0 => rfl
  | b + 1 => by rw [← Nat.add_assoc, zct_s, zct_add P a b, zct_s]; omega
/-- a property that goes down: those that have it are the first ones -/
theorem zct_down {P : Nat → Bool} : ∀ {n : Nat}, (∀ i j, i < j → j < n → P j = true → P i = true) → ∀ i, i < n → (P i = true ↔ i < zct P n)
  | 0, _, i, hi => absurd hi (Nat.not_lt_zero i)
  | n + 1, h, i, hi => by
    have ih := zct_down (n := n) (fun i j h1 h2 => h i j h1 (by omega))
    have hle := zct_le P n
    rw [zct_s]
    cases hP : P n with
    | true =>
      have all : ∀ j, j < n → P j = true := fun j hj => h j n hj (Nat.lt_succ_self n) hP
      have hc : zct P n = n := by
        rw [zct_congr (P' := fun _ => true) (fun j hj => all j hj), zct_true]
      rw [hc]
      simp only [if_true]
      by_cases hin : i = n
      · subst hin; simp [hP]
      · simp [all i (by omega)]; omega
    | false =>
      by_cases hin : i = n
      · subst hin; simp [hP]; omega
      · rw [ih i (by omega)]; simp
theorem zct_split {P P1 P2 : Nat → Bool} : ∀ {n : Nat}, (∀ i, i < n → (if P i then 1 else 0) = (if P1 i then 1 else 0) + (if P2 i then 1 else (0 : Nat))) → zct P n = zct P1 n + zct P2 n
  | 0, _ => rfl
  | n + 1, h => by
    rw [zct_s, zct_s, zct_s, zct_split (n := n) (fun i hi => h i (by omega)), h n (Nat.lt_succ_self n)]
    omega
/-- an interval is counted -/
theorem zct_iv {a b : Nat} : ∀ {n : Nat}, b ≤ n → a ≤ b → zct (fun i => decide (a ≤ i) && decide (i < b)) n = b - a := by
  intro n hb hab
  have e : n = a + ((b - a) + (n - b)) := by omega
  rw [e, zct_add, zct_add]
  rw [zct_zero (n := a) (fun i hi => by simp; omega), zct_zero (n := n - b) (fun i hi => by simp; omega)]
  rw [zct_congr (P' := fun _ => true) (fun i hi => by simp; omega), zct_true]
  omega
/-! numbers -/
theorem zin_n {i n : Nat} (h : i < n) (hn : n < 2 ^ 31) : zin (nI i) n = true := by
  have e : (nI i).toInt = (i : Int) := nI_toInt (by omega)
  simp [zin, e]
  omega
