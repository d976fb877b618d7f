/-! names: what class and reference say of them -/
theorem zit_l {σ ρ : Type} {step : σ → Option (σ ⊕ ρ)} {n : Nat} {s s' : σ} (h : step s = some (.inl s')) : zit step (n + 1) s = zit step n s' := by
  show Option.bind (step s) _ = _
  rw [h]
  rfl
theorem zit_r {σ ρ : Type} {step : σ → Option (σ ⊕ ρ)} {n : Nat} {s : σ} {r : ρ} (h : step s = some (.inr r)) : zit step (n + 1) s = some r := by
  show Option.bind (step s) _ = _
  rw [h]
  rfl
theorem lab_n {X k : Nat} (hX : X < 2 ^ 31) (s : Int32) (hs : (s.toBitVec.smod 32).toNat = k) : (nI X >>> s) &&& 31 = nI (X / 2 ^ k % 32) := by
  have h1 : X / 2 ^ k < 2 ^ 32 := Nat.lt_of_le_of_lt (Nat.div_le_self _ _) (by omega)
  rw [pk_shrN hX s k hs, pk_andN h1 5 rfl]
theorem lt27 {l : Nat} (h : l < 32) : (27 : Int32) < nI l ↔ 27 < l := by
  rw [show (27 : Int32) = nI 27 from rfl, nI_ltI (by omega) (by omega)]
theorem eq0 {l : Nat} (h : l < 2 ^ 31) : nI l = 0 ↔ l = 0 := by
  rw [show (0 : Int32) = nI 0 from rfl, nI_eq (by omega) (by omega)]
theorem le0 {l : Nat} (h : l < 2 ^ 31) : nI l ≤ 0 ↔ l = 0 := by
  rw [show (0 : Int32) = nI 0 from rfl, nI_leI (by omega) (by omega)]
  omega
theorem isN_st {X k : Nat} {v1 v2 : Int32} (hX : X < 2 ^ 31) (h2 : ¬ v2 < 0) (hs : ((v2 &&& 31).toBitVec.smod 32).toNat = k) : LS_Na_isName_17 (nI X) (v1, v2) = (if 27 < X / 2 ^ k % 32 then some (.inr 0) else if v1 = 0 ∨ X / 2 ^ k % 32 = 0 then some (.inl (if X / 2 ^ k % 32 = 0 then 1 else 0, v2 + -5)) else some (.inr 0)) := by
  show L_Na_isName_17 (nI X) v1 v2 = _
  unfold L_Na_isName_17
  have hl : X / 2 ^ k % 32 < 32 := Nat.mod_lt _ (by omega)
  rw [if_neg h2, lab_n hX _ hs]
  generalize X / 2 ^ k % 32 = l at hl ⊢
  simp only [znm, lt27 hl, eq0 (show l < 2 ^ 31 by omega)]
  by_cases c1 : 27 < l
  · rw [if_pos c1, if_pos c1]; rfl
  · rw [if_neg c1, if_neg c1]
    by_cases c2 : v1 = 0
    · rw [if_pos c2, if_pos (Or.inl c2)]
      by_cases c3 : l = 0
      · simp [c3]
      · simp [c3]
    · rw [if_neg c2]
      by_cases c3 : l = 0
      · simp [c3]
      · rw [if_neg c3, if_neg (by simp [c2, c3])]; rfl
theorem iz {p : Prop} [Decidable p] : ((if p then (1 : Int32) else 0) = 0) ↔ ¬ p := by
  by_cases h : p <;> simp [h]
theorem isName_X {X : Nat} (h0 : X < 1048576) : (nmP X → f_Na_isName (nI X) = some 1) ∧ (¬ nmP X → f_Na_isName (nI X) = some 0) := by
  have hX : X < 2 ^ 31 := by omega
  have e : f_Na_isName (nI X) = zit (LS_Na_isName_17 (nI X)) 64 (0, 15) := by
    unfold f_Na_isName
    rw [if_neg (nI_pos hX), if_pos (by rw [show (1048576 : Int32) = nI 1048576 from rfl, nI_ltI (by omega) (by omega)]; exact h0)]
  have s0 := isN_st (v1 := 0) (v2 := 15) (k := 15) hX (by decide) (by decide)
  have s1 := fun v1 => isN_st (v1 := v1) (v2 := 15 + -5) (k := 10) hX (by decide) (by decide)
  have s2 := fun v1 => isN_st (v1 := v1) (v2 := 15 + -5 + -5) (k := 5) hX (by decide) (by decide)
  have s3 := fun v1 => isN_st (v1 := v1) (v2 := 15 + -5 + -5 + -5) (k := 0) hX (by decide) (by decide)
  have s4 : ∀ v1, LS_Na_isName_17 (nI X) (v1, 15 + -5 + -5 + -5 + -5) = some (.inr 1) := fun v1 => by
    show L_Na_isName_17 (nI X) v1 (15 + -5 + -5 + -5 + -5) = _
    unfold L_Na_isName_17
    rw [if_pos (by decide)]
    rfl
  rw [e]
  unfold nmP znl0 znl1 znl2 znl3
  simp only [show (2 : Nat) ^ 15 = 32768 from rfl, show (2 : Nat) ^ 10 = 1024 from rfl, show (2 : Nat) ^ 5 = 32 from rfl, show (2 : Nat) ^ 0 = 1 from rfl, Nat.div_one] at s0 s1 s2 s3
  by_cases a0 : 27 < X / 32768 % 32
  · rw [if_pos a0] at s0
    exact ⟨fun h => absurd h.2.1 (by omega), fun _ => zit_r s0⟩
  rw [if_neg a0, if_pos (Or.inl trivial)] at s0
  rw [zit_l s0]
  have s1 := s1 (if X / 32768 % 32 = 0 then 1 else 0)
  by_cases a1 : 27 < X / 1024 % 32
  · rw [if_pos a1] at s1
    exact ⟨fun h => absurd h.2.2.1 (by omega), fun _ => zit_r s1⟩
  rw [if_neg a1] at s1
  simp only [iz] at s1
  by_cases b1 : ¬ X / 32768 % 32 = 0 ∨ X / 1024 % 32 = 0
  · rw [if_pos b1] at s1
    rw [zit_l s1]
    have s2 := s2 (if X / 1024 % 32 = 0 then 1 else 0)
    by_cases a2 : 27 < X / 32 % 32
    · rw [if_pos a2] at s2
      exact ⟨fun h => absurd h.2.2.2.1 (by omega), fun _ => zit_r s2⟩
    rw [if_neg a2] at s2
    simp only [iz] at s2
    by_cases b2 : ¬ X / 1024 % 32 = 0 ∨ X / 32 % 32 = 0
    · rw [if_pos b2] at s2
      rw [zit_l s2]
      have s3 := s3 (if X / 32 % 32 = 0 then 1 else 0)
      by_cases a3 : 27 < X % 32
      · rw [if_pos a3] at s3
        exact ⟨fun h => absurd h.2.2.2.2.1 (by omega), fun _ => zit_r s3⟩
      rw [if_neg a3] at s3
      simp only [iz] at s3
      by_cases b3 : ¬ X / 32 % 32 = 0 ∨ X % 32 = 0
      · rw [if_pos b3] at s3
        rw [zit_l s3, zit_r (s4 _)]
        exact ⟨fun _ => rfl, fun h => absurd ⟨h0, by omega, by omega, by omega, by omega, by omega, by omega, by omega⟩ h⟩
      · rw [if_neg b3] at s3
        exact ⟨fun h => absurd h.2.2.2.2.2.2.2 (by omega), fun _ => zit_r s3⟩
    · rw [if_neg b2] at s2
      exact ⟨fun h => absurd h.2.2.2.2.2.2.1 (by omega), fun _ => zit_r s2⟩
  · rw [if_neg b1] at s1
    exact ⟨fun h => absurd h.2.2.2.2.2.1 (by omega), fun _ => zit_r s1⟩
