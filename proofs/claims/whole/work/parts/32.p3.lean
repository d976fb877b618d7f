/-! pure rows: names as numbers -/
def znl0 (X : Nat) : Nat := X / 32768 % 32
def znl1 (X : Nat) : Nat := X / 1024 % 32
def znl2 (X : Nat) : Nat := X / 32 % 32
def znl3 (X : Nat) : Nat := X % 32
def nmP (X : Nat) : Prop := X < 1048576 ∧ znl0 X ≤ 27 ∧ znl1 X ≤ 27 ∧ znl2 X ≤ 27 ∧ znl3 X ≤ 27 ∧ (znl1 X = 0 ∨ znl0 X ≠ 0) ∧ (znl2 X = 0 ∨ znl1 X ≠ 0) ∧ (znl3 X = 0 ∨ znl2 X ≠ 0)
def zne0 (k : Nat) : Nat := if k = 0 then 0 else 1
def dp (X : Nat) : Nat := zne0 (znl0 X) + zne0 (znl1 X) + zne0 (znl2 X) + zne0 (znl3 X)
def ztr (X : Nat) : Nat → Nat
  | 0 => 0
  | 1 => X / 32768 * 32768
  | 2 => X / 1024 * 1024
  | 3 => X / 32 * 32
  | _ => X
theorem dp_le (X : Nat) : dp X ≤ 4 := by
  unfold dp zne0
  split <;> split <;> split <;> split <;> omega
theorem dp_cases {X : Nat} (h : nmP X) : (dp X = 0 ∧ X = 0) ∨ (dp X = 1 ∧ 0 < X / 32768 ∧ X % 32768 = 0) ∨ (dp X = 2 ∧ 0 < X / 32768 ∧ 0 < X / 1024 % 32 ∧ X % 1024 = 0) ∨ (dp X = 3 ∧ 0 < X / 32768 ∧ 0 < X / 1024 % 32 ∧ 0 < X / 32 % 32 ∧ X % 32 = 0) ∨ (dp X = 4 ∧ 0 < X / 32768 ∧ 0 < X / 1024 % 32 ∧ 0 < X / 32 % 32 ∧ 0 < X % 32) := by
  obtain ⟨h0, h1, h2, h3, h4, h5, h6, h7⟩ := h
  unfold dp zne0
  unfold znl0 znl1 znl2 znl3 at *
  by_cases c0 : X / 32768 % 32 = 0
  · have c1 : X / 1024 % 32 = 0 := by omega
    have c2 : X / 32 % 32 = 0 := by omega
    have c3 : X % 32 = 0 := by omega
    left
    refine ⟨?_, by omega⟩
    rw [if_pos c0, if_pos c1, if_pos c2, if_pos c3]
  · by_cases c1 : X / 1024 % 32 = 0
    · have c2 : X / 32 % 32 = 0 := by omega
      have c3 : X % 32 = 0 := by omega
      right; left
      refine ⟨?_, by omega, by omega⟩
      rw [if_neg c0, if_pos c1, if_pos c2, if_pos c3]
    · by_cases c2 : X / 32 % 32 = 0
      · have c3 : X % 32 = 0 := by omega
        right; right; left
        refine ⟨?_, by omega, by omega, by omega⟩
        rw [if_neg c0, if_neg c1, if_pos c2, if_pos c3]
      · by_cases c3 : X % 32 = 0
        · right; right; right; left
          refine ⟨?_, by omega, by omega, by omega, by omega⟩
          rw [if_neg c0, if_neg c1, if_neg c2, if_pos c3]
        · right; right; right; right
          refine ⟨?_, by omega, by omega, by omega, by omega⟩
          rw [if_neg c0, if_neg c1, if_neg c2, if_neg c3]
theorem ztr_ge {X n : Nat} (h : nmP X) (hn : dp X ≤ n) : ztr X n = X := by
  rcases dp_cases h with ⟨e, h⟩ | ⟨e, h⟩ | ⟨e, h⟩ | ⟨e, h⟩ | ⟨e, h⟩ <;> rw [e] at hn <;> match n, hn with
  | 0, _ => simp only [ztr]; try omega
  | 1, _ => simp only [ztr]; try omega
  | 2, _ => simp only [ztr]; try omega
  | 3, _ => simp only [ztr]; try omega
  | _ + 4, _ => rfl
theorem ztr_le (X n : Nat) : ztr X n ≤ X := by
  match n with
  | 0 => simp only [ztr]; omega
  | 1 => simp only [ztr]; omega
  | 2 => simp only [ztr]; omega
  | 3 => simp only [ztr]; omega
  | _ + 4 => exact Nat.le_refl _
theorem ztr_mono (X : Nat) {a b : Nat} (h : a ≤ b) : ztr X a ≤ ztr X b := by
  match a, b, h with
  | 0, _, _ => simp only [ztr]; omega
  | 1, 1, _ => exact Nat.le_refl _
  | 1, 2, _ => simp only [ztr]; omega
  | 1, 3, _ => simp only [ztr]; omega
  | 1, _ + 4, _ => simp only [ztr]; omega
  | 2, 2, _ => exact Nat.le_refl _
  | 2, 3, _ => simp only [ztr]; omega
  | 2, _ + 4, _ => simp only [ztr]; omega
  | 3, 3, _ => exact Nat.le_refl _
  | 3, _ + 4, _ => simp only [ztr]; omega
  | _ + 4, _ + 4, _ => exact Nat.le_refl _
/-- a name is another one or above it -/
theorem above_iff {A B : Nat} (hA : nmP A) (hB : nmP B) : ztr B (dp A) = A ↔ A = B ∨ (dp A < dp B ∧ ztr B (dp A) = A) := by
  constructor
  · intro h
    by_cases c : dp A < dp B
    · exact Or.inr ⟨c, h⟩
    · left
      rw [← h, ztr_ge hB (by omega)]
  · rintro (h | ⟨-, h⟩)
    · subst h; exact ztr_ge hA (Nat.le_refl _)
    · exact h
theorem above_lt {Z1 Z2 X : Nat} (h1 : ztr X (dp Z1) = Z1) (h2 : ztr X (dp Z2) = Z2) (h : dp Z1 < dp Z2) : Z1 < Z2 := by
  have h3 := ztr_mono X (Nat.le_of_lt h)
  rw [h1, h2] at h3
  rcases Nat.lt_or_eq_of_le h3 with h4 | h4
  · exact h4
  · rw [h4] at h; omega
