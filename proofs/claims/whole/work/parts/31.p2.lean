/-! pure rows: records as pairs of ints, in order; the same ones in another order -/
abbrev Rc : Type := Nat → Int32 × Int32
def ltR (x y : Int32 × Int32) : Prop := x.1.toInt < y.1.toInt ∨ (x.1.toInt = y.1.toInt ∧ x.2.toInt < y.2.toInt)
def Srt (a : Rc) (n : Nat) : Prop := ∀ i j, i < j → j < n → ltR (a i) (a j)
def Sam (a : Rc) (n : Nat) (b : Rc) (n' : Nat) : Prop := ∀ P : Int32 × Int32 → Bool, zct (fun i => P (a i)) n = zct (fun i => P (b i)) n'
theorem Sam.len {a b : Rc} {n n' : Nat} (h : Sam a n b n') : n = n' := by
  have := h (fun _ => true)
  rwa [zct_true, zct_true] at this
def zszR (a : Rc) (n : Nat) (set : Int32) : Nat := zct (fun i => decide ((a i).1 = set)) n
def zstR (a : Rc) (n : Nat) (set : Int32) : Nat := zct (fun i => decide ((a i).1 < set)) n
theorem Srt.le {a : Rc} {n i j : Nat} (h : Srt a n) (hij : i < j) (hj : j < n) : (a i).1.toInt ≤ (a j).1.toInt := by
  rcases h i j hij hj with h | ⟨h, -⟩ <;> omega
theorem zstR_iff {a : Rc} {n : Nat} (h : Srt a n) (set : Int32) (i : Nat) (hi : i < n) : (a i).1 < set ↔ i < zstR a n set := by
  have := zct_down (P := fun i => decide ((a i).1 < set)) (n := n) (fun i j hij hj hP => by
    simp only [decide_eq_true_eq, Int32.lt_iff_toInt_lt] at hP ⊢
    have := h.le hij hj
    omega) i hi
  simpa [zstR] using this
theorem leR_iff {a : Rc} {n : Nat} (h : Srt a n) (set : Int32) (i : Nat) (hi : i < n) : (a i).1 ≤ set ↔ i < zstR a n set + zszR a n set := by
  have e : zstR a n set + zszR a n set = zct (fun i => decide ((a i).1 ≤ set)) n := by
    refine (zct_split (fun i hi => ?_)).symm
    simp only [decide_eq_true_eq, Int32.lt_iff_toInt_lt, Int32.le_iff_toInt_le, ← Int32.toInt_inj]
    split <;> split <;> split <;> omega
  rw [e]
  have := zct_down (P := fun i => decide ((a i).1 ≤ set)) (n := n) (fun i j hij hj hP => by
    simp only [decide_eq_true_eq, Int32.le_iff_toInt_le] at hP ⊢
    have := h.le hij hj
    omega) i hi
  simpa using this
theorem szR_iff {a : Rc} {n : Nat} (h : Srt a n) (set : Int32) (i : Nat) (hi : i < n) : (a i).1 = set ↔ zstR a n set ≤ i ∧ i < zstR a n set + zszR a n set := by
  have h1 := zstR_iff h set i hi
  have h2 := leR_iff h set i hi
  rw [Int32.lt_iff_toInt_lt] at h1
  rw [Int32.le_iff_toInt_le] at h2
  rw [← Int32.toInt_inj]
  omega
theorem szR_le {a : Rc} {n : Nat} (h : Srt a n) (set : Int32) : zstR a n set + zszR a n set ≤ n := by
  have e : zstR a n set + zszR a n set = zct (fun i => decide ((a i).1 ≤ set)) n := by
    refine (zct_split (fun i hi => ?_)).symm
    simp only [decide_eq_true_eq, Int32.lt_iff_toInt_lt, Int32.le_iff_toInt_le, ← Int32.toInt_inj]
    split <;> split <;> split <;> omega
  rw [e]
  exact zct_le _ _
/-- how many of the set are less than x -/
def zbfR (a : Rc) (n : Nat) (set x : Int32) : Nat := zct (fun i => decide ((a i).1 = set) && decide ((a i).2 < x)) n
theorem bfR_at {a : Rc} {n : Nat} (h : Srt a n) (set : Int32) {k : Nat} (hk : k < zszR a n set) : zbfR a n set (a (zstR a n set + k)).2 = k := by
  have hle := szR_le h set
  have e : zbfR a n set (a (zstR a n set + k)).2 = zct (fun i => decide (zstR a n set ≤ i) && decide (i < zstR a n set + k)) n := by
    refine zct_congr (fun i hi => ?_)
    have hs := szR_iff h set i hi
    have hs0 := (szR_iff h set (zstR a n set + k) (by omega)).mpr ⟨by omega, by omega⟩
    rw [Bool.eq_iff_iff]
    simp only [Bool.and_eq_true, decide_eq_true_eq]
    rw [Int32.lt_iff_toInt_lt]
    constructor
    · rintro ⟨h1, h2⟩
      have h3 := hs.mp h1
      refine ⟨h3.1, ?_⟩
      rcases Nat.lt_trichotomy i (zstR a n set + k) with h4 | h4 | h4
      · exact h4
      · subst h4; omega
      · rcases h _ _ h4 hi with h5 | ⟨-, h5⟩
        · rw [h1, hs0] at h5; omega
        · omega
    · rintro ⟨h1, h2⟩
      have h3 := hs.mpr ⟨h1, by omega⟩
      refine ⟨h3, ?_⟩
      rcases h _ _ h2 (by omega) with h5 | ⟨-, h5⟩
      · rw [h3, hs0] at h5; omega
      · exact h5
  rw [e, zct_iv (by omega) (by omega)]
  omega
theorem Sam.mem {a b : Rc} {n n' : Nat} (h : Sam a n b n') {i : Nat} (hi : i < n) : ∃ r, r < n' ∧ b r = a i := by
  have h1 := h (fun x => decide (x = a i))
  have h2 : 0 < zct (fun j => decide (a j = a i)) n := zct_pos.mpr ⟨i, hi, by simp⟩
  rw [h1] at h2
  obtain ⟨r, hr, h3⟩ := zct_pos.mp h2
  exact ⟨r, hr, by simpa using h3⟩
theorem Sam.symm {a b : Rc} {n n' : Nat} (h : Sam a n b n') : Sam b n' a n := fun P => (h P).symm
theorem Sam.sz {a b : Rc} {n n' : Nat} (h : Sam a n b n') (set : Int32) : zszR a n set = zszR b n' set := h (fun x => decide (x.1 = set))
theorem Sam.bf {a b : Rc} {n n' : Nat} (h : Sam a n b n') (set x : Int32) : zbfR a n set x = zbfR b n' set x := h (fun y => decide (y.1 = set) && decide (y.2 < x))
/-- the k-th data of a set, found in the other order -/
theorem Sam.kth {a b : Rc} {n n' : Nat} (h : Sam a n b n') (hs : Srt a n) (set : Int32) {k : Nat} (hk : k < zszR a n set) :
    (∀ r, r < n' → (b r).1 = set → zbfR b n' set (b r).2 = k → (b r).2 = (a (zstR a n set + k)).2) ∧ ∃ r, r < n' ∧ (b r).1 = set ∧ zbfR b n' set (b r).2 = k := by
  have hle := szR_le hs set
  constructor
  · intro r hr h1 h2
    obtain ⟨i, hi, h3⟩ := h.symm.mem hr
    have h4 : (a i).1 = set := by rw [h3]; exact h1
    have h5 := (szR_iff hs set i hi).mp h4
    obtain ⟨k', rfl⟩ : ∃ k', i = zstR a n set + k' := ⟨i - zstR a n set, by omega⟩
    have h6 := bfR_at hs set (k := k') (by omega)
    rw [h3, h.bf, h2] at h6
    rw [h6, h3]
  · obtain ⟨r, hr, h3⟩ := h.mem (i := zstR a n set + k) (by omega)
    refine ⟨r, hr, ?_, ?_⟩
    · rw [h3]; exact (szR_iff hs set _ (by omega)).mpr ⟨by omega, by omega⟩
    · rw [h3, ← h.bf]; exact bfR_at hs set hk
/-- the last value at which P held -/
def fnd (P : Nat → Bool) (v : Nat → Int32) : Nat → Int32
  | 0 => 0
  | n + 1 => if P n then v n else fnd P v n
theorem fnd_eq {P : Nat → Bool} {v : Nat → Int32} {x : Int32} : ∀ {n : Nat}, (∀ r, r < n → P r = true → v r = x) → (∃ r, r < n ∧ P r = true) → fnd P v n = x
  | 0, _, ⟨r, h, _⟩ => absurd h (Nat.not_lt_zero r)
  | n + 1, h, ⟨r, hr, h2⟩ => by
    show (if P n then v n else fnd P v n) = x
    cases hP : P n with
    | true => simp; exact h n (Nat.lt_succ_self n) hP
    | false =>
      simp
      refine fnd_eq (fun r hr => h r (by omega)) ⟨r, ?_, h2⟩
      by_cases hrn : r = n
      · subst hrn; rw [hP] at h2; cases h2
      · omega
/-! one more, some less -/
def insR (a : Rc) (row : Nat) (x : Int32 × Int32) : Rc := fun i => if i < row then a i else if i = row then x else a (i - 1)
theorem insR_cnt {a : Rc} {n row : Nat} (x : Int32 × Int32) (hr : row ≤ n) (P : Int32 × Int32 → Bool) : zct (fun i => P (insR a row x i)) (n + 1) = zct (fun i => P (a i)) n + (if P x then 1 else 0) := by
  obtain ⟨m, rfl⟩ : ∃ m, n = row + m := ⟨n - row, by omega⟩
  rw [show row + m + 1 = row + (1 + m) by omega, zct_add, zct_add, zct_add]
  rw [zct_congr (P' := fun i => P (a i)) (n := row) (fun i hi => by simp [insR, hi])]
  rw [zct_congr (P := fun i => P (insR a row x (row + (1 + i)))) (P' := fun i => P (a (row + i))) (n := m) (fun i hi => by
    simp only [insR]
    rw [if_neg (by omega), if_neg (by omega)]
    congr 2
    omega)]
  rw [show zct (fun i => P (insR a row x (row + i))) 1 = (if P x then 1 else 0) by simp [zct, insR]]
  omega
theorem insR_srt {a : Rc} {n row : Nat} {x : Int32 × Int32} (h : Srt a n) (hr : row ≤ n) (h1 : ∀ i, i < row → ltR (a i) x) (h2 : ∀ i, row ≤ i → i < n → ltR x (a i)) : Srt (insR a row x) (n + 1) := by
  intro i j hij hj
  simp only [insR]
  by_cases c1 : j < row
  · rw [if_pos c1, if_pos (by omega)]
    exact h i j hij (by omega)
  · rw [if_neg c1]
    by_cases c2 : j = row
    · rw [if_pos c2, if_pos (by omega)]
      exact h1 i (by omega)
    · rw [if_neg c2]
      by_cases c3 : i < row
      · rw [if_pos c3]
        by_cases c5 : i = j - 1
        · omega
        · exact h i (j - 1) (by omega) (by omega)
      · rw [if_neg c3]
        by_cases c4 : i = row
        · rw [if_pos c4]
          exact h2 (j - 1) (by omega) (by omega)
        · rw [if_neg c4]
          exact h (i - 1) (j - 1) (by omega) (by omega)
