theorem nI_inj {a b : Nat} (ha : a < 2 ^ 31) (hb : b < 2 ^ 31) (h : nI a = nI b) : a = b := (nI_eq ha hb).mp h
theorem ztr_lt {X n : Nat} (h : X < 1048576) : ztr X n < 1048576 := Nat.lt_of_le_of_lt (ztr_le X n) h
theorem above_X {A B : Nat} (hA : A < 1048576) (hB : B < 1048576) : f_Na_isOrAbove (nI A) (nI B) = some (if ztr B (dp A) = A then 1 else 0) := by
  unfold f_Na_isOrAbove
  rw [depth_X hA]
  simp only [Option.bind_some, first_X hB (dp_le A), nI_eq (show ztr B (dp A) < 2 ^ 31 by have := ztr_lt (n := dp A) hB; omega) (show A < 2 ^ 31 by omega)]
  by_cases c : ztr B (dp A) = A <;> simp [c]
theorem above_M {A B : Nat} (hA : A < 1048576) (hB : B < 1048576) : f_M_isAbove (nI A) (nI B) = some (if dp A < dp B ∧ ztr B (dp A) = A then 1 else 0) := by
  unfold f_M_isAbove
  have d1 := dp_le A
  have d2 := dp_le B
  rw [depth_M hA, depth_M hB]
  simp only [Option.bind_some, cut_M hB (dp_le A), nI_eq (show ztr B (dp A) < 2 ^ 31 by have := ztr_lt (n := dp A) hB; omega) (show A < 2 ^ 31 by omega), nI_leI (show dp B < 2 ^ 31 by omega) (show dp A < 2 ^ 31 by omega)]
  by_cases c1 : dp B ≤ dp A
  · rw [if_pos c1, if_neg (by omega)]
  · rw [if_neg c1]
    by_cases c : ztr B (dp A) = A
    · rw [if_pos c, if_pos ⟨by omega, c⟩]
    · rw [if_neg c, if_neg (by simp [c])]
/-- the star of a name -/
def stI (X : Nat) : Int32 := nI X ||| ((1 : Int32) <<< ((15 - 5 * nI (dp X)) &&& 31))
theorem star_X {X : Nat} (h : X < 1048576) : f_Na_starOf (nI X) = some (stI X) := by
  unfold f_Na_starOf
  rw [depth_X h]
  rfl
theorem star_M {X : Nat} (h : X < 1048576) : f_M_star (nI X) = some (stI X) := by
  unfold f_M_star
  rw [depth_M h]
  rfl
theorem nI_or (a b : Nat) : nI a ||| nI b = nI (a ||| b) := by
  apply Int32.toBitVec_inj.mp
  rw [Int32.toBitVec_or]
  show BitVec.ofNat 32 a ||| BitVec.ofNat 32 b = BitVec.ofNat 32 (a ||| b)
  rw [BitVec.ofNat_or]
theorem or_add {a b k : Nat} (h : b < 2 ^ k) : a * 2 ^ k ||| b = a * 2 ^ k + b := by
  rw [← Nat.shiftLeft_eq]
  exact (Nat.shiftLeft_add_eq_or_of_lt h a).symm
theorem star_name {X : Nat} (h : nmP X) (hd : dp X ≤ 3) : ∃ Y, stI X = nI Y ∧ nmP Y ∧ Y < 1048576 := by
  unfold stI
  rcases dp_cases h with ⟨e, h1⟩ | ⟨e, h1⟩ | ⟨e, h1⟩ | ⟨e, h1⟩ | ⟨e, h1⟩
  · refine ⟨32768, ?_, ?_, by omega⟩
    · rw [e, h1]; decide
    · unfold nmP znl0 znl1 znl2 znl3; decide
  · refine ⟨X + 1024, ?_, ?_, ?_⟩
    · rw [e, show ((1 : Int32) <<< ((15 - 5 * nI 1) &&& 31)) = nI 1024 by decide, nI_or, show X = X / 32768 * 2 ^ 15 by omega, or_add (by omega)]
    · obtain ⟨h2, h3, h4, h5, h6, h7, h8, h9⟩ := h
      unfold nmP
      unfold znl0 znl1 znl2 znl3 at *
      omega
    · have := h.1; omega
  · refine ⟨X + 32, ?_, ?_, ?_⟩
    · rw [e, show ((1 : Int32) <<< ((15 - 5 * nI 2) &&& 31)) = nI 32 by decide, nI_or, show X = X / 1024 * 2 ^ 10 by omega, or_add (by omega)]
    · obtain ⟨h2, h3, h4, h5, h6, h7, h8, h9⟩ := h
      unfold nmP
      unfold znl0 znl1 znl2 znl3 at *
      omega
    · have := h.1; omega
  · refine ⟨X + 1, ?_, ?_, ?_⟩
    · rw [e, show ((1 : Int32) <<< ((15 - 5 * nI 3) &&& 31)) = nI 1 by decide, nI_or, show X = X / 32 * 2 ^ 5 by omega, or_add (by omega)]
    · obtain ⟨h2, h3, h4, h5, h6, h7, h8, h9⟩ := h
      unfold nmP
      unfold znl0 znl1 znl2 znl3 at *
      omega
    · have := h.1; omega
  · omega
/-- what is cut off a name is a name -/
theorem ztr_nm {X n : Nat} (h : nmP X) : nmP (ztr X n) := by
  obtain ⟨h2, h3, h4, h5, h6, h7, h8, h9⟩ := h
  unfold nmP
  unfold znl0 znl1 znl2 znl3 at *
  match n with
  | 0 => simp [ztr]
  | 1 => simp only [ztr]; omega
  | 2 => simp only [ztr]; omega
  | 3 => simp only [ztr]; omega
  | _ + 4 => simp only [ztr]; omega
theorem dp_ztr {X n : Nat} (h : nmP X) (hn : n ≤ dp X) : dp (ztr X n) = n := by
  have hz := dp_cases (ztr_nm (n := n) h)
  rcases dp_cases h with ⟨e, h1⟩ | ⟨e, h1⟩ | ⟨e, h1⟩ | ⟨e, h1⟩ | ⟨e, h1⟩ <;> rw [e] at hn <;> rcases (show n = 0 ∨ n = 1 ∨ n = 2 ∨ n = 3 ∨ n = 4 by omega) with rfl | rfl | rfl | rfl | rfl <;> simp only [ztr] at hz ⊢ <;> omega
/-! sets -/
def stN (X t : Nat) : Nat := X * 8 + t
theorem set_X {X t : Nat} (hX : X < 1048576) (ht : t < 8) : f_Na_setOf (nI X) (nI t) = some (nI (stN X t)) := by
  unfold f_Na_setOf stN
  rw [pk_shlN _ 3 (by decide) (by omega), nI_or, or_add (by omega)]
theorem own_X {X t : Nat} (hX : X < 1048576) (ht : t < 8) : f_Na_ownerOf (nI (stN X t)) = some (nI X) := by
  unfold f_Na_ownerOf stN
  rw [pk_shrN (by omega) _ 3 (by decide), show (X * 8 + t) / 2 ^ 3 = X by omega]
theorem typ_X {X t : Nat} (hX : X < 1048576) (ht : t < 8) : f_Na_typeOf (nI (stN X t)) = some (nI t) := by
  unfold f_Na_typeOf stN
  rw [pk_andN (by omega) 3 rfl, show (X * 8 + t) % 2 ^ 3 = t by omega]
theorem stN_inj {X t Y u : Nat} (ht : t < 8) (hu : u < 8) (h : stN X t = stN Y u) : X = Y ∧ t = u := by
  unfold stN at h
  omega
theorem stN_lt {X t : Nat} (hX : X < 1048576) (ht : t < 8) : stN X t < 2 ^ 31 := by unfold stN; omega
/-! types, keys, data -/
theorem isType_both (x : Int32) : ∃ r, f_R_isType x = some r ∧ f_M_isType x = some r ∧ (¬ r = 0 → ∃ t, x = nI t ∧ 1 ≤ t ∧ t ≤ 5) := by
  unfold f_R_isType f_M_isType
  by_cases c1 : x < 1
  · exact ⟨0, by rw [if_pos c1], by rw [if_pos c1], fun h => absurd rfl h⟩
  · by_cases c2 : (5 : Int32) < x
    · exact ⟨0, by rw [if_neg c1, if_pos c2], by rw [if_neg c1, if_pos c2], fun h => absurd rfl h⟩
    · refine ⟨1, by rw [if_neg c1, if_neg c2], by rw [if_neg c1, if_neg c2], fun _ => ?_⟩
      rw [Int32.lt_iff_toInt_lt] at c1 c2
      have e1 : (1 : Int32).toInt = 1 := by decide
      have e5 : (5 : Int32).toInt = 5 := by decide
      obtain ⟨t, ht, rfl⟩ := nI_of (x := x) (by rw [Int32.lt_iff_toInt_lt, Int32.toInt_zero]; omega)
      rw [nI_toInt ht] at c1 c2
      exact ⟨t, rfl, by omega, by omega⟩
theorem isKey_both (x : Int32) : ∃ r, f_R_isKey x = some r ∧ f_M_isKey x = some r := by
  unfold f_R_isKey f_M_isKey
  by_cases c1 : x < 1
  · exact ⟨0, by rw [if_pos c1], by rw [if_pos c1]⟩
  · by_cases c2 : (1000000 : Int32) < x
    · exact ⟨0, by rw [if_neg c1, if_pos c2], by rw [if_neg c1, if_pos c2]⟩
    · exact ⟨1, by rw [if_neg c1, if_neg c2], by rw [if_neg c1, if_neg c2]⟩
theorem zib_01 {r : Int32} (h : r = 0 ∨ r = 1) : zib r = true := by rcases h with rfl | rfl <;> decide
theorem isKey_01 {x r : Int32} (h : f_R_isKey x = some r) : r = 0 ∨ r = 1 := by
  unfold f_R_isKey at h
  by_cases c1 : x < 1
  · rw [if_pos c1] at h; exact Or.inl (Option.some.inj h).symm
  · rw [if_neg c1] at h
    by_cases c2 : (1000000 : Int32) < x
    · rw [if_pos c2] at h; exact Or.inl (Option.some.inj h).symm
    · rw [if_neg c2] at h; exact Or.inr (Option.some.inj h).symm
theorem isData_both (t x : Int32) : ∃ r, f_R_isData t x = some r ∧ f_M_isData t x = some r := by
  unfold f_R_isData f_M_isData
  by_cases c3 : t = 3
  · rw [if_pos c3, if_pos c3]
    by_cases c : x < 0
    · exact ⟨0, by rw [if_pos c], by rw [if_pos c]⟩
    · exact ⟨1, by rw [if_neg c], by rw [if_neg c]⟩
  rw [if_neg c3, if_neg c3]
  by_cases c4 : t = 4
  · rw [if_pos c4, if_pos c4]
    obtain ⟨r, h1, h2⟩ := isKey_both x
    refine ⟨r, ?_, ?_⟩
    · rw [h1]; exact zgd_t (zib_01 (isKey_01 h1))
    · rw [h2]; exact zgd_t (zib_01 (isKey_01 h1))
  rw [if_neg c4, if_neg c4]
  by_cases c5 : t = 5
  · rw [if_pos c5, if_pos c5]
    unfold f_To_isTold f_To_nameIn
    by_cases a1 : x < 0
    · exact ⟨0, by rw [if_pos a1]; rfl, by rw [if_pos a1]⟩
    rw [if_neg a1, if_neg a1]
    by_cases a2 : (33554432 : Int32) ≤ x
    · exact ⟨0, by rw [if_pos a2]; rfl, by rw [if_pos a2]⟩
    rw [if_neg a2, if_neg a2]
    obtain ⟨r, hr, h1, h2, -⟩ := isName_both (x &&& 1048575)
    simp only [Option.bind_some, h1, h2]
    rcases hr with rfl | rfl
    · exact ⟨0, rfl, rfl⟩
    · exact ⟨1, rfl, rfl⟩
  · exact ⟨1, by rw [if_neg c5], by rw [if_neg c5]⟩
