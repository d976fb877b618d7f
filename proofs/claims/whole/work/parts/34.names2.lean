theorem nz {p : Prop} [Decidable p] : (¬ (if p then (1 : Int32) else 0) = 0) ↔ p := by
  by_cases h : p <;> simp [h]
theorem M_lab {X k : Nat} {v : Int32} (hX : X < 2 ^ 31) (hs : (((15 - 5 * v) &&& 31 : Int32).toBitVec.smod 32).toNat = k) : f_M_label (nI X) v = some (nI (X / 2 ^ k % 32)) := by
  unfold f_M_label
  rw [lab_n hX _ hs]
theorem isM_st0 {X : Nat} (hX : X < 2 ^ 31) : LS_M_isName_16 (nI X) (1, 0) = some (.inl (if X / 32768 % 32 ≤ 27 then 1 else 0, 0 + 1)) := by
  show L_M_isName_16 (nI X) 1 0 = _
  unfold L_M_isName_16
  rw [if_neg (by decide), if_neg (by decide), M_lab (k := 15) hX (by decide)]
  have hl : X / 2 ^ 15 % 32 < 32 := Nat.mod_lt _ (by omega)
  simp only [Option.bind_some, lt27 hl]
  rw [show (2 : Nat) ^ 15 = 32768 from rfl]
  by_cases c : 27 < X / 32768 % 32
  · rw [if_pos c, if_neg (show ¬ X / 32768 % 32 ≤ 27 by omega)]
  · rw [if_neg c, if_pos (show X / 32768 % 32 ≤ 27 by omega)]; rfl
theorem isM_st {X k kp : Nat} {v1 v2 : Int32} (hX : X < 2 ^ 31) (h4 : ¬ 4 ≤ v2) (h0 : ¬ v2 = 0) (hs : (((15 - 5 * v2) &&& 31 : Int32).toBitVec.smod 32).toNat = k) (hp : (((15 - 5 * (v2 - 1)) &&& 31 : Int32).toBitVec.smod 32).toNat = kp) : LS_M_isName_16 (nI X) (v1, v2) = some (.inl (if ¬ v1 = 0 ∧ X / 2 ^ k % 32 ≤ 27 ∧ (X / 2 ^ k % 32 = 0 ∨ ¬ X / 2 ^ kp % 32 = 0) then 1 else 0, v2 + 1)) := by
  show L_M_isName_16 (nI X) v1 v2 = _
  unfold L_M_isName_16
  have hl : X / 2 ^ k % 32 < 32 := Nat.mod_lt _ (by omega)
  have hl2 : X / 2 ^ kp % 32 < 32 := Nat.mod_lt _ (by omega)
  rw [if_neg h4, M_lab hX hs, M_lab hX hp]
  generalize X / 2 ^ k % 32 = a at hl ⊢
  generalize X / 2 ^ kp % 32 = b at hl2 ⊢
  simp only [Option.bind_some, lt27 hl, eq0 (show a < 2 ^ 31 by omega), le0 (show b < 2 ^ 31 by omega), h0]
  by_cases c1 : v1 = 0
  · rw [if_pos c1, if_neg (by simp [c1])]
  · rw [if_neg c1]
    by_cases c2 : 27 < a
    · rw [if_pos c2, if_neg (by omega)]
    · rw [if_neg c2]
      by_cases c3 : a = 0
      · simp [c1, c3]
      · by_cases c4 : b = 0
        · simp [c3, c4]
        · simp [c1, c3, c4]; omega
theorem isName_M {X : Nat} (h0 : X < 1048576) : (nmP X → f_M_isName (nI X) = some 1) ∧ (¬ nmP X → f_M_isName (nI X) = some 0) := by
  have hX : X < 2 ^ 31 := by omega
  have e : f_M_isName (nI X) = zit (LS_M_isName_16 (nI X)) 64 (1, 0) := by
    unfold f_M_isName
    rw [if_neg (nI_pos hX), if_pos (by rw [show (1048576 : Int32) = nI 1048576 from rfl, nI_ltI (by omega) (by omega)]; exact h0)]
  have s1 := fun v1 => isM_st (v1 := v1) (v2 := 0 + 1) (k := 10) (kp := 15) hX (by decide) (by decide) (by decide) (by decide)
  have s2 := fun v1 => isM_st (v1 := v1) (v2 := 0 + 1 + 1) (k := 5) (kp := 10) hX (by decide) (by decide) (by decide) (by decide)
  have s3 := fun v1 => isM_st (v1 := v1) (v2 := 0 + 1 + 1 + 1) (k := 0) (kp := 5) hX (by decide) (by decide) (by decide) (by decide)
  have s4 : ∀ (p : Prop) [Decidable p], LS_M_isName_16 (nI X) (if p then 1 else 0, 0 + 1 + 1 + 1 + 1) = some (.inr (if p then 1 else 0)) := fun p _ => by
    show L_M_isName_16 (nI X) (if p then 1 else 0) (0 + 1 + 1 + 1 + 1) = _
    unfold L_M_isName_16
    rw [if_pos (by decide)]
    by_cases h : p <;> simp [h] <;> rfl
  rw [e, zit_l (isM_st0 hX), zit_l (s1 _), zit_l (s2 _), zit_l (s3 _), zit_r (s4 _)]
  simp only [show (2 : Nat) ^ 15 = 32768 from rfl, show (2 : Nat) ^ 10 = 1024 from rfl, show (2 : Nat) ^ 5 = 32 from rfl, show (2 : Nat) ^ 0 = 1 from rfl, Nat.div_one, nz]
  unfold nmP znl0 znl1 znl2 znl3
  constructor
  · intro h
    rw [if_pos]
    omega
  · intro h
    rw [if_neg]
    omega
/-- both say the same of an int -/
theorem isName_both (x : Int32) : ∃ r, (r = 0 ∨ r = 1) ∧ f_Na_isName x = some r ∧ f_M_isName x = some r ∧ (r ≠ 0 → ∃ X, x = nI X ∧ nmP X) := by
  by_cases hn : x < 0
  · exact ⟨0, Or.inl rfl, by unfold f_Na_isName; rw [if_pos hn], by unfold f_M_isName; rw [if_pos hn], fun h => absurd rfl h⟩
  obtain ⟨X, hX, rfl⟩ := nI_of hn
  by_cases hl : X < 1048576
  · by_cases hm : nmP X
    · exact ⟨1, Or.inr rfl, (isName_X hl).1 hm, (isName_M hl).1 hm, fun _ => ⟨X, rfl, hm⟩⟩
    · exact ⟨0, Or.inl rfl, (isName_X hl).2 hm, (isName_M hl).2 hm, fun h => absurd rfl h⟩
  · have c : ¬ nI X < 1048576 := by rw [show (1048576 : Int32) = nI 1048576 from rfl, nI_ltI (by omega) (by omega)]; exact hl
    exact ⟨0, Or.inl rfl, by unfold f_Na_isName; rw [if_neg hn, if_neg c], by unfold f_M_isName; rw [if_neg hn, if_neg c], fun h => absurd rfl h⟩
/-! depth -/
theorem dpX_st {X k a : Nat} {v2 : Int32} (hX : X < 2 ^ 31) (h2 : ¬ v2 < 0) (hs : ((v2 &&& 31).toBitVec.smod 32).toNat = k) : LS_Na_depth_5 (nI X) (nI a, v2) = some (.inl (nI (a + zne0 (X / 2 ^ k % 32)), v2 + -5)) := by
  show L_Na_depth_5 (nI X) (nI a) v2 = _
  unfold L_Na_depth_5
  have hl : X / 2 ^ k % 32 < 32 := Nat.mod_lt _ (by omega)
  rw [if_neg h2, lab_n hX _ hs]
  generalize X / 2 ^ k % 32 = l at hl ⊢
  simp only [eq0 (show l < 2 ^ 31 by omega), zne0]
  by_cases c : l = 0
  · rw [if_pos c, if_pos c]; rfl
  · rw [if_neg c, if_neg c, nI_1]
theorem depth_X {X : Nat} (h0 : X < 1048576) : f_Na_depth (nI X) = some (nI (dp X)) := by
  have hX : X < 2 ^ 31 := by omega
  have s0 := dpX_st (a := 0) (v2 := 15) (k := 15) hX (by decide) (by decide)
  have s1 := fun a => dpX_st (a := a) (v2 := 15 + -5) (k := 10) hX (by decide) (by decide)
  have s2 := fun a => dpX_st (a := a) (v2 := 15 + -5 + -5) (k := 5) hX (by decide) (by decide)
  have s3 := fun a => dpX_st (a := a) (v2 := 15 + -5 + -5 + -5) (k := 0) hX (by decide) (by decide)
  have s4 : ∀ a, LS_Na_depth_5 (nI X) (nI a, 15 + -5 + -5 + -5 + -5) = some (.inr (nI a)) := fun a => by
    show L_Na_depth_5 (nI X) (nI a) (15 + -5 + -5 + -5 + -5) = _
    unfold L_Na_depth_5
    rw [if_pos (by decide)]
    rfl
  show zit (LS_Na_depth_5 (nI X)) 64 (nI 0, 15) = _
  rw [zit_l s0, zit_l (s1 _), zit_l (s2 _), zit_l (s3 _), zit_r (s4 _)]
  simp only [dp, znl0, znl1, znl2, znl3, show (2 : Nat) ^ 15 = 32768 from rfl, show (2 : Nat) ^ 10 = 1024 from rfl, show (2 : Nat) ^ 5 = 32 from rfl, show (2 : Nat) ^ 0 = 1 from rfl, Nat.div_one, Nat.zero_add]
theorem dpM_st {X k a : Nat} {v2 : Int32} (hX : X < 2 ^ 31) (h4 : ¬ 4 ≤ v2) (hs : (((15 - 5 * v2) &&& 31 : Int32).toBitVec.smod 32).toNat = k) : LS_M_depth_4 (nI X) (nI a, v2) = some (.inl (nI (a + zne0 (X / 2 ^ k % 32)), v2 + 1)) := by
  show L_M_depth_4 (nI X) (nI a) v2 = _
  unfold L_M_depth_4
  have hl : X / 2 ^ k % 32 < 32 := Nat.mod_lt _ (by omega)
  rw [if_neg h4, M_lab hX hs]
  generalize X / 2 ^ k % 32 = l at hl ⊢
  simp only [Option.bind_some, le0 (show l < 2 ^ 31 by omega), zne0]
  by_cases c : l = 0
  · rw [if_pos c, if_pos c]; rfl
  · rw [if_neg c, if_neg c, nI_1]
theorem depth_M {X : Nat} (h0 : X < 1048576) : f_M_depth (nI X) = some (nI (dp X)) := by
  have hX : X < 2 ^ 31 := by omega
  have s0 := dpM_st (a := 0) (v2 := 0) (k := 15) hX (by decide) (by decide)
  have s1 := fun a => dpM_st (a := a) (v2 := 0 + 1) (k := 10) hX (by decide) (by decide)
  have s2 := fun a => dpM_st (a := a) (v2 := 0 + 1 + 1) (k := 5) hX (by decide) (by decide)
  have s3 := fun a => dpM_st (a := a) (v2 := 0 + 1 + 1 + 1) (k := 0) hX (by decide) (by decide)
  have s4 : ∀ a, LS_M_depth_4 (nI X) (nI a, 0 + 1 + 1 + 1 + 1) = some (.inr (nI a)) := fun a => by
    show L_M_depth_4 (nI X) (nI a) (0 + 1 + 1 + 1 + 1) = _
    unfold L_M_depth_4
    rw [if_pos (by decide)]
    rfl
  show zit (LS_M_depth_4 (nI X)) 64 (nI 0, 0) = _
  rw [zit_l s0, zit_l (s1 _), zit_l (s2 _), zit_l (s3 _), zit_r (s4 _)]
  simp only [dp, znl0, znl1, znl2, znl3, show (2 : Nat) ^ 15 = 32768 from rfl, show (2 : Nat) ^ 10 = 1024 from rfl, show (2 : Nat) ^ 5 = 32 from rfl, show (2 : Nat) ^ 0 = 1 from rfl, Nat.div_one, Nat.zero_add]
/-! the first labels -/
theorem ztr_a (X : Nat) : ztr X 1 = X / 32768 * 32768 ∧ ztr X 2 = X / 1024 * 1024 ∧ ztr X 3 = X / 32 * 32 ∧ ztr X 4 = X := ⟨rfl, rfl, rfl, rfl⟩
theorem shsh {X k : Nat} (hX : X < 2 ^ 31) (s : Int32) (hs : (s.toBitVec.smod 32).toNat = k) : (nI X >>> s) <<< s = nI (X / 2 ^ k * 2 ^ k) := by
  have h1 : X / 2 ^ k * 2 ^ k ≤ X := Nat.div_mul_le_self _ _
  rw [pk_shrN hX s k hs, pk_shlN s k hs (by omega)]
theorem first_X {X n : Nat} (h0 : X < 1048576) (hn : n ≤ 4) : f_Na_firstLabels (nI X) (nI n) = some (nI (ztr X n)) := by
  have hX : X < 2 ^ 31 := by omega
  unfold f_Na_firstLabels
  rcases (show n = 0 ∨ n = 1 ∨ n = 2 ∨ n = 3 ∨ n = 4 by omega) with rfl | rfl | rfl | rfl | rfl
  · rw [shsh (k := 20) hX _ (by decide), show X / 2 ^ 20 * 2 ^ 20 = 0 by omega, show ztr X 0 = 0 from rfl]
  · rw [shsh (k := 15) hX _ (by decide), (ztr_a X).1, show (2 : Nat) ^ 15 = 32768 from rfl]
  · rw [shsh (k := 10) hX _ (by decide), (ztr_a X).2.1, show (2 : Nat) ^ 10 = 1024 from rfl]
  · rw [shsh (k := 5) hX _ (by decide), (ztr_a X).2.2.1, show (2 : Nat) ^ 5 = 32 from rfl]
  · rw [shsh (k := 0) hX _ (by decide)]; simp [ztr]
theorem mask_n {X k : Nat} (m : Int32) (hm : m.toBitVec = BitVec.allOnes 32 <<< k) : nI X &&& m = nI (X / 2 ^ k * 2 ^ k) := by
  apply Int32.toBitVec_inj.mp
  rw [Int32.toBitVec_and, hm]
  show BitVec.ofNat 32 X &&& _ = BitVec.ofNat 32 _
  apply BitVec.eq_of_getLsbD_eq
  intro i hi
  rw [BitVec.getLsbD_and, BitVec.getLsbD_ofNat, BitVec.getLsbD_ofNat, BitVec.getLsbD_shiftLeft, BitVec.getLsbD_allOnes, Nat.mul_comm, Nat.testBit_two_pow_mul, Nat.testBit_div_two_pow]
  by_cases c : k ≤ i
  · have e : i - k + k = i := by omega
    have e' : k + (i - k) = i := by omega
    simp [c, e, e', hi, show ¬ i < k by omega, show i - k < 32 by omega]
  · simp [c, show i < k by omega]
theorem cut_M {X n : Nat} (h0 : X < 1048576) (hn : n ≤ 4) : f_M_cut (nI X) (nI n) = some (nI (ztr X n)) := by
  unfold f_M_cut
  rcases (show n = 0 ∨ n = 1 ∨ n = 2 ∨ n = 3 ∨ n = 4 by omega) with rfl | rfl | rfl | rfl | rfl
  · rfl
  · rw [if_neg (by decide), mask_n (k := 15) _ (by decide), (ztr_a X).1, show (2 : Nat) ^ 15 = 32768 from rfl]
  · rw [if_neg (by decide), mask_n (k := 10) _ (by decide), (ztr_a X).2.1, show (2 : Nat) ^ 10 = 1024 from rfl]
  · rw [if_neg (by decide), mask_n (k := 5) _ (by decide), (ztr_a X).2.2.1, show (2 : Nat) ^ 5 = 32 from rfl]
  · rw [if_neg (by decide), mask_n (k := 0) _ (by decide)]; simp [ztr]
