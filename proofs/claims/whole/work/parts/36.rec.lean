/-! records: what the class's methods answer -/
def aX (S : XSt) : Rc := fun i => (S.2 0 i, S.2 1 i)
theorem nI_ge2 {a b : Nat} (h : a < b) (hb : b ≤ 3072) : ¬ nI b ≤ nI a := nI_ge h (by omega)
theorem nI_le2 {a b : Nat} (h : a ≤ b) (hb : b ≤ 3072) : nI a ≤ nI b := nI_le h (by omega)
theorem nI_c2 {a : Nat} (h : a ≤ 3072) : Int32.toNatClampNeg (nI a) = a := nI_clamp (by omega)
theorem zin_2 {i n : Nat} (h : i < n) (hn : n ≤ 3072) : zin (nI i) n = true := zin_n h (by omega)
theorem size_X {S : XSt} {n : Nat} (hn : S.1 0 = nI n) (h48 : n ≤ 48) (set : Int32) : f_Re_sizeOf S set = some (nI (zszR (aX S) n set)) := by
  refine zit_seq n 64 (fun i => (nI (zszR (aX S) i set), nI i)) (fun i hi => ?_) ?_ (by omega)
  · show L_Re_sizeOf_4 S set (nI _) (nI i) = _
    unfold L_Re_sizeOf_4
    rw [hn, if_neg (nI_ge2 hi (by omega)), zgd_t (zin_2 (show i < 48 by omega) (by omega)), nI_c2 (by omega)]
    have e : zszR (aX S) (i + 1) set = zszR (aX S) i set + (if decide (S.2 0 i = set) then 1 else 0) := rfl
    by_cases c : S.2 0 i = set
    · rw [if_pos c, e]; simp [c, nI_1]
    · rw [if_neg c, e]; simp [c, nI_1]
  · show L_Re_sizeOf_4 S set (nI _) (nI n) = _
    unfold L_Re_sizeOf_4
    rw [hn, if_pos (nI_le2 (Nat.le_refl _) (by omega))]
    rfl
theorem start_X {S : XSt} {n : Nat} (hn : S.1 0 = nI n) (h48 : n ≤ 48) (hs : Srt (aX S) n) (set : Int32) : f_Re_startOf S set = some (nI (zstR (aX S) n set)) := by
  have hle : zstR (aX S) n set ≤ n := zct_le _ _
  refine zit_seq (zstR (aX S) n set) 64 (fun i => nI i) (fun i hi => ?_) ?_ (by omega)
  · show L_Re_startOf_2 S set (nI i) = _
    unfold L_Re_startOf_2
    have h1 := (zstR_iff hs set i (by omega)).mpr hi
    rw [hn, if_neg (nI_ge2 (show i < n by omega) (by omega)), zgd_t (zin_2 (show i < 48 by omega) (by omega)), nI_c2 (by omega), if_neg, nI_1]
    rw [Int32.le_iff_toInt_le]
    rw [Int32.lt_iff_toInt_lt] at h1
    exact Int.not_le.mpr h1
  · show L_Re_startOf_2 S set (nI (zstR (aX S) n set)) = _
    unfold L_Re_startOf_2
    by_cases c : zstR (aX S) n set = n
    · rw [hn, if_pos (by rw [c]; exact nI_le2 (Nat.le_refl _) (by omega))]; rfl
    · have hlt : zstR (aX S) n set < n := by omega
      have h1 : ¬ (aX S (zstR (aX S) n set)).1 < set := fun h => Nat.lt_irrefl _ ((zstR_iff hs set _ hlt).mp h)
      rw [hn, if_neg (nI_ge2 hlt (by omega)), zgd_t (zin_2 (show zstR (aX S) n set < 48 by omega) (by omega)), nI_c2 (by omega), if_pos]
      · rfl
      · rw [Int32.lt_iff_toInt_lt] at h1
        rw [Int32.le_iff_toInt_le]
        exact Int.not_lt.mp h1
theorem data_X {S : XSt} {n i : Nat} (hn : S.1 0 = nI n) (h48 : n ≤ 48) (hi : i < n) : f_Re_dataAt S (nI i) = some (S.2 1 i) := by
  unfold f_Re_dataAt
  rw [if_neg (nI_pos (by omega)), hn, if_neg (nI_ge2 hi (by omega)), zgd_t (zin_2 (show i < 48 by omega) (by omega)), nI_c2 (by omega)]
theorem setAt_X {S : XSt} {n i : Nat} (hn : S.1 0 = nI n) (h48 : n ≤ 48) (hi : i < n) : f_Re_setAt S (nI i) = some (S.2 0 i) := by
  unfold f_Re_setAt
  rw [if_neg (nI_pos (by omega)), hn, if_neg (nI_ge2 hi (by omega)), zgd_t (zin_2 (show i < 48 by omega) (by omega)), nI_c2 (by omega)]
/-- the k-th of a set -/
theorem kth_X {S : XSt} {n k : Nat} (hn : S.1 0 = nI n) (h48 : n ≤ 48) (hs : Srt (aX S) n) (set : Int32) (hk : k < zszR (aX S) n set) : f_Re_dataAt S (nI (zstR (aX S) n set) + nI k) = some (S.2 1 (zstR (aX S) n set + k)) := by
  rw [nI_add]
  have := szR_le hs set
  exact data_X hn h48 (by omega)
def ltB (x y : Int32 × Int32) : Bool := decide (x.1.toInt < y.1.toInt) || (decide (x.1.toInt = y.1.toInt) && decide (x.2.toInt < y.2.toInt))
theorem ltB_iff {x y : Int32 × Int32} : ltB x y = true ↔ ltR x y := by simp [ltB, ltR]
theorem ltR_trans {x y z : Int32 × Int32} (h1 : ltR x y) (h2 : ltR y z) : ltR x z := by
  unfold ltR at *
  omega
/-- where a record belongs -/
def rwR (a : Rc) (n : Nat) (x : Int32 × Int32) : Nat := zct (fun i => ltB (a i) x) n
theorem rwR_iff {a : Rc} {n : Nat} (h : Srt a n) (x : Int32 × Int32) (i : Nat) (hi : i < n) : ltR (a i) x ↔ i < rwR a n x := by
  have := zct_down (P := fun i => ltB (a i) x) (n := n) (fun i j hij hj hP => by
    rw [ltB_iff] at hP ⊢
    exact ltR_trans (h i j hij hj) hP) i hi
  rw [← ltB_iff]
  exact this
theorem rowFor_X {S : XSt} {n : Nat} (hn : S.1 0 = nI n) (h48 : n ≤ 48) (hs : Srt (aX S) n) (set data : Int32) : f_Re_rowFor S set data = some (nI (rwR (aX S) n (set, data))) := by
  unfold f_Re_rowFor
  rw [start_X hn h48 hs]
  have hle : rwR (aX S) n (set, data) ≤ n := zct_le _ _
  have hst : zstR (aX S) n set ≤ rwR (aX S) n (set, data) := by
    refine zct_sub (fun i hi h => ?_)
    rw [ltB_iff]
    have h : (aX S i).1 < set := by simpa using h
    rw [Int32.lt_iff_toInt_lt] at h
    exact Or.inl h
  show zit _ 64 (nI (zstR (aX S) n set)) = _
  refine zit_seq (rwR (aX S) n (set, data) - zstR (aX S) n set) 64 (fun i => nI (zstR (aX S) n set + i)) (fun i hi => ?_) ?_ (by omega)
  · show L_Re_rowFor_6 S set data (nI (zstR (aX S) n set + i)) = _
    unfold L_Re_rowFor_6
    have h1 := (rwR_iff hs (set, data) (zstR (aX S) n set + i) (by omega)).mpr (by omega)
    have h2 : ¬ (aX S (zstR (aX S) n set + i)).1 < set := fun h => absurd ((zstR_iff hs set _ (by omega)).mp h) (by omega)
    rw [Int32.lt_iff_toInt_lt] at h2
    have h3 : S.2 0 (zstR (aX S) n set + i) = set := by
      rw [← Int32.toInt_inj]
      have h1 : ltR (S.2 0 (zstR (aX S) n set + i), S.2 1 (zstR (aX S) n set + i)) (set, data) := h1
      have h2 : ¬ (S.2 0 (zstR (aX S) n set + i)).toInt < set.toInt := h2
      simp only [ltR] at h1
      omega
    have h4 : ¬ data ≤ S.2 1 (zstR (aX S) n set + i) := by
      rw [Int32.le_iff_toInt_le]
      have h1 : ltR (S.2 0 (zstR (aX S) n set + i), S.2 1 (zstR (aX S) n set + i)) (set, data) := h1
      have h2 : ¬ (S.2 0 (zstR (aX S) n set + i)).toInt < set.toInt := h2
      simp only [ltR] at h1
      omega
    rw [hn, if_neg (nI_ge2 (show zstR (aX S) n set + i < n by omega) (by omega)), zgd_t (zin_2 (show zstR (aX S) n set + i < 48 by omega) (by omega)), nI_c2 (by omega), if_pos h3, zgd_t (zin_2 (show zstR (aX S) n set + i < 48 by omega) (by omega)), if_neg h4, nI_1]
    rfl
  · rw [show zstR (aX S) n set + (rwR (aX S) n (set, data) - zstR (aX S) n set) = rwR (aX S) n (set, data) by omega]
    show L_Re_rowFor_6 S set data (nI (rwR (aX S) n (set, data))) = _
    unfold L_Re_rowFor_6
    by_cases c : rwR (aX S) n (set, data) = n
    · rw [hn, if_pos (by rw [c]; exact nI_le2 (Nat.le_refl _) (by omega))]; rfl
    · have hlt : rwR (aX S) n (set, data) < n := by omega
      have h1 : ¬ ltR (aX S (rwR (aX S) n (set, data))) (set, data) := fun h => Nat.lt_irrefl _ ((rwR_iff hs _ _ hlt).mp h)
      rw [hn, if_neg (nI_ge2 hlt (by omega)), zgd_t (zin_2 (show rwR (aX S) n (set, data) < 48 by omega) (by omega)), nI_c2 (by omega)]
      by_cases c2 : S.2 0 (rwR (aX S) n (set, data)) = set
      · rw [if_pos c2, zgd_t (zin_2 (show rwR (aX S) n (set, data) < 48 by omega) (by omega)), if_pos]
        · rfl
        · rw [Int32.le_iff_toInt_le]
          have c3 := congrArg Int32.toInt c2
          have h1 : ¬ ltR (S.2 0 (rwR (aX S) n (set, data)), S.2 1 (rwR (aX S) n (set, data))) (set, data) := h1
          simp only [ltR] at h1
          omega
      · rw [if_neg c2]; rfl
