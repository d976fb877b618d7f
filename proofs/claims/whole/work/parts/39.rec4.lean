def bfM (T : MSt) (o t : Int32) (n : Nat) (x : Int32) : Nat := zct (fun q => mtB T o t q && decide (T.2.1 2 q < x)) n
theorem bfM_le (T : MSt) (o t : Int32) (n : Nat) (x : Int32) : bfM T o t n x ≤ n := zct_le _ _
def kpB (T : MSt) (o t : Int32) (n k r : Nat) : Bool := mtB T o t r && decide (bfM T o t n (T.2.1 2 r) = k)
theorem dataIn_M {T : MSt} {n k r : Nat} (hn : T.1 0 = nI n) (h48 : n ≤ 48) (o t f : Int32) (hk : k ≤ 48) (hr : r < n) : zit (LS_M_dataAt_21 T o t (nI k) f (nI r)) 64 (0, 0) = some (.inl (if kpB T o t n k r then T.2.1 2 r else f, nI (r + 1))) := by
  have z2 : zin (nI r) 48 = true := zin_2 (by omega) (by omega)
  refine zit_seq n 64 (fun q => (nI (bfM T o t q (T.2.1 2 r)), nI q)) (fun q hq => ?_) ?_ (by omega)
  · show L_M_dataAt_21 T o t (nI k) f (nI r) (nI (bfM T o t q (T.2.1 2 r))) (nI q) = some (.inl (nI (bfM T o t (q + 1) (T.2.1 2 r)), nI (q + 1)))
    unfold L_M_dataAt_21
    have z1 : zin (nI q) 48 = true := zin_2 (by omega) (by omega)
    have e : bfM T o t (q + 1) (T.2.1 2 r) = bfM T o t q (T.2.1 2 r) + (if mtB T o t q && decide (T.2.1 2 q < T.2.1 2 r) then 1 else 0) := rfl
    rw [hn, if_neg (nI_ge2 hq (by omega)), e, nI_c2 (show q ≤ 3072 by omega), nI_c2 (show r ≤ 3072 by omega)]
    generalize bfM T o t q (T.2.1 2 r) = N
    simp only [zgd_t z1, zgd_t z2, mtB, nI_1]
    by_cases c : T.2.1 0 q = o
    · by_cases c2 : T.2.1 1 q = t
      · by_cases c3 : T.2.1 2 r ≤ T.2.1 2 q
        · have c4 : ¬ T.2.1 2 q < T.2.1 2 r := by rw [Int32.lt_iff_toInt_lt]; rw [Int32.le_iff_toInt_le] at c3; omega
          simp [c, c2, c3, c4]
        · have c4 : T.2.1 2 q < T.2.1 2 r := by rw [Int32.lt_iff_toInt_lt]; rw [Int32.le_iff_toInt_le] at c3; omega
          simp [c, c2, c3, c4]
      · simp [c, c2]
    · simp [c]
  · show L_M_dataAt_21 T o t (nI k) f (nI r) (nI (bfM T o t n (T.2.1 2 r))) (nI n) = _
    unfold L_M_dataAt_21
    have hb := bfM_le T o t n (T.2.1 2 r)
    rw [hn, if_pos (nI_le2 (Nat.le_refl _) (by omega)), nI_c2 (show r ≤ 3072 by omega)]
    simp only [zgd_t z2, kpB, mtB, nI_eq (show bfM T o t n (T.2.1 2 r) < 2 ^ 31 by omega) (show k < 2 ^ 31 by omega), nI_1]
    by_cases c : T.2.1 0 r = o
    · by_cases c2 : T.2.1 1 r = t
      · by_cases c3 : bfM T o t n (T.2.1 2 r) = k
        · simp [c, c2, c3]; rfl
        · simp [c, c2, c3]; rfl
      · simp [c, c2]; rfl
    · simp [c]; rfl
theorem data_M {T : MSt} {n k : Nat} (hn : T.1 0 = nI n) (h48 : n ≤ 48) (o t : Int32) (hk : k ≤ 48) : f_M_dataAt T o t (nI k) = some (fnd (kpB T o t n k) (T.2.1 2) n) := by
  refine zit_seq n 64 (fun r => (fnd (kpB T o t n k) (T.2.1 2) r, nI r)) (fun r hr => ?_) ?_ (by omega)
  · show L_M_dataAt_6 T o t (nI k) (fnd (kpB T o t n k) (T.2.1 2) r) (nI r) = _
    unfold L_M_dataAt_6
    rw [hn, if_neg (nI_ge2 hr (by omega)), dataIn_M hn h48 o t _ hk hr]
    rfl
  · show L_M_dataAt_6 T o t (nI k) (fnd (kpB T o t n k) (T.2.1 2) n) (nI n) = _
    unfold L_M_dataAt_6
    rw [hn, if_pos (nI_le2 (Nat.le_refl _) (by omega))]
    rfl
/-- the reference empties a set -/
theorem drop_M {T : MSt} {n : Nat} (o t : Int32) (hn : T.1 0 = nI n) (h48 : n ≤ 48) : ∃ r, zit (LS_M_drop_21 o t) 64 (0, 0, T) = some r ∧ r.1 = nI n - nI (kpN (tM T) (fun x => !(decide (x.1 = o) && decide (x.2.1 = t))) n) ∧ r.2.1 0 = nI (kpN (tM T) (fun x => !(decide (x.1 = o) && decide (x.2.1 = t))) n) ∧ SamM T r.2 ∧ ∀ p, tM r.2 p = cmp (tM T) (fun x => !(decide (x.1 = o) && decide (x.2.1 = t))) n p := by
  obtain ⟨kq, hkq⟩ : ∃ kq : Int32 × Int32 × Int32 → Bool, kq = fun x => !(decide (x.1 = o) && decide (x.2.1 = t)) := ⟨_, rfl⟩
  rw [← hkq]
  refine zit_inv (fun i (s : Int32 × Int32 × MSt) => s.1 = nI (kpN (tM T) kq i) ∧ s.2.1 = nI i ∧ s.2.2.1 = T.1 ∧ (∀ k, k ≠ 0 → k ≠ 1 → k ≠ 2 → s.2.2.2.1 k = T.2.1 k) ∧ ∀ p, tM s.2.2 p = cmp (tM T) kq i p) _ n ?_ 64 0 _ (Nat.zero_le _) (by omega) ⟨rfl, rfl, rfl, fun _ _ _ _ => rfl, fun p => rfl⟩
  rintro i ⟨v, w, S1⟩ hi ⟨hv, hw, h1, h2, h3⟩
  simp only at hv hw h1 h2 h3
  subst hv
  subst hw
  have hkp := kpN_le (tM T) kq i
  have hs1 : S1.1 0 = nI n := by rw [h1]; exact hn
  by_cases c : i < n
  · left
    have z1 : zin (nI i) 48 = true := zin_2 (by omega) (by omega)
    have z2 : zin (nI (kpN (tM T) kq i)) 48 = true := zin_2 (by omega) (by omega)
    have ei : tM S1 i = tM T i := by rw [h3, cmp_ge _ _ _ _ (Nat.le_refl _)]
    have e0 : S1.2.1 0 i = T.2.1 0 i := congrArg Prod.fst ei
    have e1 : S1.2.1 1 i = T.2.1 1 i := congrArg (fun x => x.2.1) ei
    have e2 : S1.2.1 2 i = T.2.1 2 i := congrArg (fun x => x.2.2) ei
    by_cases cs : T.2.1 0 i = o ∧ T.2.1 1 i = t
    · have hkf : kq (tM T i) = false := by rw [hkq]; simp [tM, cs.1, cs.2]
      refine ⟨(nI (kpN (tM T) kq i), nI i + 1, S1), ?_, c, ?_, nI_1 i, h1, h2, ?_⟩
      · show L_M_drop_21 o t (nI (kpN (tM T) kq i)) (nI i) S1 = _
        unfold L_M_drop_21
        rw [hs1, if_neg (nI_ge2 c (by omega)), nI_c2 (show i ≤ 3072 by omega), zgd_t z1, zgd_t z1, if_pos (e0.trans cs.1), if_pos (e1.trans cs.2)]
      · rw [kpN_s, hkf]; rfl
      · intro p
        show tM S1 p = (if kq (tM T i) = true ∧ p = kpN (tM T) kq i then tM T i else cmp (tM T) kq i p)
        rw [if_neg (by simp [hkf])]
        exact h3 p
    · have hkt : kq (tM T i) = true := by
        rw [hkq]
        have : ¬ (T.2.1 0 i = o ∧ T.2.1 1 i = t) := cs
        simp only [tM, Bool.not_eq_true', Bool.and_eq_false_iff, decide_eq_false_iff_not]
        by_cases q : T.2.1 0 i = o
        · exact Or.inr (decide_eq_false (fun z => cs ⟨q, z⟩))
        · exact Or.inl (decide_eq_false q)
      refine ⟨(nI (kpN (tM T) kq i) + 1, nI i + 1, zmA (zmA (zmA S1 0 (nI (kpN (tM T) kq i)) (S1.2.1 0 i)) 1 (nI (kpN (tM T) kq i)) (S1.2.1 1 i)) 2 (nI (kpN (tM T) kq i)) (S1.2.1 2 i)), ?_, c, ?_, nI_1 i, h1, ?_, ?_⟩
      · have hJ : J_M_drop_52 S1 o t (nI (kpN (tM T) kq i)) (nI i) = some (Sum.inl (nI (kpN (tM T) kq i) + 1, nI i + 1, zmA (zmA (zmA S1 0 (nI (kpN (tM T) kq i)) (S1.2.1 0 i)) 1 (nI (kpN (tM T) kq i)) (S1.2.1 1 i)) 2 (nI (kpN (tM T) kq i)) (S1.2.1 2 i))) := by
          unfold J_M_drop_52
          rw [nI_c2 (show i ≤ 3072 by omega)]
          simp only [znm, zgd_t z1, zgd_t z2, zmA_n (show (1 : Nat) ≠ 0 by decide), zmA_n (show (2 : Nat) ≠ 0 by decide), zmA_n (show (2 : Nat) ≠ 1 by decide)]
        show L_M_drop_21 o t (nI (kpN (tM T) kq i)) (nI i) S1 = _
        unfold L_M_drop_21
        rw [hs1, if_neg (nI_ge2 c (by omega)), nI_c2 (show i ≤ 3072 by omega), zgd_t z1, zgd_t z1, hJ]
        by_cases q : S1.2.1 0 i = o
        · rw [if_pos q, if_neg (fun z => cs ⟨e0.symm.trans q, e1.symm.trans z⟩)]
        · rw [if_neg q]
      · rw [kpN_s, hkt, if_pos rfl]; exact nI_1 _
      · intro k h4 h5 h6
        show (zmA (zmA (zmA S1 0 (nI (kpN (tM T) kq i)) (S1.2.1 0 i)) 1 (nI (kpN (tM T) kq i)) (S1.2.1 1 i)) 2 (nI (kpN (tM T) kq i)) (S1.2.1 2 i)).2.1 k = _
        rw [zmA_n h6, zmA_n h5, zmA_n h4]
        exact h2 k h4 h5 h6
      · intro p
        show ((zmA (zmA (zmA S1 0 (nI (kpN (tM T) kq i)) (S1.2.1 0 i)) 1 (nI (kpN (tM T) kq i)) (S1.2.1 1 i)) 2 (nI (kpN (tM T) kq i)) (S1.2.1 2 i)).2.1 0 p, (zmA (zmA (zmA S1 0 (nI (kpN (tM T) kq i)) (S1.2.1 0 i)) 1 (nI (kpN (tM T) kq i)) (S1.2.1 1 i)) 2 (nI (kpN (tM T) kq i)) (S1.2.1 2 i)).2.1 1 p, (zmA (zmA (zmA S1 0 (nI (kpN (tM T) kq i)) (S1.2.1 0 i)) 1 (nI (kpN (tM T) kq i)) (S1.2.1 1 i)) 2 (nI (kpN (tM T) kq i)) (S1.2.1 2 i)).2.1 2 p) = (if kq (tM T i) = true ∧ p = kpN (tM T) kq i then tM T i else cmp (tM T) kq i p)
        rw [zmA_n (show (0 : Nat) ≠ 2 by decide), zmA_n (show (0 : Nat) ≠ 1 by decide), zmA_s (by omega), zmA_n (show (1 : Nat) ≠ 2 by decide), zmA_s (by omega), zmA_n (show (1 : Nat) ≠ 0 by decide), zmA_s (by omega), zmA_n (show (2 : Nat) ≠ 1 by decide), zmA_n (show (2 : Nat) ≠ 0 by decide)]
        by_cases cp : p = kpN (tM T) kq i
        · rw [if_pos cp, if_pos cp, if_pos cp, if_pos ⟨hkt, cp⟩, e0, e1, e2]; rfl
        · rw [if_neg cp, if_neg cp, if_neg cp, if_neg (fun h => cp h.2)]
          exact h3 p
  · right
    have hin : i = n := by omega
    subst hin
    refine ⟨(nI i - nI (kpN (tM T) kq i), zmS S1 0 (nI (kpN (tM T) kq i))), ?_, rfl, zmS_s, ⟨fun j hj => ?_, h2⟩, h3⟩
    · show L_M_drop_21 o t (nI (kpN (tM T) kq i)) (nI i) S1 = _
      unfold L_M_drop_21
      rw [hs1, if_pos (nI_le2 (Nat.le_refl _) (by omega))]
      simp only [znm]
      rfl
    · show (zmS S1 0 _).1 j = _
      rw [zmS_n hj, h1]
