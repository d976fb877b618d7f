/-! what is kept, moved together -/
def kpN {α : Type} (a : Nat → α) (kq : α → Bool) (i : Nat) : Nat := zct (fun j => kq (a j)) i
def cmp {α : Type} (a : Nat → α) (kq : α → Bool) : Nat → Nat → α
  | 0 => a
  | i + 1 => fun p => if kq (a i) = true ∧ p = kpN a kq i then a i else cmp a kq i p
theorem kpN_le {α : Type} (a : Nat → α) (kq : α → Bool) (i : Nat) : kpN a kq i ≤ i := zct_le _ _
theorem kpN_s {α : Type} (a : Nat → α) (kq : α → Bool) (i : Nat) : kpN a kq (i + 1) = kpN a kq i + (if kq (a i) then 1 else 0) := rfl
theorem cmp_ge {α : Type} (a : Nat → α) (kq : α → Bool) : ∀ (i p : Nat), i ≤ p → cmp a kq i p = a p
  | 0, _, _ => rfl
  | i + 1, p, h => by
    have := kpN_le a kq i
    show (if kq (a i) = true ∧ p = kpN a kq i then a i else cmp a kq i p) = a p
    rw [if_neg (by omega), cmp_ge a kq i p (by omega)]
theorem cmp_cnt {α : Type} (a : Nat → α) (kq : α → Bool) (P : α → Bool) : ∀ i, zct (fun p => P (cmp a kq i p)) (kpN a kq i) = zct (fun j => P (a j) && kq (a j)) i
  | 0 => rfl
  | i + 1 => by
    have ih := cmp_cnt a kq P i
    rw [kpN_s, zct_s (fun j => P (a j) && kq (a j))]
    cases hk : kq (a i) with
    | true =>
      rw [if_pos rfl, zct_s]
      rw [zct_congr (P' := fun p => P (cmp a kq i p)) (fun p hp => by
        show P (if kq (a i) = true ∧ p = kpN a kq i then a i else cmp a kq i p) = _
        rw [if_neg (by omega)]), ih]
      have e : cmp a kq (i + 1) (kpN a kq i) = a i := by
        show (if kq (a i) = true ∧ kpN a kq i = kpN a kq i then a i else _) = a i
        rw [if_pos ⟨hk, rfl⟩]
      rw [e, Bool.and_true]
    | false =>
      rw [if_neg (by decide)]
      rw [zct_congr (P' := fun p => P (cmp a kq i p)) (fun p hp => by
        show P (if kq (a i) = true ∧ p = kpN a kq i then a i else cmp a kq i p) = _
        rw [if_neg (by simp [hk])]), Nat.add_zero, ih, Bool.and_false]
      simp
theorem cmp_srt {a : Rc} {n : Nat} {kq : Int32 × Int32 → Bool} (h : Srt a n) : ∀ i, i ≤ n → Srt (cmp a kq i) (kpN a kq i) ∧ ∀ p q, p < kpN a kq i → i ≤ q → q < n → ltR (cmp a kq i p) (a q)
  | 0, _ => ⟨fun i j _ hj => absurd hj (Nat.not_lt_zero j), fun p q hp => absurd hp (Nat.not_lt_zero p)⟩
  | i + 1, hi => by
    obtain ⟨ih1, ih2⟩ := cmp_srt (kq := kq) h i (by omega)
    cases hk : kq (a i) with
    | false =>
      have e : cmp a kq (i + 1) = cmp a kq i := by
        funext p
        show (if kq (a i) = true ∧ p = kpN a kq i then a i else cmp a kq i p) = _
        rw [if_neg (by simp [hk])]
      rw [e, kpN_s, hk]
      exact ⟨ih1, fun p q hp hq hqn => ih2 p q hp (by omega) hqn⟩
    | true =>
      have e1 : ∀ p, p < kpN a kq i → cmp a kq (i + 1) p = cmp a kq i p := fun p hp => by
        show (if kq (a i) = true ∧ p = kpN a kq i then a i else cmp a kq i p) = _
        rw [if_neg (by omega)]
      have e2 : cmp a kq (i + 1) (kpN a kq i) = a i := by
        show (if kq (a i) = true ∧ kpN a kq i = kpN a kq i then a i else _) = a i
        rw [if_pos ⟨hk, rfl⟩]
      rw [kpN_s, hk, if_pos rfl]
      constructor
      · intro p q hpq hq
        by_cases c : q = kpN a kq i
        · subst c
          rw [e1 p hpq, e2]
          exact ih2 p i hpq (Nat.le_refl _) (by omega)
        · rw [e1 p (by omega), e1 q (by omega)]
          exact ih1 p q hpq (by omega)
      · intro p q hp hq hqn
        by_cases c : p = kpN a kq i
        · subst c
          rw [e2]
          exact h i q (by omega) hqn
        · rw [e1 p (by omega)]
          exact ih2 p q (by omega) (by omega) hqn
/-- the class empties a set -/
theorem empty_X {S : XSt} {n : Nat} (set : Int32) (hn : S.1 0 = nI n) (h48 : n ≤ 48) : ∃ r, f_Re_empty S set = some r ∧ r.1 = nI n - nI (kpN (aX S) (fun x => !decide (x.1 = set)) n) ∧ r.2.1 0 = nI (kpN (aX S) (fun x => !decide (x.1 = set)) n) ∧ SamX S r.2 ∧ ∀ p, aX r.2 p = cmp (aX S) (fun x => !decide (x.1 = set)) n p := by
  obtain ⟨kq, hkq⟩ : ∃ kq : Int32 × Int32 → Bool, kq = fun x => !decide (x.1 = set) := ⟨_, rfl⟩
  rw [← hkq]
  refine zit_inv (fun i (s : Int32 × Int32 × XSt) => s.1 = nI (kpN (aX S) kq i) ∧ s.2.1 = nI i ∧ s.2.2.1 = S.1 ∧ (∀ k, k ≠ 0 → k ≠ 1 → s.2.2.2 k = S.2 k) ∧ ∀ p, aX s.2.2 p = cmp (aX S) kq i p) _ n ?_ 64 0 _ (Nat.zero_le _) (by omega) ⟨rfl, rfl, rfl, fun _ _ _ => rfl, fun p => rfl⟩
  rintro i ⟨v, w, S1⟩ hi ⟨hv, hw, h1, h2, h3⟩
  simp only at hv hw h1 h2 h3
  subst hv
  subst hw
  have hkp := kpN_le (aX S) kq i
  have hs1 : S1.1 0 = nI n := by rw [h1]; exact hn
  by_cases c : i < n
  · left
    have z1 : zin (nI i) 48 = true := zin_2 (by omega) (by omega)
    have z2 : zin (nI (kpN (aX S) kq i)) 48 = true := zin_2 (by omega) (by omega)
    have ei : aX S1 i = aX S i := by rw [h3, cmp_ge _ _ _ _ (Nat.le_refl _)]
    have e0 : S1.2 0 i = S.2 0 i := congrArg Prod.fst ei
    have e1 : S1.2 1 i = S.2 1 i := congrArg Prod.snd ei
    by_cases cs : S.2 0 i = set
    · have hkf : kq (aX S i) = false := by rw [hkq]; simp [aX, cs]
      refine ⟨(nI (kpN (aX S) kq i), nI i + 1, S1), ?_, c, ?_, nI_1 i, h1, h2, ?_⟩
      · show L_Re_empty_4 set (nI (kpN (aX S) kq i)) (nI i) S1 = _
        unfold L_Re_empty_4
        rw [hs1, if_neg (nI_ge2 c (by omega)), nI_c2 (show i ≤ 3072 by omega), zgd_t z1, if_pos (e0.trans cs)]
      · rw [kpN_s, hkf]; rfl
      · intro p
        show aX S1 p = (if kq (aX S i) = true ∧ p = kpN (aX S) kq i then aX S i else cmp (aX S) kq i p)
        rw [if_neg (by simp [hkf])]
        exact h3 p
    · have hkt : kq (aX S i) = true := by rw [hkq]; simp [aX, cs]
      refine ⟨(nI (kpN (aX S) kq i) + 1, nI i + 1, zpA (zpA S1 0 (nI (kpN (aX S) kq i)) (S1.2 0 i)) 1 (nI (kpN (aX S) kq i)) (S1.2 1 i)), ?_, c, ?_, nI_1 i, h1, ?_, ?_⟩
      · show L_Re_empty_4 set (nI (kpN (aX S) kq i)) (nI i) S1 = _
        unfold L_Re_empty_4
        rw [hs1, if_neg (nI_ge2 c (by omega)), nI_c2 (show i ≤ 3072 by omega), zgd_t z1, if_neg (fun h => cs (e0.symm.trans h))]
        simp only [znm, zgd_t z1, zgd_t z2, zpA_n (show (1 : Nat) ≠ 0 by decide)]
      · rw [kpN_s, hkt, if_pos rfl]; exact nI_1 _
      · intro k h4 h5
        show (zpA (zpA S1 0 (nI (kpN (aX S) kq i)) (S1.2 0 i)) 1 (nI (kpN (aX S) kq i)) (S1.2 1 i)).2 k = _
        rw [zpA_n h5, zpA_n h4]
        exact h2 k h4 h5
      · intro p
        show ((zpA (zpA S1 0 (nI (kpN (aX S) kq i)) (S1.2 0 i)) 1 (nI (kpN (aX S) kq i)) (S1.2 1 i)).2 0 p, (zpA (zpA S1 0 (nI (kpN (aX S) kq i)) (S1.2 0 i)) 1 (nI (kpN (aX S) kq i)) (S1.2 1 i)).2 1 p) = (if kq (aX S i) = true ∧ p = kpN (aX S) kq i then aX S i else cmp (aX S) kq i p)
        rw [zpA_n (show (0 : Nat) ≠ 1 by decide), zpA_s (by omega), zpA_s (by omega), zpA_n (show (1 : Nat) ≠ 0 by decide)]
        by_cases cp : p = kpN (aX S) kq i
        · rw [if_pos cp, if_pos cp, if_pos ⟨hkt, cp⟩, e0, e1]; rfl
        · rw [if_neg cp, if_neg cp, if_neg (fun h => cp h.2)]
          exact h3 p
  · right
    have hin : i = n := by omega
    subst hin
    refine ⟨(nI i - nI (kpN (aX S) kq i), zpS S1 0 (nI (kpN (aX S) kq i))), ?_, rfl, zpS_s, ⟨fun j hj => ?_, h2⟩, h3⟩
    · show L_Re_empty_4 set (nI (kpN (aX S) kq i)) (nI i) S1 = _
      unfold L_Re_empty_4
      rw [hs1, if_pos (nI_le2 (Nat.le_refl _) (by omega))]
      simp only [znm]
      rfl
    · show (zpS S1 0 _).1 j = _
      rw [zpS_n hj, h1]
/-! the reference's records -/
def tM (T : MSt) : Nat → Int32 × Int32 × Int32 := fun i => (T.2.1 0 i, T.2.1 1 i, T.2.1 2 i)
def SamM (T T' : MSt) : Prop := (∀ j, j ≠ 0 → T'.1 j = T.1 j) ∧ ∀ k, k ≠ 0 → k ≠ 1 → k ≠ 2 → T'.2.1 k = T.2.1 k
theorem zmA_s {S : MSt} {k i : Nat} {v : Int32} (hi : i ≤ 3072) (p : Nat) : (zmA S k (nI i) v).2.1 k p = if p = i then v else S.2.1 k p := by
  show va_up S.2.1 k (upd (S.2.1 k) (Int32.toNatClampNeg (nI i)) v) k p = _
  rw [up_s, nI_c2 hi]
  rfl
theorem zmA_n {S : MSt} {k j : Nat} {i v : Int32} (h : j ≠ k) : (zmA S k i v).2.1 j = S.2.1 j := by
  show va_up S.2.1 k _ j = _
  rw [up_n h]
theorem zmA_1 {S : MSt} {k : Nat} {i v : Int32} : (zmA S k i v).1 = S.1 := rfl
theorem zmS_2 {S : MSt} {k : Nat} {v : Int32} : (zmS S k v).2 = S.2 := rfl
theorem zmS_s {S : MSt} {k : Nat} {v : Int32} : (zmS S k v).1 k = v := up_s
theorem zmS_n {S : MSt} {k j : Nat} {v : Int32} (h : j ≠ k) : (zmS S k v).1 j = S.1 j := up_n h
def mtB (T : MSt) (o t : Int32) (i : Nat) : Bool := decide (T.2.1 0 i = o) && decide (T.2.1 1 i = t)
theorem size_M {T : MSt} {n : Nat} (hn : T.1 0 = nI n) (h48 : n ≤ 48) (o t : Int32) : f_M_size T o t = some (nI (zct (mtB T o t) n)) := by
  refine zit_seq n 64 (fun i => (nI (zct (mtB T o t) i), nI i)) (fun i hi => ?_) ?_ (by omega)
  · show L_M_size_5 T o t (nI _) (nI i) = _
    unfold L_M_size_5
    have z1 : zin (nI i) 48 = true := zin_2 (by omega) (by omega)
    rw [hn, if_neg (nI_ge2 hi (by omega)), zgd_t z1, nI_c2 (by omega), zct_s, zgd_t z1]
    unfold mtB
    by_cases c : T.2.1 0 i = o
    · by_cases c2 : T.2.1 1 i = t
      · simp [c, c2, nI_1]
      · simp [c, c2, nI_1]
    · simp [c, nI_1]
  · show L_M_size_5 T o t (nI _) (nI n) = _
    unfold L_M_size_5
    rw [hn, if_pos (nI_le2 (Nat.le_refl _) (by omega))]
    rfl
theorem has_M {T : MSt} {n : Nat} (hn : T.1 0 = nI n) (h48 : n ≤ 48) (o t d : Int32) : f_M_has T o t d = some (if 0 < zct (fun i => mtB T o t i && decide (T.2.1 2 i = d)) n then 1 else 0) := by
  refine zit_seq n 64 (fun i => (if 0 < zct (fun i => mtB T o t i && decide (T.2.1 2 i = d)) i then 1 else 0, nI i)) (fun i hi => ?_) ?_ (by omega)
  · show L_M_has_6 T o t d (if 0 < zct (fun i => mtB T o t i && decide (T.2.1 2 i = d)) i then 1 else 0) (nI i) = some (.inl (if 0 < zct (fun i => mtB T o t i && decide (T.2.1 2 i = d)) (i + 1) then 1 else 0, nI (i + 1)))
    unfold L_M_has_6
    have z1 : zin (nI i) 48 = true := zin_2 (by omega) (by omega)
    rw [hn, if_neg (nI_ge2 hi (by omega)), nI_c2 (by omega), zct_s]
    generalize zct (fun i => mtB T o t i && decide (T.2.1 2 i = d)) i = N
    simp only [zgd_t z1, mtB, iz, nI_1]
    by_cases c0 : 0 < N
    · simp [c0, Nat.add_pos_left c0]
    · have c1 : N = 0 := by omega
      subst c1
      by_cases c : T.2.1 0 i = o
      · by_cases c2 : T.2.1 1 i = t
        · by_cases c3 : T.2.1 2 i = d
          · simp [c, c2, c3]
          · simp [c, c2, c3]
        · simp [c, c2]
      · simp [c]
  · show L_M_has_6 T o t d (if 0 < zct (fun i => mtB T o t i && decide (T.2.1 2 i = d)) n then 1 else 0) (nI n) = _
    unfold L_M_has_6
    rw [hn, if_pos (nI_le2 (Nat.le_refl _) (by omega))]
    by_cases c0 : 0 < zct (fun i => mtB T o t i && decide (T.2.1 2 i = d)) n
    · rw [if_pos c0]; rfl
    · rw [if_neg c0]; rfl
