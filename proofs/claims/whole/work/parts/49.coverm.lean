theorem rowsM_any {S : XSt} {T : MSt} {n : Nat} (h : RecRel S T n) (Q : Nat → Bool) (step : Int32 × Int32 × MSt → Option ((Int32 × Int32 × MSt) ⊕ (Int32 × MSt)))
    (hA : ∀ r X t w, r < n → nmP X → 1 ≤ t → t ≤ 5 → T.2.1 0 r = nI X → T.2.1 1 r = nI t → ∃ w', step (0, nI r, zmL T w) = some (.inl (b2 (Q (stN X t)), nI r + 1, zmL T w')))
    (hB : ∀ r w, r < n → step (1, nI r, zmL T w) = some (.inr (1, zmL T w))) (hC : ∀ b w, step (b2 b, nI n, zmL T w) = some (.inr (b2 b, zmL T w))) :
    ∃ w, zit step 64 (0, 0, T) = some (b2 (decide (0 < zct (fun i => Q ((aM T i).1.toNatClampNeg)) n)), zmL T w) := by
  have h48 := h.2.2.1
  have key : ∃ r : Int32 × MSt, zit step 64 (0, 0, T) = some r ∧ r.1 = b2 (decide (0 < zct (fun i => Q ((aM T i).1.toNatClampNeg)) n)) ∧ ∃ w, r.2 = zmL T w := by
    refine zit_inv (fun i (s : Int32 × Int32 × MSt) => s.1 = b2 (decide (0 < zct (fun i => Q ((aM T i).1.toNatClampNeg)) i)) ∧ s.2.1 = nI i ∧ ∃ w, s.2.2 = zmL T w) _ n ?_ 64 0 _ (Nat.zero_le _) (by omega) ⟨rfl, rfl, T.2.2, zmL_eta.symm⟩
    rintro i ⟨v, v2, T1⟩ hi ⟨hv, hv2, w, hw⟩
    simp only at hv hv2 hw
    subst hv
    subst hv2
    subst hw
    by_cases ci : i < n
    · cases hp : decide (0 < zct (fun i => Q ((aM T i).1.toNatClampNeg)) i) with
      | true =>
        right
        refine ⟨(1, zmL T w), hB i w ci, ?_, w, rfl⟩
        have hp : 0 < zct (fun i => Q ((aM T i).1.toNatClampNeg)) i := by simpa using hp
        have : 0 < zct (fun i => Q ((aM T i).1.toNatClampNeg)) n := Nat.lt_of_lt_of_le hp (zct_mono _ hi)
        show (1 : Int32) = b2 _
        rw [decide_eq_true this]
        rfl
      | false =>
        left
        obtain ⟨X, t, e1, hX, e2, t1, t5⟩ := h.2.2.2.2.2 i ci
        obtain ⟨w', e⟩ := hA i X t w ci hX t1 t5 e1 e2
        refine ⟨_, e, ci, ?_, nI_1 i, w', rfl⟩
        have hp0 : zct (fun i => Q ((aM T i).1.toNatClampNeg)) i = 0 := by
          have : ¬ 0 < zct (fun i => Q ((aM T i).1.toNatClampNeg)) i := by simpa using hp
          omega
        have ev : (aM T i).1.toNatClampNeg = stN X t := by
          show Int32.toNatClampNeg (setI (T.2.1 0 i) (T.2.1 1 i)) = _
          rw [show T.2.1 0 i = nI X from e1, show T.2.1 1 i = nI t from e2, setI_n hX.1 (by omega), nI_clamp (stN_lt hX.1 (by omega))]
        show b2 (Q (stN X t)) = b2 _
        rw [zct_s, hp0, ev]
        cases Q (stN X t) <;> simp
    · right
      have e : i = n := by omega
      subst e
      exact ⟨_, hC _ w, rfl, w, rfl⟩
  obtain ⟨r, h1, h2, w, h3⟩ := key
  exact ⟨w, by rw [h1, ← h2, ← h3]⟩
theorem cover_M {S : XSt} {T : MSt} {n c a z : Nat} (hC : Ctx S T n c a z) (x : Int32) : ∃ w, f_M_isCovered T x = some (b2 (decide (0 < zct (fun i => cvB S T n c z x ((aM T i).1.toNatClampNeg)) n)), zmL T w) := by
  have hR := hC.1.1
  have h48 := hR.2.2.1
  have e0 : ∀ w, (zmL T w).1 0 = nI n := fun w => hR.2.1
  refine rowsM_any hR (cvB S T n c z x) _ (fun r X t w hr hX t1 t5 e1 e2 => ?_) (fun r w hr => ?_) (fun b w => ?_)
  · show ∃ w', L_M_isCovered_4 x 0 (nI r) (zmL T w) = _
    unfold L_M_isCovered_4
    have z1 : zin (nI r) 48 = true := zin_2 (by omega) (by omega)
    have r0 : ∀ w, (zmL T w).2.1 0 r = nI X := fun w => e1
    have r1 : (zmL T w).2.1 1 r = nI t := e2
    rw [e0, if_neg (nI_ge2 hr (by omega)), if_pos rfl, nI_c2 (by omega)]
    simp only [zgd_t z1, r0, r1]
    unfold cvB
    rw [(stN_d (show t < 8 by omega)).1, (stN_d (show t < 8 by omega)).2]
    by_cases q3 : t = 5
    · subst q3
      rw [if_pos (by rfl)]
      by_cases q1 : x ≤ nI X
      · have q2 : ¬ nI X < x := by rw [Int32.lt_iff_toInt_lt]; rw [Int32.le_iff_toInt_le] at q1; omega
        rw [if_pos q1, decide_eq_false q2]
        exact ⟨w, by simp; rfl⟩
      · have q2 : nI X < x := by rw [Int32.lt_iff_toInt_lt]; rw [Int32.le_iff_toInt_le] at q1; omega
        rw [if_neg q1, decide_eq_true q2]
        obtain ⟨w2, hp2⟩ := plain_M (hC.mL w) hX (show 5 < 8 by decide)
        rw [plB_mL hC w, zmL_L] at hp2
        have hp2 : f_M_isPlain (zmL T w) (nI X) 5 = some (b2 (plB T X 5 c), zmL T w2) := hp2
        rw [hp2, Option.bind_some]
        cases hp : plB T X 5 c with
        | false =>
          rw [if_pos (show b2 false = 0 by decide)]
          exact ⟨w2, by simp; rfl⟩
        | true =>
          have hl : f_M_dataAt (zmL T w2) (nI X) 5 0 = _ := least_M (t := 5) (hR.mL w2) hX (by decide) (plB_sz hC hX (by decide) hp)
          rw [if_neg (show ¬ b2 true = 0 by decide), r0, hl, Option.bind_some, here_mL, hC.2.2.1, Option.bind_some]
          show ∃ w', (if x < leI S n X then some (Sum.inl ((1 : Int32), nI r + 1, zmL T w2)) else (if leI S n X = nI z then some (Sum.inl ((1 : Int32), nI r + 1, zmL T w2)) else some (Sum.inl ((0 : Int32), nI r + 1, zmL T w2)))) = _
          by_cases q4 : x < leI S n X
          · rw [if_pos q4]; exact ⟨w2, by simp [q4]; rfl⟩
          · rw [if_neg q4]
            by_cases q5 : leI S n X = nI z
            · rw [if_pos q5]; exact ⟨w2, by simp [q5]; rfl⟩
            · rw [if_neg q5]; exact ⟨w2, by simp [q4, q5]; rfl⟩
    · rw [if_neg (show ¬ nI t = 5 from fun e => q3 (nI_inj (b := 5) (by omega) (by decide) e)), decide_eq_false q3]
      exact ⟨w, by simp; rfl⟩
  · show L_M_isCovered_4 x 1 (nI r) (zmL T w) = _
    unfold L_M_isCovered_4
    rw [e0, if_neg (nI_ge2 hr (by omega)), if_neg (show ¬ (1 : Int32) = 0 by decide)]
    rfl
  · show L_M_isCovered_4 x (b2 b) (nI n) (zmL T w) = _
    unfold L_M_isCovered_4
    rw [e0, if_pos (nI_le2 (Nat.le_refl _) (by omega)), zgd_t (b2_z b)]
    rfl
theorem cover_both {S : XSt} {T : MSt} {n c a z : Nat} (h : JC S T n c a z) (x : Int32) : ∃ b w, f_Qu_isCovered S x = some (b2 b) ∧ f_M_isCovered T x = some (b2 b, zmL T w) := by
  obtain ⟨w, e⟩ := cover_M h.1 x
  have hs := h.1.1.1.2.2.2.2.1 (fun y => cvB S T n c z x (y.1.toNatClampNeg))
  exact ⟨_, w, cover_X h x, by rw [e, ← hs]⟩
theorem known_M {S : XSt} {T : MSt} {n c a z K : Nat} (hC : Ctx S T n c a z) (hK : nmP K) : ∃ w, f_M_isKnown T (nI K) = some (b2 (decide (0 < zct (fun i => knB T c K ((aM T i).1.toNatClampNeg)) n)), zmL T w) := by
  have hR := hC.1.1
  have h48 := hR.2.2.1
  have e0 : ∀ w, (zmL T w).1 0 = nI n := fun w => hR.2.1
  refine rowsM_any hR (knB T c K) _ (fun r X t w hr hX t1 t5 e1 e2 => ?_) (fun r w hr => ?_) (fun b w => ?_)
  · show ∃ w', L_M_isKnown_4 (nI K) 0 (nI r) (zmL T w) = _
    unfold L_M_isKnown_4
    have z1 : zin (nI r) 48 = true := zin_2 (by omega) (by omega)
    have r0 : ∀ w, (zmL T w).2.1 0 r = nI X := fun w => e1
    have r1 : (zmL T w).2.1 1 r = nI t := e2
    have j0 : J_M_isKnown_54 (zmL T w) (nI K) (nI r) 0 = some (Sum.inl (0, nI r + 1, zmL T w)) := by
      unfold J_M_isKnown_54
      rw [if_pos rfl]
    rw [e0, if_neg (nI_ge2 hr (by omega)), if_pos rfl, nI_c2 (by omega)]
    simp only [zgd_t z1, r0, r1, above_M hK.1 hX.1, Option.bind_some]
    unfold knB
    rw [(stN_d (show t < 8 by omega)).1, (stN_d (show t < 8 by omega)).2]
    by_cases q3 : t = 5
    · subst q3
      rw [if_pos (by rfl)]
      obtain ⟨w2, hp2⟩ := plain_M (hC.mL w) hX (show 5 < 8 by decide)
      rw [plB_mL hC w, zmL_L] at hp2
      have hp2 : f_M_isPlain (zmL T w) (nI X) 5 = some (b2 (plB T X 5 c), zmL T w2) := hp2
      have j1 : J_M_isKnown_54 (zmL T w) (nI K) (nI r) 1 = some (Sum.inl (b2 (plB T X 5 c), nI r + 1, zmL T w2)) := by
        unfold J_M_isKnown_54
        rw [if_neg (show ¬ (1 : Int32) = 0 by decide), zgd_t z1, nI_c2 (by omega), r0, hp2, Option.bind_some]
        cases plB T X 5 c
        · rw [if_pos (show b2 false = 0 by decide)]; rfl
        · rw [if_neg (show ¬ b2 true = 0 by decide)]; rfl
      by_cases q4 : ztr X (dp K) = K
      · refine ⟨w2, ?_⟩
        have eQ : (decide (5 = 5) && plB T X 5 c && decide (ztr X (dp K) = K)) = plB T X 5 c := by simp [q4]
        rw [eQ]
        by_cases q5 : nI X = nI K
        · rw [if_pos q5, j1]
        · have q6 : dp K < dp X ∧ ztr X (dp K) = K := ((above_iff hK hX).mp q4).resolve_left (fun e => q5 (by rw [e]))
          rw [if_neg q5, if_pos q6, if_neg (show ¬ (1 : Int32) = 0 by decide), j1]
      · refine ⟨w, ?_⟩
        have eQ : (decide (5 = 5) && plB T X 5 c && decide (ztr X (dp K) = K)) = false := by simp [q4]
        rw [eQ]
        have q5 : ¬ nI X = nI K := fun e => q4 ((above_iff hK hX).mpr (Or.inl (nI_inj (by have := hK.1; omega) (by have := hX.1; omega) e.symm)))
        have q6 : ¬ (dp K < dp X ∧ ztr X (dp K) = K) := fun e => q4 e.2
        rw [if_neg q5, if_neg q6, if_pos rfl, j0]
        rfl
    · rw [if_neg (show ¬ nI t = 5 from fun e => q3 (nI_inj (b := 5) (by omega) (by decide) e)), decide_eq_false q3, j0]
      exact ⟨w, by simp; rfl⟩
  · show L_M_isKnown_4 (nI K) 1 (nI r) (zmL T w) = _
    unfold L_M_isKnown_4
    rw [e0, if_neg (nI_ge2 hr (by omega)), if_neg (show ¬ (1 : Int32) = 0 by decide)]
    rfl
  · show L_M_isKnown_4 (nI K) (b2 b) (nI n) (zmL T w) = _
    unfold L_M_isKnown_4
    rw [e0, if_pos (nI_le2 (Nat.le_refl _) (by omega)), zgd_t (b2_z b)]
    rfl
theorem known_both {S : XSt} {T : MSt} {n c a z K : Nat} (h : JC S T n c a z) (hK : nmP K) : ∃ b w, f_Qu_isKnown S (nI K) = some (b2 b) ∧ f_M_isKnown T (nI K) = some (b2 b, zmL T w) := by
  obtain ⟨w, e⟩ := known_M h.1 hK
  have hs := h.1.1.1.2.2.2.2.1 (fun y => knB T c K (y.1.toNatClampNeg))
  exact ⟨_, w, known_X h hK, by rw [e, ← hs]⟩
