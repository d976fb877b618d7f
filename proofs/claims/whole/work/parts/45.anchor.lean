theorem first_at (P : Nat → Bool) : ∀ a : Nat, ∃ k, k ≤ a ∧ (∀ i, i < k → P i = false) ∧ (k < a → P k = true)
  | 0 => ⟨0, Nat.le_refl _, fun i h => absurd h (Nat.not_lt_zero i), fun h => absurd h (Nat.lt_irrefl 0)⟩
  | a + 1 => by
    obtain ⟨k, h1, h2, h3⟩ := first_at P a
    by_cases c : k < a
    · exact ⟨k, by omega, h2, fun _ => h3 c⟩
    · have e : k = a := by omega
      subst e
      cases hP : P k with
      | true => exact ⟨k, by omega, h2, fun _ => hP⟩
      | false =>
        refine ⟨k + 1, Nat.le_refl _, fun i hi => ?_, fun h => absurd h (Nat.lt_irrefl _)⟩
        by_cases ci : i = k
        · rw [ci]; exact hP
        · exact h2 i (by omega)
theorem anchor_both {S : XSt} {T : MSt} {n c a : Nat} (h1 : RecRel S T n) (h2 : SigRel S T c) (h3 : AncRel S T a) (h4 : QuRel S T) {Z : Nat} (hZ : nmP Z) {d : Int32} (hd : ¬ d < 0) : ∃ r S' T', f_An_put S (nI Z) d = some (r, S') ∧ zit (LS_M_anchor_15 T (nI Z) d) 64 0 = some (r, T') ∧ Rel S' T' := by
  obtain ⟨g1, g2, g3, g4, g5⟩ := h3
  have h3 : AncRel S T a := ⟨g1, g2, g3, g4, g5⟩
  obtain ⟨k, hk, k1, k2⟩ := first_at (fun i => decide (T.2.1 11 i = nI Z)) a
  have ex : f_An_put S (nI Z) d = J_An_put_26 S (nI Z) d (nI k) := by
    cases hJ : J_An_put_26 S (nI Z) d (nI k) with
    | none =>
      exfalso
      revert hJ
      unfold J_An_put_26
      by_cases c4 : k < 4
      · have z1 : zin (nI k) 4 = true := zin_2 c4 (by omega)
        rw [if_pos (by rw [show (4 : Int32) = nI 4 from rfl, nI_ltI (by omega) (by omega)]; exact c4)]
        simp only [zgd_t z1, znm_e]
        intro hJ
        split at hJ <;> cases hJ
      · rw [if_neg (by rw [show (4 : Int32) = nI 4 from rfl, nI_ltI (by omega) (by omega)]; exact c4)]
        intro hJ
        cases hJ
    | some r =>
      refine zit_seq k 64 (fun i => nI i) (fun i hi => ?_) ?_ (by omega)
      · show L_An_put_2 S (nI Z) d (nI i) = _
        unfold L_An_put_2
        have hne := k1 i hi
        have z1 : zin (nI i) 4 = true := zin_2 (by omega) (by omega)
        rw [g1, if_neg (nI_ge2 (show i < a by omega) (by omega)), zgd_t z1, nI_c2 (by omega), (g4 i (by omega)).1, if_neg (by simpa using hne), nI_1]
      · show L_An_put_2 S (nI Z) d (nI k) = _
        unfold L_An_put_2
        by_cases ck : k < a
        · have z1 : zin (nI k) 4 = true := zin_2 (by omega) (by omega)
          rw [g1, if_neg (nI_ge2 ck (by omega)), zgd_t z1, nI_c2 (by omega), (g4 k ck).1, if_pos (by simpa using k2 ck), hJ]
          rfl
        · rw [g1, if_pos (nI_le2 (show a ≤ k by omega) (by omega)), hJ]
          rfl
  have em : ∀ r, J_M_anchor_39 T (nI Z) d (nI k) = some r → zit (LS_M_anchor_15 T (nI Z) d) 64 0 = some r := by
    intro r hJ
    refine zit_seq k 64 (fun i => nI i) (fun i hi => ?_) ?_ (by omega)
    · show L_M_anchor_15 T (nI Z) d (nI i) = _
      unfold L_M_anchor_15
      have hne := k1 i hi
      have z1 : zin (nI i) 4 = true := zin_2 (by omega) (by omega)
      rw [g2, if_neg (nI_ge2 (show i < a by omega) (by omega)), zgd_t z1, nI_c2 (by omega), if_neg (by simpa using hne), nI_1]
    · show L_M_anchor_15 T (nI Z) d (nI k) = _
      unfold L_M_anchor_15
      by_cases ck : k < a
      · have z1 : zin (nI k) 4 = true := zin_2 (by omega) (by omega)
        rw [g2, if_neg (nI_ge2 ck (by omega)), zgd_t z1, nI_c2 (by omega), if_pos (by simpa using k2 ck), hJ]
        rfl
      · rw [g2, if_pos (nI_le2 (show a ≤ k by omega) (by omega)), hJ]
        rfl
  rw [ex]
  by_cases c4 : k = 4
  · refine ⟨-2, S, T, ?_, em _ ?_, n, c, a, h1, h2, h3, h4⟩
    · unfold J_An_put_26
      rw [c4, if_neg (by decide)]
    · unfold J_M_anchor_39
      rw [c4, if_pos (by decide)]
  · have hk4 : k < 4 := by omega
    have z1 : zin (nI k) 4 = true := zin_2 hk4 (by omega)
    have hk3 : k ≤ 3072 := by omega
    obtain ⟨a', ha'⟩ : ∃ a', a' = if k = a then a + 1 else a := ⟨_, rfl⟩
    obtain ⟨S', hS⟩ : ∃ S', S' = (if k = a then zpS (zpA (zpA S 12 (nI k) (nI Z)) 13 (nI k) d) 5 (nI a + 1) else zpA (zpA S 12 (nI k) (nI Z)) 13 (nI k) d) := ⟨_, rfl⟩
    obtain ⟨T', hT⟩ : ∃ T', T' = zmA (zmA (zmS T 4 (nI a')) 11 (nI k) (nI Z)) 12 (nI k) d := ⟨_, rfl⟩
    have s1 : ∀ j, j ≠ 5 → S'.1 j = S.1 j := fun j hj => by
      rw [hS]
      by_cases q : k = a
      · rw [if_pos q, zpS_n hj]; rfl
      · rw [if_neg q]; rfl
    have s5 : S'.1 5 = nI a' := by
      rw [hS, ha']
      by_cases q : k = a
      · rw [if_pos q, if_pos q, zpS_s, nI_1]
      · rw [if_neg q, if_neg q]; exact g1
    have sA : S'.2 = (zpA (zpA S 12 (nI k) (nI Z)) 13 (nI k) d).2 := by
      rw [hS]
      by_cases q : k = a
      · rw [if_pos q]; rfl
      · rw [if_neg q]
    have s2 : ∀ j, j ≠ 12 → j ≠ 13 → S'.2 j = S.2 j := fun j j1 j2 => by rw [sA, zpA_n j2, zpA_n j1]
    have s12 : ∀ p, S'.2 12 p = if p = k then nI Z else S.2 12 p := fun p => by rw [sA, zpA_n (by decide), zpA_s hk3]
    have s13 : ∀ p, S'.2 13 p = if p = k then d else S.2 13 p := fun p => by rw [sA, zpA_s hk3, zpA_n (by decide)]
    have t1 : ∀ j, j ≠ 4 → T'.1 j = T.1 j := fun j hj => by
      rw [hT]
      show (zmS T 4 _).1 j = _
      rw [zmS_n hj]
    have t4 : T'.1 4 = nI a' := by
      rw [hT]
      show (zmS T 4 (nI a')).1 4 = _
      exact zmS_s
    have t2 : ∀ j, j ≠ 11 → j ≠ 12 → T'.2.1 j = T.2.1 j := fun j j1 j2 => by
      rw [hT, zmA_n j2, zmA_n j1]; rfl
    have t11 : ∀ p, T'.2.1 11 p = if p = k then nI Z else T.2.1 11 p := fun p => by
      rw [hT, zmA_n (by decide), zmA_s hk3]; rfl
    have t12 : ∀ p, T'.2.1 12 p = if p = k then d else T.2.1 12 p := fun p => by
      rw [hT, zmA_s hk3, zmA_n (by decide)]; rfl
    have hka : k < a' := by rw [ha']; by_cases q : k = a <;> simp [q] <;> omega
    have ha4 : a' ≤ 4 := by rw [ha']; by_cases q : k = a <;> simp [q] <;> omega
    have hin : ∀ i, i < a' → i ≠ k → i < a := fun i hi hne => by
      rw [ha'] at hi
      by_cases q : k = a
      · rw [if_pos q] at hi; omega
      · rw [if_neg q] at hi; exact hi
    refine ⟨nI a', S', T', ?_, em _ ?_, n, c, a', ?_, ?_, ⟨s5, t4, ha4, fun i hi => ?_, fun i j hi hj e => ?_⟩, ?_⟩
    · unfold J_An_put_26
      rw [if_pos (by rw [show (4 : Int32) = nI 4 from rfl, nI_ltI (by omega) (by omega)]; exact hk4)]
      simp only [zgd_t z1, znm_e]
      have e5 : (zpA (zpA S 12 (nI k) (nI Z)) 13 (nI k) d).1 5 = nI a := g1
      rw [e5]
      by_cases q : k = a
      · rw [if_pos (by rw [q]), zpS_s, hS, if_pos q, ha', if_pos q, nI_1]
      · rw [if_neg (by rw [nI_eq (by omega) (by omega)]; exact q), hS, if_neg q, ha', if_neg q]
    · unfold J_M_anchor_39
      rw [if_neg (by rw [show (4 : Int32) = nI 4 from rfl, nI_eq (by omega) (by omega)]; exact c4), g2]
      have fin : J_M_anchor_69 T (nI Z) d (nI k) (nI a') = some (nI a', T') := by
        unfold J_M_anchor_69
        simp only [zgd_t z1, znm_e]
        rw [← hT, t4]
      by_cases q : k = a
      · rw [if_pos (by rw [q]), nI_1, show a + 1 = a' by rw [ha', if_pos q]]
        exact fin
      · rw [if_neg (by rw [nI_eq (by omega) (by omega)]; exact q)]
        have : a = a' := by rw [ha', if_neg q]
        rw [this]
        exact fin
    · exact h1.of (s1 0 (by decide)) (s2 0 (by decide) (by decide)) (s2 1 (by decide) (by decide)) (t1 0 (by decide)) (t2 0 (by decide) (by decide)) (t2 1 (by decide) (by decide)) (t2 2 (by decide) (by decide))
    · exact h2.of (fun j j1 j2 => s1 j (by omega)) (fun j j1 j2 => s2 j (by omega) (by omega)) (t1 1 (by decide)) (t1 2 (by decide)) (t1 3 (by decide)) (t1 5 (by decide)) (fun j j1 j2 => t2 j (by omega) (by omega))
    · rw [s12, s13, t11, t12]
      by_cases q : i = k
      · rw [if_pos q, if_pos q, if_pos q, if_pos q]
        exact ⟨rfl, rfl, ⟨Z, rfl, hZ⟩, hd⟩
      · rw [if_neg q, if_neg q, if_neg q, if_neg q]
        exact g4 i (hin i hi q)
    · rw [t11, t11] at e
      by_cases qi : i = k
      · by_cases qj : j = k
        · omega
        · rw [if_pos qi, if_neg qj] at e
          have hja := hin j hj qj
          by_cases lt : j < k
          · have := k1 j lt
            rw [← e] at this
            simp at this
          · have hka2 : k < a := by omega
            have e2 := k2 hka2
            have e2 : T.2.1 11 k = nI Z := by simpa using e2
            have := g5 k j hka2 hja (e2.trans e)
            omega
      · by_cases qj : j = k
        · rw [if_neg qi, if_pos qj] at e
          have hia := hin i hi qi
          by_cases lt : i < k
          · have := k1 i lt
            rw [e] at this
            simp at this
          · have hka2 : k < a := by omega
            have e2 := k2 hka2
            have e2 : T.2.1 11 k = nI Z := by simpa using e2
            have := g5 k i hka2 hia (e2.trans e.symm)
            omega
        · rw [if_neg qi, if_neg qj] at e
          exact g5 i j (hin i hi qi) (hin j hj qj) e
    · exact h4.of (fun j j1 j2 => s1 j (by omega)) (s2 16 (by decide) (by decide)) (fun j j1 j2 => t1 j (by omega)) (t2 13 (by decide) (by decide))
theorem sim_anchor : Sim_anchor Rel := by
  intro S T a0 a1 ⟨n, c, a, h1, h2, h3, h4⟩
  have hR : Rel S T := ⟨n, c, a, h1, h2, h3, h4⟩
  unfold f_R_anchor f_M_anchor
  obtain ⟨r1, -, e1, e2, q1⟩ := isName_both a0
  rw [e1, e2, Option.bind_some, Option.bind_some]
  by_cases c1 : r1 = 0
  · exact ⟨-1, S, T, by rw [if_pos c1], by rw [if_pos c1], hR⟩
  rw [if_neg c1, if_neg c1]
  obtain ⟨Z, rfl, hZ⟩ := q1 c1
  by_cases c2 : (0 : Int32) ≤ a1
  · rw [if_pos c2, if_pos c2]
    have hd : ¬ a1 < 0 := by
      rw [Int32.lt_iff_toInt_lt]
      rw [Int32.le_iff_toInt_le] at c2
      omega
    obtain ⟨r, S', T', g1, g2, g3⟩ := anchor_both h1 h2 h3 h4 hZ hd
    exact ⟨r, S', T', by rw [g1]; rfl, g2, g3⟩
  · exact ⟨-1, S, T, by rw [if_neg c2], by rw [if_neg c2], hR⟩
