/-! the whole relation -/
def SigRel (S : XSt) (T : MSt) (c : Nat) : Prop := S.1 1 = nI c ∧ T.1 3 = nI c ∧ c ≤ 32 ∧ S.1 2 = T.1 1 ∧ S.1 3 = T.1 2 ∧ S.1 4 = T.1 5 ∧ ∀ s, s < c → SigOk S T s ∧ S.2 9 s = T.2.1 10 s
def AncRel (S : XSt) (T : MSt) (a : Nat) : Prop := S.1 5 = nI a ∧ T.1 4 = nI a ∧ a ≤ 4 ∧ (∀ i, i < a → S.2 12 i = T.2.1 11 i ∧ S.2 13 i = T.2.1 12 i ∧ (∃ Z, T.2.1 11 i = nI Z ∧ nmP Z) ∧ ¬ T.2.1 12 i < 0) ∧ ∀ i j, i < a → j < a → T.2.1 11 i = T.2.1 11 j → i = j
def QuRel (S : XSt) (T : MSt) : Prop := S.1 11 = T.1 6 ∧ S.1 10 = T.1 10 ∧ (∃ z, z ≤ 5 ∧ S.1 6 = nI z ∧ T.1 9 = nI z ∧ ∀ i, i < z → S.2 16 i = T.2.1 13 i) ∧ (T.1 6 = 8 ∨ T.1 6 = 9 → ∃ Q t, S.1 8 = nI Q ∧ T.1 7 = nI Q ∧ nmP Q ∧ S.1 9 = nI t ∧ T.1 8 = nI t ∧ 1 ≤ t ∧ t ≤ 5)
def Rel (S : XSt) (T : MSt) : Prop := ∃ n c a, RecRel S T n ∧ SigRel S T c ∧ AncRel S T a ∧ QuRel S T
theorem SigOk.of {S S' : XSt} {T T' : MSt} {s : Nat} (h : SigOk S T s) (a : ∀ k, 2 ≤ k → k ≤ 8 → S'.2 k s = S.2 k s) (b : ∀ k, 3 ≤ k → k ≤ 9 → T'.2.1 k s = T.2.1 k s) : SigOk S' T' s := by
  unfold SigOk
  rw [a 2 (by decide) (by decide), a 3 (by decide) (by decide), a 4 (by decide) (by decide), a 5 (by decide) (by decide), a 6 (by decide) (by decide), a 7 (by decide) (by decide), a 8 (by decide) (by decide), b 3 (by decide) (by decide), b 4 (by decide) (by decide), b 5 (by decide) (by decide), b 6 (by decide) (by decide), b 7 (by decide) (by decide), b 8 (by decide) (by decide), b 9 (by decide) (by decide)]
  exact h
theorem SigRel.of {S S' : XSt} {T T' : MSt} {c : Nat} (h : SigRel S T c) (a1 : ∀ j, 1 ≤ j → j ≤ 4 → S'.1 j = S.1 j) (a2 : ∀ k, 2 ≤ k → k ≤ 9 → S'.2 k = S.2 k) (b1 : T'.1 1 = T.1 1) (b2 : T'.1 2 = T.1 2) (b3 : T'.1 3 = T.1 3) (b5 : T'.1 5 = T.1 5) (b : ∀ k, 3 ≤ k → k ≤ 10 → T'.2.1 k = T.2.1 k) : SigRel S' T' c := by
  obtain ⟨h1, h2, h3, h4, h5, h6, h7⟩ := h
  refine ⟨by rw [a1 1 (by decide) (by decide)]; exact h1, by rw [b3]; exact h2, h3, by rw [a1 2 (by decide) (by decide), b1]; exact h4, by rw [a1 3 (by decide) (by decide), b2]; exact h5, by rw [a1 4 (by decide) (by decide), b5]; exact h6, fun s hs => ⟨(h7 s hs).1.of (fun k k1 k2 => by rw [a2 k k1 (by omega)]) (fun k k1 k2 => by rw [b k k1 (by omega)]), ?_⟩⟩
  rw [a2 9 (by decide) (by decide), b 10 (by decide) (by decide)]
  exact (h7 s hs).2
theorem AncRel.of {S S' : XSt} {T T' : MSt} {c : Nat} (h : AncRel S T c) (a1 : S'.1 5 = S.1 5) (a2 : S'.2 12 = S.2 12) (a3 : S'.2 13 = S.2 13) (b1 : T'.1 4 = T.1 4) (b2 : T'.2.1 11 = T.2.1 11) (b3 : T'.2.1 12 = T.2.1 12) : AncRel S' T' c := by
  unfold AncRel
  rw [a1, a2, a3, b1, b2, b3]
  exact h
theorem QuRel.of {S S' : XSt} {T T' : MSt} (h : QuRel S T) (a : ∀ j, 6 ≤ j → j ≤ 11 → S'.1 j = S.1 j) (a2 : S'.2 16 = S.2 16) (b : ∀ j, 6 ≤ j → j ≤ 10 → T'.1 j = T.1 j) (b2 : T'.2.1 13 = T.2.1 13) : QuRel S' T' := by
  unfold QuRel
  rw [a 6 (by decide) (by decide), a 8 (by decide) (by decide), a 9 (by decide) (by decide), a 10 (by decide) (by decide), a 11 (by decide) (by decide), a2, b 6 (by decide) (by decide), b 7 (by decide) (by decide), b 8 (by decide) (by decide), b 9 (by decide) (by decide), b 10 (by decide) (by decide), b2]
  exact h
theorem rel_0 : Rel S0 T0 := by
  refine ⟨0, 0, 0, ⟨rfl, rfl, by decide, fun i j _ h => absurd h (Nat.not_lt_zero j), fun _ => rfl, fun i h => absurd h (Nat.not_lt_zero i)⟩, ⟨rfl, rfl, by decide, rfl, rfl, rfl, fun i h => absurd h (Nat.not_lt_zero i)⟩, ⟨rfl, rfl, by decide, fun i h => absurd h (Nat.not_lt_zero i), fun i j h => absurd h (Nat.not_lt_zero i)⟩, rfl, rfl, ⟨0, by decide, rfl, rfl, fun i h => absurd h (Nat.not_lt_zero i)⟩, fun h => ?_⟩
  exact absurd h (by decide)
theorem Rel.rec {S S' : XSt} {T T' : MSt} {n n' c a : Nat} (h2 : SigRel S T c) (h3 : AncRel S T a) (h4 : QuRel S T) (hR : RecRel S' T' n') (hX : SamX S S') (hM : SamM T T') : Rel S' T' :=
  ⟨n', c, a, hR, h2.of (fun j j1 j2 => hX.1 j (by omega)) (fun k k1 k2 => hX.2 k (by omega) (by omega)) (hM.1 1 (by decide)) (hM.1 2 (by decide)) (hM.1 3 (by decide)) (hM.1 5 (by decide)) (fun k k1 k2 => hM.2 k (by omega) (by omega) (by omega)),
    h3.of (hX.1 5 (by decide)) (hX.2 12 (by decide) (by decide)) (hX.2 13 (by decide) (by decide)) (hM.1 4 (by decide)) (hM.2 11 (by decide) (by decide) (by decide)) (hM.2 12 (by decide) (by decide) (by decide)),
    h4.of (fun j j1 j2 => hX.1 j (by omega)) (hX.2 16 (by decide) (by decide)) (fun j j1 j2 => hM.1 j (by omega)) (hM.2 13 (by decide) (by decide) (by decide))⟩
theorem sim_add : Sim_add Rel := by
  intro S T a0 a1 a2 ⟨n, c, a, h1, h2, h3, h4⟩
  have hR : Rel S T := ⟨n, c, a, h1, h2, h3, h4⟩
  unfold f_R_add f_M_add
  obtain ⟨r1, -, e1, e2, q1⟩ := isName_both a0
  rw [e1, e2, Option.bind_some, Option.bind_some]
  by_cases c1 : r1 = 0
  · exact ⟨-1, S, T, by rw [if_pos c1], by rw [if_pos c1], hR⟩
  rw [if_neg c1, if_neg c1]
  obtain ⟨r2, e3, e4, q2⟩ := isType_both a1
  rw [e3, e4, Option.bind_some, Option.bind_some]
  by_cases c2 : r2 = 0
  · exact ⟨-1, S, T, by rw [if_pos c2], by rw [if_pos c2], hR⟩
  rw [if_neg c2, if_neg c2]
  obtain ⟨r3, e5, e6⟩ := isData_both a1 a2
  rw [e5, e6, Option.bind_some, Option.bind_some]
  by_cases c3 : r3 = 0
  · exact ⟨-1, S, T, by rw [if_pos c3], by rw [if_pos c3], hR⟩
  rw [if_neg c3, if_neg c3]
  obtain ⟨X, rfl, hX⟩ := q1 c1
  obtain ⟨t, rfl, t1, t5⟩ := q2 c2
  obtain ⟨r, S', T', n', g1, g2, g3, g4, g5⟩ := add_both h1 hX t1 t5 a2
  refine ⟨r, S', T', ?_, g5, Rel.rec (n := n) h2 h3 h4 g2 g3 g4⟩
  rw [set_X hX.1 (by omega), Option.bind_some, g1]
  rfl
theorem sim_drop : Sim_drop Rel := by
  intro S T a0 a1 ⟨n, c, a, h1, h2, h3, h4⟩
  have hR : Rel S T := ⟨n, c, a, h1, h2, h3, h4⟩
  unfold f_R_drop f_M_drop
  obtain ⟨r1, -, e1, e2, q1⟩ := isName_both a0
  rw [e1, e2, Option.bind_some, Option.bind_some]
  by_cases c1 : r1 = 0
  · exact ⟨-1, S, T, by rw [if_pos c1], by rw [if_pos c1], hR⟩
  rw [if_neg c1, if_neg c1]
  obtain ⟨r2, e3, e4, q2⟩ := isType_both a1
  rw [e3, e4, Option.bind_some, Option.bind_some]
  by_cases c2 : r2 = 0
  · exact ⟨-1, S, T, by rw [if_pos c2], by rw [if_pos c2], hR⟩
  rw [if_neg c2, if_neg c2]
  obtain ⟨X, rfl, hX⟩ := q1 c1
  obtain ⟨t, rfl, t1, t5⟩ := q2 c2
  obtain ⟨r, S', T', n', g1, g2, g3, g4, g5⟩ := drop_both h1 hX (show t < 8 by omega)
  refine ⟨r, S', T', ?_, g5, Rel.rec (n := n) h2 h3 h4 g2 g3 g4⟩
  rw [set_X hX.1 (by omega), Option.bind_some, g1]
  rfl
theorem sim_reason : Sim_reason Rel := by
  intro S T hR
  have h := hR
  obtain ⟨n, c, a, h1, h2, h3, h4⟩ := h
  exact ⟨S.1 11, rfl, by unfold f_M_reason; rw [h4.1], hR⟩
theorem sim_figure : Sim_figure Rel := by
  intro S T a0 hR
  have h := hR
  obtain ⟨n, c, a, h1, h2, h3, h4⟩ := h
  unfold f_R_figure f_M_figure
  rw [h1.1, h1.2.1, h2.1, h2.2.1, h2.2.2.2.2.2.1, h4.2.1]
  exact ⟨_, (Option.some_get (by split <;> (try split) <;> (try split) <;> (try split) <;> rfl)).symm, (Option.some_get _).symm, hR⟩
theorem sim_window : Sim_window Rel := by
  intro S T a0 a1 hR
  have h := hR
  obtain ⟨n, c, a, h1, h2, h3, h4⟩ := h
  unfold f_R_window f_M_window f_Si_useTimes
  by_cases c1 : a0 < 0
  · exact ⟨0, S, T, by rw [if_pos c1], by rw [if_pos c1], hR⟩
  rw [if_neg c1, if_neg c1]
  by_cases c2 : a0 ≤ a1
  · rw [if_pos c2, if_pos c2]
    refine ⟨1, zpS (zpS S 2 a0) 3 a1, zmS (zmS T 1 a0) 2 a1, rfl, rfl, n, c, a, h1.of rfl rfl rfl rfl rfl rfl rfl, ?_, h3.of rfl rfl rfl rfl rfl rfl, ?_⟩
    · obtain ⟨k1, k2, k3, k4, k5, k6, k7⟩ := h2
      exact ⟨k1, k2, k3, rfl, rfl, k6, fun s hs => ⟨(k7 s hs).1.of (fun _ _ _ => rfl) (fun _ _ _ => rfl), (k7 s hs).2⟩⟩
    · refine h4.of (fun j j1 j2 => ?_) rfl (fun j j1 j2 => ?_) rfl
      · rw [zpS_n (by omega), zpS_n (by omega)]
      · rw [zmS_n (by omega), zmS_n (by omega)]
  · exact ⟨0, S, T, by rw [if_neg c2], by rw [if_neg c2], hR⟩
theorem sim_tick : Sim_tick Rel := by
  intro S T a0 hR
  have h := hR
  obtain ⟨n, c, a, h1, h2, h3, h4⟩ := h
  unfold f_R_tick f_M_tick f_Si_passTime
  by_cases c1 : a0 < 0
  · exact ⟨-1, S, T, by rw [if_pos c1], by rw [if_pos c1], hR⟩
  rw [if_neg c1, if_neg c1]
  by_cases c2 : a0 ≤ 100000
  · rw [if_pos c2, if_pos c2]
    have e := h2.2.2.2.2.2.1
    refine ⟨S.1 4 + a0, zpS S 4 (S.1 4 + a0), zmS T 5 (T.1 5 + a0), rfl, by rw [e]; rfl, n, c, a, h1.of rfl rfl rfl rfl rfl rfl rfl, ?_, h3.of rfl rfl rfl rfl rfl rfl, ?_⟩
    · obtain ⟨k1, k2, k3, k4, k5, k6, k7⟩ := h2
      refine ⟨k1, k2, k3, k4, k5, ?_, fun s hs => ⟨(k7 s hs).1.of (fun _ _ _ => rfl) (fun _ _ _ => rfl), (k7 s hs).2⟩⟩
      rw [zpS_s, zmS_s, k6]
    · refine h4.of (fun j j1 j2 => ?_) rfl (fun j j1 j2 => ?_) rfl
      · rw [zpS_n (by omega)]
      · rw [zmS_n (by omega)]
  · exact ⟨-1, S, T, by rw [if_neg c2], by rw [if_neg c2], hR⟩
theorem sim_seal : Sim_seal Rel := by
  intro S T a0 a1 hR
  have h := hR
  obtain ⟨n, c, a, h1, h2, h3, h4⟩ := h
  unfold f_R_seal f_M_seal
  obtain ⟨r1, -, e1, e2, q1⟩ := isName_both a0
  rw [e1, e2, Option.bind_some, Option.bind_some]
  by_cases c1 : r1 = 0
  · exact ⟨-1, T, by rw [if_pos c1], by rw [if_pos c1], hR⟩
  rw [if_neg c1, if_neg c1]
  obtain ⟨r2, e3, e4⟩ := isKey_both a1
  rw [e3, e4, Option.bind_some, Option.bind_some]
  by_cases c2 : r2 = 0
  · exact ⟨-1, T, by rw [if_pos c2], by rw [if_pos c2], hR⟩
  rw [if_neg c2, if_neg c2, seal_X, seal_M, Option.bind_some, Option.bind_some]
  exact ⟨_, _, rfl, rfl, n, c, a, h1.mL _, h2.of (fun _ _ _ => rfl) (fun _ _ _ => rfl) rfl rfl rfl rfl (fun _ _ _ => rfl), h3.of rfl rfl rfl rfl rfl rfl, h4.of (fun _ _ _ => rfl) rfl (fun _ _ _ => rfl) rfl⟩
theorem sim_zone : Sim_zone Rel := by
  intro S T a0 hR
  have h := hR
  obtain ⟨n, c, a, h1, h2, h3, h4⟩ := h
  obtain ⟨z, z5, e1, e2, e3⟩ := h4.2.2.1
  unfold f_R_zone f_Qu_zoneAt f_M_zone
  by_cases c1 : a0 < 0
  · exact ⟨-1, by rw [if_pos c1]; rfl, by rw [if_pos c1], hR⟩
  rw [if_neg c1, if_neg c1, e1, e2]
  by_cases c2 : nI z ≤ a0
  · exact ⟨-1, by rw [if_pos c2]; rfl, by rw [if_pos c2], hR⟩
  rw [if_neg c2, if_neg c2]
  obtain ⟨j, hj, rfl⟩ := nI_of c1
  have hz : j < z := by
    rw [nI_leI (by omega) hj] at c2
    omega
  have z1 : zin (nI j) 5 = true := zin_2 (by omega) (by omega)
  rw [zgd_t z1, zgd_t z1, nI_c2 (by omega), e3 j hz]
  exact ⟨_, rfl, rfl, hR⟩
theorem sim_spoil : Sim_spoil Rel := by
  intro S T a0 a1 hR
  have h := hR
  obtain ⟨n, c, a, h1, h2, h3, h4⟩ := h
  obtain ⟨k1, k2, k3, k4, k5, k6, k7⟩ := h2
  unfold f_R_spoil f_Si_shiftMark f_M_spoil
  by_cases c1 : a0 < 0
  · exact ⟨0, S, T, by rw [if_pos c1]; rfl, by rw [if_pos c1], hR⟩
  rw [if_neg c1, if_neg c1, k1, k2]
  by_cases c2 : a0 < nI c
  · rw [if_pos c2, if_pos c2]
    obtain ⟨j, hj, rfl⟩ := nI_of c1
    have hz : j < c := by
      rw [nI_ltI hj (by omega)] at c2
      exact c2
    have z1 : zin (nI j) 32 = true := zin_2 (by omega) (by omega)
    rw [zgd_t z1, zgd_t z1, zgd_t z1, zgd_t z1, nI_c2 (by omega)]
    refine ⟨1, zpA S 9 (nI j) (S.2 9 j + a1), zmA T 10 (nI j) (T.2.1 10 j + a1), rfl, rfl, n, c, a, h1.of rfl rfl rfl rfl rfl rfl rfl, ⟨k1, k2, k3, k4, k5, k6, fun s hs => ⟨(k7 s hs).1.of (fun k q1 q2 => by rw [zpA_n (by omega)]) (fun k q1 q2 => by rw [zmA_n (by omega)]), ?_⟩⟩, h3.of rfl rfl rfl rfl rfl rfl, h4.of (fun _ _ _ => rfl) rfl (fun _ _ _ => rfl) rfl⟩
    rw [zpA_s (by omega), zmA_s (by omega), (k7 j hz).2, (k7 s hs).2]
  · exact ⟨0, S, T, by rw [if_neg c2]; rfl, by rw [if_neg c2], hR⟩
theorem sim_above : Sim_above Rel := by
  intro S T a0 a1 hR
  unfold f_R_above f_M_above
  obtain ⟨r1, -, e1, e2, q1⟩ := isName_both a0
  rw [e1, e2, Option.bind_some, Option.bind_some]
  by_cases c1 : r1 = 0
  · exact ⟨-2, by rw [if_pos c1], by rw [if_pos c1], hR⟩
  rw [if_neg c1, if_neg c1]
  obtain ⟨r2, -, e3, e4, q2⟩ := isName_both a1
  rw [e3, e4, Option.bind_some, Option.bind_some]
  by_cases c2 : r2 = 0
  · exact ⟨-2, by rw [if_pos c2], by rw [if_pos c2], hR⟩
  rw [if_neg c2, if_neg c2]
  by_cases c3 : a0 = a1
  · exact ⟨0, by rw [if_pos c3], by rw [if_pos c3], hR⟩
  rw [if_neg c3, if_neg c3]
  obtain ⟨X, rfl, hX⟩ := q1 c1
  obtain ⟨Y, rfl, hY⟩ := q2 c2
  have hne : X ≠ Y := fun z => c3 (by rw [z])
  rw [above_X hX.1 hY.1, above_M hX.1 hY.1, Option.bind_some, Option.bind_some]
  by_cases c4 : ztr Y (dp X) = X
  · have c5 : dp X < dp Y ∧ ztr Y (dp X) = X := ((above_iff hX hY).mp c4).resolve_left hne
    rw [if_pos c4, if_pos c5]
    exact ⟨-1, rfl, rfl, hR⟩
  · have c5 : ¬ (dp X < dp Y ∧ ztr Y (dp X) = X) := fun z => c4 z.2
    rw [if_neg c4, if_neg c5]
    exact ⟨1, rfl, rfl, hR⟩
