/-! the deepest anchor -/
def Dk (T : MSt) (a q : Nat) (D K : Int32) : Prop := (D = -1 ∧ K = -1) ∨ ∃ j Z, j < a ∧ K = nI j ∧ T.2.1 11 j = nI Z ∧ nmP Z ∧ D = nI Z ∧ ztr q (dp Z) = Z
def resX (T : MSt) (v1 v2 v3 : Int32) : Option (Int32 × MSt) := (if (0 : Int32) ≤ v3 then zgd (zin v3 4) (zgd (zin (0 : Int32) 5) (znm (zmA T 13 (0 : Int32) (T.2.1 11 (Int32.toNatClampNeg v3))) (fun S32 => znm (zmS S32 9 (1 : Int32)) (fun S34 => zgd (zin v3 4) (znm (zmS S34 12 (S34.2.1 12 (Int32.toNatClampNeg v3))) (fun S37 => Option.bind (f_M_tryKeys S37) (fun x39 => zit (LS_M_resolve_129 v1 v2) 64 (x39.1, x39.2)))))))) else some ((1 : Int32), T))
theorem deep_both {S : XSt} {T : MSt} {a q t : Nat} (hA : AncRel S T a) (hq : nmP q) : ∀ (m i f : Nat) (D K : Int32), i + m = a → m < f → Dk T a q D K → ∃ D' K', zit (LS_An_deepestFor_4 S (nI q)) f (D, nI i) = some D' ∧ (∀ r, resX T (nI q) (nI t) K' = some r → zit (LS_M_resolve_5 T (nI q) (nI t)) f (K, nI i) = some r) ∧ Dk T a q D' K' := by
  obtain ⟨g1, g2, g3, g4, g5⟩ := hA
  intro m
  induction m with
  | zero =>
    intro i f D K hi hf hk
    obtain ⟨f, rfl⟩ : ∃ x, f = x + 1 := ⟨f - 1, by omega⟩
    refine ⟨D, K, zit_r ?_, fun r hr => zit_r ?_, hk⟩
    · show L_An_deepestFor_4 S (nI q) D (nI i) = _
      unfold L_An_deepestFor_4
      rw [g1, if_pos (nI_le2 (by omega) (by omega))]
      rfl
    · show L_M_resolve_5 T (nI q) (nI t) K (nI i) = _
      unfold L_M_resolve_5
      rw [g2, if_pos (nI_le2 (by omega) (by omega))]
      unfold resX at hr
      rw [hr]
      rfl
  | succ m ih =>
    intro i f D K hi hf hk
    obtain ⟨f, rfl⟩ : ∃ x, f = x + 1 := ⟨f - 1, by omega⟩
    have hia : i < a := by omega
    have z1 : zin (nI i) 4 = true := zin_2 (by omega) (by omega)
    obtain ⟨e12, -, ⟨Z2, eZ, hZ2⟩, -⟩ := g4 i hia
    have hq1 := hq.1
    have hz1 := hZ2.1
    have ex : S.2 12 i = nI Z2 := e12.trans eZ
    -- the new values
    have fit : ∃ D' K', LS_An_deepestFor_4 S (nI q) (D, nI i) = some (.inl (D', nI (i + 1))) ∧ LS_M_resolve_5 T (nI q) (nI t) (K, nI i) = some (.inl (K', nI (i + 1))) ∧ Dk T a q D' K' := by
      have sX : LS_An_deepestFor_4 S (nI q) (D, nI i) = (if (if ztr q (dp Z2) = Z2 then (1 : Int32) else 0) = 0 then some (.inl (D, nI (i + 1))) else if nI Z2 ≤ D then some (.inl (D, nI (i + 1))) else some (.inl (nI Z2, nI (i + 1)))) := by
        show L_An_deepestFor_4 S (nI q) D (nI i) = _
        unfold L_An_deepestFor_4
        rw [g1, if_neg (nI_ge2 hia (by omega)), nI_c2 (by omega), ex, above_X hz1 hq1]
        simp only [zgd_t z1, Option.bind_some, nI_1]
      have sM : LS_M_resolve_5 T (nI q) (nI t) (K, nI i) = (if (if ztr q (dp Z2) = Z2 then (1 : Int32) else 0) = 0 then J_M_resolve_44 T (nI q) (nI t) K (nI i) 0 else J_M_resolve_44 T (nI q) (nI t) K (nI i) 1) := by
        show L_M_resolve_5 T (nI q) (nI t) K (nI i) = _
        unfold L_M_resolve_5
        rw [g2, if_neg (nI_ge2 hia (by omega)), nI_c2 (by omega), eZ, above_M hz1 hq1]
        simp only [zgd_t z1, Option.bind_some]
        by_cases u : ztr q (dp Z2) = Z2
        · rw [if_pos u, if_neg (show ¬ (1 : Int32) = 0 by decide)]
          by_cases v : nI Z2 = nI q
          · rw [if_pos v]
          · have w : dp Z2 < dp q ∧ ztr q (dp Z2) = Z2 := ((above_iff hZ2 hq).mp u).resolve_left (fun e => v (by rw [e]))
            rw [if_neg v, if_pos w, if_neg (show ¬ (1 : Int32) = 0 by decide)]
        · have v : ¬ nI Z2 = nI q := fun e => u ((above_iff hZ2 hq).mpr (Or.inl (nI_inj (by omega) (by omega) e)))
          have w : ¬ (dp Z2 < dp q ∧ ztr q (dp Z2) = Z2) := fun e => u e.2
          rw [if_neg u, if_pos rfl, if_neg v, if_neg w, if_pos rfl]
      rw [sX, sM]
      have j0 : J_M_resolve_44 T (nI q) (nI t) K (nI i) 0 = some (.inl (K, nI (i + 1))) := by
        unfold J_M_resolve_44
        rw [if_pos rfl, nI_1]
      by_cases u : ztr q (dp Z2) = Z2
      · rw [if_pos u, if_neg (show ¬ (1 : Int32) = 0 by decide), if_neg (show ¬ (1 : Int32) = 0 by decide)]
        unfold J_M_resolve_44
        rw [if_neg (show ¬ (1 : Int32) = 0 by decide)]
        rcases hk with ⟨rfl, rfl⟩ | ⟨j, Z1, hj, rfl, e1, hZ1, rfl, u1⟩
        · have c : ¬ nI Z2 ≤ -1 := by
            rw [Int32.le_iff_toInt_le, nI_toInt (by omega)]
            have e1 : (-1 : Int32).toInt = -1 := by decide
            omega
          rw [if_neg c, if_pos (by decide), nI_1]
          exact ⟨_, _, rfl, rfl, Or.inr ⟨i, Z2, hia, rfl, eZ, hZ2, rfl, u⟩⟩
        · have l1 := dp_le Z1
          have l2 := dp_le Z2
          have hz2 := hZ1.1
          have z2 : zin (nI j) 4 = true := zin_2 (by omega) (by omega)
          rw [if_neg (nI_pos (by omega)), zgd_t z1, nI_c2 (by omega), eZ, depth_M hz1, Option.bind_some, zgd_t z2, nI_c2 (by omega), e1, depth_M hz2, Option.bind_some, nI_1]
          have hle : nI (dp Z2) ≤ nI (dp Z1) ↔ dp Z2 ≤ dp Z1 := nI_leI (by omega) (by omega)
          have hle2 : nI Z2 ≤ nI Z1 ↔ Z2 ≤ Z1 := nI_leI (by omega) (by omega)
          by_cases v : dp Z2 ≤ dp Z1
          · have v2 : Z2 ≤ Z1 := by
              have := ztr_mono q v
              rw [u, u1] at this
              exact this
            rw [if_pos (hle2.mpr v2), if_pos (hle.mpr v)]
            exact ⟨_, _, rfl, rfl, Or.inr ⟨j, Z1, hj, rfl, e1, hZ1, rfl, u1⟩⟩
          · have v2 : ¬ Z2 ≤ Z1 := by
              have := above_lt u1 u (by omega)
              omega
            rw [if_neg (fun e => v2 (hle2.mp e)), if_neg (fun e => v (hle.mp e))]
            exact ⟨_, _, rfl, rfl, Or.inr ⟨i, Z2, hia, rfl, eZ, hZ2, rfl, u⟩⟩
      · rw [if_neg u, if_pos rfl, if_pos rfl, j0]
        exact ⟨_, _, rfl, rfl, hk⟩
    obtain ⟨D1, K1, s1, s2, hk1⟩ := fit
    obtain ⟨D', K', q1, q2, q3⟩ := ih (i + 1) f D1 K1 (by omega) (by omega) hk1
    exact ⟨D', K', by rw [zit_l s1]; exact q1, fun r hr => by rw [zit_l s2]; exact q2 r hr, q3⟩
theorem digestOf_X {S : XSt} {T : MSt} {a j Z : Nat} (hA : AncRel S T a) (hj : j < a) (eZ : T.2.1 11 j = nI Z) : f_An_digestOf S (nI Z) = some (T.2.1 12 j) := by
  obtain ⟨g1, g2, g3, g4, g5⟩ := hA
  refine zit_seq j 64 (fun i => nI i) (fun i hi => ?_) ?_ (by omega)
  · show L_An_digestOf_2 S (nI Z) (nI i) = _
    unfold L_An_digestOf_2
    have z1 : zin (nI i) 4 = true := zin_2 (by omega) (by omega)
    rw [g1, if_neg (nI_ge2 (show i < a by omega) (by omega)), zgd_t z1, nI_c2 (by omega), (g4 i (by omega)).1, nI_1, if_neg]
    intro e
    have := g5 i j (by omega) hj (e.trans eZ.symm)
    omega
  · show L_An_digestOf_2 S (nI Z) (nI j) = _
    unfold L_An_digestOf_2
    have z1 : zin (nI j) 4 = true := zin_2 (by omega) (by omega)
    rw [g1, if_neg (nI_ge2 hj (by omega)), zgd_t z1, nI_c2 (by omega), (g4 j hj).1, if_pos eZ, zgd_t z1, (g4 j hj).2.1]
    rfl
theorem verdict_both (r : Int32) (T : MSt) (h : T.1 6 = r) : ∃ v, f_R_verdictOf r = some v ∧ (if (T.1 6) = (8 : Int32) then J_M_ask_96 T (1 : Int32) else (if (T.1 6) = (9 : Int32) then J_M_ask_96 T (1 : Int32) else (if (T.1 6) = (12 : Int32) then J_M_ask_96 T (1 : Int32) else (if (T.1 6) = (15 : Int32) then J_M_ask_96 T (1 : Int32) else (if (T.1 6) = (16 : Int32) then J_M_ask_96 T (1 : Int32) else J_M_ask_96 T (0 : Int32)))))) = some (v, T) := by
  unfold f_R_verdictOf J_M_ask_96
  rw [h]
  by_cases c1 : r = 1
  · subst c1; exact ⟨3, rfl, rfl⟩
  by_cases c6 : r = 6
  · subst c6; exact ⟨1, rfl, rfl⟩
  by_cases c8 : r = 8
  · subst c8; exact ⟨0, rfl, rfl⟩
  by_cases c9 : r = 9
  · subst c9; exact ⟨0, rfl, rfl⟩
  by_cases c12 : r = 12
  · subst c12; exact ⟨0, rfl, rfl⟩
  by_cases c15 : r = 15
  · subst c15; exact ⟨0, rfl, rfl⟩
  by_cases c16 : r = 16
  · subst c16; exact ⟨0, rfl, rfl⟩
  rw [if_neg c1, if_neg c6, if_neg c8, if_neg c9, if_neg c12, if_neg c15, if_neg c16, if_neg c8, if_neg c9, if_neg c12, if_neg c15, if_neg c16, if_neg c1, if_neg c6, if_pos rfl]
  exact ⟨2, rfl, rfl⟩
theorem pose_both {S : XSt} {T : MSt} {n c a q t : Nat} (hB : Base S T n c a) (hq : nmP q) (t1 : 1 ≤ t) (t5 : t ≤ 5) : ∃ r S' T', f_Qu_pose S (nI q) (nI t) = some S' ∧ f_M_resolve (zmS (zmS (zmS (zmS T 7 (nI q)) 8 (nI t)) 9 0) 10 0) (nI q) (nI t) = some (r, T') ∧ Fin S' T' n c a q t r ∧ T'.1 7 = nI q ∧ T'.1 8 = nI t := by
  obtain ⟨S32, hS⟩ : ∃ S32, S32 = zpS (zpS (zpS (zpS S 8 (nI q)) 9 (nI t)) 6 0) 10 0 := ⟨_, rfl⟩
  obtain ⟨T16, hT⟩ : ∃ T16, T16 = zmS (zmS (zmS (zmS T 7 (nI q)) 8 (nI t)) 9 0) 10 0 := ⟨_, rfl⟩
  have s8 : S32.1 8 = nI q := by rw [hS, zpS_n (by decide), zpS_n (by decide), zpS_n (by decide), zpS_s]
  have s9 : S32.1 9 = nI t := by rw [hS, zpS_n (by decide), zpS_n (by decide), zpS_s]
  have s6 : S32.1 6 = nI 0 := by rw [hS, zpS_n (by decide), zpS_s]; rfl
  have s10 : S32.1 10 = 0 := by rw [hS, zpS_s]
  have sc : CoreX S S32 := by
    rw [hS]
    exact ⟨fun j hj => by rw [zpS_n (by omega), zpS_n (by omega), zpS_n (by omega), zpS_n (by omega)], fun _ _ => rfl⟩
  have u7 : T16.1 7 = nI q := by rw [hT, zmS_n (by decide), zmS_n (by decide), zmS_n (by decide), zmS_s]
  have u8 : T16.1 8 = nI t := by rw [hT, zmS_n (by decide), zmS_n (by decide), zmS_s]
  have u9 : T16.1 9 = nI 0 := by rw [hT, zmS_n (by decide), zmS_s]; rfl
  have u10 : T16.1 10 = 0 := by rw [hT, zmS_s]
  have uc : CoreM T T16 := by
    rw [hT]
    exact ⟨fun j hj => by rw [zmS_n (by omega), zmS_n (by omega), zmS_n (by omega), zmS_n (by omega)], fun _ _ => rfl⟩
  have hB0 : Base S32 T16 n c a := hB.core sc uc
  have ha4 := hB0.2.2.2.2.1
  obtain ⟨D, K, d1, d2, d3⟩ := deep_both (t := t) hB0.2.2 hq a 0 64 (-1) (-1) (by omega) (by omega) (Or.inl ⟨rfl, rfl⟩)
  have dX : f_An_deepestFor S32 (nI q) = some D := d1
  unfold f_Qu_pose f_M_resolve
  rw [← hT]
  simp only [znm_e]
  rw [← hS, s8, dX, Option.bind_some]
  have d2 : ∀ r, resX T16 (nI q) (nI t) K = some r → zit (LS_M_resolve_5 T16 (nI q) (nI t)) 64 (-1, 0) = some r := d2
  rcases d3 with ⟨rfl, rfl⟩ | ⟨j, Z, hj, rfl, eZ, hZ, rfl, hzq⟩
  · rw [if_pos rfl]
    refine ⟨1, zpS S32 11 1, T16, rfl, d2 _ ?_, ⟨hB0.core ⟨fun j hj => zpS_n (by omega), fun _ _ => rfl⟩ CoreM.rf, zpS_s, by rw [zpS_n (by decide), s10, u10], ⟨by rw [zpS_n (by decide)]; exact s8, by rw [zpS_n (by decide)]; exact s9⟩, 0, by decide, by rw [zpS_n (by decide)]; exact s6, u9, fun i hi => absurd hi (Nat.not_lt_zero i)⟩, u7, u8⟩
    unfold resX
    rw [if_neg (by decide)]
  · have hz1 := hZ.1
    have l2 := dp_le Z
    have hne : ¬ nI Z = -1 := fun z0 => by
      have := congrArg Int32.toInt z0
      rw [nI_toInt (by omega)] at this
      have e1 : (-1 : Int32).toInt = -1 := by decide
      omega
    rw [if_neg hne]
    obtain ⟨dg, hdg⟩ : ∃ dg, dg = T16.2.1 12 j := ⟨_, rfl⟩
    have hdn : ¬ dg < 0 := by rw [hdg]; exact (hB0.2.2.2.2.2.1 j hj).2.2.2
    have eclr : f_Nu_clear_d S32 = some (zpS S32 12 0) := by unfold f_Nu_clear_d; rw [znm_e]
    have hA37 : AncRel (zpS S32 12 0) T16 a := hB0.2.2.of (zpS_n (by decide)) rfl rfl rfl rfl rfl
    have c12 : (zpS S32 12 0).1 12 = nI 0 := zpS_s
    obtain ⟨S41, hS41⟩ : ∃ S41, S41 = zpS (zpA (zpS S32 12 0) 14 (nI 0) dg) 12 (nI 0 + 1) := ⟨_, rfl⟩
    have z641 : S41.1 6 = nI 0 := by rw [hS41, zpS_n (by decide)]; show (zpS S32 12 0).1 6 = _; rw [zpS_n (by decide)]; exact s6
    obtain ⟨S43, q1, q2, q3, q4, q5, q6, q7⟩ := enter_X z641 (by decide) (nI Z)
    have s41j : ∀ i, i ≠ 12 → S41.1 i = S32.1 i := fun i hi => by
      rw [hS41, zpS_n hi]
      show (zpS S32 12 0).1 i = _
      rw [zpS_n hi]
    have s41k : ∀ i, i ≠ 14 → S41.2 i = S32.2 i := fun i hi => by
      rw [hS41]
      show (zpA (zpS S32 12 0) 14 (nI 0) dg).2 i = _
      rw [zpA_n hi]
      rfl
    rw [eclr, Option.bind_some, digestOf_X hA37 hj eZ, Option.bind_some, ← hdg, put_d c12 (by decide), Option.bind_some, ← hS41, q1, Option.bind_some]
    have s438 : S43.1 8 = nI q := by rw [q5 8 (by decide) (by decide) (by decide), s41j 8 (by decide)]; exact s8
    have s439 : S43.1 9 = nI t := by rw [q5 9 (by decide) (by decide) (by decide), s41j 9 (by decide)]; exact s9
    rw [s438, s439, set_X hq.1 (show t < 8 by omega), Option.bind_some]
    obtain ⟨T37, hT37⟩ : ∃ T37, T37 = zmS (zmS (zmA T16 13 0 (nI Z)) 9 1) 12 dg := ⟨_, rfl⟩
    have v12 : T37.1 12 = dg := by rw [hT37, zmS_s]
    have v9 : T37.1 9 = nI 1 := by rw [hT37, zmS_n (by decide), zmS_s]; rfl
    have vj : ∀ i, i ≠ 9 → i ≠ 12 → T37.1 i = T16.1 i := fun i i1 i2 => by rw [hT37, zmS_n i2, zmS_n i1]; rfl
    have vk : ∀ i, i ≠ 13 → T37.2.1 i = T16.2.1 i := fun i hi => by
      rw [hT37]
      show (zmA T16 13 (nI 0) (nI Z)).2.1 i = _
      rw [zmA_n hi]
    have v13 : ∀ p, T37.2.1 13 p = if p = 0 then nI Z else T16.2.1 13 p := fun p => by
      rw [hT37]
      show (zmA T16 13 (nI 0) (nI Z)).2.1 13 p = _
      rw [zmA_s (by decide)]
    have hInv : Inv (zpS S43 11 0) T37 n c a q t Z 1 (fun v => decide (v = dg)) := by
      refine ⟨hB0.core ⟨fun i hi => by rw [zpS_n (by omega), q5 i (by omega) (by omega) (by omega), s41j i (by omega)], fun i hi => by
        show S43.2 i = _
        rw [q6 i (by omega), s41k i (by omega)]⟩ ⟨fun i hi => vj i (by omega) (by omega), fun i hi => vk i (by omega)⟩, hZ, by rw [zpS_n (by decide)]; exact q2, ?_, ⟨fun v => ?_, fun v => by rw [v12, if_neg hdn]⟩, by rw [zpS_n (by decide)]; exact q3, zpS_s, ⟨by rw [zpS_n (by decide)]; exact s438, by rw [zpS_n (by decide)]; exact s439⟩, hzq, by rw [zpS_n (by decide)]; exact q4, v9, by decide, by omega, fun i hi => ?_⟩
      · unfold f_M_here
        have e1 : nI 1 - 1 = nI 0 := nI_pred 0
        rw [v9, e1, zgd_t (zin_2 (show 0 < 5 by decide) (by decide)), nI_c2 (by decide), v13, if_pos rfl]
      · have w12 : (zpS S43 11 0).1 12 = nI 1 := by rw [zpS_n (by decide), q5 12 (by decide) (by decide) (by decide), hS41, zpS_s, nI_1]
        have w14 : (zpS S43 11 0).2 14 0 = dg := by
          show S43.2 14 0 = dg
          rw [q6 14 (by decide), hS41]
          show (zpA (zpS S32 12 0) 14 (nI 0) dg).2 14 0 = dg
          rw [zpA_s (by decide), if_pos rfl]
        rw [has_d w12 (by decide)]
        congr 2
        rw [show (1 : Nat) = 0 + 1 from rfl, zct_s, w14]
        by_cases e : dg = v
        · simp [e]
        · simp [e, zct, show ¬ v = dg from fun x => e x.symm]
      · have e0 : i = 0 := by omega
        subst e0
        show S43.2 16 0 = _
        rw [q7, v13, if_pos rfl, if_pos rfl]
    obtain ⟨r, S', T', y1, y2, y3, y4⟩ := loop_both hq t1 t5 4 Z (zpS S43 11 0) T37 1 _ 0 64 64 hInv (by omega) (by omega) (by decide) (by decide)
    refine ⟨r, S', T', y1, d2 _ ?_, y3, (y4 7 (by omega)).trans ((vj 7 (by decide) (by decide)).trans u7), (y4 8 (by omega)).trans ((vj 8 (by decide) (by decide)).trans u8)⟩
    unfold resX
    have z1 : zin (nI j) 4 = true := zin_2 (by omega) (by omega)
    have z0 : zin (0 : Int32) 5 = true := by decide
    rw [if_pos (nI_pos' (by omega)), zgd_t z1, zgd_t z0, nI_c2 (by omega), eZ]
    simp only [znm_e, zgd_t z1]
    have e12 : (zmS (zmA T16 13 0 (nI Z)) 9 1).2.1 12 j = dg := by
      show (zmA T16 13 (nI 0) (nI Z)).2.1 12 j = dg
      rw [zmA_n (by decide), hdg]
    rw [e12, ← hT37]
    exact y2
theorem sim_ask : Sim_ask Rel := by
  intro S T a0 a1 ⟨n, c, a, h1, h2, h3, h4⟩
  have hR : Rel S T := ⟨n, c, a, h1, h2, h3, h4⟩
  unfold f_R_ask f_M_ask
  obtain ⟨r1, -, e1, e2, q1⟩ := isName_both a0
  rw [e1, e2, Option.bind_some, Option.bind_some]
  by_cases c1 : r1 = 0
  · exact ⟨-1, S, T, by rw [if_pos c1], by rw [if_pos c1], hR⟩
  rw [if_neg c1, if_neg c1]
  obtain ⟨r2, e3, e4, q2⟩ := isType_both a1
  rw [e3, e4, Option.bind_some, Option.bind_some]
  by_cases c2 : r2 = 0
  · exact ⟨-1, S, T, by rw [if_pos c2], by rw [if_pos c2], hR⟩
  rw [if_neg c2, if_neg c2]
  obtain ⟨q, rfl, hq⟩ := q1 c1
  obtain ⟨t, rfl, t1, t5⟩ := q2 c2
  obtain ⟨r, S', T', p1, p2, ⟨hB, f11, f10, ⟨f8, f9⟩, k, k5, k6, k9, k16⟩, p7, p8⟩ := pose_both ⟨h1, h2, h3⟩ hq t1 t5
  simp only [znm_e]
  rw [p1, p2, Option.bind_some, Option.bind_some]
  obtain ⟨v, v1, v2⟩ := verdict_both r (zmS T' 6 r) zmS_s
  rw [v2, f11, v1, Option.bind_some]
  have hB2 : Base S' (zmS T' 6 r) n c a := hB.core CoreX.rf ⟨fun j hj => zmS_n (by omega), fun _ _ => rfl⟩
  refine ⟨v, S', zmS T' 6 r, rfl, rfl, n, c, a, hB2.1, hB2.2.1, hB2.2.2, by rw [f11, zmS_s], by rw [f10, zmS_n (by decide)], ⟨k, k5, k6, by rw [zmS_n (by decide)]; exact k9, k16⟩, fun _ => ⟨q, t, f8, by rw [zmS_n (by decide)]; exact p7, hq, f9, by rw [zmS_n (by decide)]; exact p8, t1, t5⟩⟩
