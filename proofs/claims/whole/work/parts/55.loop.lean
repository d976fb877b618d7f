/-! from zone to zone -/
def Inv (S : XSt) (T : MSt) (n c a q t z k : Nat) (hd : Int32 → Bool) : Prop := Base S T n c a ∧ nmP z ∧ S.1 7 = nI z ∧ f_M_here T = some (nI z) ∧ DEq S T n z hd ∧ S.1 10 = 0 ∧ S.1 11 = 0 ∧ (S.1 8 = nI q ∧ S.1 9 = nI t) ∧ ztr q (dp z) = z ∧ (S.1 6 = nI k ∧ T.1 9 = nI k ∧ 1 ≤ k ∧ k ≤ dp z + 1 ∧ ∀ i, i < k → S.2 16 i = T.2.1 13 i)
def Fin (S : XSt) (T : MSt) (n c a q t : Nat) (r : Int32) : Prop := Base S T n c a ∧ S.1 11 = r ∧ S.1 10 = T.1 10 ∧ (S.1 8 = nI q ∧ S.1 9 = nI t) ∧ ∃ k, k ≤ 5 ∧ S.1 6 = nI k ∧ T.1 9 = nI k ∧ ∀ i, i < k → S.2 16 i = T.2.1 13 i
theorem JC.of {S S' : XSt} {T : MSt} {n c a z : Nat} (h : JC S T n c a z) (h1 : ∀ j, j ≠ 11 → S'.1 j = S.1 j) (h2 : S'.2 = S.2) : JC S' T n c a z := by
  obtain ⟨⟨hB, hz, hh, hK⟩, h7, hJ⟩ := h
  refine ⟨⟨hB.core ⟨fun j hj => h1 j (by omega), fun k _ => by rw [h2]⟩ CoreM.rf, hz, hh, hK.of (h1 13 (by decide)) (by rw [h2])⟩, (h1 7 (by decide)).trans h7, fun s hs => ?_⟩
  rw [h2]
  exact hJ s hs
theorem zpS_ss {S : XSt} {k : Nat} {a b : Int32} : zpS (zpS S k a) k b = zpS S k b := by
  unfold zpS
  refine Prod.ext (funext fun j => ?_) rfl
  show va_up (va_up S.1 k a) k b j = va_up S.1 k b j
  unfold va_up
  by_cases h : j = k <;> simp [h]
theorem pose_end {q t st f : Nat} {S : XSt} (hst : st ≤ 4) (h : ¬ S.1 11 = 0) : zit (LS_Qu_pose_91 (nI (stN q t))) (f + 1) (nI (st + 1), S) = some S := by
  refine zit_r ?_
  show L_Qu_pose_91 (nI (stN q t)) (nI (st + 1)) S = _
  unfold L_Qu_pose_91
  by_cases c : (4 : Int32) < nI (st + 1)
  · rw [if_pos c]; rfl
  · rw [if_neg c, if_neg h]; rfl
theorem res_end {q t f : Nat} {T : MSt} {r : Int32} (h : ¬ r = 0) : zit (LS_M_resolve_129 (nI q) (nI t)) (f + 1) (r, T) = some (r, T) := by
  refine zit_r ?_
  show L_M_resolve_129 (nI q) (nI t) r T = _
  unfold L_M_resolve_129
  rw [if_neg h]
  rfl
theorem loop_both {n c a q t : Nat} (hq : nmP q) (t1 : 1 ≤ t) (t5 : t ≤ 5) : ∀ (m z : Nat) (S : XSt) (T : MSt) (k : Nat) (hd : Int32 → Bool) (st f1 f2 : Nat), Inv S T n c a q t z k hd → 4 ≤ dp z + m → st ≤ dp z → m + 1 < f1 → m + 1 < f2 →
    ∃ r S' T', zit (LS_Qu_pose_91 (nI (stN q t))) f1 (nI st, S) = some S' ∧ Option.bind (f_M_tryKeys T) (fun x39 => zit (LS_M_resolve_129 (nI q) (nI t)) f2 (x39.1, x39.2)) = some (r, T') ∧ Fin S' T' n c a q t r ∧ (∀ j, j = 7 ∨ j = 8 → T'.1 j = T.1 j) := by
  have l1 := dp_le q
  intro m
  induction m with
  | zero =>
    intro z S T k hd st f1 f2 hI hm hst hf1 hf2
    have l2 := dp_le z
    obtain ⟨f1, rfl⟩ : ∃ x, f1 = x + 2 := ⟨f1 - 2, by omega⟩
    obtain ⟨f2, rfl⟩ : ∃ x, f2 = x + 2 := ⟨f2 - 2, by omega⟩
    obtain ⟨hB, hz, h7, hh, hD, h10, h11, ⟨e8, e9⟩, hzq, g1, g2, g3, g4, g5⟩ := hI
    obtain ⟨r0, S1, T1, k1, k2, k3, k4, k5, k6⟩ := keys_both hB hz h7 hh hD h10
    rw [k2, Option.bind_some]
    have hB1 : Base S1 T1 n c a := hB.core k3.core k4.core
    have hzone : ∃ k', k' ≤ 5 ∧ S1.1 6 = nI k' ∧ T1.1 9 = nI k' ∧ ∀ i, i < k' → S1.2 16 i = T1.2.1 13 i := ⟨k, by omega, (k3.1 6 (by decide) (by decide)).trans g1, (k4.1 9 (by decide) (by decide)).trans g2, fun i hi => by rw [k3.2 16 (by decide) (by decide) (by decide), k4.2]; exact g5 i hi⟩
    have e81 : S1.1 8 = nI q := (k3.1 8 (by decide) (by decide)).trans e8
    have e91 : S1.1 9 = nI t := (k3.1 9 (by decide) (by decide)).trans e9
    have fin : ∀ (r : Int32) (w : Int64), Fin (zpS S1 11 r) (zmL T1 w) n c a q t r := fun r w => by
      obtain ⟨k', z1, z2, z3, z4⟩ := hzone
      exact ⟨hB1.core ⟨fun j hj => zpS_n (by omega), fun _ _ => rfl⟩ CoreM.mL, zpS_s, by rw [zpS_n (by decide)]; exact k5, ⟨by rw [zpS_n (by decide)]; exact e81, by rw [zpS_n (by decide)]; exact e91⟩, k', z1, by rw [zpS_n (by decide)]; exact z2, z3, z4⟩
    have fT : ∀ (w : Int64) j, j = 7 ∨ j = 8 → (zmL T1 w).1 j = T.1 j := fun w j hj => k4.1 j (by omega) (by omega)
    have head : zit (LS_Qu_pose_91 (nI (stN q t))) (f1 + 2) (nI st, S) = Option.bind (if (zpS S1 11 r0).1 11 = (0 : Int32) then Option.bind (f_Qu_nextCut (zpS S1 11 r0)) (fun x8 => (if x8 = (-1 : Int32) then Option.bind (f_Re_sizeOf (zpS S1 11 r0) (nI (stN q t))) (fun x11 => (if x11 ≤ (0 : Int32) then Option.bind (f_Qu_whyAbsent (zpS S1 11 r0)) (fun x14 => some (Sum.inl ((nI st + (1 : Int32)), zpS (zpS S1 11 r0) 11 x14))) else Option.bind (f_Qu_whyThere (zpS S1 11 r0) (nI (stN q t))) (fun x18 => some (Sum.inl ((nI st + (1 : Int32)), zpS (zpS S1 11 r0) 11 x18))))) else Option.bind (f_Qu_whyNotOver (zpS S1 11 r0) x8) (fun x22 => some (Sum.inl ((nI st + (1 : Int32)), zpS x22.2 11 x22.1))))) else some (Sum.inl ((nI st + (1 : Int32)), zpS S1 11 r0))) (znx (zit (LS_Qu_pose_91 (nI (stN q t))) (f1 + 1))) := by
      show Option.bind (L_Qu_pose_91 (nI (stN q t)) (nI st) S) _ = _
      unfold L_Qu_pose_91
      rw [if_neg (show ¬ (4 : Int32) < nI st by rw [show (4 : Int32) = nI 4 from rfl, nI_ltI (by omega) (by omega)]; omega), if_pos h11, k1, Option.bind_some]
      simp only [znm_e]
    rw [head, zpS_s]
    by_cases c0 : r0 = 0
    · subst c0
      have hJ := k6 rfl
      have hJ5 : JC (zpS S1 11 0) T1 n c a z := hJ.of (fun j hj => zpS_n hj) rfl
      have e85 : (zpS S1 11 0).1 8 = nI q := by rw [zpS_n (by decide)]; exact e81
      have e95 : (zpS S1 11 0).1 9 = nI t := by rw [zpS_n (by decide)]; exact e91
      rw [if_pos rfl]
      obtain ⟨x, n1, n2, n3⟩ := nextCut_both hJ5.1.1.1 hz hJ5.2.1 hJ5.1.2.2.1 hq e85 e95
      rcases n3 with n3 | ⟨e, h1, h2, h3⟩
      · subst n3
        obtain ⟨r, w, a1, a2, a3⟩ := answers_both hJ5 hq e85 e95 t1 t5 hzq
        rw [n1, Option.bind_some, if_pos rfl]
        refine ⟨r, zpS (zpS S1 11 0) 11 r, zmL T1 w, ?_, ?_, ?_, fT w⟩
        · have : Option.bind (f_Re_sizeOf (zpS S1 11 0) (nI (stN q t))) (fun x11 => (if x11 ≤ (0 : Int32) then Option.bind (f_Qu_whyAbsent (zpS S1 11 0)) (fun x14 => some (Sum.inl ((nI st + (1 : Int32)), zpS (zpS S1 11 0) 11 x14))) else Option.bind (f_Qu_whyThere (zpS S1 11 0) (nI (stN q t))) (fun x18 => some (Sum.inl ((nI st + (1 : Int32)), zpS (zpS S1 11 0) 11 x18))))) = (some (Sum.inl ((nI st + (1 : Int32)), zpS (zpS S1 11 0) 11 r)) : Option ((Int32 × XSt) ⊕ XSt)) := by
            obtain ⟨x11, b1, b2⟩ := bd_some a1
            rw [b1, Option.bind_some]
            by_cases q0 : x11 ≤ 0
            · rw [if_pos q0] at b2
              rw [if_pos q0, b2]
              rfl
            · rw [if_neg q0] at b2
              rw [if_neg q0, b2]
              rfl
          rw [this, Option.bind_some]
          show zit _ (f1 + 1) (nI st + 1, _) = _
          rw [nI_1]
          exact pose_end (by omega) (by rw [zpS_s]; exact a3)
        · refine zit_r ?_
          show L_M_resolve_129 (nI q) (nI t) 0 T1 = _
          unfold L_M_resolve_129
          rw [if_pos rfl, n2, Option.bind_some, if_neg (by decide), a2]
          rfl
        · rw [zpS_ss]
          exact fin r w
      · omega
    · rw [if_neg c0, Option.bind_some]
      refine ⟨r0, zpS S1 11 r0, T1, ?_, res_end c0, ?_, fun j hj => k4.1 j (by omega) (by omega)⟩
      · show zit _ (f1 + 1) (nI st + 1, _) = _
        rw [nI_1]
        exact pose_end (by omega) (by rw [zpS_s]; exact c0)
      · have := fin r0 T1.2.2
        rw [zmL_eta] at this
        exact this
  | succ m ih =>
    intro z S T k hd st f1 f2 hI hm hst hf1 hf2
    have l2 := dp_le z
    obtain ⟨f1, rfl⟩ : ∃ x, f1 = x + 2 := ⟨f1 - 2, by omega⟩
    obtain ⟨f2, rfl⟩ : ∃ x, f2 = x + 2 := ⟨f2 - 2, by omega⟩
    obtain ⟨hB, hz, h7, hh, hD, h10, h11, ⟨e8, e9⟩, hzq, g1, g2, g3, g4, g5⟩ := hI
    obtain ⟨r0, S1, T1, k1, k2, k3, k4, k5, k6⟩ := keys_both hB hz h7 hh hD h10
    rw [k2, Option.bind_some]
    have hB1 : Base S1 T1 n c a := hB.core k3.core k4.core
    have z61 : S1.1 6 = nI k := (k3.1 6 (by decide) (by decide)).trans g1
    have z91 : T1.1 9 = nI k := (k4.1 9 (by decide) (by decide)).trans g2
    have z161 : ∀ i, i < k → S1.2 16 i = T1.2.1 13 i := fun i hi => by rw [k3.2 16 (by decide) (by decide) (by decide), k4.2]; exact g5 i hi
    have e81 : S1.1 8 = nI q := (k3.1 8 (by decide) (by decide)).trans e8
    have e91 : S1.1 9 = nI t := (k3.1 9 (by decide) (by decide)).trans e9
    have fin : ∀ (r : Int32) (w : Int64), Fin (zpS S1 11 r) (zmL T1 w) n c a q t r := fun r w =>
      ⟨hB1.core ⟨fun j hj => zpS_n (by omega), fun _ _ => rfl⟩ CoreM.mL, zpS_s, by rw [zpS_n (by decide)]; exact k5, ⟨by rw [zpS_n (by decide)]; exact e81, by rw [zpS_n (by decide)]; exact e91⟩, k, by omega, by rw [zpS_n (by decide)]; exact z61, z91, z161⟩
    have fT : ∀ (w : Int64) j, j = 7 ∨ j = 8 → (zmL T1 w).1 j = T.1 j := fun w j hj => k4.1 j (by omega) (by omega)
    have e11 : ∀ r, zpS (zpS S1 11 0) 11 r = zpS S1 11 r := fun r => zpS_ss
    have head : zit (LS_Qu_pose_91 (nI (stN q t))) (f1 + 2) (nI st, S) = Option.bind (if (zpS S1 11 r0).1 11 = (0 : Int32) then Option.bind (f_Qu_nextCut (zpS S1 11 r0)) (fun x8 => (if x8 = (-1 : Int32) then Option.bind (f_Re_sizeOf (zpS S1 11 r0) (nI (stN q t))) (fun x11 => (if x11 ≤ (0 : Int32) then Option.bind (f_Qu_whyAbsent (zpS S1 11 r0)) (fun x14 => some (Sum.inl ((nI st + (1 : Int32)), zpS (zpS S1 11 r0) 11 x14))) else Option.bind (f_Qu_whyThere (zpS S1 11 r0) (nI (stN q t))) (fun x18 => some (Sum.inl ((nI st + (1 : Int32)), zpS (zpS S1 11 r0) 11 x18))))) else Option.bind (f_Qu_whyNotOver (zpS S1 11 r0) x8) (fun x22 => some (Sum.inl ((nI st + (1 : Int32)), zpS x22.2 11 x22.1))))) else some (Sum.inl ((nI st + (1 : Int32)), zpS S1 11 r0))) (znx (zit (LS_Qu_pose_91 (nI (stN q t))) (f1 + 1))) := by
      show Option.bind (L_Qu_pose_91 (nI (stN q t)) (nI st) S) _ = _
      unfold L_Qu_pose_91
      rw [if_neg (show ¬ (4 : Int32) < nI st by rw [show (4 : Int32) = nI 4 from rfl, nI_ltI (by omega) (by omega)]; omega), if_pos h11, k1, Option.bind_some]
      simp only [znm_e]
    rw [head, zpS_s]
    by_cases c0 : r0 = 0
    · subst c0
      have hJ := k6 rfl
      have hJ5 : JC (zpS S1 11 0) T1 n c a z := hJ.of (fun j hj => zpS_n hj) rfl
      have e85 : (zpS S1 11 0).1 8 = nI q := by rw [zpS_n (by decide)]; exact e81
      have e95 : (zpS S1 11 0).1 9 = nI t := by rw [zpS_n (by decide)]; exact e91
      rw [if_pos rfl]
      obtain ⟨x, n1, n2, n3⟩ := nextCut_both hJ5.1.1.1 hz hJ5.2.1 hJ5.1.2.2.1 hq e85 e95
      rcases n3 with n3 | ⟨e, h1, h2, h3⟩
      · subst n3
        obtain ⟨r, w, a1, a2, a3⟩ := answers_both hJ5 hq e85 e95 t1 t5 hzq
        rw [n1, Option.bind_some, if_pos rfl]
        refine ⟨r, zpS (zpS S1 11 0) 11 r, zmL T1 w, ?_, ?_, ?_, fT w⟩
        · have : Option.bind (f_Re_sizeOf (zpS S1 11 0) (nI (stN q t))) (fun x11 => (if x11 ≤ (0 : Int32) then Option.bind (f_Qu_whyAbsent (zpS S1 11 0)) (fun x14 => some (Sum.inl ((nI st + (1 : Int32)), zpS (zpS S1 11 0) 11 x14))) else Option.bind (f_Qu_whyThere (zpS S1 11 0) (nI (stN q t))) (fun x18 => some (Sum.inl ((nI st + (1 : Int32)), zpS (zpS S1 11 0) 11 x18))))) = (some (Sum.inl ((nI st + (1 : Int32)), zpS (zpS S1 11 0) 11 r)) : Option ((Int32 × XSt) ⊕ XSt)) := by
            obtain ⟨x11, b1, b2⟩ := bd_some a1
            rw [b1, Option.bind_some]
            by_cases q0 : x11 ≤ 0
            · rw [if_pos q0] at b2
              rw [if_pos q0, b2]
              rfl
            · rw [if_neg q0] at b2
              rw [if_neg q0, b2]
              rfl
          rw [this, Option.bind_some]
          show zit _ (f1 + 1) (nI st + 1, _) = _
          rw [nI_1]
          exact pose_end (by omega) (by rw [zpS_s]; exact a3)
        · refine zit_r ?_
          show L_M_resolve_129 (nI q) (nI t) 0 T1 = _
          unfold L_M_resolve_129
          rw [if_pos rfl, n2, Option.bind_some, if_neg (by decide), a2]
          rfl
        · rw [e11]
          exact fin r w
      · -- a cut
        obtain ⟨ct, hct⟩ : ∃ ct, ct = ztr q e := ⟨_, rfl⟩
        have hcn : nmP ct := by rw [hct]; exact ztr_nm hq
        have hcd : dp ct = e := by rw [hct]; exact dp_ztr hq h2
        have hcq : ztr q (dp ct) = ct := by rw [hcd, hct]
        have hcl := hcn.1
        rw [← hct] at h3
        subst h3
        have hne : ¬ nI ct = -1 := fun z0 => by
          have := congrArg Int32.toInt z0
          rw [nI_toInt (by omega)] at this
          have e1 : (-1 : Int32).toInt = -1 := by decide
          omega
        have hge : (0 : Int32) ≤ nI ct := nI_pos' (by omega)
        rw [n1, Option.bind_some, if_neg hne]
        obtain ⟨r, w, o1, o2⟩ := over_both hJ5 hcn
        rcases o2 with ⟨o3, o4⟩ | ⟨o3, o4⟩
        · rw [o4, Option.bind_some, Option.bind_some]
          refine ⟨r, zpS (zpS S1 11 0) 11 r, zmL T1 w, ?_, ?_, by rw [e11]; exact fin r w, fT w⟩
          · show zit _ (f1 + 1) (nI st + 1, _) = _
            rw [nI_1]
            exact pose_end (by omega) (by rw [zpS_s]; exact o3)
          · have sM : LS_M_resolve_129 (nI q) (nI t) (0, T1) = some (.inl (r, zmL T1 w)) := by
              show L_M_resolve_129 (nI q) (nI t) 0 T1 = _
              unfold L_M_resolve_129
              rw [if_pos rfl, n2, Option.bind_some, if_pos hge, o1, Option.bind_some, if_neg o3]
            rw [zit_l sM]
            exact res_end o3
        · subst o3
          obtain ⟨S24, d1, d2, d3, d4⟩ := take_d hJ5.1.1.1 (nI (stN ct 3))
          have z624 : S24.1 6 = nI k := by rw [d2.1 6 (by decide), zpS_n (by decide)]; exact z61
          obtain ⟨S26, q1, q2, q3, q4, q5, q6, q7⟩ := enter_X z624 (by omega) (nI ct)
          rw [d1, Option.bind_some, q1, Option.bind_some] at o4
          rw [o4, Option.bind_some, Option.bind_some]
          obtain ⟨T13, hT13⟩ : ∃ T13, T13 = zmS (zmS (zmA (zmL T1 w) 13 (nI k) (nI ct)) 9 (nI k + 1)) 12 (-1) := ⟨_, rfl⟩
          have u13 : ∀ p, T13.2.1 13 p = if p = k then nI ct else T1.2.1 13 p := fun p => by
            rw [hT13]
            show (zmA (zmL T1 w) 13 (nI k) (nI ct)).2.1 13 p = _
            rw [zmA_s (by omega)]
            rfl
          have uK : ∀ p, p ≠ 13 → T13.2.1 p = T1.2.1 p := fun p hp => by
            rw [hT13]
            show (zmA (zmL T1 w) 13 (nI k) (nI ct)).2.1 p = _
            rw [zmA_n hp]
            rfl
          have u9 : T13.1 9 = nI (k + 1) := by rw [hT13, zmS_n (by decide), zmS_s, nI_1]
          have u12 : T13.1 12 = -1 := by rw [hT13, zmS_s]
          have uj : ∀ j, j ≠ 9 → j ≠ 12 → T13.1 j = T1.1 j := fun j j1 j2 => by
            rw [hT13, zmS_n j2, zmS_n j1]
            rfl
          have sM : zit (LS_M_resolve_129 (nI q) (nI t)) (f2 + 2) (0, T1) = Option.bind (f_M_tryKeys T13) (fun x => zit (LS_M_resolve_129 (nI q) (nI t)) (f2 + 1) (x.1, x.2)) := by
            show Option.bind (L_M_resolve_129 (nI q) (nI t) 0 T1) _ = _
            unfold L_M_resolve_129
            have z1 : zin (nI k) 5 = true := zin_2 (by omega) (by omega)
            have y9 : (zmL T1 w).1 9 = nI k := z91
            have y9' : (zmA (zmL T1 w) 13 (nI k) (nI ct)).1 9 = nI k := z91
            rw [if_pos rfl, n2, Option.bind_some, if_pos hge, o1, Option.bind_some, if_pos rfl]
            simp only [znm_e, y9, y9', zgd_t z1]
            rw [← hT13]
            cases f_M_tryKeys T13 with
            | none => rfl
            | some x => rfl
          have hInv : Inv (zpS S26 11 0) T13 n c a q t ct (k + 1) (fun v => memB (zpS S26 11 0) n (nI (stN ct 3)) v) := by
            have hcore : CoreX S1 (zpS S26 11 0) := ⟨fun j hj => by rw [zpS_n (by omega), q5 j (by omega) (by omega) (by omega), d2.1 j (by omega), zpS_n (by omega)], fun p hp => by
              show S26.2 p = _
              rw [q6 p (by omega), d2.2 p (by omega)]
              rfl⟩
            have hcoreM : CoreM T1 T13 := ⟨fun j hj => uj j (by omega) (by omega), fun p hp => uK p (by omega)⟩
            have hBn : Base (zpS S26 11 0) T13 n c a := hB1.core hcore hcoreM
            have ea : aX (zpS S26 11 0) = aX S1 := by
              unfold aX
              rw [hcore.2 0 (by omega), hcore.2 1 (by omega)]
            refine ⟨hBn, hcn, by rw [zpS_n (by decide)]; exact q2, ?_, ⟨fun v => ?_, fun v => by rw [u12, if_pos (by decide)]⟩, by rw [zpS_n (by decide)]; exact q3, zpS_s, ⟨?_, ?_⟩, hcq, by rw [zpS_n (by decide)]; exact q4, u9, by omega, by omega, fun i hi => ?_⟩
            · unfold f_M_here
              have e1 : nI (k + 1) - 1 = nI k := nI_pred k
              rw [u9, e1, zgd_t (zin_2 (show k < 5 by omega) (by omega)), nI_c2 (by omega), u13, if_pos rfl]
            · have q12 : (zpS S26 11 0).1 12 = nI (zszR (aX (zpS S1 11 0)) n (nI (stN ct 3))) := by rw [zpS_n (by decide), q5 12 (by decide) (by decide) (by decide)]; exact d3
              have ea2 : aX (zpS S1 11 0) = aX S1 := rfl
              rw [ea2] at q12 d4
              have h48 := szR_48 hBn.1 (nI (stN ct 3))
              rw [ea] at h48
              rw [has_d q12 h48]
              congr 2
              rw [Bool.eq_iff_iff, decide_eq_true_eq, mem_iff hBn.1, zct_pos, ea]
              have q14 : ∀ p, p < zszR (aX S1) n (nI (stN ct 3)) → (zpS S26 11 0).2 14 p = (zpS S26 11 0).2 1 (zstR (aX S1) n (nI (stN ct 3)) + p) := fun p hp => by
                show S26.2 14 p = _
                rw [q6 14 (by decide), d4 p hp, hcore.2 1 (by omega)]
                rfl
              constructor
              · rintro ⟨j, hj, hx⟩
                exact ⟨j, hj, by rw [← q14 j hj]; exact of_decide_eq_true hx⟩
              · rintro ⟨j, hj, hx⟩
                exact ⟨j, hj, decide_eq_true (by rw [q14 j hj]; exact hx)⟩
            · rw [zpS_n (by decide), q5 8 (by decide) (by decide) (by decide), d2.1 8 (by decide)]
              exact e85
            · rw [zpS_n (by decide), q5 9 (by decide) (by decide) (by decide), d2.1 9 (by decide)]
              exact e95
            · show S26.2 16 i = _
              rw [q7, u13]
              by_cases qi : i = k
              · rw [if_pos qi, if_pos qi]
              · rw [if_neg qi, if_neg qi, d2.2 16 (by decide)]
                exact z161 i (by omega)
          obtain ⟨r, S', T', y1, y2, y3, y4⟩ := ih ct (zpS S26 11 0) T13 (k + 1) _ (st + 1) (f1 + 1) (f2 + 1) hInv (by omega) (by omega) (by omega) (by omega)
          refine ⟨r, S', T', ?_, by rw [sM]; exact y2, y3, fun j hj => (y4 j hj).trans ((uj j (by omega) (by omega)).trans (k4.1 j (by omega) (by omega)))⟩
          show zit _ (f1 + 1) (nI st + 1, _) = _
          rw [nI_1]
          exact y1
    · rw [if_neg c0, Option.bind_some]
      refine ⟨r0, zpS S1 11 r0, T1, ?_, res_end c0, ?_, fun j hj => k4.1 j (by omega) (by omega)⟩
      · show zit _ (f1 + 1) (nI st + 1, _) = _
        rw [nI_1]
        exact pose_end (by omega) (by rw [zpS_s]; exact c0)
      · have := fin r0 T1.2.2
        rw [zmL_eta] at this
        exact this
