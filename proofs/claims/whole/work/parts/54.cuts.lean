/-! CUTS, on both sides -/
theorem cutLoop {S : XSt} {T : MSt} {n q : Nat} (hR : RecRel S T n) (hq : nmP q) (e8 : S.1 8 = nI q) (L : Int32) (hL : L.toInt ≤ 4) : ∀ (m d f : Nat), d + m = 5 → m < f → ∃ x, zit (LS_Qu_nextCut_32 S L) f (nI d) = some x ∧ zit (LS_M_nextCut_30 T (nI q) L) f (nI d) = some x ∧ (x = -1 ∨ ∃ e, d ≤ e ∧ (e : Int) ≤ L.toInt ∧ x = nI (ztr q e)) := by
  intro m
  induction m with
  | zero =>
    intro d f hd hf
    obtain ⟨f, rfl⟩ : ∃ k, f = k + 1 := ⟨f - 1, by omega⟩
    have hlt : L < nI d := by rw [Int32.lt_iff_toInt_lt, nI_toInt (by omega)]; omega
    refine ⟨-1, zit_r ?_, zit_r ?_, Or.inl rfl⟩
    · show L_Qu_nextCut_32 S L (nI d) = _
      unfold L_Qu_nextCut_32
      rw [if_pos hlt]
      rfl
    · show L_M_nextCut_30 T (nI q) L (nI d) = _
      unfold L_M_nextCut_30
      rw [if_pos hlt]
      rfl
  | succ m ih =>
    intro d f hd hf
    obtain ⟨f, rfl⟩ : ∃ k, f = k + 1 := ⟨f - 1, by omega⟩
    by_cases hlt : L < nI d
    · refine ⟨-1, zit_r ?_, zit_r ?_, Or.inl rfl⟩
      · show L_Qu_nextCut_32 S L (nI d) = _
        unfold L_Qu_nextCut_32
        rw [if_pos hlt]
        rfl
      · show L_M_nextCut_30 T (nI q) L (nI d) = _
        unfold L_M_nextCut_30
        rw [if_pos hlt]
        rfl
    · have hle : (d : Int) ≤ L.toInt := by
        rw [Int32.lt_iff_toInt_lt, nI_toInt (by omega)] at hlt
        omega
      have hn : nmP (ztr q d) := ztr_nm hq
      have e2 : f_Na_setOf (nI (ztr q d)) 2 = some (nI (stN (ztr q d) 2)) := set_X (t := 2) hn.1 (by decide)
      have eM : f_M_size T (nI (ztr q d)) 2 = some (nI (zszR (aX S) n (nI (stN (ztr q d) 2)))) := hR.szM (t := 2) hn (by decide)
      have s1 : LS_Qu_nextCut_32 S L (nI d) = (if nI (zszR (aX S) n (nI (stN (ztr q d) 2))) ≤ 0 then some (.inl (nI (d + 1))) else some (.inr (nI (ztr q d)))) := by
        show L_Qu_nextCut_32 S L (nI d) = _
        unfold L_Qu_nextCut_32
        rw [if_neg hlt, e8, first_X hq.1 (by omega), Option.bind_some, e2, Option.bind_some, hR.szX, Option.bind_some, nI_1]
        rfl
      have s2 : LS_M_nextCut_30 T (nI q) L (nI d) = (if nI (zszR (aX S) n (nI (stN (ztr q d) 2))) ≤ 0 then some (.inl (nI (d + 1))) else some (.inr (nI (ztr q d)))) := by
        show L_M_nextCut_30 T (nI q) L (nI d) = _
        unfold L_M_nextCut_30
        rw [if_neg hlt, cut_M hq.1 (by omega), Option.bind_some, eM, Option.bind_some, nI_1]
        rfl
      by_cases c : nI (zszR (aX S) n (nI (stN (ztr q d) 2))) ≤ 0
      · rw [if_pos c] at s1 s2
        obtain ⟨x, g1, g2, g3⟩ := ih (d + 1) f (by omega) (by omega)
        refine ⟨x, by rw [zit_l s1]; exact g1, by rw [zit_l s2]; exact g2, ?_⟩
        rcases g3 with g3 | ⟨e, h1, h2, h3⟩
        · exact Or.inl g3
        · exact Or.inr ⟨e, by omega, h2, h3⟩
      · rw [if_neg c] at s1 s2
        exact ⟨nI (ztr q d), zit_r s1, zit_r s2, Or.inr ⟨d, Nat.le_refl _, hle, rfl⟩⟩
theorem nextCut_both {S : XSt} {T : MSt} {n z q t : Nat} (hR : RecRel S T n) (hz : nmP z) (h7 : S.1 7 = nI z) (hh : f_M_here T = some (nI z)) (hq : nmP q) (e8 : S.1 8 = nI q) (e9 : S.1 9 = nI t) : ∃ x, f_Qu_nextCut S = some x ∧ f_M_nextCut T (nI q) (nI t) = some x ∧ (x = -1 ∨ ∃ e, dp z + 1 ≤ e ∧ e ≤ dp q ∧ x = nI (ztr q e)) := by
  have l1 := dp_le q
  have l2 := dp_le z
  unfold f_Qu_nextCut f_M_nextCut
  rw [e8, e9, depth_X hq.1, Option.bind_some, h7, depth_X hz.1, Option.bind_some, Option.bind_some, depth_M hq.1, Option.bind_some, Option.bind_some, hh, Option.bind_some, Option.bind_some, depth_M hz.1, Option.bind_some, Option.bind_some, nI_1]
  by_cases c3 : nI t = 3
  · rw [if_pos c3, if_pos c3]
    have e1 : (nI (dp q) - 1).toInt = (dp q : Int) - 1 := pk_sub_toInt (b := 1) (by omega) (by decide)
    obtain ⟨x, g1, g2, g3⟩ := cutLoop hR hq e8 (nI (dp q) - 1) (by omega) (5 - (dp z + 1)) (dp z + 1) 64 (by omega) (by omega)
    refine ⟨x, g1, g2, ?_⟩
    rcases g3 with g3 | ⟨e, h1, h2, h3⟩
    · exact Or.inl g3
    · exact Or.inr ⟨e, h1, by omega, h3⟩
  · rw [if_neg c3, if_neg c3]
    have e0 : nI (dp q) - 0 = nI (dp q) := pk_sub (b := 0) (Nat.zero_le _)
    have e1 : (nI (dp q)).toInt = (dp q : Int) := nI_toInt (by omega)
    rw [e0]
    obtain ⟨x, g1, g2, g3⟩ := cutLoop hR hq e8 (nI (dp q)) (by omega) (5 - (dp z + 1)) (dp z + 1) 64 (by omega) (by omega)
    refine ⟨x, g1, g2, ?_⟩
    rcases g3 with g3 | ⟨e, h1, h2, h3⟩
    · exact Or.inl g3
    · exact Or.inr ⟨e, h1, by omega, h3⟩
theorem over_both {S : XSt} {T : MSt} {n c a z k : Nat} (h : JC S T n c a z) (hk : nmP k) : ∃ r w, f_M_tryCut T (nI k) = some (r, zmL T w) ∧ ((¬ r = 0 ∧ f_Qu_whyNotOver S (nI k) = some (r, S)) ∨ (r = 0 ∧ f_Qu_whyNotOver S (nI k) = Option.bind (f_Qu_takeSet_d S (nI (stN k 3))) (fun x24 => Option.bind (f_Qu_enter x24 (nI k)) (fun x26 => some ((0 : Int32), x26))))) := by
  obtain ⟨hC, h7, hJ⟩ := h
  have hR := hC.1.1
  have e3 : f_Na_setOf (nI k) 3 = some (nI (stN k 3)) := set_X (t := 3) hk.1 (by decide)
  have e5 : f_Na_setOf (nI k) 5 = some (nI (stN k 5)) := set_X (t := 5) hk.1 (by decide)
  have m3 : f_M_size T (nI k) 3 = some (nI (zszR (aX S) n (nI (stN k 3)))) := hR.szM (t := 3) hk (by decide)
  have m5 : f_M_size T (nI k) 5 = some (nI (zszR (aX S) n (nI (stN k 5)))) := hR.szM (t := 5) hk (by decide)
  have h48 := szR_48 hR (nI (stN k 5))
  obtain ⟨w3, p3⟩ := plain_M (t := 3) hC hk (by decide)
  obtain ⟨w5, p5⟩ := plain_M (t := 5) hC hk (by decide)
  have p3 : f_M_isPlain T (nI k) 3 = some (b2 (plB T k 3 c), zmL T w3) := p3
  have p5 : f_M_isPlain T (nI k) 5 = some (b2 (plB T k 5 c), zmL T w5) := p5
  unfold f_Qu_whyNotOver f_M_tryCut
  rw [e3, Option.bind_some, hR.szX, Option.bind_some, m3, Option.bind_some, e5, Option.bind_some, plain_X hC.1 hJ hk (by decide), Option.bind_some, m5, Option.bind_some, p5, Option.bind_some, plain_X hC.1 hJ hk (by decide), Option.bind_some, p3, Option.bind_some]
  have j0 : ∀ w, J_M_tryCut_47 (zmL T w) (nI k) 0 = some (7, zmL T w) := fun w => by
    unfold J_M_tryCut_47
    rw [if_pos rfl]
  by_cases c3 : nI (zszR (aX S) n (nI (stN k 3))) ≤ 0
  · rw [if_pos c3, if_pos c3]
    cases hp : plB T k 5 c with
    | false =>
      rw [if_pos (show b2 false = 0 by decide), if_pos rfl]
      by_cases c5 : nI (zszR (aX S) n (nI (stN k 5))) ≤ 0
      · rw [if_pos c5]
        refine ⟨7, T.2.2, ?_, Or.inl ⟨by decide, rfl⟩⟩
        have := j0 T.2.2
        rw [zmL_eta] at this
        rw [zmL_eta]
        exact this
      · rw [if_neg c5, if_pos (show b2 false = 0 by decide)]
        exact ⟨7, w5, j0 w5, Or.inl ⟨by decide, rfl⟩⟩
    | true =>
      have hpos := plB_sz hC hk (by decide) hp
      have c5 : ¬ nI (zszR (aX S) n (nI (stN k 5))) ≤ 0 := by rw [le0 (by omega)]; omega
      rw [if_neg (show ¬ b2 true = 0 by decide), if_neg c5, if_neg (show ¬ b2 true = 0 by decide)]
      obtain ⟨b1, t1, t2⟩ := tells_both (hR.mL w5) hk hpos 2
      obtain ⟨b2', t3, t4⟩ := tells_both (hR.mL w5) hk hpos 3
      unfold J_M_tryCut_47
      rw [if_neg (show ¬ (1 : Int32) = 0 by decide), t1, t2, Option.bind_some, Option.bind_some]
      cases b1 with
      | false =>
        rw [if_pos (show b2 false = 0 by decide), if_pos (show b2 false = 0 by decide), if_pos rfl]
        exact ⟨7, w5, rfl, Or.inl ⟨by decide, rfl⟩⟩
      | true =>
        rw [if_neg (show ¬ b2 true = 0 by decide), if_neg (show ¬ b2 true = 0 by decide), t3, t4, Option.bind_some, Option.bind_some]
        cases b2' with
        | false =>
          rw [if_pos (show b2 false = 0 by decide), if_pos (show b2 false = 0 by decide), if_neg (show ¬ (1 : Int32) = 0 by decide)]
          exact ⟨6, w5, rfl, Or.inl ⟨by decide, rfl⟩⟩
        | true =>
          rw [if_neg (show ¬ b2 true = 0 by decide), if_neg (show ¬ b2 true = 0 by decide), if_pos rfl]
          exact ⟨7, w5, rfl, Or.inl ⟨by decide, rfl⟩⟩
  · rw [if_neg c3, if_neg c3]
    cases hp : plB T k 3 c with
    | false =>
      rw [if_pos (show b2 false = 0 by decide), if_pos (show b2 false = 0 by decide)]
      exact ⟨5, w3, rfl, Or.inl ⟨by decide, rfl⟩⟩
    | true =>
      rw [if_neg (show ¬ b2 true = 0 by decide), if_neg (show ¬ b2 true = 0 by decide)]
      exact ⟨0, w3, rfl, Or.inr ⟨rfl, rfl⟩⟩
theorem enter_X {S : XSt} {m : Nat} (hm : S.1 6 = nI m) (h5 : m < 5) (v : Int32) : ∃ S', f_Qu_enter S v = some S' ∧ S'.1 7 = v ∧ S'.1 10 = 0 ∧ S'.1 6 = nI (m + 1) ∧ (∀ j, j ≠ 6 → j ≠ 7 → j ≠ 10 → S'.1 j = S.1 j) ∧ (∀ k, k ≠ 16 → S'.2 k = S.2 k) ∧ ∀ p, S'.2 16 p = if p = m then v else S.2 16 p := by
  unfold f_Qu_enter
  have z1 : zin (nI m) 5 = true := zin_2 h5 (by omega)
  have e6 : (zpS (zpS S 7 v) 10 0).1 6 = nI m := by rw [zpS_n (by decide), zpS_n (by decide)]; exact hm
  simp only [znm_e, e6]
  rw [if_neg (show ¬ (5 : Int32) ≤ nI m by rw [show (5 : Int32) = nI 5 from rfl]; exact nI_ge2 h5 (by omega)), zgd_t z1]
  have e6' : (zpA (zpS (zpS S 7 v) 10 0) 16 (nI m) v).1 6 = nI m := e6
  rw [e6']
  refine ⟨_, rfl, ?_, ?_, ?_, fun j h1 h2 h3 => ?_, fun k hk => ?_, fun p => ?_⟩
  · rw [zpS_n (by decide)]
    show (zpS (zpS S 7 v) 10 0).1 7 = v
    rw [zpS_n (by decide), zpS_s]
  · rw [zpS_n (by decide)]
    show (zpS (zpS S 7 v) 10 0).1 10 = 0
    rw [zpS_s]
  · rw [zpS_s, nI_1]
  · rw [zpS_n h1]
    show (zpS (zpS S 7 v) 10 0).1 j = _
    rw [zpS_n h3, zpS_n h2]
  · show (zpA (zpS (zpS S 7 v) 10 0) 16 (nI m) v).2 k = _
    rw [zpA_n hk]
    rfl
  · show (zpA (zpS (zpS S 7 v) 10 0) 16 (nI m) v).2 16 p = _
    rw [zpA_s (by omega)]
    rfl
/-- ANSWERS, on both sides -/
theorem answers_both {S : XSt} {T : MSt} {n c a z q t : Nat} (h : JC S T n c a z) (hq : nmP q) (e8 : S.1 8 = nI q) (e9 : S.1 9 = nI t) (t1 : 1 ≤ t) (t5 : t ≤ 5) (hz : ztr q (dp z) = z) : ∃ r w, Option.bind (f_Re_sizeOf S (nI (stN q t))) (fun x11 => (if x11 ≤ (0 : Int32) then f_Qu_whyAbsent S else f_Qu_whyThere S (nI (stN q t)))) = some r ∧ f_M_tryAnswers T (nI q) (nI t) = some (r, zmL T w) ∧ ¬ r = 0 := by
  have hR := h.1.1.1
  unfold f_M_tryAnswers
  rw [hR.szX, Option.bind_some, hR.szM hq (show t < 8 by omega), Option.bind_some]
  by_cases c0 : nI (zszR (aX S) n (nI (stN q t))) ≤ 0
  · rw [if_pos c0, if_pos c0]
    exact absent_both h hq e8 e9 t1 t5 hz
  · rw [if_neg c0, if_neg c0]
    exact there_both h hq e8 t1 t5
