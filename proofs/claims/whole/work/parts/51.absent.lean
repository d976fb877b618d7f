theorem closest_both {S : XSt} {T : MSt} {n c a z q t : Nat} (h : JC S T n c a z) (hq : nmP q) (e8 : S.1 8 = nI q) (hz : ztr q (dp z) = z) : ∀ (m d f1 f2 : Nat) (w0 : Int64), d = dp z + m → d ≤ dp q → m < f1 → m < f2 → ∃ d' w, dp z ≤ d' ∧ d' ≤ d ∧ zit (LS_Qu_closestKnown_10 S) f1 (nI d) = some (nI (ztr q d')) ∧ ∀ r, J_M_tryAnswers_177 (zmL T w) (nI q) (nI t) (nI d') = some r → zit (LS_M_tryAnswers_148 (nI q) (nI t)) f2 (nI d, zmL T w0) = some r := by
  have l1 := dp_le q
  have hC := h.1
  have hzn := hC.2.1
  intro m
  induction m with
  | zero =>
    intro d f1 f2 w0 hd hdq h1 h2
    obtain ⟨f1, rfl⟩ : ∃ k, f1 = k + 1 := ⟨f1 - 1, by omega⟩
    obtain ⟨f2, rfl⟩ : ∃ k, f2 = k + 1 := ⟨f2 - 1, by omega⟩
    refine ⟨dp z, w0, Nat.le_refl _, by omega, ?_, fun r hr => ?_⟩
    · refine zit_r ?_
      show L_Qu_closestKnown_10 S (nI d) = _
      unfold L_Qu_closestKnown_10
      rw [h.2.1, depth_X hzn.1, Option.bind_some, if_pos (nI_le2 (by omega) (by omega)), hz]
      rfl
    · refine zit_r ?_
      show L_M_tryAnswers_148 (nI q) (nI t) (nI d) (zmL T w0) = _
      unfold L_M_tryAnswers_148
      have ed : d = dp z := by omega
      rw [here_mL, hC.2.2.1, Option.bind_some, depth_M hzn.1, Option.bind_some, if_pos (nI_le2 (by omega) (by omega)), ed, hr]
      rfl
  | succ m ih =>
    intro d f1 f2 w0 hd hdq h1 h2
    obtain ⟨f1, rfl⟩ : ∃ k, f1 = k + 1 := ⟨f1 - 1, by omega⟩
    obtain ⟨f2, rfl⟩ : ∃ k, f2 = k + 1 := ⟨f2 - 1, by omega⟩
    obtain ⟨b, w1, g1, g2⟩ := known_both (h.mL w0) (ztr_nm (n := d) hq)
    rw [zmL_L] at g2
    have hnle : ¬ nI d ≤ nI (dp z) := nI_ge2 (by omega) (by omega)
    have s1 : LS_Qu_closestKnown_10 S (nI d) = (if b2 b = 0 then some (.inl (nI (d - 1))) else some (.inr (nI (ztr q d)))) := by
      show L_Qu_closestKnown_10 S (nI d) = _
      unfold L_Qu_closestKnown_10
      rw [h.2.1, depth_X hzn.1, Option.bind_some, if_neg hnle, e8, first_X hq.1 (by omega), Option.bind_some, g1, Option.bind_some]
      have e : nI d + -1 = nI (d - 1) := by rw [show d = (d - 1) + 1 by omega, pk_m1]; rfl
      rw [e]
      rfl
    have s2 : LS_M_tryAnswers_148 (nI q) (nI t) (nI d, zmL T w0) = (if b2 b = 0 then some (.inl (nI (d - 1), zmL T w1)) else zup (J_M_tryAnswers_177 (zmL T w1) (nI q) (nI t) (nI d))) := by
      show L_M_tryAnswers_148 (nI q) (nI t) (nI d) (zmL T w0) = _
      unfold L_M_tryAnswers_148
      rw [here_mL, hC.2.2.1, Option.bind_some, depth_M hzn.1, Option.bind_some, if_neg hnle, cut_M hq.1 (by omega), Option.bind_some, g2, Option.bind_some]
      have e : nI d + -1 = nI (d - 1) := by rw [show d = (d - 1) + 1 by omega, pk_m1]; rfl
      rw [e]
    by_cases cb : b2 b = 0
    · rw [if_pos cb] at s1 s2
      obtain ⟨d', w, q1, q2, q3, q4⟩ := ih (d - 1) f1 f2 w1 (by omega) (by omega) (by omega) (by omega)
      refine ⟨d', w, q1, by omega, by rw [zit_l s1]; exact q3, fun r hr => by rw [zit_l s2]; exact q4 r hr⟩
    · rw [if_neg cb] at s1 s2
      refine ⟨d, w1, by omega, Nat.le_refl _, zit_r s1, fun r hr => ?_⟩
      rw [hr] at s2
      exact zit_r s2
theorem absent_both {S : XSt} {T : MSt} {n c a z q t : Nat} (h : JC S T n c a z) (hq : nmP q) (e8 : S.1 8 = nI q) (e9 : S.1 9 = nI t) (t1 : 1 ≤ t) (t5 : t ≤ 5) (hz : ztr q (dp z) = z) : ∃ r w, f_Qu_whyAbsent S = some r ∧ Option.bind (f_M_size T (nI q) 5) (fun x54 => (if x54 ≤ (0 : Int32) then J_M_tryAnswers_130 T (nI q) (nI t) else Option.bind (f_M_isPlain T (nI q) 5) (fun x57 => (if x57.1 = (0 : Int32) then J_M_tryAnswers_130 x57.2 (nI q) (nI t) else Option.bind (f_M_tells x57.2 (nI q) (nI t)) (fun x60 => (if x60 = (0 : Int32) then some ((12 : Int32), x57.2) else some ((13 : Int32), x57.2))))))) = some (r, zmL T w) ∧ ¬ r = 0 := by
  obtain ⟨hC, h7, hJ⟩ := h
  have h : JC S T n c a z := ⟨hC, h7, hJ⟩
  have hR := hC.1.1
  have h48 := szR_48 hR (nI (stN q 5))
  have l1 := dp_le q
  have hzn := hC.2.1
  have esz : f_M_size T (nI q) 5 = some (nI (zszR (aX S) n (nI (stN q 5)))) := hR.szM (t := 5) hq (by decide)
  obtain ⟨w, hp⟩ := plain_M (t := 5) hC hq (by decide)
  have hp : f_M_isPlain T (nI q) 5 = some (b2 (plB T q 5 c), zmL T w) := hp
  have e5 : f_Na_setOf (nI q) 5 = some (nI (stN q 5)) := set_X (t := 5) hq.1 (by decide)
  unfold f_Qu_whyAbsent
  rw [e8, e5, Option.bind_some, plain_X hC.1 hJ hq (by decide), Option.bind_some, esz, Option.bind_some, hp, Option.bind_some]
  -- behind the set of NEXT of q
  have tail : ∀ w0, ∃ r w, (if nI q = S.1 7 then some (14 : Int32) else Option.bind (f_Qu_closestKnown S) (fun x7 => Option.bind (f_Na_depth x7) (fun x9 => Option.bind (f_Na_firstLabels (nI q) (x9 + (1 : Int32))) (fun x11 => Option.bind (f_Qu_isCovered S x11) (fun x13 => (if x13 = (0 : Int32) then some (14 : Int32) else Option.bind (f_Na_starOf x7) (fun x16 => Option.bind (f_Qu_isCovered S x16) (fun x18 => (if x18 = (0 : Int32) then Option.bind (f_Na_setOf x16 (5 : Int32)) (fun x21 => Option.bind (f_Si_isPlain S x21) (fun x23 => (if x23 = (0 : Int32) then (if (0 : Int32) = (0 : Int32) then some (17 : Int32) else some (16 : Int32)) else Option.bind (f_Qu_tells S x21 (S.1 9)) (fun x27 => (if x27 = (0 : Int32) then (if (1 : Int32) = (0 : Int32) then some (17 : Int32) else some (16 : Int32)) else (if (0 : Int32) = (0 : Int32) then some (17 : Int32) else some (16 : Int32))))))) else some (15 : Int32)))))))))) = some r ∧ J_M_tryAnswers_130 (zmL T w0) (nI q) (nI t) = some (r, zmL T w) ∧ ¬ r = 0 := by
    intro w0
    unfold J_M_tryAnswers_130
    rw [here_mL, hC.2.2.1, Option.bind_some, h7]
    by_cases c1 : nI q = nI z
    · exact ⟨14, w0, by rw [if_pos c1], by rw [if_pos c1], by decide⟩
    rw [if_neg c1, if_neg c1, depth_M hq.1, Option.bind_some]
    have hne : ¬ z = q := fun e => c1 (by rw [e])
    have hlt : dp z < dp q := (((above_iff hzn hq).mp hz).resolve_left hne).1
    have ed : nI (dp q) - 1 = nI (dp q - 1) := by rw [show dp q = (dp q - 1) + 1 by omega, nI_pred]; rfl
    obtain ⟨d, w1, q1, q2, q3, q4⟩ := closest_both (t := t) h hq e8 hz (dp q - 1 - dp z) (dp q - 1) 64 64 w0 (by omega) (by omega) (by omega) (by omega)
    have hck : f_Qu_closestKnown S = some (nI (ztr q d)) := by
      unfold f_Qu_closestKnown
      rw [e8, depth_X hq.1, Option.bind_some, ed]
      exact q3
    have hcn : nmP (ztr q d) := ztr_nm hq
    have hcd : dp (ztr q d) = d := dp_ztr hq (by omega)
    rw [ed, hck, Option.bind_some, depth_X hcn.1, hcd, Option.bind_some, nI_1, first_X hq.1 (by omega), Option.bind_some]
    obtain ⟨Y, eY, hY, hYl⟩ := star_name hcn (by omega)
    obtain ⟨bA, wA, cA1, cA2⟩ := cover_both (h.mL w1) (nI (ztr q (d + 1)))
    obtain ⟨bB, wB, cB1, cB2⟩ := cover_both (h.mL wA) (nI Y)
    rw [zmL_L] at cA2 cB2
    rw [cA1, Option.bind_some, star_X hcn.1, Option.bind_some, eY, cB1, Option.bind_some]
    have eYs : f_Na_setOf (nI Y) 5 = some (nI (stN Y 5)) := set_X (t := 5) hY.1 (by decide)
    have eYz : ∀ w, f_M_size (zmL T w) (nI Y) 5 = some (nI (zszR (aX S) n (nI (stN Y 5)))) := fun w => (hR.mL w).szM (t := 5) hY (by decide)
    have hY48 := szR_48 hR (nI (stN Y 5))
    obtain ⟨wC, pC⟩ := plain_M (t := 5) (hC.mL wB) hY (by decide)
    rw [plB_mL hC wB, zmL_L] at pC
    have pC : f_M_isPlain (zmL T wB) (nI Y) 5 = some (b2 (plB T Y 5 c), zmL T wC) := pC
    rw [eYs, Option.bind_some, plain_X hC.1 hJ hY (by decide), Option.bind_some]
    have hJ177 : J_M_tryAnswers_177 (zmL T w1) (nI q) (nI t) (nI d) = (if b2 bA = 0 then some ((14 : Int32), zmL T wA) else if b2 bB = 0 then (if nI (zszR (aX S) n (nI (stN Y 5))) ≤ (0 : Int32) then some ((17 : Int32), zmL T wB) else (if b2 (plB T Y 5 c) = (0 : Int32) then some ((17 : Int32), zmL T wC) else Option.bind (f_M_tells (zmL T wC) (nI Y) (nI t)) (fun x19 => (if x19 = (0 : Int32) then some ((16 : Int32), zmL T wC) else some ((17 : Int32), zmL T wC))))) else some ((15 : Int32), zmL T wB)) := by
      unfold J_M_tryAnswers_177
      rw [cut_M hq.1 (by omega), Option.bind_some, nI_1, cut_M hq.1 (by omega), Option.bind_some, cA2, Option.bind_some, star_M hcn.1, Option.bind_some, eY, cB2, Option.bind_some, eYz, Option.bind_some, pC, Option.bind_some]
    by_cases cA : b2 bA = 0
    · rw [if_pos cA] at hJ177 ⊢
      exact ⟨14, wA, rfl, q4 _ hJ177, by decide⟩
    rw [if_neg cA] at hJ177 ⊢
    by_cases cB : b2 bB = 0
    · rw [if_pos cB] at hJ177 ⊢
      by_cases cz : nI (zszR (aX S) n (nI (stN Y 5))) ≤ 0
      · rw [if_pos cz] at hJ177
        have hpf : plB T Y 5 c = false := by
          cases hpp : plB T Y 5 c with
          | false => rfl
          | true =>
            have := plB_sz hC hY (by decide) hpp
            rw [le0 (by omega)] at cz
            omega
        rw [hpf, if_pos (show b2 false = 0 by decide), if_pos rfl]
        exact ⟨17, wB, rfl, q4 _ hJ177, by decide⟩
      · rw [if_neg cz] at hJ177
        cases hpp : plB T Y 5 c with
        | false =>
          rw [hpp, if_pos (show b2 false = 0 by decide)] at hJ177
          rw [if_pos (show b2 false = 0 by decide), if_pos rfl]
          exact ⟨17, wC, rfl, q4 _ hJ177, by decide⟩
        | true =>
          rw [hpp, if_neg (show ¬ b2 true = 0 by decide)] at hJ177
          rw [if_neg (show ¬ b2 true = 0 by decide)]
          obtain ⟨bt, ta, tb⟩ := tells_both (hR.mL wC) hY (plB_sz hC hY (by decide) hpp) (nI t)
          rw [tb, Option.bind_some] at hJ177
          rw [e9, ta, Option.bind_some]
          cases bt with
          | false =>
            rw [if_pos (show b2 false = 0 by decide)] at hJ177
            rw [if_pos (show b2 false = 0 by decide), if_neg (show ¬ (1 : Int32) = 0 by decide)]
            exact ⟨16, wC, rfl, q4 _ hJ177, by decide⟩
          | true =>
            rw [if_neg (show ¬ b2 true = 0 by decide)] at hJ177
            rw [if_neg (show ¬ b2 true = 0 by decide), if_pos rfl]
            exact ⟨17, wC, rfl, q4 _ hJ177, by decide⟩
    · rw [if_neg cB] at hJ177 ⊢
      exact ⟨15, wB, rfl, q4 _ hJ177, by decide⟩
  by_cases cz : nI (zszR (aX S) n (nI (stN q 5))) ≤ 0
  · have hpf : plB T q 5 c = false := by
      cases hpp : plB T q 5 c with
      | false => rfl
      | true =>
        have := plB_sz hC hq (by decide) hpp
        rw [le0 (by omega)] at cz
        omega
    rw [if_pos cz, hpf, if_pos (show b2 false = 0 by decide)]
    obtain ⟨r, w2, a1, a2, a3⟩ := tail T.2.2
    rw [zmL_eta] at a2
    exact ⟨r, w2, a1, a2, a3⟩
  · rw [if_neg cz]
    cases hpp : plB T q 5 c with
    | false =>
      rw [if_pos (show b2 false = 0 by decide), if_pos (show b2 false = 0 by decide)]
      exact tail w
    | true =>
      rw [if_neg (show ¬ b2 true = 0 by decide), if_neg (show ¬ b2 true = 0 by decide)]
      obtain ⟨bt, ta, tb⟩ := tells_both (hR.mL w) hq (plB_sz hC hq (by decide) hpp) (nI t)
      rw [e9, ta, tb, Option.bind_some, Option.bind_some]
      cases bt with
      | false => exact ⟨12, w, by rw [if_pos (show b2 false = 0 by decide)], by rw [if_pos (show b2 false = 0 by decide)], by decide⟩
      | true => exact ⟨13, w, by rw [if_neg (show ¬ b2 true = 0 by decide)], by rw [if_neg (show ¬ b2 true = 0 by decide)], by decide⟩
