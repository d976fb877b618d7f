/-! KEYS, on both sides -/
def DEq (S : XSt) (T : MSt) (n z : Nat) (hd : Int32 → Bool) : Prop := (∀ w, f_Nu_has_d S w = some (b2 (hd w))) ∧ ∀ w, hd w = (if T.1 12 < 0 then memB S n (nI (stN z 3)) w else decide (w = T.1 12))
theorem trust_M {S : XSt} {T : MSt} {n z : Nat} {hd : Int32 → Bool} (hR : RecRel S T n) (hz : nmP z) (hh : f_M_here T = some (nI z)) (hD : DEq S T n z hd) (v : Int32) : ∃ w, f_M_isTrusted T v = some (b2 (hd (mxs (nI z) v)), zmL T w) := by
  unfold f_M_isTrusted
  rw [hh, Option.bind_some, seal_M, Option.bind_some]
  generalize mx (mx (mx 0 77) (nI z)) v = w
  refine ⟨w, ?_⟩
  have e12 : (zmL T w).1 12 = T.1 12 := rfl
  rw [e12, hD.2 (mxs (nI z) v)]
  by_cases c : T.1 12 < 0
  · have hh3 : f_M_has (zmL T w) (nI z) 3 (mxs (nI z) v) = _ := hasM_b (t := 3) (hR.mL w) hz (by decide) _
    rw [if_pos c, if_pos c, here_mL, hh, Option.bind_some, hh3, Option.bind_some, zgd_t (b2_z _)]
  · rw [if_neg c, if_neg c]
    by_cases q : mxs (nI z) v = T.1 12
    · rw [if_pos q, decide_eq_true q]; rfl
    · rw [if_neg q, decide_eq_false q]; rfl
theorem counts_0 {S : XSt} {T : MSt} {n z : Nat} {hd : Int32 → Bool} (hR : RecRel S T n) (hz : nmP z) (hh : f_M_here T = some (nI z)) (hD : DEq S T n z hd) (h11 : T.1 11 = 0) (v : Int32) : ∃ w, f_M_counts T v = some (b2 (memB S n (nI (stN z 4)) v && hd (mxs (nI z) v)), zmL T w) := by
  unfold f_M_counts
  have hh4 : f_M_has T (nI z) 4 v = _ := hasM_b (t := 4) hR hz (by decide) v
  rw [hh, Option.bind_some, hh4, Option.bind_some, h11, if_pos rfl]
  obtain ⟨w, e⟩ := trust_M hR hz hh hD v
  rw [e, Option.bind_some]
  cases memB S n (nI (stN z 4)) v with
  | false =>
    rw [if_pos (show b2 false = 0 by decide)]
    exact ⟨T.2.2, by rw [zmL_eta]; rfl⟩
  | true =>
    rw [if_neg (show ¬ b2 true = 0 by decide)]
    cases hd (mxs (nI z) v) with
    | false => exact ⟨w, by rw [if_pos (show b2 false = 0 by decide)]; rfl⟩
    | true => exact ⟨w, by rw [if_neg (show ¬ b2 true = 0 by decide)]; rfl⟩
theorem counts_1 {S : XSt} {T : MSt} {n z : Nat} (hR : RecRel S T n) (hz : nmP z) (hh : f_M_here T = some (nI z)) (h11 : ¬ T.1 11 = 0) (v : Int32) : f_M_counts T v = some (b2 (memB S n (nI (stN z 4)) v), T) := by
  unfold f_M_counts
  have hh4 : f_M_has T (nI z) 4 v = _ := hasM_b (t := 4) hR hz (by decide) v
  rw [hh, Option.bind_some, hh4, Option.bind_some, if_neg h11]
  cases memB S n (nI (stN z 4)) v with
  | false => rw [if_pos (show b2 false = 0 by decide)]; rfl
  | true => rw [if_neg (show ¬ b2 true = 0 by decide)]; rfl
def FrX (S S' : XSt) : Prop := (∀ j, j ≠ 10 → j ≠ 13 → S'.1 j = S.1 j) ∧ ∀ k, k ≠ 10 → k ≠ 11 → k ≠ 15 → S'.2 k = S.2 k
def FrM (T T' : MSt) : Prop := (∀ j, j ≠ 10 → j ≠ 11 → T'.1 j = T.1 j) ∧ T'.2.1 = T.2.1
theorem FrX.core {S S' : XSt} (h : FrX S S') : CoreX S S' := ⟨fun j hj => h.1 j (by omega) (by omega), fun k hk => h.2 k (by omega) (by omega) (by omega)⟩
theorem FrM.core {T T' : MSt} (h : FrM T T') : CoreM T T' := ⟨fun j hj => h.1 j (by omega) (by omega), fun k hk => by rw [h.2]⟩
theorem FrM.here {T T' : MSt} (h : FrM T T') : f_M_here T' = f_M_here T := by
  unfold f_M_here
  rw [h.1 9 (by decide) (by decide), h.2]
theorem memB_congr {S S' : XSt} (h0 : S'.2 0 = S.2 0) (h1 : S'.2 1 = S.2 1) (n : Nat) (set v : Int32) : memB S' n set v = memB S n set v := by
  unfold memB aX
  rw [h0, h1]
theorem keys_both {S : XSt} {T : MSt} {n c a z : Nat} {hd : Int32 → Bool} (hB : Base S T n c a) (hz : nmP z) (h7 : S.1 7 = nI z) (hh : f_M_here T = some (nI z)) (hD : DEq S T n z hd) (h10 : S.1 10 = 0) : ∃ r S' T', f_Qu_whyNoKeys S = some (r, S') ∧ f_M_tryKeys T = some (r, T') ∧ FrX S S' ∧ FrM T T' ∧ S'.1 10 = T'.1 10 ∧ (r = 0 → JC S' T' n c a z) := by
  have hR := hB.1
  obtain ⟨set, hset⟩ : ∃ set, set = nI (stN z 4) := ⟨_, rfl⟩
  have h48 := szR_48 hR set
  have e4 : f_Na_setOf (nI z) 4 = some set := by rw [hset]; exact set_X (t := 4) hz.1 (by decide)
  have esM : f_M_size T (nI z) 4 = some (nI (zszR (aX S) n set)) := by rw [hset]; exact hR.szM (t := 4) hz (by decide)
  obtain ⟨T22, hT22⟩ : ∃ T22, T22 = zmS (zmS T 11 0) 10 0 := ⟨_, rfl⟩
  have fT22 : FrM T T22 := by
    rw [hT22]
    exact ⟨fun j h1 h2 => by rw [zmS_n h1, zmS_n h2], rfl⟩
  have t11 : T22.1 11 = 0 := by rw [hT22, zmS_n (by decide), zmS_s]
  have t10 : T22.1 10 = 0 := by rw [hT22, zmS_s]
  unfold f_Qu_whyNoKeys f_M_tryKeys
  rw [h7, e4, Option.bind_some, hR.szX, Option.bind_some, hh, Option.bind_some, esM, Option.bind_some]
  simp only [znm_e]
  rw [← hT22]
  by_cases c0 : nI (zszR (aX S) n set) = 0
  · exact ⟨2, S, T22, by rw [if_pos c0], by rw [if_pos c0], ⟨fun _ _ _ => rfl, fun _ _ _ _ => rfl⟩, fT22, by rw [h10, t10], fun h => absurd h (by decide)⟩
  rw [if_neg c0, if_neg c0]
  obtain ⟨d, hdd⟩ : ∃ d : Nat → Int32, d = fun j => S.2 1 (zstR (aX S) n set + j) := ⟨_, rfl⟩
  obtain ⟨P, hP⟩ : ∃ P : Nat → Bool, P = fun j => hd (mxs (nI z) (d j)) := ⟨_, rfl⟩
  obtain ⟨S6, s1, s2, s3, s4⟩ := sealed_X (z := z) hR h7 hd hD.1 set
  have hPd : (fun j => hd (mxs (nI z) (S.2 1 (zstR (aX S) n set + j)))) = P := by rw [hP, hdd]
  rw [hPd] at s3 s4
  have s4 : ∀ Q : Int32 → Bool, zct (fun p => Q (S6.2 15 p)) (zct P (zszR (aX S) n set)) = zct (fun j => Q (d j) && P j) (zszR (aX S) n set) := fun Q => by
    rw [s4 Q, hP, hdd]
  have hB22 : Base S T22 n c a := hB.core CoreX.rf fT22.core
  have hh22 : f_M_here T22 = some (nI z) := by rw [fT22.here]; exact hh
  have hD22 : DEq S T22 n z hd := ⟨hD.1, fun w => by rw [hD.2 w, fT22.1 12 (by decide) (by decide)]⟩
  have hctP := zct_le P (zszR (aX S) n set)
  -- the reference's loop
  have loop : ∃ w, ∀ r, (if b2 (decide (0 < zct P (zszR (aX S) n set))) = (0 : Int32) then some ((3 : Int32), zmL T22 w) else Option.bind (f_M_isPlain (zmL T22 w) (nI z) (4 : Int32)) (fun x3 => (if x3.1 = (0 : Int32) then some ((4 : Int32), x3.2) else some ((0 : Int32), zmS (zmS x3.2 11 (1 : Int32)) 10 (nI (zszR (aX S) n set)))))) = some r → zit (LS_M_tryKeys_33 (nI z) (nI (zszR (aX S) n set))) 64 (0, 0, T22) = some r := by
    have key : ∀ (m i : Nat) (f : Nat) (w : Int64), i + m = zszR (aX S) n set → m < f → ∃ w', ∀ r, (if b2 (decide (0 < zct P (zszR (aX S) n set))) = (0 : Int32) then some ((3 : Int32), zmL T22 w') else Option.bind (f_M_isPlain (zmL T22 w') (nI z) (4 : Int32)) (fun x3 => (if x3.1 = (0 : Int32) then some ((4 : Int32), x3.2) else some ((0 : Int32), zmS (zmS x3.2 11 (1 : Int32)) 10 (nI (zszR (aX S) n set)))))) = some r → zit (LS_M_tryKeys_33 (nI z) (nI (zszR (aX S) n set))) f (b2 (decide (0 < zct P i)), nI i, zmL T22 w) = some r := by
      intro m
      induction m with
      | zero =>
        intro i f w hi hf
        obtain ⟨f, rfl⟩ : ∃ k, f = k + 1 := ⟨f - 1, by omega⟩
        have ei : i = zszR (aX S) n set := by omega
        subst ei
        refine ⟨w, fun r hr => zit_r ?_⟩
        show L_M_tryKeys_33 (nI z) (nI (zszR (aX S) n set)) (b2 (decide (0 < zct P (zszR (aX S) n set)))) (nI (zszR (aX S) n set)) (zmL T22 w) = _
        unfold L_M_tryKeys_33
        rw [if_pos (nI_le2 (Nat.le_refl _) (by omega))]
        simp only [znm_e]
        rw [hr]
        rfl
      | succ m ih =>
        intro i f w hi hf
        obtain ⟨f, rfl⟩ : ∃ k, f = k + 1 := ⟨f - 1, by omega⟩
        have hil : i < zszR (aX S) n set := by omega
        have hda : f_M_dataAt (zmL T22 w) (nI z) 4 (nI i) = some (d i) := by
          have := (hB22.1.mL w).kth (t := 4) (k := i) hz (by decide) (by rw [← hset]; exact hil)
          rw [← hset] at this
          rw [hdd]
          exact this
        obtain ⟨w1, hw1⟩ := trust_M (hB22.1.mL w) hz (by rw [here_mL]; exact hh22) (show DEq S (zmL T22 w) n z hd from hD22) (d i)
        rw [zmL_L] at hw1
        have en : ∀ b, decide (0 < zct P i) = b → decide (0 < zct P (i + 1)) = (b || P i) := fun b hb => by
          rw [zct_s]
          cases hPi : P i <;> cases b <;> simp at hb ⊢ <;> omega
        cases hb : decide (0 < zct P i) with
        | true =>
          have st : LS_M_tryKeys_33 (nI z) (nI (zszR (aX S) n set)) (b2 true, nI i, zmL T22 w) = some (.inl (1, nI i + 1, zmL T22 w)) := by
            show L_M_tryKeys_33 (nI z) (nI (zszR (aX S) n set)) (b2 true) (nI i) (zmL T22 w) = _
            unfold L_M_tryKeys_33
            rw [if_neg (nI_ge2 hil (by omega)), if_neg (show ¬ b2 true = 0 by decide)]
          obtain ⟨w', hw'⟩ := ih (i + 1) f w (by omega) (by omega)
          refine ⟨w', fun r hr => ?_⟩
          rw [zit_l st]
          have := hw' r hr
          rw [en true hb, Bool.true_or, ← nI_1] at this
          exact this
        | false =>
          have st : LS_M_tryKeys_33 (nI z) (nI (zszR (aX S) n set)) (b2 false, nI i, zmL T22 w) = some (.inl (b2 (P i), nI i + 1, zmL T22 w1)) := by
            show L_M_tryKeys_33 (nI z) (nI (zszR (aX S) n set)) (b2 false) (nI i) (zmL T22 w) = _
            unfold L_M_tryKeys_33
            have ePi : P i = hd (mxs (nI z) (d i)) := by rw [hP]
            rw [if_neg (nI_ge2 hil (by omega)), if_pos (show b2 false = 0 by decide), hda, Option.bind_some, hw1, Option.bind_some, ePi]
            cases hd (mxs (nI z) (d i))
            · rw [if_pos (show b2 false = 0 by decide)]; rfl
            · rw [if_neg (show ¬ b2 true = 0 by decide)]; rfl
          obtain ⟨w', hw'⟩ := ih (i + 1) f w1 (by omega) (by omega)
          refine ⟨w', fun r hr => ?_⟩
          rw [zit_l st]
          have := hw' r hr
          rw [en false hb, Bool.false_or, ← nI_1] at this
          exact this
    obtain ⟨w', hw'⟩ := key (zszR (aX S) n set) 0 64 T22.2.2 (by omega) (by omega)
    refine ⟨w', fun r hr => ?_⟩
    have := hw' r hr
    rw [zmL_eta] at this
    exact this
  obtain ⟨w, hloop⟩ := loop
  rw [s1, Option.bind_some, s3]
  have f6 : FrX S S6 := ⟨fun j h1 h2 => s2.1 j h2, fun k h1 h2 h3 => s2.2 k h3⟩
  have fw : ∀ w, FrM T (zmL T22 w) := fun w => ⟨fT22.1, fT22.2⟩
  by_cases cP : zct P (zszR (aX S) n set) = 0
  · rw [cP, if_pos (show nI 0 = 0 from rfl)]
    refine ⟨3, S6, zmL T22 w, rfl, hloop _ ?_, f6, fw w, ?_, fun h => absurd h (by decide)⟩
    · rw [cP, if_pos (by decide)]
    · show S6.1 10 = T22.1 10
      rw [s2.1 10 (by decide), h10, t10]
  rw [if_neg (fun e => cP ((eq0 (by omega)).mp e))]
  have hpos : decide (0 < zct P (zszR (aX S) n set)) = true := decide_eq_true (by omega)
  rw [hpos, if_neg (show ¬ b2 true = 0 by decide)] at hloop
  -- the sealed keys
  have hKey : KeyEq S6 T22 := by
    intro v
    refine ⟨memB S n (nI (stN z 4)) v && hd (mxs (nI z) v), ?_, fun w0 => ?_⟩
    · rw [has_k s3 (by omega)]
      congr 2
      have e := s4 (fun x => decide (x = v))
      rw [e, Bool.eq_iff_iff, decide_eq_true_eq, Bool.and_eq_true, ← hset, mem_iff hR, zct_pos]
      constructor
      · rintro ⟨j, hj, hq⟩
        rw [Bool.and_eq_true, decide_eq_true_eq] at hq
        refine ⟨⟨j, hj, ?_⟩, ?_⟩
        · have := hq.1
          rw [hdd] at this
          exact this
        · have h2 := hq.2
          rw [hP] at h2
          simp only [hq.1] at h2
          exact h2
      · rintro ⟨⟨j, hj, hq⟩, h2⟩
        have hdj : d j = v := by rw [hdd]; exact hq
        refine ⟨j, hj, ?_⟩
        rw [Bool.and_eq_true, decide_eq_true_eq]
        refine ⟨hdj, ?_⟩
        rw [hP]
        simp only [hdj]
        exact h2
    · have := counts_0 (hB22.1.mL w0) hz (by rw [here_mL]; exact hh22) (show DEq S (zmL T22 w0) n z hd from hD22) (show (zmL T22 w0).1 11 = 0 from t11) v
      simpa only [zmL_L] using this
  have hC6 : Ctx S6 T22 n c a z := ⟨hB.core f6.core fT22.core, hz, hh22, hKey⟩
  have h76 : S6.1 7 = nI z := (s2.1 7 (by decide)).trans h7
  obtain ⟨S9, j1, j2, j3, j4⟩ := judge_X hC6
  have hB9 : Base S9 T22 n c a := hC6.1.core ⟨fun j _ => by rw [j2], fun k hk => j3 k (by omega) (by omega)⟩ CoreM.rf
  rw [h76, j1, Option.bind_some, hset, plain_X hB9 j4 hz (by decide), Option.bind_some, ← hset]
  obtain ⟨w2, pM⟩ := plain_M (t := 4) (hC6.mL w) hz (by decide)
  rw [plB_mL hC6 w, zmL_L] at pM
  have pM : f_M_isPlain (zmL T22 w) (nI z) 4 = some (b2 (plB T22 z 4 c), zmL T22 w2) := pM
  rw [pM, Option.bind_some] at hloop
  have f9 : FrX S S9 := ⟨fun j h1 h2 => by rw [j2]; exact f6.1 j h1 h2, fun k h1 h2 h3 => (j3 k h1 h2).trans (f6.2 k h1 h2 h3)⟩
  cases hpl : plB T22 z 4 c with
  | false =>
    rw [hpl, if_pos (show b2 false = 0 by decide)] at hloop
    rw [if_pos (show b2 false = 0 by decide)]
    refine ⟨4, S9, zmL T22 w2, rfl, hloop _ rfl, f9, fw w2, ?_, fun h => absurd h (by decide)⟩
    show S9.1 10 = T22.1 10
    rw [j2, s2.1 10 (by decide), h10, t10]
  | true =>
    rw [hpl, if_neg (show ¬ b2 true = 0 by decide)] at hloop
    rw [if_neg (show ¬ b2 true = 0 by decide)]
    have hR9 : RecRel S9 T22 n := hB9.1
    have ea : aX S9 = aX S := by
      have q0 : S9.2 0 = S.2 0 := f9.2 0 (by decide) (by decide) (by decide)
      have q1 : S9.2 1 = S.2 1 := f9.2 1 (by decide) (by decide) (by decide)
      unfold aX
      rw [q0, q1]
    obtain ⟨S14, k1, k2, k3, k4⟩ := take_k hR9 set
    rw [ea] at k3 k4
    obtain ⟨S16, hS16⟩ : ∃ S16, S16 = zpS S14 10 (nI (zszR (aX S) n set)) := ⟨_, rfl⟩
    obtain ⟨T8, hT8⟩ : ∃ T8, T8 = zmS (zmS (zmL T22 w2) 11 1) 10 (nI (zszR (aX S) n set)) := ⟨_, rfl⟩
    have f16 : FrX S S16 := by
      rw [hS16]
      exact ⟨fun j h1 h2 => by rw [zpS_n h1, k2.1 j h2]; exact f9.1 j h1 h2, fun k h1 h2 h3 => (k2.2 k h3).trans (f9.2 k h1 h2 h3)⟩
    have f8 : FrM T T8 := by
      rw [hT8]
      exact ⟨fun j h1 h2 => by rw [zmS_n h1, zmS_n h2]; exact fT22.1 j h1 h2, fT22.2⟩
    have t811 : T8.1 11 = 1 := by rw [hT8, zmS_n (by decide), zmS_s]
    have hB16 : Base S16 T8 n c a := hB.core f16.core f8.core
    have hh8 : f_M_here T8 = some (nI z) := by rw [f8.here]; exact hh
    have hKey8 : KeyEq S16 T8 := by
      intro v
      refine ⟨memB S n set v, ?_, fun w0 => ⟨w0, ?_⟩⟩
      · have q13 : S16.1 13 = nI (zszR (aX S) n set) := by rw [hS16, zpS_n (by decide)]; exact k3
        have q15 : ∀ p, p < zszR (aX S) n set → S16.2 15 p = S.2 1 (zstR (aX S) n set + p) := fun p hp => by
          rw [hS16]
          show S14.2 15 p = _
          rw [k4 p hp, f9.2 1 (by decide) (by decide) (by decide)]
        rw [has_k q13 (by omega)]
        congr 2
        rw [Bool.eq_iff_iff, decide_eq_true_eq, mem_iff hR, zct_pos]
        constructor
        · rintro ⟨j, hj, hq⟩
          exact ⟨j, hj, by rw [← q15 j hj]; exact of_decide_eq_true hq⟩
        · rintro ⟨j, hj, hq⟩
          exact ⟨j, hj, decide_eq_true (by rw [q15 j hj]; exact hq)⟩
      · have hB0 : RecRel S (zmL T8 w0) n := (hB.core CoreX.rf f8.core).1.mL w0
        rw [counts_1 hB0 hz (by rw [here_mL]; exact hh8) (show ¬ (zmL T8 w0).1 11 = 0 by show ¬ T8.1 11 = 0; rw [t811]; decide) v, hset]
    have hC16 : Ctx S16 T8 n c a z := ⟨hB16, hz, hh8, hKey8⟩
    have h716 : S16.1 7 = nI z := (f16.1 7 (by decide) (by decide)).trans h7
    obtain ⟨S18, l1, l2, l3, l4⟩ := judge_X hC16
    have hB18 : Base S18 T8 n c a := hB16.core ⟨fun j _ => by rw [l2], fun k hk => l3 k (by omega) (by omega)⟩ CoreM.rf
    rw [k1, Option.bind_some, k3, ← hS16, h716, l1, Option.bind_some]
    refine ⟨0, S18, T8, rfl, hloop _ (by rw [← hT8]), ⟨fun j h1 h2 => by rw [l2]; exact f16.1 j h1 h2, fun k h1 h2 h3 => (l3 k h1 h2).trans (f16.2 k h1 h2 h3)⟩, f8, ?_, fun _ => ⟨⟨hB18, hz, hh8, hKey8.of (by rw [l2]) (l3 15 (by decide) (by decide))⟩, by rw [l2]; exact h716, l4⟩⟩
    rw [l2, hS16, zpS_s, hT8, zmS_s]
