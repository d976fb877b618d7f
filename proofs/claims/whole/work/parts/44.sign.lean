theorem sim_answer : Sim_answer Rel := by
  intro S T a0 hR
  have h := hR
  obtain ⟨n, c, a, h1, h2, h3, h4⟩ := h
  unfold f_R_answer f_Qu_dataNow f_M_answer
  have e0 : f_Na_setOf (S.1 8) (S.1 9) = some (setI (S.1 8) (S.1 9)) := nrf rfl
  rw [e0, Option.bind_some, h4.1]
  have key : (T.1 6 = 8 ∨ T.1 6 = 9) → ∃ r, J_Qu_dataNow_32 S a0 (setI (S.1 8) (S.1 9)) = some r ∧ J_M_answer_18 T a0 = some r := by
    intro hq
    obtain ⟨Q, t, q1, q2, q3, q4, q5, t1, t5⟩ := h4.2.2.2 hq
    unfold J_Qu_dataNow_32 J_M_answer_18
    by_cases c1 : a0 < 0
    · exact ⟨0, by rw [if_pos c1], by rw [if_pos c1]; rfl⟩
    rw [if_neg c1, if_neg c1]
    obtain ⟨k, hk, rfl⟩ := nI_of c1
    have ht : t < 8 := by omega
    rw [q1, q4, q2, q5, setI_n q3.1 ht, h1.szX, h1.szM q3 ht, Option.bind_some, Option.bind_some]
    have h48 := szR_48 h1 (nI (stN Q t))
    by_cases c2 : nI (zszR (aX S) n (nI (stN Q t))) ≤ nI k
    · exact ⟨0, by rw [if_pos c2], by rw [if_pos c2]; rfl⟩
    rw [if_neg c2, if_neg c2]
    have c3 : k < zszR (aX S) n (nI (stN Q t)) := by
      rw [nI_leI (by omega) hk] at c2
      omega
    rw [start_X h1.1 h1.2.2.1 h1.2.2.2.1, Option.bind_some, kth_X h1.1 h1.2.2.1 h1.2.2.2.1 _ c3, Option.bind_some]
    unfold J_M_answer_43
    rw [if_neg (by decide), q2, q5, h1.kth q3 ht c3]
    exact ⟨_, rfl, rfl⟩
  by_cases c8 : T.1 6 = 8
  · obtain ⟨r, k1, k2⟩ := key (Or.inl c8)
    exact ⟨r, by rw [if_pos c8, k1]; rfl, by rw [if_pos c8, k2], hR⟩
  · rw [if_neg c8, if_neg c8]
    by_cases c9 : T.1 6 = 9
    · obtain ⟨r, k1, k2⟩ := key (Or.inr c9)
      exact ⟨r, by rw [if_pos c9, k1]; rfl, by rw [if_pos c9, k2], hR⟩
    · exact ⟨0, by rw [if_neg c9]; rfl, by rw [if_neg c9]; rfl, hR⟩
theorem signed_X {X lb : Nat} (hX : X < 1048576) (hl : lb ≤ 4) : f_Si_signedName (nI X) (nI lb) = some (sgN X lb) := by
  unfold f_Si_signedName sgN
  have l1 := dp_le X
  rw [depth_X hX, Option.bind_some]
  have hle : nI lb < nI (dp X) ↔ lb < dp X := nI_ltI (by omega) (by omega)
  by_cases c : lb < dp X
  · rw [if_pos (hle.mpr c), if_pos c, first_X hX hl, Option.bind_some, star_X (ztr_lt hX)]
    rfl
  · rw [if_neg (fun z => c (hle.mp z)), if_neg c]
theorem make_both {S : XSt} {T : MSt} {n c a : Nat} (h1 : RecRel S T n) (h2 : SigRel S T c) (h3 : AncRel S T a) (h4 : QuRel S T) (hc : c < 32) {X t Z lb : Nat} (hX : nmP X) (t1 : 1 ≤ t) (t5 : t ≤ 5) (hZ : nmP Z) (hl : lb ≤ dp X) (key : Int32) :
    ∃ S' T', f_Si_make S (nI (stN X t)) (nI Z) key (nI lb) = some (nI c, S') ∧ Rel S' T' ∧
    (zgd (zin (T.1 3) 32) (znm (zmA T 3 (T.1 3) (nI X)) (fun S22 => zgd (zin (T.1 3) 32) (znm (zmA S22 4 (T.1 3) (nI t)) (fun S25 => zgd (zin (T.1 3) 32) (znm (zmA S25 5 (T.1 3) (nI Z)) (fun S28 => zgd (zin (T.1 3) 32) (znm (zmA S28 6 (T.1 3) key) (fun S31 => zgd (zin (T.1 3) 32) (znm (zmA S31 7 (T.1 3) (nI lb)) (fun S34 => zgd (zin (T.1 3) 32) (znm (zmA S34 8 (T.1 3) (S34.1 1)) (fun S37 => zgd (zin (T.1 3) 32) (znm (zmA S37 9 (T.1 3) (S37.1 2)) (fun S40 => Option.bind (f_M_markOf S40 (T.1 3)) (fun x42 => zgd (zin (T.1 3) 32) (znm (zmA x42.2 10 (T.1 3) x42.1) (fun S45 => znm (zmS S45 3 ((S45.1 3) + (1 : Int32))) (fun S47 => some ((T.1 3), S47)))))))))))))))))))) = some (nI c, T') := by
  obtain ⟨k1, k2, k3, k4, k5, k6, k7⟩ := h2
  have l1 := dp_le X
  have z1 : zin (nI c) 32 = true := zin_2 hc (by omega)
  obtain ⟨S27, hS⟩ : ∃ S27, S27 = zpA (zpA (zpA (zpA (zpA (zpA (zpA (zpS S 1 (nI c + 1)) 2 (nI c) (nI (stN X t))) 3 (nI c) (nI Z)) 4 (nI c) key) 5 (nI c) (nI lb)) 6 (nI c) (S.1 2)) 7 (nI c) (S.1 3)) 8 (nI c) (sgN X lb) := ⟨_, rfl⟩
  obtain ⟨T40, hT⟩ : ∃ T40, T40 = zmA (zmA (zmA (zmA (zmA (zmA (zmA T 3 (nI c) (nI X)) 4 (nI c) (nI t)) 5 (nI c) (nI Z)) 6 (nI c) key) 7 (nI c) (nI lb)) 8 (nI c) (T.1 1)) 9 (nI c) (T.1 2) := ⟨_, rfl⟩
  have hc3 : c ≤ 3072 := by omega
  have sS : ∀ k, 9 ≤ k ∨ k ≤ 1 → S27.2 k = S.2 k := fun k hk => by
    rw [hS, zpA_n (by omega), zpA_n (by omega), zpA_n (by omega), zpA_n (by omega), zpA_n (by omega), zpA_n (by omega), zpA_n (by omega)]
    rfl
  have s1 : ∀ j, S27.1 j = (zpS S 1 (nI c + 1)).1 j := fun j => by rw [hS]; rfl
  have s2 : ∀ p, S27.2 2 p = if p = c then nI (stN X t) else S.2 2 p := fun p => by
    rw [hS, zpA_n (by decide), zpA_n (by decide), zpA_n (by decide), zpA_n (by decide), zpA_n (by decide), zpA_n (by decide), zpA_s hc3]
    rfl
  have s3 : ∀ p, S27.2 3 p = if p = c then nI Z else S.2 3 p := fun p => by
    rw [hS, zpA_n (by decide), zpA_n (by decide), zpA_n (by decide), zpA_n (by decide), zpA_n (by decide), zpA_s hc3, zpA_n (by decide)]
    rfl
  have s4 : ∀ p, S27.2 4 p = if p = c then key else S.2 4 p := fun p => by
    rw [hS, zpA_n (by decide), zpA_n (by decide), zpA_n (by decide), zpA_n (by decide), zpA_s hc3, zpA_n (by decide), zpA_n (by decide)]
    rfl
  have s5 : ∀ p, S27.2 5 p = if p = c then nI lb else S.2 5 p := fun p => by
    rw [hS, zpA_n (by decide), zpA_n (by decide), zpA_n (by decide), zpA_s hc3, zpA_n (by decide), zpA_n (by decide), zpA_n (by decide)]
    rfl
  have s6 : ∀ p, S27.2 6 p = if p = c then S.1 2 else S.2 6 p := fun p => by
    rw [hS, zpA_n (by decide), zpA_n (by decide), zpA_s hc3, zpA_n (by decide), zpA_n (by decide), zpA_n (by decide), zpA_n (by decide)]
    rfl
  have s7 : ∀ p, S27.2 7 p = if p = c then S.1 3 else S.2 7 p := fun p => by
    rw [hS, zpA_n (by decide), zpA_s hc3, zpA_n (by decide), zpA_n (by decide), zpA_n (by decide), zpA_n (by decide), zpA_n (by decide)]
    rfl
  have s8 : ∀ p, S27.2 8 p = if p = c then sgN X lb else S.2 8 p := fun p => by
    rw [hS, zpA_s hc3, zpA_n (by decide), zpA_n (by decide), zpA_n (by decide), zpA_n (by decide), zpA_n (by decide), zpA_n (by decide)]
    rfl
  have tT : ∀ k, 10 ≤ k ∨ k ≤ 2 → T40.2.1 k = T.2.1 k := fun k hk => by
    rw [hT, zmA_n (by omega), zmA_n (by omega), zmA_n (by omega), zmA_n (by omega), zmA_n (by omega), zmA_n (by omega), zmA_n (by omega)]
  have u1 : T40.1 = T.1 := by rw [hT]; rfl
  have u3 : ∀ p, T40.2.1 3 p = if p = c then nI X else T.2.1 3 p := fun p => by
    rw [hT, zmA_n (by decide), zmA_n (by decide), zmA_n (by decide), zmA_n (by decide), zmA_n (by decide), zmA_n (by decide), zmA_s hc3]
  have u4 : ∀ p, T40.2.1 4 p = if p = c then nI t else T.2.1 4 p := fun p => by
    rw [hT, zmA_n (by decide), zmA_n (by decide), zmA_n (by decide), zmA_n (by decide), zmA_n (by decide), zmA_s hc3, zmA_n (by decide)]
  have u5 : ∀ p, T40.2.1 5 p = if p = c then nI Z else T.2.1 5 p := fun p => by
    rw [hT, zmA_n (by decide), zmA_n (by decide), zmA_n (by decide), zmA_n (by decide), zmA_s hc3, zmA_n (by decide), zmA_n (by decide)]
  have u6 : ∀ p, T40.2.1 6 p = if p = c then key else T.2.1 6 p := fun p => by
    rw [hT, zmA_n (by decide), zmA_n (by decide), zmA_n (by decide), zmA_s hc3, zmA_n (by decide), zmA_n (by decide), zmA_n (by decide)]
  have u7 : ∀ p, T40.2.1 7 p = if p = c then nI lb else T.2.1 7 p := fun p => by
    rw [hT, zmA_n (by decide), zmA_n (by decide), zmA_s hc3, zmA_n (by decide), zmA_n (by decide), zmA_n (by decide), zmA_n (by decide)]
  have u8 : ∀ p, T40.2.1 8 p = if p = c then T.1 1 else T.2.1 8 p := fun p => by
    rw [hT, zmA_n (by decide), zmA_s hc3, zmA_n (by decide), zmA_n (by decide), zmA_n (by decide), zmA_n (by decide), zmA_n (by decide)]
  have u9 : ∀ p, T40.2.1 9 p = if p = c then T.1 2 else T.2.1 9 p := fun p => by
    rw [hT, zmA_s hc3, zmA_n (by decide), zmA_n (by decide), zmA_n (by decide), zmA_n (by decide), zmA_n (by decide), zmA_n (by decide)]
  have hrec : RecRel S27 T40 n := h1.of (by rw [s1, zpS_n (by decide)]) (sS 0 (by omega)) (sS 1 (by omega)) (by rw [u1]) (tT 0 (by omega)) (tT 1 (by omega)) (tT 2 (by omega))
  have hnew : SigOk S27 T40 c := by
    exact ⟨X, t, Z, lb, ⟨by rw [u3, if_pos rfl], hX⟩, ⟨by rw [u4, if_pos rfl], t1, t5⟩, by rw [s2, if_pos rfl], ⟨by rw [s3, if_pos rfl], by rw [u5, if_pos rfl], hZ⟩, by rw [s4, u6, if_pos rfl, if_pos rfl], ⟨by rw [s5, if_pos rfl], by rw [u7, if_pos rfl], hl⟩, by rw [s6, u8, if_pos rfl, if_pos rfl]; exact k4, by rw [s7, u9, if_pos rfl, if_pos rfl]; exact k5, by rw [s8, if_pos rfl]⟩
  obtain ⟨v, z, m1, m2⟩ := mark_both hrec hc hnew
  have hold : ∀ s, s < c → SigOk S27 T40 s := fun s hs => by
    refine (k7 s hs).1.of (fun k q1 q2 => ?_) (fun k q1 q2 => ?_)
    · have hne : ¬ s = c := by omega
      rcases (show k = 2 ∨ k = 3 ∨ k = 4 ∨ k = 5 ∨ k = 6 ∨ k = 7 ∨ k = 8 by omega) with rfl | rfl | rfl | rfl | rfl | rfl | rfl
      · rw [s2, if_neg hne]
      · rw [s3, if_neg hne]
      · rw [s4, if_neg hne]
      · rw [s5, if_neg hne]
      · rw [s6, if_neg hne]
      · rw [s7, if_neg hne]
      · rw [s8, if_neg hne]
    · have hne : ¬ s = c := by omega
      rcases (show k = 3 ∨ k = 4 ∨ k = 5 ∨ k = 6 ∨ k = 7 ∨ k = 8 ∨ k = 9 by omega) with rfl | rfl | rfl | rfl | rfl | rfl | rfl
      · rw [u3, if_neg hne]
      · rw [u4, if_neg hne]
      · rw [u5, if_neg hne]
      · rw [u6, if_neg hne]
      · rw [u7, if_neg hne]
      · rw [u8, if_neg hne]
      · rw [u9, if_neg hne]
  refine ⟨zpA S27 9 (nI c) v, zmS (zmA (zmL T40 z) 10 (nI c) v) 3 (nI c + 1), ?_, ⟨n, c + 1, a, ?_, ?_, ?_, ?_⟩, ?_⟩
  · unfold f_Si_make
    rw [k1, if_pos (by rw [show (32 : Int32) = nI 32 from rfl, nI_ltI (by omega) (by omega)]; exact hc)]
    simp only [zgd_t z1, znm_e, own_X hX.1 (show t < 8 by omega), signed_X hX.1 (show lb ≤ 4 by omega), Option.bind_some]
    have e2 : ∀ U : XSt, (zpA U 5 (nI c) (nI lb)).1 = U.1 := fun _ => rfl
    show Option.bind (f_Si_markNow (zpA (zpA (zpA (zpA (zpA (zpA (zpA (zpS S 1 (nI c + 1)) 2 (nI c) (nI (stN X t))) 3 (nI c) (nI Z)) 4 (nI c) key) 5 (nI c) (nI lb)) 6 (nI c) (S.1 2)) 7 (nI c) (S.1 3)) 8 (nI c) (sgN X lb)) (nI c)) _ = _
    rw [← hS, m1, Option.bind_some, hS]
    rfl
  · refine hrec.of rfl rfl rfl ?_ rfl rfl rfl
    rw [zmS_n (by decide)]
    rfl
  · refine ⟨?_, ?_, by omega, ?_, ?_, ?_, fun s hs => ?_⟩
    · show S27.1 1 = _
      rw [s1, zpS_s, nI_1]
    · rw [zmS_s, nI_1]
    · rw [zmS_n (by decide)]
      show S27.1 2 = T40.1 1
      rw [s1, zpS_n (by decide), u1]
      exact k4
    · rw [zmS_n (by decide)]
      show S27.1 3 = T40.1 2
      rw [s1, zpS_n (by decide), u1]
      exact k5
    · rw [zmS_n (by decide)]
      show S27.1 4 = T40.1 5
      rw [s1, zpS_n (by decide), u1]
      exact k6
    · have hs2 : SigOk S27 T40 s := by
        by_cases q : s = c
        · subst q; exact hnew
        · exact hold s (by omega)
      refine ⟨hs2.of (fun k q1 q2 => by rw [zpA_n (by omega)]) (fun k q1 q2 => ?_), ?_⟩
      · show (zmA (zmL T40 z) 10 (nI c) v).2.1 k s = _
        rw [zmA_n (by omega)]
        rfl
      · show (zpA S27 9 (nI c) v).2 9 s = (zmA (zmL T40 z) 10 (nI c) v).2.1 10 s
        rw [zpA_s hc3, zmA_s hc3]
        by_cases q : s = c
        · rw [if_pos q, if_pos q]
        · rw [if_neg q, if_neg q, sS 9 (by omega)]
          show _ = T40.2.1 10 s
          rw [tT 10 (by omega)]
          exact (k7 s (by omega)).2
  · refine h3.of ?_ ?_ ?_ ?_ ?_ ?_
    · show S27.1 5 = _
      rw [s1, zpS_n (by decide)]
    · rw [zpA_n (by decide), sS 12 (by omega)]
    · rw [zpA_n (by decide), sS 13 (by omega)]
    · rw [zmS_n (by decide)]
      show T40.1 4 = _
      rw [u1]
    · show (zmA (zmL T40 z) 10 (nI c) v).2.1 11 = _
      rw [zmA_n (by decide)]
      exact tT 11 (by omega)
    · show (zmA (zmL T40 z) 10 (nI c) v).2.1 12 = _
      rw [zmA_n (by decide)]
      exact tT 12 (by omega)
  · refine h4.of (fun j j1 j2 => ?_) ?_ (fun j j1 j2 => ?_) ?_
    · show S27.1 j = _
      rw [s1, zpS_n (by omega)]
    · rw [zpA_n (by decide), sS 16 (by omega)]
    · rw [zmS_n (by omega)]
      show T40.1 j = _
      rw [u1]
    · show (zmA (zmL T40 z) 10 (nI c) v).2.1 13 = _
      rw [zmA_n (by decide)]
      exact tT 13 (by omega)
  · rw [k2]
    simp only [zgd_t z1, znm_e]
    show Option.bind (f_M_markOf (zmA (zmA (zmA (zmA (zmA (zmA (zmA T 3 (nI c) (nI X)) 4 (nI c) (nI t)) 5 (nI c) (nI Z)) 6 (nI c) key) 7 (nI c) (nI lb)) 8 (nI c) (T.1 1)) 9 (nI c) (T.1 2)) (nI c)) _ = _
    rw [← hT, m2, Option.bind_some]
    show some (nI c, zmS (zmA (zmL T40 z) 10 (nI c) v) 3 (T40.1 3 + 1)) = _
    rw [u1, k2]
theorem sim_sign : Sim_sign Rel := by
  intro S T a0 a1 a2 a3 a4 ⟨n, c, a, h1, h2, h3, h4⟩
  have hR : Rel S T := ⟨n, c, a, h1, h2, h3, h4⟩
  unfold f_R_sign f_M_sign
  obtain ⟨r1, -, e1, e2, q1⟩ := isName_both a0
  rw [e1, e2, Option.bind_some, Option.bind_some]
  by_cases c1 : r1 = 0
  · exact ⟨-1, S, T, by rw [if_pos c1], by rw [if_pos c1], hR⟩
  rw [if_neg c1, if_neg c1]
  obtain ⟨r2, -, e3, e4, q2⟩ := isName_both a2
  rw [e3, e4, Option.bind_some, Option.bind_some]
  by_cases c2 : r2 = 0
  · exact ⟨-1, S, T, by rw [if_pos c2], by rw [if_pos c2], hR⟩
  rw [if_neg c2, if_neg c2]
  obtain ⟨r3, e5, e6, q3⟩ := isType_both a1
  rw [e5, e6, Option.bind_some, Option.bind_some]
  by_cases c3 : r3 = 0
  · exact ⟨-1, S, T, by rw [if_pos c3], by rw [if_pos c3], hR⟩
  rw [if_neg c3, if_neg c3]
  obtain ⟨r4, e7, e8⟩ := isKey_both a3
  rw [e7, e8, Option.bind_some, Option.bind_some]
  by_cases c4 : r4 = 0
  · exact ⟨-1, S, T, by rw [if_pos c4], by rw [if_pos c4], hR⟩
  rw [if_neg c4, if_neg c4]
  by_cases c5 : a4 < 0
  · exact ⟨-1, S, T, by rw [if_pos c5], by rw [if_pos c5], hR⟩
  rw [if_neg c5, if_neg c5]
  obtain ⟨X, rfl, hX⟩ := q1 c1
  obtain ⟨Z, rfl, hZ⟩ := q2 c2
  obtain ⟨t, rfl, t1, t5⟩ := q3 c3
  obtain ⟨lb, hlb, rfl⟩ := nI_of c5
  have l1 := dp_le X
  have ht : t < 8 := by omega
  rw [depth_X hX.1, depth_M hX.1, Option.bind_some, Option.bind_some]
  have hle : nI lb ≤ nI (dp X) ↔ lb ≤ dp X := nI_leI (by omega) (by omega)
  have hlt : nI (dp X) < nI lb ↔ dp X < lb := nI_ltI (by omega) (by omega)
  by_cases c6 : lb ≤ dp X
  · rw [if_pos (hle.mpr c6), if_neg (fun z => absurd (hlt.mp z) (by omega)), set_X hX.1 ht, Option.bind_some, h1.szX, h1.szM hX ht, Option.bind_some, Option.bind_some]
    by_cases c7 : nI (zszR (aX S) n (nI (stN X t))) = 0
    · exact ⟨-1, S, T, by rw [if_pos c7], by rw [if_pos c7], hR⟩
    rw [if_neg c7, if_neg c7]
    by_cases c8 : c < 32
    · obtain ⟨S', T', g1, g2, g3⟩ := make_both h1 h2 h3 h4 c8 hX t1 t5 hZ c6 a3
      refine ⟨nI c, S', T', by rw [g1]; rfl, ?_, g2⟩
      rw [if_neg, g3]
      rw [h2.2.1, show (32 : Int32) = nI 32 from rfl, nI_eq (by omega) (by omega)]
      omega
    · have c9 : c = 32 := by have := h2.2.2.1; omega
      refine ⟨-2, S, T, ?_, ?_, hR⟩
      · unfold f_Si_make
        rw [h2.1, c9, if_neg (by decide)]
        rfl
      · rw [if_pos]
        rw [h2.2.1, c9]
        rfl
  · exact ⟨-1, S, T, by rw [if_neg (fun z => c6 (hle.mp z))], by rw [if_pos (hlt.mpr (by omega))], hR⟩
