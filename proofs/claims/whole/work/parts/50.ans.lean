/-! answers -/
def fgB (T : MSt) (X t s : Nat) : Bool := gM T s && (decide (T.2.1 3 s = nI X) && decide (T.2.1 4 s = nI t))
theorem labels_X {S : XSt} {T : MSt} {n c a X t k : Nat} (hB : Base S T n c a) (hJ : Jud S T c) (hX : nmP X) (ht : t < 8) (hk : k ≤ c) (p1 : ∀ i, i < k → fgB T X t i = false) (p2 : k < c → fgB T X t k = true) : f_Si_labelsOfFirstGood S (nI (stN X t)) = some (if k < c then S.2 5 k else -1) := by
  obtain ⟨k1, k2, k3, -⟩ := hB.2.1
  have stp : ∀ s, s < c → (fgB T X t s = true ↔ (¬ S.2 10 s = 0 ∧ S.2 2 s = nI (stN X t))) := fun s hs => by
    rw [(hJ s hs).1, b2_0, setS hB hs hX ht]
    unfold fgB
    simp only [Bool.and_eq_true, decide_eq_true_eq, Bool.not_eq_false]
  refine zit_seq k 64 (fun i => nI i) (fun i hi => ?_) ?_ (by omega)
  · show L_Si_labelsOfFirstGood_2 S (nI (stN X t)) (nI i) = _
    unfold L_Si_labelsOfFirstGood_2
    have z1 : zin (nI i) 32 = true := zin_2 (by omega) (by omega)
    rw [k1, if_neg (nI_ge2 (show i < c by omega) (by omega)), nI_c2 (by omega), nI_1]
    simp only [zgd_t z1]
    have hn := stp i (by omega)
    rw [p1 i hi] at hn
    by_cases q : S.2 10 i = 0
    · rw [if_pos q]
    · rw [if_neg q, if_neg (fun e => absurd (hn.mpr ⟨q, e⟩) (by decide))]
  · show L_Si_labelsOfFirstGood_2 S (nI (stN X t)) (nI k) = _
    unfold L_Si_labelsOfFirstGood_2
    by_cases ck : k < c
    · have z1 : zin (nI k) 32 = true := zin_2 (by omega) (by omega)
      obtain ⟨q1, q2⟩ := (stp k ck).mp (p2 ck)
      rw [k1, if_neg (nI_ge2 ck (by omega)), nI_c2 (by omega)]
      simp only [zgd_t z1]
      rw [if_neg q1, if_pos q2, if_pos ck]
      rfl
    · rw [k1, if_pos (nI_le2 (show c ≤ k by omega) (by omega)), if_neg ck]
      rfl
theorem firstGood_M {S : XSt} {T : MSt} {n c a z X t k : Nat} (h : Ctx S T n c a z) (hX : nmP X) (hk : k ≤ c) (p1 : ∀ i, i < k → fgB T X t i = false) (p2 : k < c → fgB T X t k = true) (w : Int64)
    (Post : Int32 × MSt → Prop) (h1 : k = c → ∀ w, Post (11, zmL T w)) (h2 : k < c → ∀ w, ∃ r, Option.bind (f_M_cut (nI X) ((T.2.1 7 k) + 1)) (fun x46 => Option.bind (f_M_isCovered (zmL T w) x46) (fun x48 => (if x48.1 = (0 : Int32) then some ((10 : Int32), x48.2) else some ((9 : Int32), x48.2)))) = some r ∧ Post r) :
    ∃ r, zit (LS_M_tryAnswers_23 (nI X) (nI t)) 64 (0, zmL T w) = some r ∧ Post r := by
  obtain ⟨k1, k2, k3, -⟩ := h.1.2.1
  refine zit_inv (fun i (s : Int32 × MSt) => s.1 = nI i ∧ ∃ w, s.2 = zmL T w) _ k ?_ 64 0 _ (Nat.zero_le _) (by omega) ⟨rfl, w, rfl⟩
  rintro i ⟨v, T1⟩ hi ⟨hv, w, hw⟩
  simp only at hv hw
  subst hv
  subst hw
  have e3 : (zmL T w).1 3 = nI c := k2
  have r3 : ∀ w, (zmL T w).2.1 3 i = T.2.1 3 i := fun _ => rfl
  have r4 : ∀ w, (zmL T w).2.1 4 i = T.2.1 4 i := fun _ => rfl
  have r7 : ∀ w, (zmL T w).2.1 7 i = T.2.1 7 i := fun _ => rfl
  show (∃ s', L_M_tryAnswers_23 (nI X) (nI t) (nI i) (zmL T w) = some (.inl s') ∧ _) ∨ ∃ r, L_M_tryAnswers_23 (nI X) (nI t) (nI i) (zmL T w) = some (.inr r) ∧ _
  unfold L_M_tryAnswers_23
  rw [e3]
  by_cases cc : i < c
  · have z1 : zin (nI i) 32 = true := zin_2 (by omega) (by omega)
    rw [if_neg (nI_ge2 cc (by omega)), nI_c2 (by omega)]
    simp only [zgd_t z1, r3, r4, r7]
    obtain ⟨w2, hg⟩ := good_M (h.mL w) cc
    rw [gM_mL h cc w, zmL_L] at hg
    by_cases ck : i < k
    · left
      have hP := p1 i ck
      by_cases q1 : T.2.1 3 i = nI X
      · rw [if_pos q1]
        by_cases q2 : T.2.1 4 i = nI t
        · have hgf : gM T i = false := by
            unfold fgB at hP
            rw [decide_eq_true q1, decide_eq_true q2] at hP
            simpa using hP
          rw [if_pos q2, hg, hgf, Option.bind_some, if_pos (show b2 false = 0 by decide)]
          exact ⟨(nI i + 1, zmL T w2), rfl, ck, nI_1 i, w2, rfl⟩
        · rw [if_neg q2]
          exact ⟨(nI i + 1, zmL T w), rfl, ck, nI_1 i, w, rfl⟩
      · rw [if_neg q1]
        exact ⟨(nI i + 1, zmL T w), rfl, ck, nI_1 i, w, rfl⟩
    · right
      have e : i = k := by omega
      subst e
      have hP := p2 cc
      unfold fgB at hP
      simp only [Bool.and_eq_true, decide_eq_true_eq] at hP
      obtain ⟨hgt, q1, q2⟩ := hP
      obtain ⟨r, e1, e2⟩ := h2 cc w2
      rw [if_pos q1, if_pos q2, hg, hgt, Option.bind_some, if_neg (show ¬ b2 true = 0 by decide)]
      exact ⟨r, by rw [r7, e1]; rfl, e2⟩
  · right
    have e : i = c := by omega
    have ek : k = c := by omega
    rw [if_pos (nI_le2 (show c ≤ i by omega) (by omega))]
    exact ⟨(11, zmL T w), rfl, h1 ek w⟩
theorem there_both {S : XSt} {T : MSt} {n c a z q t : Nat} (h : JC S T n c a z) (hq : nmP q) (e8 : S.1 8 = nI q) (t1 : 1 ≤ t) (t5 : t ≤ 5) : ∃ r w, f_Qu_whyThere S (nI (stN q t)) = some r ∧ Option.bind (f_M_isPlain T (nI q) (nI t)) (fun x63 => (if x63.1 = (0 : Int32) then zit (LS_M_tryAnswers_23 (nI q) (nI t)) 64 ((0 : Int32), x63.2) else some ((8 : Int32), x63.2))) = some (r, zmL T w) ∧ ¬ r = 0 := by
  obtain ⟨hC, h7, hJ⟩ := h
  have ht : t < 8 := by omega
  obtain ⟨w, hp⟩ := plain_M hC hq ht
  unfold f_Qu_whyThere
  rw [plain_X hC.1 hJ hq ht, hp, Option.bind_some, Option.bind_some]
  cases hpl : plB T q t c with
  | true =>
    refine ⟨8, w, ?_, ?_, by decide⟩
    · rw [if_neg (show ¬ b2 true = 0 by decide)]
    · rw [if_neg (show ¬ b2 true = 0 by decide)]
  | false =>
    rw [if_pos (show b2 false = 0 by decide), if_pos (show b2 false = 0 by decide)]
    obtain ⟨k, hk, p1, p2⟩ := first_at (fgB T q t) c
    rw [labels_X hC.1 hJ hq ht hk p1 p2, Option.bind_some]
    by_cases ck : k < c
    · rw [if_pos ck]
      obtain ⟨⟨Y, u, Z, lb, ⟨a1, a2⟩, ⟨b1, b2', b3⟩, c1, -, -, ⟨f1, f2, f3⟩, -⟩, -⟩ := hC.1.2.1.2.2.2.2.2.2 k ck
      have hP := p2 ck
      unfold fgB at hP
      simp only [Bool.and_eq_true, decide_eq_true_eq] at hP
      obtain ⟨hgt, q1, q2⟩ := hP
      have eY : Y = q := nI_inj (by have := a2.1; omega) (by have := hq.1; omega) (a1.symm.trans q1)
      subst eY
      have l1 := dp_le Y
      have hlt : lb < dp Y := by
        rcases Nat.lt_or_eq_of_le f3 with z1 | z1
        · exact z1
        · exfalso
          have : 0 < zct (PB T Y t) c := zct_pos.mpr ⟨k, ck, by
            unfold PB pl
            rw [q1, q2, hgt, f2, depth_M a2.1, z1]
            simp⟩
          unfold plB at hpl
          rw [decide_eq_true this] at hpl
          cases hpl
      have el : nI lb + 1 = nI (lb + 1) := nI_1 lb
      rw [f1, if_neg (by
        intro e
        have := congrArg Int32.toInt e
        rw [nI_toInt (by omega)] at this
        have e1 : (-1 : Int32).toInt = -1 := by decide
        omega), e8, el, first_X hq.1 (by omega), Option.bind_some]
      have key := fun w => cover_both (S := S) (T := zmL T w) (n := n) (c := c) (a := a) (z := z) (JC.mL ⟨hC, h7, hJ⟩ w) (nI (ztr Y (lb + 1)))
      obtain ⟨b, w0, g1, -⟩ := key 0
      rw [g1, Option.bind_some]
      have fm := firstGood_M hC hq hk p1 p2 w (fun r => r.1 = (if b2 b = 0 then 10 else 9) ∧ ∃ w, r.2 = zmL T w) (fun e => absurd ck (by omega)) (fun _ w => by
        obtain ⟨b', w', g3, g4⟩ := key w
        have eb : b2 b' = b2 b := Option.some.inj (g3.symm.trans g1)
        rw [zmL_L] at g4
        rw [f2, el, cut_M hq.1 (by omega), Option.bind_some, g4, Option.bind_some, eb]
        by_cases z : b2 b = 0
        · rw [if_pos z]
          exact ⟨_, rfl, by rw [if_pos z], w', rfl⟩
        · rw [if_neg z]
          exact ⟨_, rfl, by rw [if_neg z], w', rfl⟩)
      obtain ⟨r, m1, m2, w3, m3⟩ := fm
      refine ⟨r.1, w3, ?_, by rw [m1, ← m3], ?_⟩
      · rw [m2]
        by_cases z : b2 b = 0
        · rw [if_pos z, if_pos z]
        · rw [if_neg z, if_neg z]
      · rw [m2]
        by_cases z : b2 b = 0
        · rw [if_pos z]; decide
        · rw [if_neg z]; decide
    · rw [if_neg ck, if_pos rfl]
      have fm := firstGood_M hC hq hk p1 p2 w (fun r => r.1 = 11 ∧ ∃ w, r.2 = zmL T w) (fun _ w => ⟨rfl, w, rfl⟩) (fun e => absurd e ck)
      obtain ⟨r, m1, m2, w3, m3⟩ := fm
      exact ⟨11, w3, rfl, by rw [m1, ← m2, ← m3], by decide⟩
