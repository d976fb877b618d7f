/-- judged, in a zone -/
def JC (S : XSt) (T : MSt) (n c a z : Nat) : Prop := Ctx S T n c a z ∧ S.1 7 = nI z ∧ Jud S T c
theorem JC.mL {S : XSt} {T : MSt} {n c a z : Nat} (h : JC S T n c a z) (w : Int64) : JC S (zmL T w) n c a z := ⟨h.1.mL w, h.2.1, h.2.2.mL h.1 w⟩
theorem rowX {S : XSt} {T : MSt} {n i : Nat} (h : RecRel S T n) (hi : i < n) : ∃ X t, nmP X ∧ 1 ≤ t ∧ t ≤ 5 ∧ S.2 0 i = nI (stN X t) := by
  obtain ⟨r, hr, e⟩ := h.2.2.2.2.1.mem hi
  obtain ⟨X, t, e1, hX, e2, t1, t5⟩ := h.2.2.2.2.2 r hr
  refine ⟨X, t, hX, t1, t5, ?_⟩
  have e0 : S.2 0 i = (aM T r).1 := by rw [e]; rfl
  rw [e0]
  show setI (T.2.1 0 r) (T.2.1 1 r) = _
  rw [show T.2.1 0 r = nI X from e1, show T.2.1 1 r = nI t from e2, setI_n hX.1 (by omega)]
theorem least_X {S : XSt} {T : MSt} {n : Nat} (h : RecRel S T n) {set : Int32} (hp : 0 < zszR (aX S) n set) : f_Re_leastOf S set = some (S.2 1 (zstR (aX S) n set)) := by
  unfold f_Re_leastOf
  have := szR_le h.2.2.2.1 set
  rw [start_X h.1 h.2.2.1 h.2.2.2.1, Option.bind_some, data_X h.1 h.2.2.1 (by omega)]
  rfl
theorem least_M {S : XSt} {T : MSt} {n X t : Nat} (h : RecRel S T n) (hX : nmP X) (ht : t < 8) (hp : 0 < zszR (aX S) n (nI (stN X t))) : f_M_dataAt T (nI X) (nI t) 0 = some (S.2 1 (zstR (aX S) n (nI (stN X t)))) := h.kth (k := 0) hX ht hp
theorem and1 (y : Int32) : y &&& 1 = 0 ∨ y &&& 1 = 1 := by
  rw [pk_and y (m := 1) 1 (by decide)]
  rcases (show y.toBitVec.toNat % 2 ^ 1 = 0 ∨ y.toBitVec.toNat % 2 ^ 1 = 1 by omega) with e | e <;> rw [e]
  · exact Or.inl rfl
  · exact Or.inr rfl
theorem sh20 (u : Int32) : (20 : Int32) + u - 1 = 19 + u := by
  rw [Int32.sub_eq_add_neg, Int32.add_assoc, Int32.add_comm u, ← Int32.add_assoc]
  rfl
theorem tells_both {S : XSt} {T : MSt} {n X : Nat} (h : RecRel S T n) (hX : nmP X) (hp : 0 < zszR (aX S) n (nI (stN X 5))) (u : Int32) : ∃ b, f_Qu_tells S (nI (stN X 5)) u = some (b2 b) ∧ f_M_tells T (nI X) u = some (b2 b) := by
  unfold f_Qu_tells f_M_tells f_To_hasType
  have e5 : f_M_dataAt T (nI X) 5 0 = _ := least_M (t := 5) h hX (by decide) hp
  rw [least_X h hp, e5, Option.bind_some, Option.bind_some, sh20]
  rcases and1 (S.2 1 (zstR (aX S) n (nI (stN X 5))) >>> ((19 + u) &&& 31)) with e | e
  · rw [e]
    exact ⟨false, rfl, rfl⟩
  · rw [e]
    exact ⟨true, rfl, rfl⟩
def leI (S : XSt) (n X : Nat) : Int32 := S.2 1 (zstR (aX S) n (nI (stN X 5))) &&& 1048575
def cvB (S : XSt) (T : MSt) (n c z : Nat) (x : Int32) (V : Nat) : Bool := decide (V % 8 = 5) && decide (nI (V / 8) < x) && plB T (V / 8) 5 c && (decide (x < leI S n (V / 8)) || decide (leI S n (V / 8) = nI z))
def knB (T : MSt) (c K : Nat) (V : Nat) : Bool := decide (V % 8 = 5) && plB T (V / 8) 5 c && decide (ztr (V / 8) (dp K) = K)
theorem stN_d {X t : Nat} (ht : t < 8) : stN X t / 8 = X ∧ stN X t % 8 = t := by unfold stN; omega
/-- a loop that looks for a row of the class -/
theorem rows_any {S : XSt} {T : MSt} {n : Nat} (h : RecRel S T n) (Q : Nat → Bool) (step : Int32 → Option (Int32 ⊕ Int32)) (h1 : ∀ i X t, i < n → nmP X → 1 ≤ t → t ≤ 5 → S.2 0 i = nI (stN X t) → step (nI i) = if Q (stN X t) then some (.inr 1) else some (.inl (nI i + 1))) (h2 : step (nI n) = some (.inr 0)) :
    zit step 64 0 = some (b2 (decide (0 < zct (fun i => Q ((aX S i).1.toNatClampNeg)) n))) := by
  have h48 := h.2.2.1
  obtain ⟨k, hk, p1, p2⟩ := first_at (fun i => Q ((aX S i).1.toNatClampNeg)) n
  have hpl : decide (0 < zct (fun i => Q ((aX S i).1.toNatClampNeg)) n) = decide (k < n) := by
    rw [Bool.eq_iff_iff, decide_eq_true_eq, decide_eq_true_eq, zct_pos]
    constructor
    · rintro ⟨i, hi, hP⟩
      by_cases q : i < k
      · exact absurd (hP.symm.trans (p1 i q)) (by decide)
      · omega
    · exact fun h => ⟨k, h, p2 h⟩
  have val : ∀ i X t, i < n → nmP X → t ≤ 5 → S.2 0 i = nI (stN X t) → (aX S i).1.toNatClampNeg = stN X t := fun i X t _ hX ht e => by
    show Int32.toNatClampNeg (S.2 0 i) = _
    rw [e, nI_clamp (stN_lt hX.1 (by omega))]
  rw [hpl]
  refine zit_seq k 64 (fun i => nI i) (fun i hi => ?_) ?_ (by omega)
  · obtain ⟨X, t, hX, t1, t5, e⟩ := rowX h (show i < n by omega)
    have hP := p1 i hi
    simp only [val i X t (by omega) hX t5 e] at hP
    rw [h1 i X t (by omega) hX t1 t5 e, hP, nI_1]
    rfl
  · by_cases ck : k < n
    · obtain ⟨X, t, hX, t1, t5, e⟩ := rowX h ck
      have hP := p2 ck
      simp only [val k X t ck hX t5 e] at hP
      rw [h1 k X t ck hX t1 t5 e, hP, decide_eq_true ck]
      rfl
    · have e : k = n := by omega
      rw [e, h2, decide_eq_false (by omega)]
      rfl
theorem cover_X {S : XSt} {T : MSt} {n c a z : Nat} (h : JC S T n c a z) (x : Int32) : f_Qu_isCovered S x = some (b2 (decide (0 < zct (fun i => cvB S T n c z x ((aX S i).1.toNatClampNeg)) n))) := by
  obtain ⟨hC, h7, hJ⟩ := h
  have hR := hC.1.1
  have h48 := hR.2.2.1
  refine rows_any hR (cvB S T n c z x) _ (fun i X t hi hX t1 t5 e => ?_) ?_
  · show L_Qu_isCovered_2 S x (nI i) = _
    unfold L_Qu_isCovered_2 f_Qu_isPlainNext f_To_nameIn
    have ht : t < 8 := by omega
    rw [hR.1, if_neg (nI_ge2 hi (by omega)), setAt_X hR.1 h48 hi, Option.bind_some, e, own_X hX.1 ht, typ_X hX.1 ht, Option.bind_some, Option.bind_some]
    unfold cvB
    rw [(stN_d ht).1, (stN_d ht).2]
    by_cases q1 : x ≤ nI X
    · have q2 : ¬ nI X < x := by rw [Int32.lt_iff_toInt_lt]; rw [Int32.le_iff_toInt_le] at q1; omega
      rw [if_pos q1, decide_eq_false q2]
      simp
    · have q2 : nI X < x := by rw [Int32.lt_iff_toInt_lt]; rw [Int32.le_iff_toInt_le] at q1; omega
      rw [if_neg q1, decide_eq_true q2]
      by_cases q3 : t = 5
      · subst q3
        rw [if_pos (by rfl), plain_X hC.1 hJ hX (by decide), Option.bind_some]
        cases hp : plB T X 5 c with
        | false =>
          rw [if_pos (show b2 false = 0 by decide), Option.bind_some, if_pos rfl]
          simp
        | true =>
          rw [if_neg (show ¬ b2 true = 0 by decide), Option.bind_some, if_neg (show ¬ (1 : Int32) = 0 by decide), least_X hR (plB_sz hC hX (by decide) hp), Option.bind_some, Option.bind_some, h7]
          show (if x < leI S n X then zup (some (1 : Int32)) else (if leI S n X = nI z then zup (some (1 : Int32)) else some (Sum.inl (nI i + 1)))) = _
          by_cases q4 : x < leI S n X
          · rw [if_pos q4]; simp [q4]; rfl
          · rw [if_neg q4]
            by_cases q5 : leI S n X = nI z
            · rw [if_pos q5]; simp [q5]; rfl
            · rw [if_neg q5]; simp [q4, q5]
      · rw [if_neg (show ¬ nI t = 5 from fun e => q3 (nI_inj (b := 5) (by omega) (by decide) e)), Option.bind_some, if_pos rfl, decide_eq_false q3]
        simp
  · show L_Qu_isCovered_2 S x (nI n) = _
    unfold L_Qu_isCovered_2
    rw [hR.1, if_pos (nI_le2 (Nat.le_refl _) (by omega))]
    rfl
theorem known_X {S : XSt} {T : MSt} {n c a z K : Nat} (h : JC S T n c a z) (hK : nmP K) : f_Qu_isKnown S (nI K) = some (b2 (decide (0 < zct (fun i => knB T c K ((aX S i).1.toNatClampNeg)) n))) := by
  obtain ⟨hC, h7, hJ⟩ := h
  have hR := hC.1.1
  have h48 := hR.2.2.1
  refine rows_any hR (knB T c K) _ (fun i X t hi hX t1 t5 e => ?_) ?_
  · show L_Qu_isKnown_2 S (nI K) (nI i) = _
    unfold L_Qu_isKnown_2 f_Qu_isPlainNext
    have ht : t < 8 := by omega
    rw [hR.1, if_neg (nI_ge2 hi (by omega)), setAt_X hR.1 h48 hi, Option.bind_some, e, own_X hX.1 ht, typ_X hX.1 ht, Option.bind_some]
    unfold knB
    rw [(stN_d ht).1, (stN_d ht).2]
    by_cases q3 : t = 5
    · subst q3
      rw [if_pos (by rfl), plain_X hC.1 hJ hX (by decide), Option.bind_some]
      cases hp : plB T X 5 c with
      | false =>
        rw [if_pos (show b2 false = 0 by decide), Option.bind_some, if_pos rfl]
        simp
      | true =>
        rw [if_neg (show ¬ b2 true = 0 by decide), Option.bind_some, if_neg (show ¬ (1 : Int32) = 0 by decide), Option.bind_some, above_X hK.1 hX.1, Option.bind_some]
        by_cases q4 : ztr X (dp K) = K
        · rw [if_pos q4]; simp [q4]; rfl
        · rw [if_neg q4]; simp [q4]
    · rw [if_neg (show ¬ nI t = 5 from fun e => q3 (nI_inj (b := 5) (by omega) (by decide) e)), Option.bind_some, if_pos rfl, decide_eq_false q3]
      simp
  · show L_Qu_isKnown_2 S (nI K) (nI n) = _
    unfold L_Qu_isKnown_2
    rw [hR.1, if_pos (nI_le2 (Nat.le_refl _) (by omega))]
    rfl
