/-- nothing but the records has changed -/
def SamX (S S' : XSt) : Prop := (∀ j, j ≠ 0 → S'.1 j = S.1 j) ∧ ∀ k, k ≠ 0 → k ≠ 1 → S'.2 k = S.2 k
theorem SamX.rf {S : XSt} : SamX S S := ⟨fun _ _ => rfl, fun _ _ _ => rfl⟩
def shf (a : Nat → Int32) (n i p : Nat) : Int32 := if n - i < p ∧ p ≤ n then a (p - 1) else a p
theorem up_s {α : Type} {f : Nat → α} {k : Nat} {v : α} : va_up f k v k = v := by simp [va_up]
theorem up_n {α : Type} {f : Nat → α} {k j : Nat} {v : α} (h : j ≠ k) : va_up f k v j = f j := by simp [va_up, h]
theorem zpA_s {S : XSt} {k i : Nat} {v : Int32} (hi : i ≤ 3072) (p : Nat) : (zpA S k (nI i) v).2 k p = if p = i then v else S.2 k p := by
  show va_up S.2 k (upd (S.2 k) (Int32.toNatClampNeg (nI i)) v) k p = _
  rw [up_s, nI_c2 hi]
  rfl
theorem zpA_n {S : XSt} {k j : Nat} {i v : Int32} (h : j ≠ k) : (zpA S k i v).2 j = S.2 j := by
  show va_up S.2 k _ j = _
  rw [up_n h]
theorem zpA_1 {S : XSt} {k : Nat} {i v : Int32} : (zpA S k i v).1 = S.1 := rfl
theorem zpS_2 {S : XSt} {k : Nat} {v : Int32} : (zpS S k v).2 = S.2 := rfl
theorem zpS_s {S : XSt} {k : Nat} {v : Int32} : (zpS S k v).1 k = v := up_s
theorem zpS_n {S : XSt} {k j : Nat} {v : Int32} (h : j ≠ k) : (zpS S k v).1 j = S.1 j := up_n h
theorem put_loop {S : XSt} {n row : Nat} (set data : Int32) (hn : S.1 0 = nI n) (h48 : n < 48) (hr : row ≤ n) : ∃ r, zit (LS_Re_put_59 set data (nI row)) 64 (nI n, S) = some r ∧ r.1 = nI (zszR (aX r.2) (n + 1) set) ∧ r.2.1 0 = nI (n + 1) ∧ SamX S r.2 ∧ ∀ i, i ≤ n → aX r.2 i = insR (aX S) row (set, data) i := by
  refine zit_inv (fun i (s : Int32 × XSt) => s.1 = nI (n - i) ∧ s.2.1 = S.1 ∧ (∀ k, k ≠ 0 → k ≠ 1 → s.2.2 k = S.2 k) ∧ ∀ p, s.2.2 0 p = shf (S.2 0) n i p ∧ s.2.2 1 p = shf (S.2 1) n i p) _ (n - row) ?_ 64 0 _ (Nat.zero_le _) (by omega) ⟨rfl, rfl, fun _ _ _ => rfl, fun p => ?_⟩
  · rintro i ⟨v, S1⟩ hi ⟨hv, h1, h2, h3⟩
    simp only at hv h1 h2 h3
    subst hv
    by_cases c : i < n - row
    · left
      refine ⟨(nI (n - i) + -1, zpA (zpA S1 0 (nI (n - i)) (S1.2 0 (n - i - 1))) 1 (nI (n - i)) (S1.2 1 (n - i - 1))), ?_, c, ?_, ?_, ?_, ?_⟩
      · show L_Re_put_59 set data (nI row) (nI (n - i)) S1 = _
        unfold L_Re_put_59
        have e : nI (n - i) - 1 = nI (n - i - 1) := by
          rw [show n - i = (n - i - 1) + 1 by omega, nI_pred]
          rfl
        have z1 : zin (nI (n - i - 1)) 48 = true := zin_2 (by omega) (by omega)
        have z2 : zin (nI (n - i)) 48 = true := zin_2 (by omega) (by omega)
        rw [if_neg (nI_ge2 (show row < n - i by omega) (by omega)), e, nI_c2 (show n - i - 1 ≤ 3072 by omega)]
        simp only [znm, zgd_t z1, zgd_t z2, zpA_n (show (1 : Nat) ≠ 0 by decide)]
      · show nI (n - i) + -1 = nI (n - (i + 1))
        rw [show n - i = (n - (i + 1)) + 1 by omega, pk_m1]
      · exact h1
      · intro k h4 h5
        show (zpA (zpA S1 0 _ _) 1 _ _).2 k = _
        rw [zpA_n h5, zpA_n h4]
        exact h2 k h4 h5
      · intro p
        show (zpA (zpA S1 0 _ _) 1 _ _).2 0 p = _ ∧ (zpA (zpA S1 0 _ _) 1 _ _).2 1 p = _
        rw [zpA_n (show (0 : Nat) ≠ 1 by decide), zpA_s (by omega), zpA_s (by omega), zpA_n (show (1 : Nat) ≠ 0 by decide)]
        have g1 := h3 (n - i - 1)
        have g2 := h3 p
        rw [g1.1, g1.2, g2.1, g2.2]
        unfold shf
        by_cases cp : p = n - i
        · subst cp
          have q1 : ¬ (n - i < n - i - 1 ∧ n - i - 1 ≤ n) := by omega
          have q2 : n - (i + 1) < n - i ∧ n - i ≤ n := by omega
          rw [if_pos rfl, if_pos rfl, if_neg q1, if_neg q1, if_pos q2, if_pos q2]
          exact ⟨rfl, rfl⟩
        · rw [if_neg cp, if_neg cp]
          by_cases cq : n - i < p ∧ p ≤ n
          · have cr : n - (i + 1) < p ∧ p ≤ n := by omega
            rw [if_pos cq, if_pos cq, if_pos cr, if_pos cr]
            exact ⟨rfl, rfl⟩
          · have cr : ¬ (n - (i + 1) < p ∧ p ≤ n) := by omega
            rw [if_neg cq, if_neg cq, if_neg cr, if_neg cr]
            exact ⟨rfl, rfl⟩
    · right
      have hi2 : n - i = row := by omega
      have hie : i = n - row := by omega
      rw [hi2]
      refine ⟨(nI (zszR (aX (zpS (zpA (zpA S1 0 (nI row) set) 1 (nI row) data) 0 (nI n + 1))) (n + 1) set), zpS (zpA (zpA S1 0 (nI row) set) 1 (nI row) data) 0 (nI n + 1)), ?_, rfl, ?_, ⟨?_, ?_⟩, ?_⟩
      · show L_Re_put_59 set data (nI row) (nI row) S1 = _
        unfold L_Re_put_59
        have hs1 : S1.1 0 = nI n := by rw [h1]; exact hn
        have z1 : zin (nI row) 48 = true := zin_2 (by omega) (by omega)
        rw [if_pos (nI_le2 (Nat.le_refl _) (by omega))]
        simp only [znm, zgd_t z1, zpA_1, hs1]
        rw [size_X (n := n + 1) (by rw [zpS_s, nI_1]) (by omega)]
        rfl
      · show (zpS _ 0 _).1 0 = _
        rw [zpS_s, nI_1]
      · intro j hj
        show (zpS _ 0 _).1 j = _
        rw [zpS_n hj]
        show S1.1 j = _
        rw [h1]
      · intro k h4 h5
        show (zpA (zpA S1 0 _ _) 1 _ _).2 k = _
        rw [zpA_n h5, zpA_n h4]
        exact h2 k h4 h5
      · intro p hp
        show ((zpA (zpA S1 0 (nI row) set) 1 (nI row) data).2 0 p, (zpA (zpA S1 0 (nI row) set) 1 (nI row) data).2 1 p) = _
        rw [zpA_n (show (0 : Nat) ≠ 1 by decide), zpA_s (by omega), zpA_s (by omega), zpA_n (show (1 : Nat) ≠ 0 by decide), (h3 p).1, (h3 p).2]
        unfold shf insR aX
        by_cases c1 : p < row
        · have q1 : ¬ p = row := by omega
          have q2 : ¬ (n - i < p ∧ p ≤ n) := by omega
          rw [if_neg q1, if_neg q1, if_neg q2, if_neg q2, if_pos c1]
        · rw [if_neg c1]
          by_cases c2 : p = row
          · rw [if_pos c2, if_pos c2, if_pos c2]
          · have q2 : n - i < p ∧ p ≤ n := by omega
            rw [if_neg c2, if_neg c2, if_neg c2, if_pos q2, if_pos q2]
  · unfold shf
    have q2 : ¬ (n - 0 < p ∧ p ≤ n) := by omega
    rw [if_neg q2, if_neg q2]
    exact ⟨rfl, rfl⟩
theorem ltR_irr {x : Int32 × Int32} : ¬ ltR x x := by unfold ltR; omega
theorem pair_eq {x y : Int32 × Int32} (h1 : ¬ ltR x y) (h2 : ¬ ltR y x) : x = y := by
  unfold ltR at h1 h2
  have a1 : x.1.toInt = y.1.toInt := by omega
  have a2 : x.2.toInt = y.2.toInt := by omega
  exact Prod.ext (Int32.toInt_inj.mp a1) (Int32.toInt_inj.mp a2)
/-- a record that is there -/
theorem put_old {S : XSt} {n i : Nat} {set data : Int32} (hn : S.1 0 = nI n) (h48 : n ≤ 48) (hs : Srt (aX S) n) (hi : i < n) (he : aX S i = (set, data)) : f_Re_put S set data = some (nI (zszR (aX S) n set), S) := by
  have hrow : rwR (aX S) n (set, data) = i := by
    have h1 : ¬ i < rwR (aX S) n (set, data) := fun h => ltR_irr (by have := (rwR_iff hs (set, data) i hi).mpr h; rw [he] at this; exact this)
    have hle : rwR (aX S) n (set, data) ≤ n := zct_le _ _
    rcases Nat.lt_or_eq_of_le (Nat.not_lt.mp h1) with h2 | h2
    · have h3 := hs _ _ h2 hi
      rw [he] at h3
      exact absurd ((rwR_iff hs (set, data) _ (by omega)).mp h3) (Nat.lt_irrefl _)
    · exact h2
  unfold f_Re_put
  rw [rowFor_X hn h48 hs, hrow]
  have e0 : S.2 0 i = set := congrArg Prod.fst he
  have e1 : S.2 1 i = data := congrArg Prod.snd he
  rw [Option.bind_some, hn, if_neg (nI_ge2 hi (by omega)), zgd_t (zin_2 (show i < 48 by omega) (by omega)), zgd_t (zin_2 (show i < 48 by omega) (by omega)), nI_c2 (by omega), if_pos e0, if_pos e1, size_X hn h48]
  rfl
/-- a record that isn't there -/
theorem put_new {S : XSt} {n : Nat} {set data : Int32} (hn : S.1 0 = nI n) (h48 : n ≤ 48) (hs : Srt (aX S) n) (hne : ∀ i, i < n → aX S i ≠ (set, data)) :
    (n = 48 → f_Re_put S set data = some (-2, S)) ∧ (n < 48 → ∃ r, f_Re_put S set data = some r ∧ r.1 = nI (zszR (aX r.2) (n + 1) set) ∧ r.2.1 0 = nI (n + 1) ∧ SamX S r.2 ∧ (∀ i, i ≤ n → aX r.2 i = insR (aX S) (rwR (aX S) n (set, data)) (set, data) i) ∧ Srt (aX r.2) (n + 1)) := by
  have hle : rwR (aX S) n (set, data) ≤ n := zct_le _ _
  have e : f_Re_put S set data = (if nI n < (48 : Int32) then zit (LS_Re_put_59 set data (nI (rwR (aX S) n (set, data)))) 64 (nI n, S) else some (-2, S)) := by
    unfold f_Re_put
    rw [rowFor_X hn h48 hs, Option.bind_some, hn]
    by_cases c : rwR (aX S) n (set, data) = n
    · rw [if_pos (by rw [c]; exact nI_le2 (Nat.le_refl _) (by omega))]
    · have hlt : rwR (aX S) n (set, data) < n := by omega
      rw [if_neg (nI_ge2 hlt (by omega)), zgd_t (zin_2 (show rwR (aX S) n (set, data) < 48 by omega) (by omega)), zgd_t (zin_2 (show rwR (aX S) n (set, data) < 48 by omega) (by omega)), nI_c2 (by omega)]
      by_cases c0 : S.2 0 (rwR (aX S) n (set, data)) = set
      · rw [if_pos c0]
        by_cases c1 : S.2 1 (rwR (aX S) n (set, data)) = data
        · exact absurd (Prod.ext c0 c1) (hne _ hlt)
        · rw [if_neg c1]
      · rw [if_neg c0]
  constructor
  · intro h
    rw [e, if_neg]
    rw [h]
    decide
  · intro h
    obtain ⟨r, h1, h2, h3, h4, h5⟩ := put_loop set data hn h hle
    refine ⟨r, ?_, h2, h3, h4, h5, ?_⟩
    · rw [e, if_pos]
      · exact h1
      · rw [show (48 : Int32) = nI 48 from rfl, nI_ltI (by omega) (by omega)]; exact h
    · have h6 := insR_srt (x := (set, data)) hs hle (fun i hi => (rwR_iff hs (set, data) i (by omega)).mpr hi) (fun i h7 h8 => by
        have h9 : ¬ ltR (aX S i) (set, data) := fun h => absurd ((rwR_iff hs (set, data) i h8).mp h) (by omega)
        by_cases h10 : ltR (set, data) (aX S i)
        · exact h10
        · exact absurd (pair_eq h9 h10) (hne i h8))
      intro i j hij hj
      rw [h5 i (by omega), h5 j (by omega)]
      exact h6 i j hij hj
