theorem cmp_mem {α : Type} (a : Nat → α) (kq : α → Bool) : ∀ (i p : Nat), p < kpN a kq i → ∃ j, j < i ∧ cmp a kq i p = a j
  | 0, p, h => absurd h (Nat.not_lt_zero p)
  | i + 1, p, h => by
    rw [kpN_s] at h
    by_cases c : kq (a i) = true ∧ p = kpN a kq i
    · exact ⟨i, Nat.lt_succ_self i, by show (if kq (a i) = true ∧ p = kpN a kq i then a i else cmp a kq i p) = a i; rw [if_pos c]⟩
    · have hp : p < kpN a kq i := by
        cases hk : kq (a i) with
        | true =>
          rw [hk, if_pos rfl] at h
          have : ¬ p = kpN a kq i := fun z => c ⟨hk, z⟩
          omega
        | false => rw [hk] at h; simpa using h
      obtain ⟨j, hj, e⟩ := cmp_mem a kq i p hp
      exact ⟨j, by omega, by show (if kq (a i) = true ∧ p = kpN a kq i then a i else cmp a kq i p) = a j; rw [if_neg c]; exact e⟩
/-- a set is emptied, on both sides -/
theorem drop_both {S : XSt} {T : MSt} {n : Nat} (h : RecRel S T n) {X t : Nat} (hX : nmP X) (ht : t < 8) : ∃ r S' T' n', f_Re_empty S (nI (stN X t)) = some (r, S') ∧ RecRel S' T' n' ∧ SamX S S' ∧ SamM T T' ∧ zit (LS_M_drop_21 (nI X) (nI t)) 64 (0, 0, T) = some (r, T') := by
  obtain ⟨g1, g2, g3, g4, g5, g6⟩ := h
  have h : RecRel S T n := ⟨g1, g2, g3, g4, g5, g6⟩
  obtain ⟨r, x1, x2, x3, x4, x5⟩ := empty_X (nI (stN X t)) g1 g3
  obtain ⟨q, y1, y2, y3, y4, y5⟩ := drop_M (nI X) (nI t) g2 g3
  have key : ∀ i, i < n → (!(decide ((tM T i).1 = nI X) && decide ((tM T i).2.1 = nI t))) = !decide ((aM T i).1 = nI (stN X t)) := fun i hi => by
    have := mtB_set h hX ht hi
    unfold mtB at this
    unfold tM
    rw [this]
  have ek : kpN (aX S) (fun x => !decide (x.1 = nI (stN X t))) n = kpN (tM T) (fun x => !(decide (x.1 = nI X) && decide (x.2.1 = nI t))) n := by
    unfold kpN
    rw [g5 (fun x => !decide (x.1 = nI (stN X t)))]
    exact (zct_congr key).symm
  rw [← ek] at y2 y3
  refine ⟨r.1, r.2, q.2, kpN (aX S) (fun x => !decide (x.1 = nI (stN X t))) n, x1, ⟨x3, y3, Nat.le_trans (kpN_le _ _ _) g3, ?_, ?_, ?_⟩, x4, y4, ?_⟩
  · have e : aX r.2 = cmp (aX S) (fun x => !decide (x.1 = nI (stN X t))) n := funext x5
    rw [e]
    exact (cmp_srt g4 n (Nat.le_refl _)).1
  · intro P
    have e : aX r.2 = cmp (aX S) (fun x => !decide (x.1 = nI (stN X t))) n := funext x5
    rw [e, cmp_cnt, g5 (fun x => P x && !decide (x.1 = nI (stN X t)))]
    have e2 : ∀ p, aM q.2 p = (fun z : Int32 × Int32 × Int32 => (setI z.1 z.2.1, z.2.2)) (cmp (tM T) (fun x => !(decide (x.1 = nI X) && decide (x.2.1 = nI t))) n p) := fun p => by
      rw [← y5 p]
      rfl
    rw [ek, zct_congr (P := fun i => P (aM q.2 i)) (P' := fun p => (fun z : Int32 × Int32 × Int32 => P (setI z.1 z.2.1, z.2.2)) (cmp (tM T) (fun x => !(decide (x.1 = nI X) && decide (x.2.1 = nI t))) n p)) (fun i _ => by rw [e2 i])]
    rw [cmp_cnt (tM T) _ (fun z : Int32 × Int32 × Int32 => P (setI z.1 z.2.1, z.2.2))]
    refine zct_congr (fun i hi => ?_)
    rw [key i hi]
    rfl
  · intro i hi
    rw [ek] at hi
    obtain ⟨j, hj, e⟩ := cmp_mem _ _ n i hi
    rw [y5 i, e]
    exact g6 j hj
  · rw [y1]
    congr 1
    exact Prod.ext (y2.trans x2.symm) rfl
