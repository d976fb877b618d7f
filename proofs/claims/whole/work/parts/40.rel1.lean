/-! the records of both sides -/
def setI (o t : Int32) : Int32 := (o <<< ((3 : Int32) &&& (31 : Int32))) ||| t
theorem setI_n {X t : Nat} (hX : X < 1048576) (ht : t < 8) : setI (nI X) (nI t) = nI (stN X t) := Option.some.inj (set_X hX ht)
def aM (T : MSt) : Rc := fun i => (setI (T.2.1 0 i) (T.2.1 1 i), T.2.1 2 i)
def okR (x : Int32 × Int32 × Int32) : Prop := ∃ X t, x.1 = nI X ∧ nmP X ∧ x.2.1 = nI t ∧ 1 ≤ t ∧ t ≤ 5
def RecRel (S : XSt) (T : MSt) (n : Nat) : Prop := S.1 0 = nI n ∧ T.1 0 = nI n ∧ n ≤ 48 ∧ Srt (aX S) n ∧ Sam (aX S) n (aM T) n ∧ ∀ i, i < n → okR (tM T i)
theorem RecRel.of {S S' : XSt} {T T' : MSt} {n : Nat} (h : RecRel S T n) (a1 : S'.1 0 = S.1 0) (a2 : S'.2 0 = S.2 0) (a3 : S'.2 1 = S.2 1) (b1 : T'.1 0 = T.1 0) (b2 : T'.2.1 0 = T.2.1 0) (b3 : T'.2.1 1 = T.2.1 1) (b4 : T'.2.1 2 = T.2.1 2) : RecRel S' T' n := by
  have e1 : aX S' = aX S := by unfold aX; rw [a2, a3]
  have e2 : aM T' = aM T := by unfold aM; rw [b2, b3, b4]
  have e3 : tM T' = tM T := by unfold tM; rw [b2, b3, b4]
  unfold RecRel
  rw [e1, e2, e3, a1, b1]
  exact h
theorem mtB_set {S : XSt} {T : MSt} {n : Nat} (h : RecRel S T n) {X t : Nat} (hX : nmP X) (ht : t < 8) {i : Nat} (hi : i < n) : mtB T (nI X) (nI t) i = decide ((aM T i).1 = nI (stN X t)) := by
  obtain ⟨Y, u, e1, hY, e2, u1, u2⟩ := h.2.2.2.2.2 i hi
  have e1 : T.2.1 0 i = nI Y := e1
  have e2 : T.2.1 1 i = nI u := e2
  have l1 := hX.1
  have l2 := hY.1
  rw [Bool.eq_iff_iff]
  unfold mtB aM
  simp only [e1, e2, Bool.and_eq_true, decide_eq_true_eq, setI_n l2 (show u < 8 by omega)]
  rw [nI_eq (by omega) (by omega), nI_eq (by omega) (by omega), nI_eq (stN_lt l2 (by omega)) (stN_lt l1 ht)]
  constructor
  · rintro ⟨rfl, rfl⟩; rfl
  · exact fun z => stN_inj (by omega) ht z
theorem RecRel.sz {S : XSt} {T : MSt} {n : Nat} (h : RecRel S T n) {X t : Nat} (hX : nmP X) (ht : t < 8) : zct (mtB T (nI X) (nI t)) n = zszR (aX S) n (nI (stN X t)) := by
  rw [h.2.2.2.2.1.sz]
  exact zct_congr (fun i hi => mtB_set h hX ht hi)
theorem RecRel.szX {S : XSt} {T : MSt} {n : Nat} (h : RecRel S T n) (set : Int32) : f_Re_sizeOf S set = some (nI (zszR (aX S) n set)) := size_X h.1 h.2.2.1 set
theorem RecRel.szM {S : XSt} {T : MSt} {n : Nat} (h : RecRel S T n) {X t : Nat} (hX : nmP X) (ht : t < 8) : f_M_size T (nI X) (nI t) = some (nI (zszR (aX S) n (nI (stN X t)))) := by
  rw [size_M h.2.1 h.2.2.1, h.sz hX ht]
theorem szR_48 {S : XSt} {T : MSt} {n : Nat} (h : RecRel S T n) (set : Int32) : zszR (aX S) n set ≤ 48 := Nat.le_trans (zct_le _ _) h.2.2.1
theorem RecRel.bf {S : XSt} {T : MSt} {n : Nat} (h : RecRel S T n) {X t : Nat} (hX : nmP X) (ht : t < 8) (x : Int32) : bfM T (nI X) (nI t) n x = zbfR (aM T) n (nI (stN X t)) x := by
  refine zct_congr (fun i hi => ?_)
  rw [mtB_set h hX ht hi]
  rfl
theorem RecRel.kth {S : XSt} {T : MSt} {n : Nat} (h : RecRel S T n) {X t k : Nat} (hX : nmP X) (ht : t < 8) (hk : k < zszR (aX S) n (nI (stN X t))) : f_M_dataAt T (nI X) (nI t) (nI k) = some (S.2 1 (zstR (aX S) n (nI (stN X t)) + k)) := by
  have h48 := szR_48 h (nI (stN X t))
  rw [data_M h.2.1 h.2.2.1 _ _ (by omega)]
  obtain ⟨k1, r, k2, k3, k4⟩ := h.2.2.2.2.1.kth h.2.2.2.1 _ hk
  congr 1
  refine fnd_eq (fun r hr hP => ?_) ⟨r, k2, ?_⟩
  · unfold kpB at hP
    rw [mtB_set h hX ht hr, Bool.and_eq_true, decide_eq_true_eq, decide_eq_true_eq, h.bf hX ht] at hP
    exact k1 r hr hP.1 hP.2
  · unfold kpB
    rw [mtB_set h hX ht k2, Bool.and_eq_true, decide_eq_true_eq, decide_eq_true_eq, h.bf hX ht]
    exact ⟨k3, k4⟩
theorem RecRel.has {S : XSt} {T : MSt} {n : Nat} (h : RecRel S T n) {X t : Nat} (hX : nmP X) (ht : t < 8) (d : Int32) : f_M_has T (nI X) (nI t) d = some (if ∃ i, i < n ∧ aX S i = (nI (stN X t), d) then 1 else 0) := by
  rw [has_M h.2.1 h.2.2.1]
  congr 1
  have e : zct (fun i => mtB T (nI X) (nI t) i && decide (T.2.1 2 i = d)) n = zct (fun i => decide (aX S i = (nI (stN X t), d))) n := by
    have e2 := h.2.2.2.2.1 (fun x => decide (x = (nI (stN X t), d)))
    rw [e2]
    refine zct_congr (fun i hi => ?_)
    rw [mtB_set h hX ht hi, Bool.eq_iff_iff]
    unfold aM
    simp only [Bool.and_eq_true, decide_eq_true_eq, Prod.mk.injEq]
  rw [e]
  have e3 : (0 < zct (fun i => decide (aX S i = (nI (stN X t), d))) n) ↔ ∃ i, i < n ∧ aX S i = (nI (stN X t), d) := by
    rw [zct_pos]
    simp only [decide_eq_true_eq]
  by_cases c : ∃ i, i < n ∧ aX S i = (nI (stN X t), d)
  · rw [if_pos (e3.mpr c), if_pos c]
  · rw [if_neg (fun z => c (e3.mp z)), if_neg c]
theorem Sam.ins {a a' b b' : Rc} {n row : Nat} {x : Int32 × Int32} (h : Sam a n b n) (hr : row ≤ n) (ha : ∀ i, i ≤ n → a' i = insR a row x i) (hb : ∀ i, i < n → b' i = b i) (hx : b' n = x) : Sam a' (n + 1) b' (n + 1) := by
  intro P
  rw [zct_congr (P' := fun i => P (insR a row x i)) (fun i hi => by rw [ha i (by omega)]), insR_cnt x hr, h P, zct_s, hx, zct_congr (P := fun i => P (b' i)) (P' := fun i => P (b i)) (fun i hi => by rw [hb i hi])]
/-- a record comes, on both sides -/
theorem add_both {S : XSt} {T : MSt} {n : Nat} (h : RecRel S T n) {X t : Nat} (hX : nmP X) (h1 : 1 ≤ t) (h5 : t ≤ 5) (d : Int32) : ∃ r S' T' n', f_Re_put S (nI (stN X t)) d = some (r, S') ∧ RecRel S' T' n' ∧ SamX S S' ∧ SamM T T' ∧
    Option.bind (f_M_has T (nI X) (nI t) d) (fun x10 => (if x10 = (0 : Int32) then (if (T.1 0) = (48 : Int32) then some ((-2 : Int32), T) else zgd (zin (T.1 0) 48) (znm (zmA T 0 (T.1 0) (nI X)) (fun S17 => zgd (zin (S17.1 0) 48) (znm (zmA S17 1 (S17.1 0) (nI t)) (fun S20 => zgd (zin (S20.1 0) 48) (znm (zmA S20 2 (S20.1 0) d) (fun S23 => znm (zmS S23 0 ((S23.1 0) + (1 : Int32))) (fun S25 => Option.bind (f_M_size S25 (nI X) (nI t)) (fun x27 => some (x27, S25)))))))))) else Option.bind (f_M_size T (nI X) (nI t)) (fun x13 => some (x13, T)))) = some (r, T') := by
  have ht : t < 8 := by omega
  obtain ⟨g1, g2, g3, g4, g5, g6⟩ := h
  have h : RecRel S T n := ⟨g1, g2, g3, g4, g5, g6⟩
  rw [h.has hX ht]
  by_cases c : ∃ i, i < n ∧ aX S i = (nI (stN X t), d)
  · obtain ⟨i, hi, he⟩ := c
    refine ⟨_, S, T, n, put_old g1 g3 g4 hi he, h, SamX.rf, ⟨fun _ _ => rfl, fun _ _ _ _ => rfl⟩, ?_⟩
    rw [if_pos ⟨i, hi, he⟩, Option.bind_some, if_neg (by decide), h.szM hX ht]
    rfl
  · rw [if_neg c, Option.bind_some, if_pos rfl, g2]
    obtain ⟨p1, p2⟩ := put_new (set := nI (stN X t)) (data := d) g1 g3 g4 (fun i hi he => c ⟨i, hi, he⟩)
    by_cases c8 : n = 48
    · refine ⟨-2, S, T, n, p1 c8, h, SamX.rf, ⟨fun _ _ => rfl, fun _ _ _ _ => rfl⟩, ?_⟩
      rw [c8, if_pos (by decide)]
    · obtain ⟨r, q1, q2, q3, q4, q5, q6⟩ := p2 (by omega)
      have z1 : zin (nI n) 48 = true := zin_2 (by omega) (by omega)
      have hle : rwR (aX S) n (nI (stN X t), d) ≤ n := zct_le _ _
      obtain ⟨T', hT'⟩ : ∃ T', T' = zmS (zmA (zmA (zmA T 0 (nI n) (nI X)) 1 (nI n) (nI t)) 2 (nI n) d) 0 (nI n + 1) := ⟨_, rfl⟩
      have a0 : ∀ p, T'.2.1 0 p = if p = n then nI X else T.2.1 0 p := fun p => by
        rw [hT']
        show (zmA (zmA (zmA T 0 (nI n) (nI X)) 1 (nI n) (nI t)) 2 (nI n) d).2.1 0 p = _
        rw [zmA_n (by decide), zmA_n (by decide), zmA_s (by omega)]
      have a1 : ∀ p, T'.2.1 1 p = if p = n then nI t else T.2.1 1 p := fun p => by
        rw [hT']
        show (zmA (zmA (zmA T 0 (nI n) (nI X)) 1 (nI n) (nI t)) 2 (nI n) d).2.1 1 p = _
        rw [zmA_n (by decide), zmA_s (by omega), zmA_n (by decide)]
      have a2 : ∀ p, T'.2.1 2 p = if p = n then d else T.2.1 2 p := fun p => by
        rw [hT']
        show (zmA (zmA (zmA T 0 (nI n) (nI X)) 1 (nI n) (nI t)) 2 (nI n) d).2.1 2 p = _
        rw [zmA_s (by omega), zmA_n (by decide), zmA_n (by decide)]
      have b0 : T'.1 0 = nI (n + 1) := by rw [hT', zmS_s, nI_1]
      have hR : RecRel r.2 T' (n + 1) := by
        refine ⟨q3, b0, by omega, q6, ?_, ?_⟩
        · refine Sam.ins g5 hle q5 (fun i hi => ?_) ?_
          · unfold aM
            rw [a0, a1, a2, if_neg (by omega), if_neg (by omega), if_neg (by omega)]
          · unfold aM
            rw [a0, a1, a2, if_pos rfl, if_pos rfl, if_pos rfl, setI_n hX.1 ht]
        · intro i hi
          unfold tM
          rw [a0, a1, a2]
          by_cases ci : i = n
          · rw [if_pos ci, if_pos ci, if_pos ci]
            exact ⟨X, t, rfl, hX, rfl, h1, h5⟩
          · rw [if_neg ci, if_neg ci, if_neg ci]
            exact g6 i (by omega)
      refine ⟨r.1, r.2, T', n + 1, q1, hR, q4, ⟨fun j hj => ?_, fun k k0 k1 k2 => ?_⟩, ?_⟩
      · rw [hT', zmS_n hj]; rfl
      · rw [hT']
        show (zmA (zmA (zmA T 0 (nI n) (nI X)) 1 (nI n) (nI t)) 2 (nI n) d).2.1 k = _
        rw [zmA_n k2, zmA_n k1, zmA_n k0]
      · rw [if_neg (by rw [show (48 : Int32) = nI 48 from rfl, nI_eq (by omega) (by omega)]; exact c8)]
        simp only [znm, zmA_1, g2, zgd_t z1]
        rw [← hT', hR.szM hX ht, q2]
        rfl
