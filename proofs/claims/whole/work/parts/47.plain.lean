def gM (T : MSt) (s : Nat) : Bool := (f_M_isGood T (nI s)).any (fun x => decide (x.1 = 1))
def pl (T : MSt) (s : Nat) : Bool := decide (f_M_depth (T.2.1 3 s) = some (T.2.1 7 s))
/-- zone and keys are the same on both sides -/
def Ctx (S : XSt) (T : MSt) (n c a z : Nat) : Prop := Base S T n c a ∧ nmP z ∧ f_M_here T = some (nI z) ∧ KeyEq S T
theorem gM_of {T : MSt} {s : Nat} {b : Bool} {T' : MSt} (h : f_M_isGood T (nI s) = some (b2 b, T')) : gM T s = b := by
  unfold gM
  rw [h]
  show decide (b2 b = 1) = b
  cases b <;> decide
theorem good_X {S : XSt} {T : MSt} {n c a z s : Nat} (h : Ctx S T n c a z) (hs : s < c) : f_Si_isGood S (nI s) (nI z) = some (b2 (gM T s)) := by
  obtain ⟨b, w, e1, e2, -⟩ := good_both h.1 h.2.1 h.2.2.1 h.2.2.2 hs
  rw [gM_of e2]
  exact e1
theorem good_M {S : XSt} {T : MSt} {n c a z s : Nat} (h : Ctx S T n c a z) (hs : s < c) : ∃ w, f_M_isGood T (nI s) = some (b2 (gM T s), zmL T w) := by
  obtain ⟨b, w, e1, e2, -⟩ := good_both h.1 h.2.1 h.2.2.1 h.2.2.2 hs
  rw [gM_of e2]
  exact ⟨w, e2⟩
theorem good_sz {S : XSt} {T : MSt} {n c a z s X t : Nat} (h : Ctx S T n c a z) (hs : s < c) (hg : gM T s = true) (hX : nmP X) (ht : t < 8) (e3 : T.2.1 3 s = nI X) (e4 : T.2.1 4 s = nI t) : 0 < zszR (aX S) n (nI (stN X t)) := by
  obtain ⟨b, w, e1, e2, e5⟩ := good_both h.1 h.2.1 h.2.2.1 h.2.2.2 hs
  rw [gM_of e2] at hg
  obtain ⟨Y, u, q1, q2, q3, q4, q5⟩ := e5 hg
  have r1 : X = Y := nI_inj (by have := hX.1; omega) (by have := q2.1; omega) (e3.symm.trans q1)
  have r2 : t = u := nI_inj (by omega) (by omega) (e4.symm.trans q3)
  rw [r1, r2]
  exact q5
theorem here_mL {T : MSt} {w : Int64} : f_M_here (zmL T w) = f_M_here T := nrf rfl
theorem Ctx.mL {S : XSt} {T : MSt} {n c a z : Nat} (h : Ctx S T n c a z) (w : Int64) : Ctx S (zmL T w) n c a z := ⟨h.1.core CoreX.rf CoreM.mL, h.2.1, by rw [here_mL]; exact h.2.2.1, h.2.2.2.mL w⟩
theorem gM_mL {S : XSt} {T : MSt} {n c a z s : Nat} (h : Ctx S T n c a z) (hs : s < c) (w : Int64) : gM (zmL T w) s = gM T s := by
  have e1 := good_X h hs
  have e2 := good_X (h.mL w) hs
  rw [e1] at e2
  have e3 := Option.some.inj e2
  revert e3
  cases gM T s <;> cases gM (zmL T w) s <;> decide
theorem hask_congr {S S' : XSt} (h1 : S'.1 13 = S.1 13) (h2 : S'.2 15 = S.2 15) (v : Int32) : f_Nu_has_k S' v = f_Nu_has_k S v := by
  unfold f_Nu_has_k
  have e : LS_Nu_has_k_2 S' v = LS_Nu_has_k_2 S v := funext fun x => by
    unfold LS_Nu_has_k_2 L_Nu_has_k_2
    rw [h1, h2]
  rw [e]
theorem hasd_congr {S S' : XSt} (h1 : S'.1 12 = S.1 12) (h2 : S'.2 14 = S.2 14) (v : Int32) : f_Nu_has_d S' v = f_Nu_has_d S v := by
  unfold f_Nu_has_d
  have e : LS_Nu_has_d_2 S' v = LS_Nu_has_d_2 S v := funext fun x => by
    unfold LS_Nu_has_d_2 L_Nu_has_d_2
    rw [h1, h2]
  rw [e]
theorem KeyEq.of {S S' : XSt} {T : MSt} (h : KeyEq S T) (h1 : S'.1 13 = S.1 13) (h2 : S'.2 15 = S.2 15) : KeyEq S' T := fun v => by
  obtain ⟨b, e1, e2⟩ := h v
  exact ⟨b, by rw [hask_congr h1 h2]; exact e1, e2⟩
def Jud (S : XSt) (T : MSt) (c : Nat) : Prop := ∀ s, s < c → S.2 10 s = b2 (gM T s) ∧ S.2 11 s = b2 (gM T s && pl T s)
theorem judge_X {S : XSt} {T : MSt} {n c a z : Nat} (h : Ctx S T n c a z) : ∃ S', f_Si_judge S (nI z) = some S' ∧ S'.1 = S.1 ∧ (∀ k, k ≠ 10 → k ≠ 11 → S'.2 k = S.2 k) ∧ Jud S' T c := by
  obtain ⟨hB, hz, hh, hK⟩ := h
  obtain ⟨k1, k2, k3, -, -, -, k7⟩ := hB.2.1
  refine zit_inv (fun i (s : Int32 × XSt) => s.1 = nI i ∧ s.2.1 = S.1 ∧ (∀ k, k ≠ 10 → k ≠ 11 → s.2.2 k = S.2 k) ∧ ∀ j, j < i → s.2.2 10 j = b2 (gM T j) ∧ s.2.2 11 j = b2 (gM T j && pl T j)) _ c ?_ 64 0 _ (Nat.zero_le _) (by omega) ⟨rfl, rfl, fun _ _ _ => rfl, fun j hj => absurd hj (Nat.not_lt_zero j)⟩
  rintro i ⟨v, S1⟩ hi ⟨hv, h1, h2, h3⟩
  simp only at hv h1 h2 h3
  subst hv
  have hs1 : S1.1 1 = nI c := by rw [h1]; exact k1
  by_cases ci : i < c
  · left
    have z1 : zin (nI i) 32 = true := zin_2 (by omega) (by omega)
    have hi3 : i ≤ 3072 := by omega
    have hC : Ctx S1 T n c a z := ⟨hB.core ⟨fun j _ => by rw [h1], fun k hk => h2 k (by omega) (by omega)⟩ CoreM.rf, hz, hh, hK.of (by rw [h1]) (h2 15 (by decide) (by decide))⟩
    obtain ⟨⟨X, t, Z, lb, ⟨a1, a2⟩, ⟨b1, b2', b3⟩, c1, -, -, ⟨f1, f2, f3⟩, -⟩, -⟩ := k7 i ci
    have l1 := dp_le X
    have epl : pl T i = decide (lb = dp X) := by
      unfold pl
      rw [a1, f2, depth_M a2.1, Bool.eq_iff_iff, decide_eq_true_eq, decide_eq_true_eq, Option.some.injEq, nI_eq (by omega) (by omega)]
      exact eq_comm
    have q0 : ∀ v, (zpA S1 10 (nI i) v).2 10 i = v := fun v => by rw [zpA_s hi3, if_pos rfl]
    have q2 : ∀ v, (zpA S1 10 (nI i) v).2 2 i = nI (stN X t) := fun v => by rw [zpA_n (by decide), h2 2 (by decide) (by decide)]; exact c1
    have q5 : ∀ v, (zpA S1 10 (nI i) v).2 5 i = nI lb := fun v => by rw [zpA_n (by decide), h2 5 (by decide) (by decide)]; exact f1
    refine ⟨(nI i + 1, zpA (zpA S1 10 (nI i) (b2 (gM T i))) 11 (nI i) (b2 (gM T i && pl T i))), ?_, ci, nI_1 i, h1, ?_, ?_⟩
    · show L_Si_judge_2 (nI z) (nI i) S1 = _
      unfold L_Si_judge_2
      rw [hs1, if_neg (nI_ge2 ci (by omega)), good_X hC ci, Option.bind_some, b2_n, nI_c2 hi3]
      simp only [zgd_t z1, znm_e, q0, q2, q5, own_X a2.1 (show t < 8 by omega), depth_X a2.1, Option.bind_some]
      cases hg : gM T i with
      | false =>
        rw [if_pos (show b2 false = 0 by decide)]
        rfl
      | true =>
        rw [if_neg (show ¬ b2 true = 0 by decide), epl]
        by_cases q : lb = dp X
        · rw [if_pos (by rw [q]), decide_eq_true q]
          rfl
        · rw [if_neg (fun e => q (nI_inj (by omega) (by omega) e)), decide_eq_false q]
          rfl
    · intro k k10 k11
      show (zpA (zpA S1 10 (nI i) (b2 (gM T i))) 11 (nI i) (b2 (gM T i && pl T i))).2 k = _
      rw [zpA_n k11, zpA_n k10]
      exact h2 k k10 k11
    · intro j hj
      show (zpA (zpA S1 10 (nI i) (b2 (gM T i))) 11 (nI i) (b2 (gM T i && pl T i))).2 10 j = _ ∧ (zpA (zpA S1 10 (nI i) (b2 (gM T i))) 11 (nI i) (b2 (gM T i && pl T i))).2 11 j = _
      rw [zpA_n (by decide), zpA_s hi3, zpA_s hi3, zpA_n (by decide)]
      by_cases q : j = i
      · rw [if_pos q, if_pos q, q]
        exact ⟨rfl, rfl⟩
      · rw [if_neg q, if_neg q]
        exact h3 j (by omega)
  · right
    have e : i = c := by omega
    subst e
    refine ⟨S1, ?_, h1, h2, h3⟩
    show L_Si_judge_2 (nI z) (nI i) S1 = _
    unfold L_Si_judge_2
    rw [hs1, if_pos (nI_le2 (Nat.le_refl _) (by omega))]
    rfl
/-- a set is plain -/
def PB (T : MSt) (X t s : Nat) : Bool := decide (T.2.1 3 s = nI X) && decide (T.2.1 4 s = nI t) && pl T s && gM T s
def plB (T : MSt) (X t c : Nat) : Bool := decide (0 < zct (PB T X t) c)
theorem setS {S : XSt} {T : MSt} {n c a s X t : Nat} (hB : Base S T n c a) (hs : s < c) (hX : nmP X) (ht : t < 8) : S.2 2 s = nI (stN X t) ↔ T.2.1 3 s = nI X ∧ T.2.1 4 s = nI t := by
  obtain ⟨⟨Y, u, Z, lb, ⟨a1, a2⟩, ⟨b1, b2', b3⟩, c1, -⟩, -⟩ := hB.2.1.2.2.2.2.2.2 s hs
  have l1 := hX.1
  have l2 := a2.1
  rw [c1, a1, b1, nI_eq (stN_lt l2 (by omega)) (stN_lt l1 ht), nI_eq (by omega) (by omega), nI_eq (by omega) (by omega)]
  constructor
  · exact fun h => stN_inj (by omega) ht h
  · rintro ⟨rfl, rfl⟩; rfl
theorem plain_X {S : XSt} {T : MSt} {n c a X t : Nat} (hB : Base S T n c a) (hJ : Jud S T c) (hX : nmP X) (ht : t < 8) : f_Si_isPlain S (nI (stN X t)) = some (b2 (plB T X t c)) := by
  obtain ⟨k1, k2, k3, -⟩ := hB.2.1
  obtain ⟨k, hk, p1, p2⟩ := first_at (PB T X t) c
  have stp : ∀ s, s < c → (PB T X t s = true ↔ (¬ S.2 11 s = 0 ∧ S.2 2 s = nI (stN X t))) := fun s hs => by
    rw [(hJ s hs).2, b2_0, setS hB hs hX ht]
    unfold PB
    simp only [Bool.and_eq_true, decide_eq_true_eq, Bool.not_eq_false]
    constructor
    · rintro ⟨⟨⟨q1, q2⟩, q3⟩, q4⟩; exact ⟨⟨q4, q3⟩, q1, q2⟩
    · rintro ⟨⟨q4, q3⟩, q1, q2⟩; exact ⟨⟨⟨q1, q2⟩, q3⟩, q4⟩
  have hpl : plB T X t c = decide (k < c) := by
    unfold plB
    rw [Bool.eq_iff_iff, decide_eq_true_eq, decide_eq_true_eq, zct_pos]
    constructor
    · rintro ⟨i, hi, hP⟩
      by_cases q : i < k
      · rw [p1 i q] at hP; cases hP
      · omega
    · exact fun h => ⟨k, h, p2 h⟩
  rw [hpl]
  refine zit_seq k 64 (fun i => nI i) (fun i hi => ?_) ?_ (by omega)
  · show L_Si_isPlain_2 S (nI (stN X t)) (nI i) = _
    unfold L_Si_isPlain_2
    have z1 : zin (nI i) 32 = true := zin_2 (by omega) (by omega)
    rw [k1, if_neg (nI_ge2 (show i < c by omega) (by omega)), zgd_t z1, zgd_t z1, nI_c2 (by omega), nI_1]
    have hn := stp i (by omega)
    rw [p1 i hi] at hn
    by_cases q : S.2 11 i = 0
    · rw [if_pos q]
    · rw [if_neg q, if_neg (fun e => absurd (hn.mpr ⟨q, e⟩) (by decide))]
  · show L_Si_isPlain_2 S (nI (stN X t)) (nI k) = _
    unfold L_Si_isPlain_2
    by_cases ck : k < c
    · have z1 : zin (nI k) 32 = true := zin_2 (by omega) (by omega)
      obtain ⟨q1, q2⟩ := (stp k ck).mp (p2 ck)
      rw [k1, if_neg (nI_ge2 ck (by omega)), zgd_t z1, zgd_t z1, nI_c2 (by omega), if_neg q1, if_pos q2, decide_eq_true ck]
      rfl
    · rw [k1, if_pos (nI_le2 (show c ≤ k by omega) (by omega)), decide_eq_false ck]
      rfl
theorem plain_M {S : XSt} {T : MSt} {n c a z X t : Nat} (h : Ctx S T n c a z) (hX : nmP X) (ht : t < 8) : ∃ w, f_M_isPlain T (nI X) (nI t) = some (b2 (plB T X t c), zmL T w) := by
  obtain ⟨k1, k2, k3, -, -, -, k7⟩ := h.1.2.1
  have key : ∃ r : Int32 × MSt, f_M_isPlain T (nI X) (nI t) = some r ∧ r.1 = b2 (plB T X t c) ∧ ∃ w, r.2 = zmL T w := by
    refine zit_inv (fun i (s : Int32 × Int32 × MSt) => s.1 = b2 (plB T X t i) ∧ s.2.1 = nI i ∧ ∃ w, s.2.2 = zmL T w) _ c ?_ 64 0 _ (Nat.zero_le _) (by omega) ⟨rfl, rfl, T.2.2, zmL_eta.symm⟩
    rintro i ⟨v, v2, T1⟩ hi ⟨hv, hv2, w, hw⟩
    simp only at hv hv2 hw
    subst hv
    subst hv2
    subst hw
    have e3 : (zmL T w).1 3 = nI c := k2
    show (∃ s', L_M_isPlain_5 (nI X) (nI t) (b2 (plB T X t i)) (nI i) (zmL T w) = some (.inl s') ∧ _) ∨ ∃ r, L_M_isPlain_5 (nI X) (nI t) (b2 (plB T X t i)) (nI i) (zmL T w) = some (.inr r) ∧ _
    unfold L_M_isPlain_5
    rw [e3]
    by_cases ci : i < c
    · have z1 : zin (nI i) 32 = true := zin_2 (by omega) (by omega)
      rw [if_neg (nI_ge2 ci (by omega)), nI_c2 (by omega)]
      cases hp : plB T X t i with
      | true =>
        right
        refine ⟨(1, zmL T w), ?_, ?_, w, rfl⟩
        · rw [if_neg (show ¬ b2 true = 0 by decide), zgd_t (b2_z true)]
          rfl
        · have hp : 0 < zct (PB T X t) i := by simpa [plB] using hp
          have : 0 < zct (PB T X t) c := Nat.lt_of_lt_of_le hp (zct_mono _ hi)
          show (1 : Int32) = b2 (plB T X t c)
          rw [show plB T X t c = true by simpa [plB] using this]
          rfl
      | false =>
        left
        have hp0 : zct (PB T X t) i = 0 := by
          have : ¬ 0 < zct (PB T X t) i := by simpa [plB] using hp
          omega
        have en : plB T X t (i + 1) = PB T X t i := by
          unfold plB
          rw [zct_s, hp0]
          cases PB T X t i <;> simp
        rw [if_pos (show b2 false = 0 by decide)]
        have r3 : (zmL T w).2.1 3 i = T.2.1 3 i := rfl
        have r4 : (zmL T w).2.1 4 i = T.2.1 4 i := rfl
        have r7 : (zmL T w).2.1 7 i = T.2.1 7 i := rfl
        simp only [zgd_t z1, r3, r4, r7]
        by_cases q1 : T.2.1 3 i = nI X
        · rw [if_pos q1]
          by_cases q2 : T.2.1 4 i = nI t
          · rw [if_pos q2, depth_M hX.1, Option.bind_some]
            by_cases q3 : T.2.1 7 i = nI (dp X)
            · have hpl : pl T i = true := by unfold pl; rw [q1, q3, depth_M hX.1]; simp
              obtain ⟨w2, hg⟩ := good_M (h.mL w) ci
              rw [gM_mL h ci w, zmL_L] at hg
              rw [if_pos q3, hg, Option.bind_some]
              refine ⟨(b2 (PB T X t i), nI i + 1, zmL T w2), ?_, ci, by rw [en], nI_1 i, w2, rfl⟩
              have e : PB T X t i = gM T i := by unfold PB; simp [q1, q2, hpl]
              rw [e]
              cases gM T i
              · rw [if_pos (show b2 false = 0 by decide)]; rfl
              · rw [if_neg (show ¬ b2 true = 0 by decide)]; rfl
            · rw [if_neg q3]
              refine ⟨(0, nI i + 1, zmL T w), rfl, ci, ?_, nI_1 i, w, rfl⟩
              have hpl : pl T i = false := by unfold pl; rw [q1, depth_M hX.1]; simp; exact fun e => q3 e.symm
              show (0 : Int32) = b2 (plB T X t (i + 1))
              rw [en, show PB T X t i = false by unfold PB; simp [hpl]]
              rfl
          · rw [if_neg q2]
            refine ⟨(0, nI i + 1, zmL T w), rfl, ci, ?_, nI_1 i, w, rfl⟩
            show (0 : Int32) = b2 (plB T X t (i + 1))
            rw [en, show PB T X t i = false by unfold PB; simp [q2]]
            rfl
        · rw [if_neg q1]
          refine ⟨(0, nI i + 1, zmL T w), rfl, ci, ?_, nI_1 i, w, rfl⟩
          show (0 : Int32) = b2 (plB T X t (i + 1))
          rw [en, show PB T X t i = false by unfold PB; simp [q1]]
          rfl
    · right
      have e : i = c := by omega
      subst e
      exact ⟨(b2 (plB T X t i), zmL T w), by rw [if_pos (nI_le2 (Nat.le_refl _) (by omega)), zgd_t (b2_z _)]; rfl, rfl, w, rfl⟩
  obtain ⟨r, h1, h2, w, h3⟩ := key
  exact ⟨w, by rw [h1, ← h2, ← h3]⟩
theorem plB_mL {S : XSt} {T : MSt} {n c a z X t : Nat} (h : Ctx S T n c a z) (w : Int64) : plB (zmL T w) X t c = plB T X t c := by
  unfold plB
  rw [zct_congr (P := PB (zmL T w) X t) (P' := PB T X t) (fun s hs => by
    unfold PB
    rw [gM_mL h hs w]
    rfl)]
theorem plB_sz {S : XSt} {T : MSt} {n c a z X t : Nat} (h : Ctx S T n c a z) (hX : nmP X) (ht : t < 8) (hp : plB T X t c = true) : 0 < zszR (aX S) n (nI (stN X t)) := by
  unfold plB at hp
  rw [decide_eq_true_eq, zct_pos] at hp
  obtain ⟨s, hs, hP⟩ := hp
  unfold PB at hP
  simp only [Bool.and_eq_true, decide_eq_true_eq] at hP
  exact good_sz h hs hP.2 hX ht hP.1.1.1 hP.1.1.2
theorem Jud.mL {S : XSt} {T : MSt} {n c a z : Nat} (h : Ctx S T n c a z) (hJ : Jud S T c) (w : Int64) : Jud S (zmL T w) c := fun s hs => by
  rw [gM_mL h hs w]
  exact hJ s hs
