/-! lists of numbers: the trusted digests, the keys -/
def memB (S : XSt) (n : Nat) (set v : Int32) : Bool := decide (0 < zct (fun i => decide (aX S i = (set, v))) n)
theorem mem_iff {S : XSt} {T : MSt} {n : Nat} (h : RecRel S T n) (set v : Int32) : memB S n set v = true ↔ ∃ k, k < zszR (aX S) n set ∧ S.2 1 (zstR (aX S) n set + k) = v := by
  unfold memB
  have hle := szR_le h.2.2.2.1 set
  rw [decide_eq_true_eq, zct_pos]
  constructor
  · rintro ⟨i, hi, e⟩
    have e : aX S i = (set, v) := of_decide_eq_true e
    have e0 : (aX S i).1 = set := by rw [e]
    have e1 : S.2 1 i = v := congrArg Prod.snd e
    have h1 := (szR_iff h.2.2.2.1 set i hi).mp e0
    exact ⟨i - zstR (aX S) n set, by omega, by rw [show zstR (aX S) n set + (i - zstR (aX S) n set) = i by omega]; exact e1⟩
  · rintro ⟨k, hk, e⟩
    have h1 := (szR_iff h.2.2.2.1 set (zstR (aX S) n set + k) (by omega)).mpr ⟨by omega, by omega⟩
    exact ⟨zstR (aX S) n set + k, by omega, decide_eq_true (Prod.ext h1 e)⟩
theorem hasM_b {S : XSt} {T : MSt} {n X t : Nat} (h : RecRel S T n) (hX : nmP X) (ht : t < 8) (v : Int32) : f_M_has T (nI X) (nI t) v = some (b2 (memB S n (nI (stN X t)) v)) := by
  rw [h.has hX ht]
  congr 1
  unfold memB
  have e3 : (0 < zct (fun i => decide (aX S i = (nI (stN X t), v))) n) ↔ ∃ i, i < n ∧ aX S i = (nI (stN X t), v) := by
    rw [zct_pos]
    simp only [decide_eq_true_eq]
  by_cases c : ∃ i, i < n ∧ aX S i = (nI (stN X t), v)
  · rw [if_pos c, decide_eq_true (e3.mpr c)]; rfl
  · rw [if_neg c, decide_eq_false (fun z => c (e3.mp z))]; rfl
theorem has_k {S : XSt} {m : Nat} (hm : S.1 13 = nI m) (h48 : m ≤ 48) (v : Int32) : f_Nu_has_k S v = some (b2 (decide (0 < zct (fun i => decide (S.2 15 i = v)) m))) := by
  obtain ⟨k, hk, p1, p2⟩ := first_at (fun i => decide (S.2 15 i = v)) m
  have hpl : decide (0 < zct (fun i => decide (S.2 15 i = v)) m) = decide (k < m) := by
    rw [Bool.eq_iff_iff, decide_eq_true_eq, decide_eq_true_eq, zct_pos]
    constructor
    · rintro ⟨i, hi, hP⟩
      by_cases q : i < k
      · exact absurd (hP.symm.trans (p1 i q)) (by decide)
      · omega
    · exact fun h => ⟨k, h, p2 h⟩
  rw [hpl]
  refine zit_seq k 64 (fun i => nI i) (fun i hi => ?_) ?_ (by omega)
  · show L_Nu_has_k_2 S v (nI i) = _
    unfold L_Nu_has_k_2
    have z1 : zin (nI i) 48 = true := zin_2 (by omega) (by omega)
    have q := p1 i hi
    rw [hm, if_neg (nI_ge2 (show i < m by omega) (by omega)), zgd_t z1, nI_c2 (by omega), nI_1, if_neg (of_decide_eq_false q)]
  · show L_Nu_has_k_2 S v (nI k) = _
    unfold L_Nu_has_k_2
    by_cases ck : k < m
    · have z1 : zin (nI k) 48 = true := zin_2 (by omega) (by omega)
      rw [hm, if_neg (nI_ge2 ck (by omega)), zgd_t z1, nI_c2 (by omega), if_pos (of_decide_eq_true (p2 ck)), decide_eq_true ck]
      rfl
    · rw [hm, if_pos (nI_le2 (show m ≤ k by omega) (by omega)), decide_eq_false ck]
      rfl
/-- nothing but a list of numbers has changed -/
def Samk (S S' : XSt) : Prop := (∀ j, j ≠ 13 → S'.1 j = S.1 j) ∧ ∀ k, k ≠ 15 → S'.2 k = S.2 k
theorem put_k {S : XSt} {m : Nat} (hm : S.1 13 = nI m) (h48 : m < 48) (v : Int32) : f_Nu_put_k S v = some (zpS (zpA S 15 (nI m) v) 13 (nI m + 1)) := by
  unfold f_Nu_put_k
  have z1 : zin (nI m) 48 = true := zin_2 (by omega) (by omega)
  rw [hm, if_neg (by rw [show (48 : Int32) = nI 48 from rfl]; exact nI_ge2 h48 (by omega)), zgd_t z1]
  simp only [znm_e, zpA_1, hm]
theorem RecRel.samk {S S' : XSt} {T : MSt} {n : Nat} (h : RecRel S T n) (hs : Samk S S') : RecRel S' T n := h.of (hs.1 0 (by decide)) (hs.2 0 (by decide)) (hs.2 1 (by decide)) rfl rfl rfl rfl
theorem take_k {S : XSt} {T : MSt} {n : Nat} (h : RecRel S T n) (set : Int32) : ∃ S', f_Qu_takeSet_k S set = some S' ∧ Samk S S' ∧ S'.1 13 = nI (zszR (aX S) n set) ∧ ∀ p, p < zszR (aX S) n set → S'.2 15 p = S.2 1 (zstR (aX S) n set + p) := by
  have h48 := szR_48 h set
  unfold f_Qu_takeSet_k f_Nu_clear_k
  rw [start_X h.1 h.2.2.1 h.2.2.2.1, Option.bind_some, h.szX, Option.bind_some]
  simp only [znm_e, Option.bind_some]
  refine zit_inv (fun i (s : Int32 × XSt) => s.1 = nI i ∧ Samk S s.2 ∧ s.2.1 13 = nI i ∧ ∀ p, p < i → s.2.2 15 p = S.2 1 (zstR (aX S) n set + p)) _ (zszR (aX S) n set) ?_ 64 0 _ (Nat.zero_le _) (by omega) ⟨rfl, ⟨fun j hj => zpS_n hj, fun _ _ => rfl⟩, zpS_s, fun p hp => absurd hp (Nat.not_lt_zero p)⟩
  rintro i ⟨v, S1⟩ hi ⟨hv, h1, h2, h3⟩
  simp only at hv h1 h2 h3
  subst hv
  by_cases ci : i < zszR (aX S) n set
  · left
    have hd : f_Re_dataAt S1 (nI (zstR (aX S) n set) + nI i) = some (S.2 1 (zstR (aX S) n set + i)) := by
      have hr := szR_le h.2.2.2.1 set
      rw [nI_add, data_X (S := S1) (n := n) ((h1.1 0 (by decide)).trans h.1) h.2.2.1 (by omega), h1.2 1 (by decide)]
    refine ⟨(nI i + 1, zpS (zpA S1 15 (nI i) (S.2 1 (zstR (aX S) n set + i))) 13 (nI i + 1)), ?_, ci, nI_1 i, ⟨fun j hj => ?_, fun k hk => ?_⟩, ?_, fun p hp => ?_⟩
    · show L_Qu_takeSet_k_26 _ _ (nI i) S1 = _
      unfold L_Qu_takeSet_k_26
      rw [if_neg (nI_ge2 ci (by omega)), hd, Option.bind_some, put_k h2 (by omega), Option.bind_some]
    · rw [zpS_n hj]; exact h1.1 j hj
    · show (zpA S1 15 _ _).2 k = _
      rw [zpA_n hk]; exact h1.2 k hk
    · rw [zpS_s, nI_1]
    · show (zpA S1 15 (nI i) (S.2 1 (zstR (aX S) n set + i))).2 15 p = _
      rw [zpA_s (by omega)]
      by_cases q : p = i
      · rw [if_pos q, q]
      · rw [if_neg q]; exact h3 p (by omega)
  · right
    have e : i = zszR (aX S) n set := by omega
    subst e
    refine ⟨S1, ?_, h1, h2, h3⟩
    show L_Qu_takeSet_k_26 _ _ (nI (zszR (aX S) n set)) S1 = _
    unfold L_Qu_takeSet_k_26
    rw [if_pos (nI_le2 (Nat.le_refl _) (by omega))]
    rfl
theorem has_d {S : XSt} {m : Nat} (hm : S.1 12 = nI m) (h48 : m ≤ 48) (v : Int32) : f_Nu_has_d S v = some (b2 (decide (0 < zct (fun i => decide (S.2 14 i = v)) m))) := by
  obtain ⟨k, hk, p1, p2⟩ := first_at (fun i => decide (S.2 14 i = v)) m
  have hpl : decide (0 < zct (fun i => decide (S.2 14 i = v)) m) = decide (k < m) := by
    rw [Bool.eq_iff_iff, decide_eq_true_eq, decide_eq_true_eq, zct_pos]
    constructor
    · rintro ⟨i, hi, hP⟩
      by_cases q : i < k
      · exact absurd (hP.symm.trans (p1 i q)) (by decide)
      · omega
    · exact fun h => ⟨k, h, p2 h⟩
  rw [hpl]
  refine zit_seq k 64 (fun i => nI i) (fun i hi => ?_) ?_ (by omega)
  · show L_Nu_has_d_2 S v (nI i) = _
    unfold L_Nu_has_d_2
    have z1 : zin (nI i) 48 = true := zin_2 (by omega) (by omega)
    have q := p1 i hi
    rw [hm, if_neg (nI_ge2 (show i < m by omega) (by omega)), zgd_t z1, nI_c2 (by omega), nI_1, if_neg (of_decide_eq_false q)]
  · show L_Nu_has_d_2 S v (nI k) = _
    unfold L_Nu_has_d_2
    by_cases ck : k < m
    · have z1 : zin (nI k) 48 = true := zin_2 (by omega) (by omega)
      rw [hm, if_neg (nI_ge2 ck (by omega)), zgd_t z1, nI_c2 (by omega), if_pos (of_decide_eq_true (p2 ck)), decide_eq_true ck]
      rfl
    · rw [hm, if_pos (nI_le2 (show m ≤ k by omega) (by omega)), decide_eq_false ck]
      rfl
/-- nothing but a list of numbers has changed -/
def Samd (S S' : XSt) : Prop := (∀ j, j ≠ 12 → S'.1 j = S.1 j) ∧ ∀ k, k ≠ 14 → S'.2 k = S.2 k
theorem put_d {S : XSt} {m : Nat} (hm : S.1 12 = nI m) (h48 : m < 48) (v : Int32) : f_Nu_put_d S v = some (zpS (zpA S 14 (nI m) v) 12 (nI m + 1)) := by
  unfold f_Nu_put_d
  have z1 : zin (nI m) 48 = true := zin_2 (by omega) (by omega)
  rw [hm, if_neg (by rw [show (48 : Int32) = nI 48 from rfl]; exact nI_ge2 h48 (by omega)), zgd_t z1]
  simp only [znm_e, zpA_1, hm]
theorem RecRel.samd {S S' : XSt} {T : MSt} {n : Nat} (h : RecRel S T n) (hs : Samd S S') : RecRel S' T n := h.of (hs.1 0 (by decide)) (hs.2 0 (by decide)) (hs.2 1 (by decide)) rfl rfl rfl rfl
theorem take_d {S : XSt} {T : MSt} {n : Nat} (h : RecRel S T n) (set : Int32) : ∃ S', f_Qu_takeSet_d S set = some S' ∧ Samd S S' ∧ S'.1 12 = nI (zszR (aX S) n set) ∧ ∀ p, p < zszR (aX S) n set → S'.2 14 p = S.2 1 (zstR (aX S) n set + p) := by
  have h48 := szR_48 h set
  unfold f_Qu_takeSet_d f_Nu_clear_d
  rw [start_X h.1 h.2.2.1 h.2.2.2.1, Option.bind_some, h.szX, Option.bind_some]
  simp only [znm_e, Option.bind_some]
  refine zit_inv (fun i (s : Int32 × XSt) => s.1 = nI i ∧ Samd S s.2 ∧ s.2.1 12 = nI i ∧ ∀ p, p < i → s.2.2 14 p = S.2 1 (zstR (aX S) n set + p)) _ (zszR (aX S) n set) ?_ 64 0 _ (Nat.zero_le _) (by omega) ⟨rfl, ⟨fun j hj => zpS_n hj, fun _ _ => rfl⟩, zpS_s, fun p hp => absurd hp (Nat.not_lt_zero p)⟩
  rintro i ⟨v, S1⟩ hi ⟨hv, h1, h2, h3⟩
  simp only at hv h1 h2 h3
  subst hv
  by_cases ci : i < zszR (aX S) n set
  · left
    have hd : f_Re_dataAt S1 (nI (zstR (aX S) n set) + nI i) = some (S.2 1 (zstR (aX S) n set + i)) := by
      have hr := szR_le h.2.2.2.1 set
      rw [nI_add, data_X (S := S1) (n := n) ((h1.1 0 (by decide)).trans h.1) h.2.2.1 (by omega), h1.2 1 (by decide)]
    refine ⟨(nI i + 1, zpS (zpA S1 14 (nI i) (S.2 1 (zstR (aX S) n set + i))) 12 (nI i + 1)), ?_, ci, nI_1 i, ⟨fun j hj => ?_, fun k hk => ?_⟩, ?_, fun p hp => ?_⟩
    · show L_Qu_takeSet_d_26 _ _ (nI i) S1 = _
      unfold L_Qu_takeSet_d_26
      rw [if_neg (nI_ge2 ci (by omega)), hd, Option.bind_some, put_d h2 (by omega), Option.bind_some]
    · rw [zpS_n hj]; exact h1.1 j hj
    · show (zpA S1 14 _ _).2 k = _
      rw [zpA_n hk]; exact h1.2 k hk
    · rw [zpS_s, nI_1]
    · show (zpA S1 14 (nI i) (S.2 1 (zstR (aX S) n set + i))).2 14 p = _
      rw [zpA_s (by omega)]
      by_cases q : p = i
      · rw [if_pos q, q]
      · rw [if_neg q]; exact h3 p (by omega)
  · right
    have e : i = zszR (aX S) n set := by omega
    subst e
    refine ⟨S1, ?_, h1, h2, h3⟩
    show L_Qu_takeSet_d_26 _ _ (nI (zszR (aX S) n set)) S1 = _
    unfold L_Qu_takeSet_d_26
    rw [if_pos (nI_le2 (Nat.le_refl _) (by omega))]
    rfl

theorem sealed_X {S : XSt} {T : MSt} {n z : Nat} (h : RecRel S T n) (h7 : S.1 7 = nI z) (hd : Int32 → Bool) (hD : ∀ w, f_Nu_has_d S w = some (b2 (hd w))) (set : Int32) : ∃ S', f_Qu_takeSealedKeys S set = some S' ∧ Samk S S' ∧ S'.1 13 = nI (zct (fun j => hd (mxs (nI z) (S.2 1 (zstR (aX S) n set + j)))) (zszR (aX S) n set)) ∧ ∀ Q : Int32 → Bool, zct (fun p => Q (S'.2 15 p)) (zct (fun j => hd (mxs (nI z) (S.2 1 (zstR (aX S) n set + j)))) (zszR (aX S) n set)) = zct (fun j => Q (S.2 1 (zstR (aX S) n set + j)) && hd (mxs (nI z) (S.2 1 (zstR (aX S) n set + j)))) (zszR (aX S) n set) := by
  have h48 := szR_48 h set
  obtain ⟨d, hdd⟩ : ∃ d : Nat → Int32, d = fun j => S.2 1 (zstR (aX S) n set + j) := ⟨_, rfl⟩
  have dj : ∀ j, S.2 1 (zstR (aX S) n set + j) = d j := fun j => by rw [hdd]
  simp only [dj]
  unfold f_Qu_takeSealedKeys f_Nu_clear_k
  rw [start_X h.1 h.2.2.1 h.2.2.2.1, Option.bind_some, h.szX, Option.bind_some]
  simp only [znm_e, Option.bind_some]
  refine zit_inv (fun i (s : Int32 × XSt) => s.1 = nI i ∧ Samk S s.2 ∧ s.2.1 13 = nI (zct (fun j => hd (mxs (nI z) (d j))) i) ∧ ∀ Q : Int32 → Bool, zct (fun p => Q (s.2.2 15 p)) (zct (fun j => hd (mxs (nI z) (d j))) i) = zct (fun j => Q (d j) && hd (mxs (nI z) (d j))) i) _ (zszR (aX S) n set) ?_ 64 0 _ (Nat.zero_le _) (by omega) ⟨rfl, ⟨fun j hj => zpS_n hj, fun _ _ => rfl⟩, zpS_s, fun Q => rfl⟩
  rintro i ⟨v, S1⟩ hi ⟨hv, h1, h2, h3⟩
  simp only at hv h1 h2 h3
  subst hv
  have hct := zct_le (fun j => hd (mxs (nI z) (d j))) i
  by_cases ci : i < zszR (aX S) n set
  · left
    have hda : f_Re_dataAt S1 (nI (zstR (aX S) n set) + nI i) = some (d i) := by
      have hr := szR_le h.2.2.2.1 set
      rw [nI_add, data_X (S := S1) (n := n) ((h1.1 0 (by decide)).trans h.1) h.2.2.1 (by omega), h1.2 1 (by decide), dj]
    have h71 : S1.1 7 = nI z := (h1.1 7 (by decide)).trans h7
    have hdn : f_Nu_has_d S1 (mxs (nI z) (d i)) = some (b2 (hd (mxs (nI z) (d i)))) := by rw [hasd_congr (h1.1 12 (by decide)) (h1.2 14 (by decide))]; exact hD _
    have body : LS_Qu_takeSealedKeys_28 (nI (zstR (aX S) n set)) (nI (zszR (aX S) n set)) (nI i, S1) = (if b2 (hd (mxs (nI z) (d i))) = 0 then some (Sum.inl (nI i + 1, S1)) else some (Sum.inl (nI i + 1, zpS (zpA S1 15 (nI (zct (fun j => hd (mxs (nI z) (d j))) i)) (d i)) 13 (nI (zct (fun j => hd (mxs (nI z) (d j))) i) + 1)))) := by
      show L_Qu_takeSealedKeys_28 _ _ (nI i) S1 = _
      unfold L_Qu_takeSealedKeys_28
      rw [if_neg (nI_ge2 ci (by omega)), hda, Option.bind_some, h71, seal_X, Option.bind_some, hdn, Option.bind_some, put_k h2 (by omega), Option.bind_some]
    cases hb : hd (mxs (nI z) (d i)) with
    | false =>
      rw [hb, if_pos (show b2 false = 0 by decide)] at body
      refine ⟨_, body, ci, nI_1 i, h1, ?_, fun Q => ?_⟩
      · rw [zct_s, hb]; exact h2
      · rw [zct_s, hb, zct_s (fun j => Q (d j) && hd (mxs (nI z) (d j))), hb, Bool.and_false]
        exact h3 Q
    | true =>
      rw [hb, if_neg (show ¬ b2 true = 0 by decide)] at body
      refine ⟨_, body, ci, nI_1 i, ⟨fun j hj => ?_, fun k hk => ?_⟩, ?_, fun Q => ?_⟩
      · rw [zpS_n hj]; exact h1.1 j hj
      · show (zpA S1 15 _ _).2 k = _
        rw [zpA_n hk]; exact h1.2 k hk
      · rw [zpS_s, nI_1, zct_s, hb]; rfl
      · rw [zct_s (fun j => hd (mxs (nI z) (d j))), hb, if_pos rfl, zct_s, zct_s (fun j => Q (d j) && hd (mxs (nI z) (d j))), hb, Bool.and_true, ← h3 Q]
        have e1 : ∀ p, (zpS (zpA S1 15 (nI (zct (fun j => hd (mxs (nI z) (d j))) i)) (d i)) 13 (nI (zct (fun j => hd (mxs (nI z) (d j))) i) + 1)).2 15 p = if p = zct (fun j => hd (mxs (nI z) (d j))) i then d i else S1.2 15 p := fun p => by
          show (zpA S1 15 (nI (zct (fun j => hd (mxs (nI z) (d j))) i)) (d i)).2 15 p = _
          rw [zpA_s (by omega)]
        rw [e1, if_pos rfl, zct_congr (P := fun p => Q ((zpS (zpA S1 15 (nI (zct (fun j => hd (mxs (nI z) (d j))) i)) (d i)) 13 (nI (zct (fun j => hd (mxs (nI z) (d j))) i) + 1)).2 15 p)) (P' := fun p => Q (S1.2 15 p)) (fun p hp => by rw [e1, if_neg (by omega)])]
  · right
    have e : i = zszR (aX S) n set := by omega
    subst e
    refine ⟨S1, ?_, h1, h2, h3⟩
    show L_Qu_takeSealedKeys_28 _ _ (nI (zszR (aX S) n set)) S1 = _
    unfold L_Qu_takeSealedKeys_28
    rw [if_pos (nI_le2 (Nat.le_refl _) (by omega))]
    rfl
