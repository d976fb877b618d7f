/-! digests and marks -/
def mx (h : Int64) (x : Int32) : Int64 := ((h ^^^ (Int32.toInt64 x)) * (-7046029254386353131 : Int64)) ^^^ ((((h ^^^ (Int32.toInt64 x)) * (-7046029254386353131 : Int64)).toUInt64 >>> (((30 : Int32)).toInt64.toUInt64 &&& Int64.toUInt64 63)).toInt64)
def mxE (h : Int64) : Int32 := Int64.toInt32 (((h).toUInt64 >>> (((33 : Int32)).toInt64.toUInt64 &&& Int64.toUInt64 63)).toInt64)
theorem nrf {α : Type} {a b : α} (h : a = b) : a = b := h.trans (Eq.refl b)
theorem znm_e {α β : Type} (a : α) (f : α → Option β) : znm a f = f a := nrf rfl
theorem mix_X (h : Int64) (x : Int32) : f_Di_mix h x = some (mx h x) := nrf rfl
theorem end_X (h : Int64) : f_Di_end h = some (mxE h) := nrf rfl
theorem mix_M (T : MSt) (x : Int32) : f_M_mix T x = some (zmL T (mx T.2.2 x)) := nrf rfl
theorem dig_M (T : MSt) : f_M_digest T = some (mxE T.2.2) := nrf rfl
theorem zmL_L {T : MSt} {a b : Int64} : zmL (zmL T a) b = zmL T b := nrf rfl
def mxs (z k : Int32) : Int32 := mxE (mx (mx (mx 0 77) z) k)
theorem seal_X (z k : Int32) : f_Di_sealOf z k = some (mxs z k) := by
  unfold f_Di_sealOf mxs
  simp only [mix_X, end_X, Option.bind_some]
theorem zmL_2 {T : MSt} {a : Int64} : (zmL T a).2.2 = a := nrf rfl
theorem seal_M (T : MSt) (z k : Int32) : f_M_sealOf T z k = some (mxs z k, zmL T (mx (mx (mx 0 77) z) k)) := by
  unfold f_M_sealOf mxs
  simp only [znm_e, mix_M, dig_M, zmL_L, zmL_2, Option.bind_some]
def mxl (h : Int64) (d : Nat → Int32) : Nat → Int64
  | 0 => h
  | k + 1 => mx (mxl h d k) (d k)
def sgN (X lb : Nat) : Int32 := if lb < dp X then stI (ztr X lb) else nI X
/-- what a signature says, on both sides -/
def SigOk (S : XSt) (T : MSt) (s : Nat) : Prop := ∃ X t Z lb, (T.2.1 3 s = nI X ∧ nmP X) ∧ (T.2.1 4 s = nI t ∧ 1 ≤ t ∧ t ≤ 5) ∧ S.2 2 s = nI (stN X t) ∧ (S.2 3 s = nI Z ∧ T.2.1 5 s = nI Z ∧ nmP Z) ∧ S.2 4 s = T.2.1 6 s ∧ (S.2 5 s = nI lb ∧ T.2.1 7 s = nI lb ∧ lb ≤ dp X) ∧ S.2 6 s = T.2.1 8 s ∧ S.2 7 s = T.2.1 9 s ∧ S.2 8 s = sgN X lb
def mkV0 (S : XSt) (n s : Nat) (t : Nat) : Int32 := mxE (mxl (mx (mx (mx (mx (mx (mx (mx 0 (S.2 4 s)) (S.2 3 s)) (nI t)) (S.2 5 s)) (S.2 6 s)) (S.2 7 s)) (S.2 8 s)) (fun k => S.2 1 (zstR (aX S) n (S.2 2 s) + k)) (zszR (aX S) n (S.2 2 s)))
theorem markLoop_X {S : XSt} {T : MSt} {n : Nat} (h : RecRel S T n) (set : Int32) (h0 : Int64) : zit (LS_Si_markNow_113 S (nI (zstR (aX S) n set)) (nI (zszR (aX S) n set))) 64 (h0, 0) = some (mxE (mxl h0 (fun k => S.2 1 (zstR (aX S) n set + k)) (zszR (aX S) n set))) := by
  have h48 := szR_48 h set
  refine zit_seq (zszR (aX S) n set) 64 (fun k => (mxl h0 (fun k => S.2 1 (zstR (aX S) n set + k)) k, nI k)) (fun k hk => ?_) ?_ (by omega)
  · show L_Si_markNow_113 S _ _ (mxl h0 (fun k => S.2 1 (zstR (aX S) n set + k)) k) (nI k) = _
    unfold L_Si_markNow_113
    rw [if_neg (nI_ge2 hk (by omega)), kth_X h.1 h.2.2.1 h.2.2.2.1 set hk]
    simp only [Option.bind_some, mix_X, nI_1]
    rfl
  · show L_Si_markNow_113 S _ _ (mxl h0 (fun k => S.2 1 (zstR (aX S) n set + k)) (zszR (aX S) n set)) (nI (zszR (aX S) n set)) = _
    unfold L_Si_markNow_113
    rw [if_pos (nI_le2 (Nat.le_refl _) (by omega))]
    rfl
theorem RecRel.mL {S : XSt} {T : MSt} {n : Nat} (h : RecRel S T n) (z : Int64) : RecRel S (zmL T z) n := h.of rfl rfl rfl rfl rfl rfl rfl
theorem markLoop_M {S : XSt} {T : MSt} {n s X t : Nat} (h : RecRel S T n) (hs : s < 32) (hX : nmP X) (ht : t < 8) (e4 : T.2.1 4 s = nI t) (h0 : Int64) : zit (LS_M_markOf_121 (nI s) (nI X) (nI (zszR (aX S) n (nI (stN X t))))) 64 (0, zmL T h0) = some (mxE (mxl h0 (fun k => S.2 1 (zstR (aX S) n (nI (stN X t)) + k)) (zszR (aX S) n (nI (stN X t)))), zmL T (mxl h0 (fun k => S.2 1 (zstR (aX S) n (nI (stN X t)) + k)) (zszR (aX S) n (nI (stN X t))))) := by
  have h48 := szR_48 h (nI (stN X t))
  have z1 : zin (nI s) 32 = true := zin_2 hs (by omega)
  refine zit_seq (zszR (aX S) n (nI (stN X t))) 64 (fun k => (nI k, zmL T (mxl h0 (fun k => S.2 1 (zstR (aX S) n (nI (stN X t)) + k)) k))) (fun k hk => ?_) ?_ (by omega)
  · show L_M_markOf_121 (nI s) (nI X) _ (nI k) (zmL T (mxl h0 (fun k => S.2 1 (zstR (aX S) n (nI (stN X t)) + k)) k)) = _
    unfold L_M_markOf_121
    have e4' : (zmL T (mxl h0 (fun k => S.2 1 (zstR (aX S) n (nI (stN X t)) + k)) k)).2.1 4 s = nI t := e4
    rw [if_neg (nI_ge2 hk (by omega)), zgd_t z1, nI_c2 (by omega), e4', (h.mL _).kth hX ht hk]
    simp only [Option.bind_some, mix_M, nI_1]
    rfl
  · show L_M_markOf_121 (nI s) (nI X) _ (nI (zszR (aX S) n (nI (stN X t)))) (zmL T (mxl h0 (fun k => S.2 1 (zstR (aX S) n (nI (stN X t)) + k)) (zszR (aX S) n (nI (stN X t))))) = _
    unfold L_M_markOf_121
    rw [if_pos (nI_le2 (Nat.le_refl _) (by omega))]
    rfl
/-- the mark is the same -/
theorem mark_both {S : XSt} {T : MSt} {n s : Nat} (h : RecRel S T n) (hs : s < 32) (hk : SigOk S T s) : ∃ v z, f_Si_markNow S (nI s) = some v ∧ f_M_markOf T (nI s) = some (v, zmL T z) := by
  obtain ⟨X, t, Z, lb, ⟨a1, a2⟩, ⟨b1, b2, b3⟩, c1, ⟨d1, d2, d3⟩, e1, ⟨f1, f2, f3⟩, g1, g2, g3⟩ := hk
  have z1 : zin (nI s) 32 = true := zin_2 hs (by omega)
  have ht : t < 8 := by omega
  have hX := a2.1
  have l1 := dp_le X
  have hstart : f_Re_startOf S (S.2 2 s) = some (nI (zstR (aX S) n (S.2 2 s))) := start_X h.1 h.2.2.1 h.2.2.2.1 _
  have htyp : f_Na_typeOf (S.2 2 s) = some (nI t) := by rw [c1]; exact typ_X hX ht
  obtain ⟨v, hv⟩ : ∃ v, v = mxE (mxl (mx (mx (mx (mx (mx (mx (mx 0 (S.2 4 s)) (S.2 3 s)) (nI t)) (S.2 5 s)) (S.2 6 s)) (S.2 7 s)) (S.2 8 s)) (fun k => S.2 1 (zstR (aX S) n (S.2 2 s) + k)) (zszR (aX S) n (S.2 2 s))) := ⟨_, rfl⟩
  have hc : f_Si_markNow S (nI s) = some v := by
    unfold f_Si_markNow
    rw [nI_c2 (by omega)]
    simp only [zgd_t z1, mix_X, htyp, hstart, h.szX, Option.bind_some]
    rw [markLoop_X h, hv]
  refine ⟨v, mxl (mx (mx (mx (mx (mx (mx (mx 0 (S.2 4 s)) (S.2 3 s)) (nI t)) (S.2 5 s)) (S.2 6 s)) (S.2 7 s)) (S.2 8 s)) (fun k => S.2 1 (zstR (aX S) n (S.2 2 s) + k)) (zszR (aX S) n (S.2 2 s)), hc, ?_⟩
  unfold f_M_markOf
  rw [nI_c2 (by omega), a1, b1]
  have m4 : ∀ z, (zmL T z).2.1 4 s = nI t := fun z => b1
  have m5 : ∀ z, (zmL T z).2.1 5 s = S.2 3 s := fun z => d2.trans d1.symm
  have m6 : ∀ z, (zmL T z).2.1 6 s = S.2 4 s := fun z => e1.symm
  have m7 : ∀ z, (zmL T z).2.1 7 s = S.2 5 s := fun z => f2.trans f1.symm
  have m8 : ∀ z, (zmL T z).2.1 8 s = S.2 6 s := fun z => g1.symm
  have m9 : ∀ z, (zmL T z).2.1 9 s = S.2 7 s := fun z => g2.symm
  have mL : ∀ z, (zmL T z).2.2 = z := fun z => rfl
  simp only [zgd_t z1, h.szM a2 ht, znm_e, mix_M, zmL_L, m4, m5, m6, m7, m8, m9, mL, depth_M hX, Option.bind_some]
  have hle : nI (dp X) ≤ nI lb ↔ dp X ≤ lb := nI_leI (by omega) (by omega)
  rw [f1]
  have e8 : S.2 8 s = sgN X lb := g3
  rw [hv, f1, e8, c1]
  unfold sgN
  by_cases c : dp X ≤ lb
  · rw [if_pos (hle.mpr c), if_neg (show ¬ lb < dp X by omega), markLoop_M h hs a2 ht b1]
  · rw [if_neg (fun z => c (hle.mp z)), if_pos (show lb < dp X by omega), cut_M hX (show lb ≤ 4 by omega)]
    simp only [Option.bind_some, star_M (ztr_lt hX)]
    rw [markLoop_M h hs a2 ht b1]
