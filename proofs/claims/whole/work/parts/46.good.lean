/-! what is asked: good signatures on both sides -/
def b2 (b : Bool) : Int32 := if b then 1 else 0
theorem b2_0 {b : Bool} : b2 b = 0 ↔ b = false := by cases b <;> decide
theorem b2_z (b : Bool) : zib (b2 b) = true := by cases b <;> decide
theorem b2_n (b : Bool) : vp_nar .boolean (b2 b) = b2 b := by cases b <;> decide
def Base (S : XSt) (T : MSt) (n c a : Nat) : Prop := RecRel S T n ∧ SigRel S T c ∧ AncRel S T a
def CoreX (S S' : XSt) : Prop := (∀ j, j ≤ 5 → S'.1 j = S.1 j) ∧ ∀ k, k ≤ 9 ∨ k = 12 ∨ k = 13 → S'.2 k = S.2 k
def CoreM (T T' : MSt) : Prop := (∀ j, j ≤ 5 → T'.1 j = T.1 j) ∧ ∀ k, k ≤ 12 → T'.2.1 k = T.2.1 k
theorem CoreX.rf {S : XSt} : CoreX S S := ⟨fun _ _ => rfl, fun _ _ => rfl⟩
theorem CoreM.rf {S : MSt} : CoreM S S := ⟨fun _ _ => rfl, fun _ _ => rfl⟩
theorem CoreX.tr {S S' S'' : XSt} (h : CoreX S S') (h' : CoreX S' S'') : CoreX S S'' := ⟨fun j hj => (h'.1 j hj).trans (h.1 j hj), fun k hk => (h'.2 k hk).trans (h.2 k hk)⟩
theorem CoreM.tr {S S' S'' : MSt} (h : CoreM S S') (h' : CoreM S' S'') : CoreM S S'' := ⟨fun j hj => (h'.1 j hj).trans (h.1 j hj), fun k hk => (h'.2 k hk).trans (h.2 k hk)⟩
theorem Base.core {S S' : XSt} {T T' : MSt} {n c a : Nat} (h : Base S T n c a) (hX : CoreX S S') (hM : CoreM T T') : Base S' T' n c a :=
  ⟨h.1.of (hX.1 0 (by decide)) (hX.2 0 (by omega)) (hX.2 1 (by omega)) (hM.1 0 (by decide)) (hM.2 0 (by decide)) (hM.2 1 (by decide)) (hM.2 2 (by decide)),
   h.2.1.of (fun j j1 j2 => hX.1 j (by omega)) (fun k k1 k2 => hX.2 k (by omega)) (hM.1 1 (by decide)) (hM.1 2 (by decide)) (hM.1 3 (by decide)) (hM.1 5 (by decide)) (fun k k1 k2 => hM.2 k (by omega)),
   h.2.2.of (hX.1 5 (by decide)) (hX.2 12 (by omega)) (hX.2 13 (by omega)) (hM.1 4 (by decide)) (hM.2 11 (by decide)) (hM.2 12 (by decide))⟩
theorem CoreM.mL {T : MSt} {w : Int64} : CoreM T (zmL T w) := ⟨fun _ _ => rfl, fun _ _ => rfl⟩
theorem zmL_eta {T : MSt} : zmL T T.2.2 = T := nrf rfl
def KeyEq (S : XSt) (T : MSt) : Prop := ∀ v : Int32, ∃ b, f_Nu_has_k S v = some (b2 b) ∧ ∀ w0, ∃ w, f_M_counts (zmL T w0) v = some (b2 b, zmL T w)
theorem KeyEq.mL {S : XSt} {T : MSt} (h : KeyEq S T) (w : Int64) : KeyEq S (zmL T w) := fun v => by
  obtain ⟨b, h1, h2⟩ := h v
  exact ⟨b, h1, fun w0 => by simpa only [zmL_L] using h2 w0⟩
theorem good_both {S : XSt} {T : MSt} {n c a z s : Nat} (hB : Base S T n c a) (hz : nmP z) (hh : f_M_here T = some (nI z)) (hK : KeyEq S T) (hs : s < c) : ∃ b w, f_Si_isGood S (nI s) (nI z) = some (b2 b) ∧ f_M_isGood T (nI s) = some (b2 b, zmL T w) ∧ (b = true → ∃ X t, T.2.1 3 s = nI X ∧ nmP X ∧ T.2.1 4 s = nI t ∧ t < 8 ∧ 0 < zszR (aX S) n (nI (stN X t))) := by
  obtain ⟨h1, ⟨k1, k2, k3, k4, k5, k6, k7⟩, h3⟩ := hB
  obtain ⟨⟨X, t, Z, lb, ⟨a1, a2⟩, ⟨b1, b2', b3⟩, c1, ⟨d1, d2, d3⟩, e1, ⟨f1, f2, f3⟩, g1, g2, g3⟩, hmk⟩ := k7 s hs
  have hok : SigOk S T s := ⟨X, t, Z, lb, ⟨a1, a2⟩, ⟨b1, b2', b3⟩, c1, ⟨d1, d2, d3⟩, e1, ⟨f1, f2, f3⟩, g1, g2, g3⟩
  have z1 : zin (nI s) 32 = true := zin_2 (by omega) (by omega)
  have ht : t < 8 := by omega
  have h48 := szR_48 h1 (nI (stN X t))
  obtain ⟨bk, m1, m2⟩ := hK (T.2.1 6 s)
  obtain ⟨w, m2⟩ := m2 T.2.2
  rw [zmL_eta] at m2
  obtain ⟨v, w2, p1, p2⟩ := mark_both (h1.mL w) (show s < 32 by omega) (hok.of (T' := zmL T w) (fun _ _ _ => rfl) (fun _ _ _ => rfl))
  -- what is left when signer and owner fit
  have rest : ∃ b w, Option.bind (f_Nu_has_k S (S.2 4 s)) (fun x10 => (if x10 = (0 : Int32) then some (0 : Int32) else zgd (zin (nI s) 32) ((if (S.1 4) < (S.2 6 s) then some (0 : Int32) else zgd (zin (nI s) 32) ((if (S.2 7 s) < (S.1 4) then some (0 : Int32) else zgd (zin (nI s) 32) (Option.bind (f_Re_sizeOf S (S.2 2 s)) (fun x18 => (if x18 ≤ (0 : Int32) then some (0 : Int32) else zgd (zin (nI s) 32) (Option.bind (f_Si_markNow S (nI s)) (fun x22 => (if (S.2 9 s) = x22 then some (1 : Int32) else some (0 : Int32))))))))))))) = some (b2 b) ∧ J_M_isGood_40 T (nI s) (nI X) (1 : Int32) = some (b2 b, zmL T w) ∧ (b = true → 0 < zszR (aX S) n (nI (stN X t))) := by
    unfold J_M_isGood_40
    rw [if_neg (show ¬ (1 : Int32) = 0 by decide), zgd_t z1, nI_c2 (by omega), e1, m1, m2, Option.bind_some, Option.bind_some]
    simp only [zgd_t z1]
    cases bk with
    | false => exact ⟨false, w, by rw [if_pos (show b2 false = 0 by decide)]; rfl, by rw [if_pos (show b2 false = 0 by decide)]; rfl, fun h => by cases h⟩
    | true =>
      rw [if_neg (show ¬ b2 true = 0 by decide), if_neg (show ¬ b2 true = 0 by decide)]
      have r5 : (zmL T w).1 5 = S.1 4 := k6.symm
      have r8 : (zmL T w).2.1 8 s = S.2 6 s := g1.symm
      have r9 : (zmL T w).2.1 9 s = S.2 7 s := g2.symm
      have r4 : (zmL T w).2.1 4 s = nI t := b1
      have r10 : (zmL T w).2.1 10 s = S.2 9 s := hmk.symm
      rw [r5, r8, r9, r4, r10]
      by_cases q1 : S.1 4 < S.2 6 s
      · exact ⟨false, w, by rw [if_pos q1]; rfl, by rw [if_pos q1]; rfl, fun h => by cases h⟩
      rw [if_neg q1, if_neg q1]
      by_cases q2 : S.2 7 s < S.1 4
      · exact ⟨false, w, by rw [if_pos q2]; rfl, by rw [if_pos q2]; rfl, fun h => by cases h⟩
      rw [if_neg q2, if_neg q2, c1, h1.szX, (h1.mL w).szM a2 ht, Option.bind_some, Option.bind_some]
      by_cases q3 : nI (zszR (aX S) n (nI (stN X t))) ≤ 0
      · exact ⟨false, w, by rw [if_pos q3]; rfl, by rw [if_pos q3]; rfl, fun h => by cases h⟩
      rw [if_neg q3, if_neg q3, p1, p2, Option.bind_some, Option.bind_some, zmL_L]
      have q4 : 0 < zszR (aX S) n (nI (stN X t)) := by
        rw [le0 (by omega)] at q3
        omega
      by_cases q5 : S.2 9 s = v
      · exact ⟨true, w2, by rw [if_pos q5]; rfl, by rw [if_pos q5]; rfl, fun _ => q4⟩
      · exact ⟨false, w2, by rw [if_neg q5]; rfl, by rw [if_neg q5]; rfl, fun h => by cases h⟩
  obtain ⟨b, w', r1, r2, r3⟩ := rest
  unfold f_Si_isGood f_M_isGood
  rw [hh, Option.bind_some, nI_c2 (by omega), a1, d1, d2, c1, own_X a2.1 ht]
  simp only [zgd_t z1, Option.bind_some]
  rw [c1] at r1
  simp only [zgd_t z1] at r1
  by_cases u1 : Z = z
  · subst u1
    rw [if_pos rfl, if_pos rfl, above_X d3.1 a2.1, above_M d3.1 a2.1]
    simp only [Option.bind_some]
    by_cases u2 : ztr X (dp Z) = Z
    · rw [if_pos u2, if_neg (show ¬ (1 : Int32) = 0 by decide)]
      refine ⟨b, w', r1, ?_, fun hb => ⟨X, t, rfl, a2, b1, ht, r3 hb⟩⟩
      by_cases u3 : nI Z = nI X
      · rw [if_pos u3]; exact r2
      · rw [if_neg u3]
        have u4 : dp Z < dp X ∧ ztr X (dp Z) = Z := ((above_iff d3 a2).mp u2).resolve_left (fun q => u3 (by rw [q]))
        rw [if_pos u4, if_neg (show ¬ (1 : Int32) = 0 by decide)]
        exact r2
    · rw [if_neg u2, if_pos rfl]
      refine ⟨false, T.2.2, rfl, ?_, fun hb => by cases hb⟩
      have u3 : ¬ nI Z = nI X := fun q => u2 ((above_iff d3 a2).mpr (Or.inl (nI_inj (by have := d3.1; omega) (by have := a2.1; omega) q)))
      have u4 : ¬ (dp Z < dp X ∧ ztr X (dp Z) = Z) := fun q => u2 q.2
      rw [if_neg u3, if_neg u4, if_pos rfl]
      rfl
  · have u2 : ¬ nI Z = nI z := fun q => u1 (nI_inj (by have := d3.1; omega) (by have := hz.1; omega) q)
    rw [if_neg u2, if_neg u2]
    exact ⟨false, T.2.2, rfl, rfl, fun hb => by cases hb⟩
