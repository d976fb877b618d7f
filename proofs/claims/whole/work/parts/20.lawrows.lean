/-! two worlds side by side, as the law has them -/
def Own (A1 : Nat → Prop) (w1 : va_W) : Prop := (∀ q, A1 q → ∃ (i : Nat) (e : va_E), w1[i]? = some (q, e)) ∧ ∀ (i : Nat) (q : Nat × va_E), w1[i]? = some q → A1 q.1
theorem ap_l {w1 w2 : va_W} {i : Nat} {q : Nat × va_E} (h : w1[i]? = some q) : (w1 ++ w2)[i]? = some q := by
  rw [List.getElem?_append_left (List.getElem?_eq_some_iff.mp h).1]; exact h
theorem ap_r {w1 w2 : va_W} {i : Nat} {q : Nat × va_E} (h : w2[i]? = some q) : (w1 ++ w2)[w1.length + i]? = some q := by
  rw [List.getElem?_append_right (by omega), Nat.add_sub_cancel_left]; exact h
section LR
variable {p : Program} {l : Launch} {e : Env} {R : Room} {s : State} {m : MethodId} {args : Array Value} {below : List Frame} {meth : Method} {c : Code} {H : Heap} {locs : List Loc} {cells slots : Nat} {Q : State → Prop}
variable {cc : ByteArray} {nL k pc : Nat} {own : String} {ls : Array Slot} {rest : List Value} {D : va_G} {tys : List (ClassId × FieldType)} {A A1 : Nat → Prop} {w1 w1' w2 w2' : va_W} {a : Nat}
variable {y : MethodName} {bytes : ByteArray} {n k' N idx b : Nat} {ret : Option FieldType} {As st : List Value} {r : Int32}
theorem Own.notin (hO : Own A1 w1) (hD : va_D A (w1 ++ w2)) {j : Nat} {q : Nat × va_E} (h : w2[j]? = some q) : ¬ A1 q.1 := by
  intro hA
  obtain ⟨i, x, hi⟩ := hO.1 _ hA
  have h1 := hD.1 i (w1.length + j) (q.1, x) q (ap_l hi) (ap_r h) rfl
  have h2 := (List.getElem?_eq_some_iff.mp hi).1
  omega
theorem Own.notin2 (hO : Own A1 w2) (hD : va_D A (w1 ++ w2)) {j : Nat} {q : Nat × va_E} (h : w1[j]? = some q) : ¬ A1 q.1 := by
  intro hA
  obtain ⟨i, x, hi⟩ := hO.1 _ hA
  have h1 := hD.1 j (w1.length + i) q (q.1, x) (ap_l h) (ap_r hi) rfl
  have h2 := (List.getElem?_eq_some_iff.mp h).1
  omega
theorem j_call1 (C : Cw p m c cc nL s args own R k) (hM : MetI l y bytes n ret k' (.ref b :: As) D tys A1 w1 r w1') (F : CallF y bytes n ret N) (hl : Cond.methodLink own idx y ∈ TB) (hk : k' + 1 ≤ k) (hP : Pw D tys A s (w1 ++ w2) H locs) (hO : Own A1 w1) (hO' : Own A1 w1') (hobj : zObj w1 b y.cls) (hN : As.length = N) (hsize : ls.size = nL) (hst : st = As.reverse ++ .ref b :: rest) (hW : (rest.map fun v => v.category).sum ≤ 8) (hdg : decode cc pc = .ok (.invokevirtual idx, 3)) (hcs : cells ≤ R.cells ∧ slots ≤ R.slots)
    (kk : ∀ (H : Heap) (locs : List Loc), Pw D tys A s (w1' ++ w2) H locs → W p l e R s m args below meth c H locs cells slots Q (F0 m (pc + 3) ls (.int r :: rest))) : W p l e R s m args below meth c H locs cells slots Q (F0 m pc ls st) := by
  obtain ⟨q0, ci, fs, T, Nf, h1, h2⟩ := hobj
  subst hst
  obtain ⟨gP, gD, gS, gK, gN⟩ := hP
  have hP1 : va_P D vwCl w1 H := fun i q h => gP i q (ap_l h)
  have hD1 : va_D A1 w1 := ⟨fun i j x z hi hj e => gD.1 i j x z (ap_l hi) (ap_l hj) e, hO.2⟩
  have hin : ∀ q, A1 q → A q := fun q h => by
    obtain ⟨i, x, hi⟩ := hO.1 q h
    exact gD.2 i _ (ap_l hi)
  refine va_calli (va_runV (As := As) (rest := rest) C.fix hM (C.callV F hl hk) ⟨Bw.blind, va_recv gK hP1 h2 h1, fun U hU hW => ⟨rfl, by rw [hU]; exact hP1, va_K.moved hW.alike gK, hD1, Nst.warm hW gN⟩⟩ rfl hN hsize rfl (lv_room hW) hdg hcs) gS (fun q _ h => hin q h) (fun q h => hin q h) (fun r' u t H1 locs1 ht hvm hp hB hz1 hk1 hS => ?_)
  have hp : r' = r := hp
  subst hp
  refine kk H1 locs1 ⟨va_P.app (by rw [← ht]; exact hB.1) (fun i q h => ?_), va_D.app ⟨hB.2.2.1.1, fun i q h => hin _ (hO'.2 i q h)⟩ ⟨fun i j x z hi hj e => ?_, fun i q h => gD.2 _ _ (ap_r h)⟩ (fun i j x z hx hz e => ?_), hS, gK, gN⟩
  · have g := gP _ q (ap_r h)
    exact g.kept (hk1 q.1 g.lt (hO.notin gD h))
  · have := gD.1 _ _ x z (ap_r hi) (ap_r hj) e
    omega
  · exact hO.notin gD hz (by rw [← e]; exact hO'.2 i x hx)
theorem j_call2 (C : Cw p m c cc nL s args own R k) (hM : MetI l y bytes n ret k' (.ref b :: As) D tys A1 w2 r w2') (F : CallF y bytes n ret N) (hl : Cond.methodLink own idx y ∈ TB) (hk : k' + 1 ≤ k) (hP : Pw D tys A s (w1 ++ w2) H locs) (hO : Own A1 w2) (hO' : Own A1 w2') (hobj : zObj w2 b y.cls) (hN : As.length = N) (hsize : ls.size = nL) (hst : st = As.reverse ++ .ref b :: rest) (hW : (rest.map fun v => v.category).sum ≤ 8) (hdg : decode cc pc = .ok (.invokevirtual idx, 3)) (hcs : cells ≤ R.cells ∧ slots ≤ R.slots)
    (kk : ∀ (H : Heap) (locs : List Loc), Pw D tys A s (w1 ++ w2') H locs → W p l e R s m args below meth c H locs cells slots Q (F0 m (pc + 3) ls (.int r :: rest))) : W p l e R s m args below meth c H locs cells slots Q (F0 m pc ls st) := by
  obtain ⟨q0, ci, fs, T, Nf, h1, h2⟩ := hobj
  subst hst
  obtain ⟨gP, gD, gS, gK, gN⟩ := hP
  have hP1 : va_P D vwCl w2 H := fun i q h => gP _ q (ap_r h)
  have hD1 : va_D A1 w2 := ⟨fun i j x z hi hj e => by
    have := gD.1 _ _ x z (ap_r hi) (ap_r hj) e
    omega, hO.2⟩
  have hin : ∀ q, A1 q → A q := fun q h => by
    obtain ⟨i, x, hi⟩ := hO.1 q h
    exact gD.2 _ _ (ap_r hi)
  refine va_calli (va_runV (As := As) (rest := rest) C.fix hM (C.callV F hl hk) ⟨Bw.blind, va_recv gK hP1 h2 h1, fun U hU hW => ⟨rfl, by rw [hU]; exact hP1, va_K.moved hW.alike gK, hD1, Nst.warm hW gN⟩⟩ rfl hN hsize rfl (lv_room hW) hdg hcs) gS (fun q _ h => hin q h) (fun q h => hin q h) (fun r' u t H1 locs1 ht hvm hp hB hz1 hk1 hS => ?_)
  have hp : r' = r := hp
  subst hp
  refine kk H1 locs1 ⟨va_P.app (fun i q h => ?_) (by rw [← ht]; exact hB.1), va_D.app ⟨fun i j x z hi hj e => gD.1 i j x z (ap_l hi) (ap_l hj) e, fun i q h => gD.2 _ _ (ap_l h)⟩ ⟨hB.2.2.1.1, fun i q h => hin _ (hO'.2 i q h)⟩ (fun i j x z hx hz e => ?_), hS, gK, gN⟩
  · have g := gP _ q (ap_l h)
    exact g.kept (hk1 q.1 g.lt (hO.notin2 gD h))
  · exact hO.notin2 gD hx (by rw [e]; exact hO'.2 j z hz)
/-- a read of the script -/
theorem j_sld {b L j i : Nat} {kk : Int32} {xs : Nat → Int32} (hx : p.tables.exec = Jvm.exec) (hb : c.code = cc) (hX : va_X b L xs s s.heap) (hbl : b < s.heap.size) (hA : ∀ q, A q → s.heap.size ≤ q) (hP : Pw D tys A s w1 H locs) (hkk : kk = nI i) (h : j + i < L) (hL : L ≤ 3072) (hdg : decode cc pc = .ok (.iaload, 1))
    (k2 : W p l e R s m args below meth c H locs cells slots Q (F0 m (pc + 1) ls (.int (xs (j + i)) :: rest))) : W p l e R s m args below meth c H locs cells slots Q (F0 m pc ls (.int (nI j + kk) :: .ref b :: rest)) := by
  have e : nI j + kk = nI (j + i) := by rw [hkk, nI_add]
  rw [e]
  refine va_sld hx hb hX hbl (fun h => Nat.lt_irrefl _ (Nat.lt_of_lt_of_le hbl (hA b h))) hP.2.2.1 (vp_in_nI h (by omega)) hdg ?_
  rw [nI_clamp (by omega)]
  exact k2
theorem j_sld0 {b L j : Nat} {xs : Nat → Int32} (hx : p.tables.exec = Jvm.exec) (hb : c.code = cc) (hX : va_X b L xs s s.heap) (hbl : b < s.heap.size) (hA : ∀ q, A q → s.heap.size ≤ q) (hP : Pw D tys A s w1 H locs) (h : j < L) (hL : L ≤ 3072) (hdg : decode cc pc = .ok (.iaload, 1))
    (k2 : W p l e R s m args below meth c H locs cells slots Q (F0 m (pc + 1) ls (.int (xs j) :: rest))) : W p l e R s m args below meth c H locs cells slots Q (F0 m pc ls (.int (nI j) :: .ref b :: rest)) := by
  refine va_sld hx hb hX hbl (fun h => Nat.lt_irrefl _ (Nat.lt_of_lt_of_le hbl (hA b h))) hP.2.2.1 (vp_in_nI h (by omega)) hdg ?_
  rw [nI_clamp (by omega)]
  exact k2
theorem j_slen {b L : Nat} {xs : Nat → Int32} (hx : p.tables.exec = Jvm.exec) (hb : c.code = cc) (hX : va_X b L xs s s.heap) (hbl : b < s.heap.size) (hA : ∀ q, A q → s.heap.size ≤ q) (hP : Pw D tys A s w1 H locs) (hdg : decode cc pc = .ok (.arraylength, 1))
    (k2 : W p l e R s m args below meth c H locs cells slots Q (F0 m (pc + 1) ls (.int (nI L) :: rest))) : W p l e R s m args below meth c H locs cells slots Q (F0 m pc ls (.ref b :: rest)) :=
  va_slen hx hb hX hbl (fun h => Nat.lt_irrefl _ (Nat.lt_of_lt_of_le hbl (hA b h))) hP.2.2.1 hdg k2
end LR
set_option maxRecDepth 100000 in
theorem ownX (G : XG) (S : XSt) : Own (zAX G) (wX G S) := by
  constructor
  · rintro q ⟨k, hk, rfl⟩
    rcases (show k = 0 ∨ k = 1 ∨ k = 2 ∨ k = 3 ∨ k = 4 ∨ k = 5 ∨ k = 6 ∨ k = 7 ∨ k = 8 ∨ k = 9 ∨ k = 10 ∨ k = 11 ∨ k = 12 ∨ k = 13 ∨ k = 14 ∨ k = 15 ∨ k = 16 ∨ k = 17 ∨ k = 18 ∨ k = 19 ∨ k = 20 ∨ k = 21 ∨ k = 22 ∨ k = 23 by omega) with rfl | rfl | rfl | rfl | rfl | rfl | rfl | rfl | rfl | rfl | rfl | rfl | rfl | rfl | rfl | rfl | rfl | rfl | rfl | rfl | rfl | rfl | rfl | rfl
    · exact ⟨0, _, rfl⟩
    · exact ⟨1, _, rfl⟩
    · exact ⟨2, _, rfl⟩
    · exact ⟨3, _, rfl⟩
    · exact ⟨4, _, rfl⟩
    · exact ⟨5, _, rfl⟩
    · exact ⟨6, _, rfl⟩
    · exact ⟨7, _, rfl⟩
    · exact ⟨8, _, rfl⟩
    · exact ⟨9, _, rfl⟩
    · exact ⟨10, _, rfl⟩
    · exact ⟨11, _, rfl⟩
    · exact ⟨12, _, rfl⟩
    · exact ⟨13, _, rfl⟩
    · exact ⟨14, _, rfl⟩
    · exact ⟨15, _, rfl⟩
    · exact ⟨16, _, rfl⟩
    · exact ⟨17, _, rfl⟩
    · exact ⟨18, _, rfl⟩
    · exact ⟨19, _, rfl⟩
    · exact ⟨20, _, rfl⟩
    · exact ⟨21, _, rfl⟩
    · exact ⟨22, _, rfl⟩
    · exact ⟨23, _, rfl⟩
  · intro i q h
    have hi : i < 24 := (List.getElem?_eq_some_iff.mp h).1
    rcases (show i = 0 ∨ i = 1 ∨ i = 2 ∨ i = 3 ∨ i = 4 ∨ i = 5 ∨ i = 6 ∨ i = 7 ∨ i = 8 ∨ i = 9 ∨ i = 10 ∨ i = 11 ∨ i = 12 ∨ i = 13 ∨ i = 14 ∨ i = 15 ∨ i = 16 ∨ i = 17 ∨ i = 18 ∨ i = 19 ∨ i = 20 ∨ i = 21 ∨ i = 22 ∨ i = 23 by omega) with rfl | rfl | rfl | rfl | rfl | rfl | rfl | rfl | rfl | rfl | rfl | rfl | rfl | rfl | rfl | rfl | rfl | rfl | rfl | rfl | rfl | rfl | rfl | rfl
    · cases h; exact ⟨0, by decide, rfl⟩
    · cases h; exact ⟨1, by decide, rfl⟩
    · cases h; exact ⟨2, by decide, rfl⟩
    · cases h; exact ⟨3, by decide, rfl⟩
    · cases h; exact ⟨4, by decide, rfl⟩
    · cases h; exact ⟨5, by decide, rfl⟩
    · cases h; exact ⟨6, by decide, rfl⟩
    · cases h; exact ⟨7, by decide, rfl⟩
    · cases h; exact ⟨8, by decide, rfl⟩
    · cases h; exact ⟨9, by decide, rfl⟩
    · cases h; exact ⟨10, by decide, rfl⟩
    · cases h; exact ⟨11, by decide, rfl⟩
    · cases h; exact ⟨12, by decide, rfl⟩
    · cases h; exact ⟨13, by decide, rfl⟩
    · cases h; exact ⟨14, by decide, rfl⟩
    · cases h; exact ⟨15, by decide, rfl⟩
    · cases h; exact ⟨16, by decide, rfl⟩
    · cases h; exact ⟨17, by decide, rfl⟩
    · cases h; exact ⟨18, by decide, rfl⟩
    · cases h; exact ⟨19, by decide, rfl⟩
    · cases h; exact ⟨20, by decide, rfl⟩
    · cases h; exact ⟨21, by decide, rfl⟩
    · cases h; exact ⟨22, by decide, rfl⟩
    · cases h; exact ⟨23, by decide, rfl⟩
set_option maxRecDepth 100000 in
theorem ownM (G : XG) (S : MSt) : Own (zAM G) (wM G S) := by
  constructor
  · rintro q ⟨k, hk, rfl⟩
    rcases (show k = 0 ∨ k = 1 ∨ k = 2 ∨ k = 3 ∨ k = 4 ∨ k = 5 ∨ k = 6 ∨ k = 7 ∨ k = 8 ∨ k = 9 ∨ k = 10 ∨ k = 11 ∨ k = 12 ∨ k = 13 ∨ k = 14 by omega) with rfl | rfl | rfl | rfl | rfl | rfl | rfl | rfl | rfl | rfl | rfl | rfl | rfl | rfl | rfl
    · exact ⟨0, _, rfl⟩
    · exact ⟨1, _, rfl⟩
    · exact ⟨2, _, rfl⟩
    · exact ⟨3, _, rfl⟩
    · exact ⟨4, _, rfl⟩
    · exact ⟨5, _, rfl⟩
    · exact ⟨6, _, rfl⟩
    · exact ⟨7, _, rfl⟩
    · exact ⟨8, _, rfl⟩
    · exact ⟨9, _, rfl⟩
    · exact ⟨10, _, rfl⟩
    · exact ⟨11, _, rfl⟩
    · exact ⟨12, _, rfl⟩
    · exact ⟨13, _, rfl⟩
    · exact ⟨14, _, rfl⟩
  · intro i q h
    have hi : i < 15 := (List.getElem?_eq_some_iff.mp h).1
    rcases (show i = 0 ∨ i = 1 ∨ i = 2 ∨ i = 3 ∨ i = 4 ∨ i = 5 ∨ i = 6 ∨ i = 7 ∨ i = 8 ∨ i = 9 ∨ i = 10 ∨ i = 11 ∨ i = 12 ∨ i = 13 ∨ i = 14 by omega) with rfl | rfl | rfl | rfl | rfl | rfl | rfl | rfl | rfl | rfl | rfl | rfl | rfl | rfl | rfl
    · cases h; exact ⟨0, by decide, rfl⟩
    · cases h; exact ⟨1, by decide, rfl⟩
    · cases h; exact ⟨2, by decide, rfl⟩
    · cases h; exact ⟨3, by decide, rfl⟩
    · cases h; exact ⟨4, by decide, rfl⟩
    · cases h; exact ⟨5, by decide, rfl⟩
    · cases h; exact ⟨6, by decide, rfl⟩
    · cases h; exact ⟨7, by decide, rfl⟩
    · cases h; exact ⟨8, by decide, rfl⟩
    · cases h; exact ⟨9, by decide, rfl⟩
    · cases h; exact ⟨10, by decide, rfl⟩
    · cases h; exact ⟨11, by decide, rfl⟩
    · cases h; exact ⟨12, by decide, rfl⟩
    · cases h; exact ⟨13, by decide, rfl⟩
    · cases h; exact ⟨14, by decide, rfl⟩
