def S0 : XSt := (fun j => if j = 3 then 1000 else if j = 9 then 1 else 0, fun _ _ => 0)
def T0 : MSt := (fun j => if j = 2 then 1000 else 0, fun _ _ => 0, 0)
set_option maxHeartbeats 4000000 in
set_option maxRecDepth 100000 in
theorem whole_open (Rel : XSt → MSt → Prop) (h_0 : Rel S0 T0) (h_add : Sim_add Rel) (h_drop : Sim_drop Rel) (h_window : Sim_window Rel) (h_sign : Sim_sign Rel) (h_spoil : Sim_spoil Rel) (h_seal : Sim_seal Rel) (h_anchor : Sim_anchor Rel) (h_tick : Sim_tick Rel) (h_ask : Sim_ask Rel) (h_reason : Sim_reason Rel) (h_answer : Sim_answer Rel) (h_zone : Sim_zone Rel) (h_figure : Sim_figure Rel) (h_above : Sim_above Rel) {p : Program} {e : Env} {s : State} {m : MethodId} {below : List Frame} {meth : Method} {c : Code} (l : Launch) {b L : Nat} {xs : Nat → Int32} (hL : L ≤ 3072) (C0 : lw_At p s m meth c b L xs) : W p l e room_1 s m #[Value.ref b] below meth c s.heap [] 0 0 (lw_Z below #[Value.ref b] s) (entryFrame m ([Value.ref b] : List Value).toArray 4) := by
  obtain ⟨hx, hb, hr, hml, hown, hts, hX, hbl, hlocks, hgv⟩ := C0
  have hTB : ∀ w ∈ TB, w.before #[Value.ref b] s = true := fun w h => hts w (tb_sub w h)
  have hN : Nst s := fun w h => va_Nw.of (List.all_eq_true.mp nl_on w h) (hts w (nl_sub w h))
  have C : Cw p m c code 4 s #[Value.ref b] "TrustResolverLaw" room_1 11 := ⟨hx, hb, hml, hown, hTB, by decide, by decide⟩
  obtain ⟨c0, i0, k0⟩ := u_known hTB lay_R (hTB _ tb_12)
  obtain ⟨c1, i1, k1⟩ := u_known hTB lay_Re (hTB _ tb_20)
  obtain ⟨c2, i2, k2⟩ := u_known hTB lay_Si (hTB _ tb_32)
  obtain ⟨c3, i3, k3⟩ := u_known hTB lay_An (hTB _ tb_69)
  obtain ⟨c4, i4, k4⟩ := u_known hTB lay_Qu (hTB _ tb_80)
  obtain ⟨c5, i5, k5⟩ := u_known hTB lay_Nu (hTB _ tb_86)
  obtain ⟨c6, i6, k6⟩ := u_known hTB lay_M (hTB _ tb_411)
  obtain ⟨cI, kI, mI, fI1, fI2, fI3⟩ := Cond.arrayClass_spec (type := .int) (show (Cond.arrayClass .int).holds #[Value.ref b] s none s [] = true from hTB _ tb_30)
  obtain ⟨cZ, kZ, mZ, fZ1, fZ2, fZ3⟩ := Cond.arrayClass_spec (type := .boolean) (show (Cond.arrayClass .boolean).holds #[Value.ref b] s none s [] = true from hTB _ tb_67)
  obtain ⟨D, hD1⟩ : ∃ D : va_G, D = (fun k => ([c0, c1, c2, c3, c4, c5, c6] : List ClassId).getD k 0, fun k => ([i0, i1, i2, i3, i4, i5, i6] : List (Nat → Nat)).getD k (fun _ => 0)) := ⟨_, rfl⟩
  have hK : va_K D vwCl [(cI, .int), (cZ, .boolean)] s := by
    subst hD1
    refine ⟨fun k q h => ?_, fun k q h => ?_⟩
    · have hk : k < 7 := (List.getElem?_eq_some_iff.mp h).1
      rcases (show k = 0 ∨ k = 1 ∨ k = 2 ∨ k = 3 ∨ k = 4 ∨ k = 5 ∨ k = 6 by omega) with rfl | rfl | rfl | rfl | rfl | rfl | rfl
      · cases h; exact k0
      · cases h; exact k1
      · cases h; exact k2
      · cases h; exact k3
      · cases h; exact k4
      · cases h; exact k5
      · cases h; exact k6
    · have hk : k < 2 := (List.getElem?_eq_some_iff.mp h).1
      rcases (show k = 0 ∨ k = 1 by omega) with rfl | rfl
      · cases h; exact ⟨fun n z => ⟨fun k h => (by cases h), kI, fI2, mI, fI3⟩, fI1⟩
      · cases h; exact ⟨fun n z => ⟨fun k h => (by cases h), kZ, fZ2, mZ, fZ3⟩, fZ1⟩
  clear hD1
  obtain ⟨A, hAd⟩ : ∃ A : Nat → Prop, A = (fun q => s.heap.size ≤ q) := ⟨_, rfl⟩
  have hA : ∀ q : Nat, s.heap.size ≤ q → A q := fun q h => by rw [hAd]; exact h
  have hA2 : ∀ q : Nat, A q → s.heap.size ≤ q := fun q h => by rw [hAd] at h; exact h
  have hP : Pw D [(cI, .int), (cZ, .boolean)] A s [] s.heap [] := ⟨fun i q h => by simp at h, ⟨fun i j x z h => by simp at h, fun i q h => by simp at h⟩, va_S.rf, hK, hN⟩
  have hl := lv_entry ([Value.ref b]) (n := 4) (Nat.le_of_ble_eq_true rfl)
  rw [lg_entry_eq]
  generalize (lg_sl ([Value.ref b]) ++ List.replicate (4 - (lg_sl ([Value.ref b])).length) Slot.unset).toArray = ls at hl ⊢
  replace hl : lv_has ls 4 [(0, .ref b)] := hl
  refine w_new (ci := 0) (fs := [.null, .null, .null, .null]) C hP hA rfl lay_R t_R tok_R tb_11 tb_12 tb_1 df_R (by decide) (by decide) d_Lw_law_0 (fun q1 H hP => ?_)
  replace hP : Pw D [(cI, .int), (cZ, .boolean)] A s [(q1, .inr (0, [.null, .null, .null, .null]))] H [] := hP
  refine lv_dup hx hb d_Lw_law_3 rfl ?_
  refine w_callC (As := []) (rest := [.ref q1]) (wc := [(q1, .inr (0, [.null, .null, .null, .null]))]) (wr := []) C (c_R_init l D cI cZ H.size q1) cc_R_init tb_13 (by decide) hP hA [0] [] rfl rfl rfl rfl (by decide) (by decide) rfl hl.1 rfl (Nat.le_of_ble_eq_true rfl) d_Lw_law_4 (by decide) (by decide) (fun u1 H locs hP => ?_)
  obtain ⟨ax, hax⟩ : ∃ ax : Nat → Nat, ax = (fun k => ([q1, u1 0, u1 1, u1 2, u1 3, u1 4, u1 5, u1 6, u1 7, u1 8, u1 9, u1 10, u1 11, u1 12, u1 13, u1 14, u1 15, u1 16, u1 17, u1 18, u1 19, u1 20, u1 21, u1 22] : List Nat).getD k 0) := ⟨_, rfl⟩
  have hx0 : q1 = ax 0 := by rw [hax]; rfl
  replace hP : Pw D [(cI, .int), (cZ, .boolean)] A s (wX (D, fun k => ([q1, u1 0, u1 1, u1 2, u1 3, u1 4, u1 5, u1 6, u1 7, u1 8, u1 9, u1 10, u1 11, u1 12, u1 13, u1 14, u1 15, u1 16, u1 17, u1 18, u1 19, u1 20, u1 21, u1 22] : List Nat).getD k 0, cI, cZ) S0) H locs := hP
  rw [← hax] at hP
  rw [hx0]
  refine lv_astore_n (lv' := [(1, .ref (ax 0)), (0, .ref b)]) hx hb d_Lw_law_7 rfl hl (by decide) rfl (fun ls hl => ?_)
  refine w_new (ci := 6) (fs := [.int 0, .null, .null, .null, .int 0, .int 0, .int 0, .null, .null, .null, .null, .null, .null, .null, .null, .int 0, .null, .null, .int 0, .int 0, .int 0, .int 0, .int 0, .null, .int 0, .int 0, .int 0, .long 0]) C hP hA rfl lay_M t_M tok_M tb_410 tb_411 tb_7 df_M (by decide) (by decide) d_Lw_law_8 (fun q2 H hP => ?_)
  refine lv_dup hx hb d_Lw_law_11 rfl ?_
  refine w_callC (As := []) (rest := [.ref q2]) (wc := [(q2, .inr (6, [.int 0, .null, .null, .null, .int 0, .int 0, .int 0, .null, .null, .null, .null, .null, .null, .null, .null, .int 0, .null, .null, .int 0, .int 0, .int 0, .int 0, .int 0, .null, .int 0, .int 0, .int 0, .long 0]))]) (wr := wX (D, ax, cI, cZ) S0) C (c_M_init l D cI cZ H.size q2) cc_M_init tb_412 (by decide) hP hA [24] [0, 1, 2, 3, 4, 5, 6, 7, 8, 9, 10, 11, 12, 13, 14, 15, 16, 17, 18, 19, 20, 21, 22, 23] rfl rfl rfl rfl (by decide) (by decide) rfl hl.1 rfl (Nat.le_of_ble_eq_true rfl) d_Lw_law_12 (by decide) (by decide) (fun u2 H locs hP => ?_)
  obtain ⟨am, ham⟩ : ∃ am : Nat → Nat, am = (fun k => ([q2, u2 0, u2 1, u2 2, u2 3, u2 4, u2 5, u2 6, u2 7, u2 8, u2 9, u2 10, u2 11, u2 12, u2 13] : List Nat).getD k 0) := ⟨_, rfl⟩
  have hx2 : q2 = am 0 := by rw [ham]; rfl
  replace hP : Pw D [(cI, .int), (cZ, .boolean)] A s (wX (D, ax, cI, cZ) S0 ++ wM (D, fun k => ([q2, u2 0, u2 1, u2 2, u2 3, u2 4, u2 5, u2 6, u2 7, u2 8, u2 9, u2 10, u2 11, u2 12, u2 13] : List Nat).getD k 0, cI, cZ) T0) H locs := hP
  rw [← ham] at hP
  rw [hx2]
  refine lv_astore_n (lv' := [(2, .ref (am 0)), (1, .ref (ax 0)), (0, .ref b)]) hx hb d_Lw_law_15 rfl hl (by decide) rfl (fun ls hl => ?_)
  refine lv_iconst (v := nI 0) hx hb d_Lw_law_16 (by decide) ?_
  refine lv_istore_n (lv' := [(3, .int (nI 0)), (2, .ref (am 0)), (1, .ref (ax 0)), (0, .ref b)]) hx hb d_Lw_law_17 rfl hl (by decide) rfl (fun ls hl => ?_)
  refine law_open (G := (D, ax, cI, cZ)) (am := am) Rel h_add h_drop h_window h_sign h_spoil h_seal h_anchor h_tick h_ask h_reason h_answer h_zone h_figure h_above hL C hX hbl hA2 ?_ (L + 1) 0 S0 T0 ls H locs (by omega) (by omega) h_0 (lv_sub hl [3, 2, 1, 0] rfl) hP
  intro pc ls H locs hd hw
  exact va_forget (fun q hq => hA2 _ (hw.2.2.1.2.2 q hq)) (lw_ret hx hb hr hlocks hd)
