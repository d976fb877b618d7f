def f_R_add (S : XSt) (v1 : Int32) (v2 : Int32) (v3 : Int32) : Option (Int32 × XSt) := Option.bind (f_Na_isName v1) (fun x1 => (if x1 = (0 : Int32) then some ((-1 : Int32), S) else Option.bind (f_R_isType v2) (fun x4 => (if x4 = (0 : Int32) then some ((-1 : Int32), S) else Option.bind (f_R_isData v2 v3) (fun x7 => (if x7 = (0 : Int32) then some ((-1 : Int32), S) else Option.bind (f_Na_setOf v1 v2) (fun x10 => Option.bind (f_Re_put S x10 v3) (fun x12 => some (x12.1, x12.2)))))))))
set_option maxHeartbeats 4000000 in
set_option maxRecDepth 100000 in
theorem c_R_add (l : Launch) (G : XG) (S : XSt) (v1 : Int32) (v2 : Int32) (v3 : Int32) (o0 : (Int32 × XSt)) (hf : f_R_add S v1 v2 v3 = some o0) : MetI l y_R_add b_R_add 4 (some .int) 3 [.ref (G.2.1 0), .int v1, .int v2, .int v3] G.1 (tyX G) (zAX G) (wX G S) o0.1 (wX G o0.2) := by
  refine mkI (by decide) (Nat.le_of_ble_eq_true rfl) ?_
  intro p e R s m args below meth c ls Q C hl hP hret0
  replace C : Cw p m c b_R_add 4 s args "TrustResolver" R 3 := C
  have hx := C.1
  have hb := C.2.1
  replace hl : lv_has ls 4 [(0, .ref (G.2.1 0)), (1, .int v1), (2, .int v2), (3, .int v3)] := hl
  have hret : ∀ (pc : Nat) (ls : Array Slot) (H : Heap) (locs : List Loc) (v : Int32) (S' : XSt), decode b_R_add pc = .ok (.ireturn, 1) → (v, S') = o0 → Pw G.1 (tyX G) (zAX G) s (wX G S') H locs → W p l e R s m args below meth c H locs 0 0 Q (F0 m pc ls [.int v]) := fun pc ls H locs v S' hd he hP => hret0 pc ls H locs v hd (by rw [← he]) (by rw [← he]; exact hP)
  clear hret0
  unfold f_R_add at hf
  refine lv_iload_n hx hb d_R_add_0 rfl (lv_at hl 1 rfl) ?_
  obtain ⟨x1, h2, hf⟩ := bd_some hf
  refine w_callS (As := [.int v1]) (rest := []) C (c_Na_isName l v1 x1 h2) cf_Na_isName tb_130 (by decide) rfl hl.1 rfl (Nat.le_of_ble_eq_true rfl) d_R_add_1 ?_
  refine lv_if_eq hx hb d_R_add_4 (tgt := 22) (by decide) (fun h3 => ?_) (fun h3 => ?_)
  · have hf := it_t h3 hf
    refine lv_iconst (v := (-1 : Int32)) hx hb d_R_add_22 (by decide) ?_
    exact hret _ _ _ _ _ _ d_R_add_23 (Option.some.inj hf) hP
  · have hf := it_f h3 hf
    refine lv_iload_n hx hb d_R_add_7 rfl (lv_at hl 2 rfl) ?_
    obtain ⟨x4, h5, hf⟩ := bd_some hf
    refine w_callS (As := [.int v2]) (rest := []) C (c_R_isType l v2 x4 h5) cf_R_isType tb_134 (by decide) rfl hl.1 rfl (Nat.le_of_ble_eq_true rfl) d_R_add_8 ?_
    refine lv_if_eq hx hb d_R_add_11 (tgt := 22) (by decide) (fun h6 => ?_) (fun h6 => ?_)
    · have hf := it_t h6 hf
      refine lv_iconst (v := (-1 : Int32)) hx hb d_R_add_22 (by decide) ?_
      exact hret _ _ _ _ _ _ d_R_add_23 (Option.some.inj hf) hP
    · have hf := it_f h6 hf
      refine lv_iload_n hx hb d_R_add_14 rfl (lv_at hl 2 rfl) ?_
      refine lv_iload_n hx hb d_R_add_15 rfl (lv_at hl 3 rfl) ?_
      obtain ⟨x7, h8, hf⟩ := bd_some hf
      refine w_callS (As := [.int v2, .int v3]) (rest := []) C (c_R_isData l v2 v3 x7 h8) cf_R_isData tb_137 (by decide) rfl hl.1 rfl (Nat.le_of_ble_eq_true rfl) d_R_add_16 ?_
      refine lv_if_ne hx hb d_R_add_19 (tgt := 24) (by decide) (fun h9 => ?_) (fun h9 => ?_)
      · have hf := it_f h9 hf
        refine lv_aload_n hx hb d_R_add_24 rfl (lv_at hl 0 rfl) ?_
        refine w_get C hP (fdX_0_records G S) tb_118 d_R_add_25 ?_
        refine lv_iload_n hx hb d_R_add_28 rfl (lv_at hl 1 rfl) ?_
        refine lv_iload_n hx hb d_R_add_29 rfl (lv_at hl 2 rfl) ?_
        obtain ⟨x10, h11, hf⟩ := bd_some hf
        refine w_callS (As := [.int v1, .int v2]) (rest := [.ref (G.2.1 1)]) C (c_Na_setOf l v1 v2 x10 h11) cf_Na_setOf tb_153 (by decide) rfl hl.1 rfl (Nat.le_of_ble_eq_true rfl) d_R_add_30 ?_
        refine lv_iload_n hx hb d_R_add_33 rfl (lv_at hl 3 rfl) ?_
        obtain ⟨x12, h13, hf⟩ := bd_some hf
        refine w_callI (As := [.int x10, .int v3]) (rest := []) C (c_Re_put l G S x10 v3 x12 h13) cf_Re_put tb_156 (by decide) hP (obX_1 G S) rfl hl.1 rfl (Nat.le_of_ble_eq_true rfl) d_R_add_34 (fun H locs hP => ?_)
        exact hret _ _ _ _ _ _ d_R_add_37 (Option.some.inj hf) hP
      · have hf := it_t h9 hf
        refine lv_iconst (v := (-1 : Int32)) hx hb d_R_add_22 (by decide) ?_
        exact hret _ _ _ _ _ _ d_R_add_23 (Option.some.inj hf) hP
def f_R_drop (S : XSt) (v1 : Int32) (v2 : Int32) : Option (Int32 × XSt) := Option.bind (f_Na_isName v1) (fun x1 => (if x1 = (0 : Int32) then some ((-1 : Int32), S) else Option.bind (f_R_isType v2) (fun x4 => (if x4 = (0 : Int32) then some ((-1 : Int32), S) else Option.bind (f_Na_setOf v1 v2) (fun x7 => Option.bind (f_Re_empty S x7) (fun x9 => some (x9.1, x9.2)))))))
set_option maxHeartbeats 4000000 in
set_option maxRecDepth 100000 in
theorem c_R_drop (l : Launch) (G : XG) (S : XSt) (v1 : Int32) (v2 : Int32) (o0 : (Int32 × XSt)) (hf : f_R_drop S v1 v2 = some o0) : MetI l y_R_drop b_R_drop 3 (some .int) 1 [.ref (G.2.1 0), .int v1, .int v2] G.1 (tyX G) (zAX G) (wX G S) o0.1 (wX G o0.2) := by
  refine mkI (by decide) (Nat.le_of_ble_eq_true rfl) ?_
  intro p e R s m args below meth c ls Q C hl hP hret0
  replace C : Cw p m c b_R_drop 3 s args "TrustResolver" R 1 := C
  have hx := C.1
  have hb := C.2.1
  replace hl : lv_has ls 3 [(0, .ref (G.2.1 0)), (1, .int v1), (2, .int v2)] := hl
  have hret : ∀ (pc : Nat) (ls : Array Slot) (H : Heap) (locs : List Loc) (v : Int32) (S' : XSt), decode b_R_drop pc = .ok (.ireturn, 1) → (v, S') = o0 → Pw G.1 (tyX G) (zAX G) s (wX G S') H locs → W p l e R s m args below meth c H locs 0 0 Q (F0 m pc ls [.int v]) := fun pc ls H locs v S' hd he hP => hret0 pc ls H locs v hd (by rw [← he]) (by rw [← he]; exact hP)
  clear hret0
  unfold f_R_drop at hf
  refine lv_iload_n hx hb d_R_drop_0 rfl (lv_at hl 1 rfl) ?_
  obtain ⟨x1, h2, hf⟩ := bd_some hf
  refine w_callS (As := [.int v1]) (rest := []) C (c_Na_isName l v1 x1 h2) cf_Na_isName tb_130 (by decide) rfl hl.1 rfl (Nat.le_of_ble_eq_true rfl) d_R_drop_1 ?_
  refine lv_if_eq hx hb d_R_drop_4 (tgt := 14) (by decide) (fun h3 => ?_) (fun h3 => ?_)
  · have hf := it_t h3 hf
    refine lv_iconst (v := (-1 : Int32)) hx hb d_R_drop_14 (by decide) ?_
    exact hret _ _ _ _ _ _ d_R_drop_15 (Option.some.inj hf) hP
  · have hf := it_f h3 hf
    refine lv_iload_n hx hb d_R_drop_7 rfl (lv_at hl 2 rfl) ?_
    obtain ⟨x4, h5, hf⟩ := bd_some hf
    refine w_callS (As := [.int v2]) (rest := []) C (c_R_isType l v2 x4 h5) cf_R_isType tb_134 (by decide) rfl hl.1 rfl (Nat.le_of_ble_eq_true rfl) d_R_drop_8 ?_
    refine lv_if_ne hx hb d_R_drop_11 (tgt := 16) (by decide) (fun h6 => ?_) (fun h6 => ?_)
    · have hf := it_f h6 hf
      refine lv_aload_n hx hb d_R_drop_16 rfl (lv_at hl 0 rfl) ?_
      refine w_get C hP (fdX_0_records G S) tb_118 d_R_drop_17 ?_
      refine lv_iload_n hx hb d_R_drop_20 rfl (lv_at hl 1 rfl) ?_
      refine lv_iload_n hx hb d_R_drop_21 rfl (lv_at hl 2 rfl) ?_
      obtain ⟨x7, h8, hf⟩ := bd_some hf
      refine w_callS (As := [.int v1, .int v2]) (rest := [.ref (G.2.1 1)]) C (c_Na_setOf l v1 v2 x7 h8) cf_Na_setOf tb_153 (by decide) rfl hl.1 rfl (Nat.le_of_ble_eq_true rfl) d_R_drop_22 ?_
      obtain ⟨x9, h10, hf⟩ := bd_some hf
      refine w_callI (As := [.int x7]) (rest := []) C (c_Re_empty l G S x7 x9 h10) cf_Re_empty tb_175 (by decide) hP (obX_1 G S) rfl hl.1 rfl (Nat.le_of_ble_eq_true rfl) d_R_drop_25 (fun H locs hP => ?_)
      exact hret _ _ _ _ _ _ d_R_drop_28 (Option.some.inj hf) hP
    · have hf := it_t h6 hf
      refine lv_iconst (v := (-1 : Int32)) hx hb d_R_drop_14 (by decide) ?_
      exact hret _ _ _ _ _ _ d_R_drop_15 (Option.some.inj hf) hP
def f_R_window (S : XSt) (v1 : Int32) (v2 : Int32) : Option (Int32 × XSt) := (if v1 < (0 : Int32) then some ((0 : Int32), S) else (if v1 ≤ v2 then Option.bind (f_Si_useTimes S v1 v2) (fun x3 => some ((1 : Int32), x3)) else some ((0 : Int32), S)))
set_option maxHeartbeats 4000000 in
set_option maxRecDepth 100000 in
theorem c_R_window (l : Launch) (G : XG) (S : XSt) (v1 : Int32) (v2 : Int32) (o0 : (Int32 × XSt)) (hf : f_R_window S v1 v2 = some o0) : MetI l y_R_window b_R_window 3 (some .boolean) 1 [.ref (G.2.1 0), .int v1, .int v2] G.1 (tyX G) (zAX G) (wX G S) o0.1 (wX G o0.2) := by
  refine mkZ (by decide) (Nat.le_of_ble_eq_true rfl) ?_
  intro p e R s m args below meth c ls Q C hl hP hret0
  replace C : Cw p m c b_R_window 3 s args "TrustResolver" R 1 := C
  have hx := C.1
  have hb := C.2.1
  replace hl : lv_has ls 3 [(0, .ref (G.2.1 0)), (1, .int v1), (2, .int v2)] := hl
  have hret : ∀ (pc : Nat) (ls : Array Slot) (H : Heap) (locs : List Loc) (v : Int32) (S' : XSt), decode b_R_window pc = .ok (.ireturn, 1) → zib v = true → (v, S') = o0 → Pw G.1 (tyX G) (zAX G) s (wX G S') H locs → W p l e R s m args below meth c H locs 0 0 Q (F0 m pc ls [.int v]) := fun pc ls H locs v S' hd hz he hP => hret0 pc ls H locs v hd hz (by rw [← he]) (by rw [← he]; exact hP)
  clear hret0
  unfold f_R_window at hf
  refine lv_iload_n hx hb d_R_window_0 rfl (lv_at hl 1 rfl) ?_
  refine lv_if_lt hx hb d_R_window_1 (tgt := 9) (by decide) (fun h1 => ?_) (fun h1 => ?_)
  · have hf := it_t h1 hf
    refine lv_iconst (v := (0 : Int32)) hx hb d_R_window_9 (by decide) ?_
    exact hret _ _ _ _ _ _ d_R_window_10 (by decide) (Option.some.inj hf) hP
  · have hf := it_f h1 hf
    refine lv_iload_n hx hb d_R_window_4 rfl (lv_at hl 2 rfl) ?_
    refine lv_iload_n hx hb d_R_window_5 rfl (lv_at hl 1 rfl) ?_
    refine lv_icmp_ge hx hb d_R_window_6 (tgt := 11) (by decide) (fun h2 => ?_) (fun h2 => ?_)
    · have hf := it_t h2 hf
      refine lv_aload_n hx hb d_R_window_11 rfl (lv_at hl 0 rfl) ?_
      refine w_get C hP (fdX_0_signatures G S) tb_119 d_R_window_12 ?_
      refine lv_iload_n hx hb d_R_window_15 rfl (lv_at hl 1 rfl) ?_
      refine lv_iload_n hx hb d_R_window_16 rfl (lv_at hl 2 rfl) ?_
      obtain ⟨x3, h4, hf⟩ := bd_some hf
      refine w_callV (As := [.int v1, .int v2]) (rest := []) C (c_Si_useTimes l G S v1 v2 x3 h4) cf_Si_useTimes tb_183 (by decide) hP (obX_4 G S) rfl hl.1 rfl (Nat.le_of_ble_eq_true rfl) d_R_window_17 (fun H locs hP => ?_)
      refine lv_iconst (v := (1 : Int32)) hx hb d_R_window_20 (by decide) ?_
      exact hret _ _ _ _ _ _ d_R_window_21 (by decide) (Option.some.inj hf) hP
    · have hf := it_f h2 hf
      refine lv_iconst (v := (0 : Int32)) hx hb d_R_window_9 (by decide) ?_
      exact hret _ _ _ _ _ _ d_R_window_10 (by decide) (Option.some.inj hf) hP
def f_R_sign (S : XSt) (v1 : Int32) (v2 : Int32) (v3 : Int32) (v4 : Int32) (v5 : Int32) : Option (Int32 × XSt) := Option.bind (f_Na_isName v1) (fun x1 => (if x1 = (0 : Int32) then some ((-1 : Int32), S) else Option.bind (f_Na_isName v3) (fun x4 => (if x4 = (0 : Int32) then some ((-1 : Int32), S) else Option.bind (f_R_isType v2) (fun x7 => (if x7 = (0 : Int32) then some ((-1 : Int32), S) else Option.bind (f_R_isKey v4) (fun x10 => (if x10 = (0 : Int32) then some ((-1 : Int32), S) else (if v5 < (0 : Int32) then some ((-1 : Int32), S) else Option.bind (f_Na_depth v1) (fun x14 => (if v5 ≤ x14 then Option.bind (f_Na_setOf v1 v2) (fun x17 => Option.bind (f_Re_sizeOf S x17) (fun x19 => (if x19 = (0 : Int32) then some ((-1 : Int32), S) else Option.bind (f_Si_make S x17 v3 v4 v5) (fun x22 => some (x22.1, x22.2))))) else some ((-1 : Int32), S))))))))))))
set_option maxHeartbeats 4000000 in
set_option maxRecDepth 100000 in
theorem c_R_sign (l : Launch) (G : XG) (S : XSt) (v1 : Int32) (v2 : Int32) (v3 : Int32) (v4 : Int32) (v5 : Int32) (o0 : (Int32 × XSt)) (hf : f_R_sign S v1 v2 v3 v4 v5 = some o0) : MetI l y_R_sign b_R_sign 7 (some .int) 4 [.ref (G.2.1 0), .int v1, .int v2, .int v3, .int v4, .int v5] G.1 (tyX G) (zAX G) (wX G S) o0.1 (wX G o0.2) := by
  refine mkI (by decide) (Nat.le_of_ble_eq_true rfl) ?_
  intro p e R s m args below meth c ls Q C hl hP hret0
  replace C : Cw p m c b_R_sign 7 s args "TrustResolver" R 4 := C
  have hx := C.1
  have hb := C.2.1
  replace hl : lv_has ls 7 [(0, .ref (G.2.1 0)), (1, .int v1), (2, .int v2), (3, .int v3), (4, .int v4), (5, .int v5)] := hl
  have hret : ∀ (pc : Nat) (ls : Array Slot) (H : Heap) (locs : List Loc) (v : Int32) (S' : XSt), decode b_R_sign pc = .ok (.ireturn, 1) → (v, S') = o0 → Pw G.1 (tyX G) (zAX G) s (wX G S') H locs → W p l e R s m args below meth c H locs 0 0 Q (F0 m pc ls [.int v]) := fun pc ls H locs v S' hd he hP => hret0 pc ls H locs v hd (by rw [← he]) (by rw [← he]; exact hP)
  clear hret0
  unfold f_R_sign at hf
  refine lv_iload_n hx hb d_R_sign_0 rfl (lv_at hl 1 rfl) ?_
  obtain ⟨x1, h2, hf⟩ := bd_some hf
  refine w_callS (As := [.int v1]) (rest := []) C (c_Na_isName l v1 x1 h2) cf_Na_isName tb_130 (by decide) rfl hl.1 rfl (Nat.le_of_ble_eq_true rfl) d_R_sign_1 ?_
  refine lv_if_eq hx hb d_R_sign_4 (tgt := 29) (by decide) (fun h3 => ?_) (fun h3 => ?_)
  · have hf := it_t h3 hf
    refine lv_iconst (v := (-1 : Int32)) hx hb d_R_sign_29 (by decide) ?_
    exact hret _ _ _ _ _ _ d_R_sign_30 (Option.some.inj hf) hP
  · have hf := it_f h3 hf
    refine lv_iload_n hx hb d_R_sign_7 rfl (lv_at hl 3 rfl) ?_
    obtain ⟨x4, h5, hf⟩ := bd_some hf
    refine w_callS (As := [.int v3]) (rest := []) C (c_Na_isName l v3 x4 h5) cf_Na_isName tb_130 (by decide) rfl hl.1 rfl (Nat.le_of_ble_eq_true rfl) d_R_sign_8 ?_
    refine lv_if_eq hx hb d_R_sign_11 (tgt := 29) (by decide) (fun h6 => ?_) (fun h6 => ?_)
    · have hf := it_t h6 hf
      refine lv_iconst (v := (-1 : Int32)) hx hb d_R_sign_29 (by decide) ?_
      exact hret _ _ _ _ _ _ d_R_sign_30 (Option.some.inj hf) hP
    · have hf := it_f h6 hf
      refine lv_iload_n hx hb d_R_sign_14 rfl (lv_at hl 2 rfl) ?_
      obtain ⟨x7, h8, hf⟩ := bd_some hf
      refine w_callS (As := [.int v2]) (rest := []) C (c_R_isType l v2 x7 h8) cf_R_isType tb_134 (by decide) rfl hl.1 rfl (Nat.le_of_ble_eq_true rfl) d_R_sign_15 ?_
      refine lv_if_eq hx hb d_R_sign_18 (tgt := 29) (by decide) (fun h9 => ?_) (fun h9 => ?_)
      · have hf := it_t h9 hf
        refine lv_iconst (v := (-1 : Int32)) hx hb d_R_sign_29 (by decide) ?_
        exact hret _ _ _ _ _ _ d_R_sign_30 (Option.some.inj hf) hP
      · have hf := it_f h9 hf
        refine lv_iload hx hb d_R_sign_21 (lv_at hl 4 rfl) ?_
        obtain ⟨x10, h11, hf⟩ := bd_some hf
        refine w_callS (As := [.int v4]) (rest := []) C (c_R_isKey l v4 x10 h11) cf_R_isKey tb_140 (by decide) rfl hl.1 rfl (Nat.le_of_ble_eq_true rfl) d_R_sign_23 ?_
        refine lv_if_ne hx hb d_R_sign_26 (tgt := 31) (by decide) (fun h12 => ?_) (fun h12 => ?_)
        · have hf := it_f h12 hf
          refine lv_iload hx hb d_R_sign_31 (lv_at hl 5 rfl) ?_
          refine lv_if_lt hx hb d_R_sign_33 (tgt := 45) (by decide) (fun h13 => ?_) (fun h13 => ?_)
          · have hf := it_t h13 hf
            refine lv_iconst (v := (-1 : Int32)) hx hb d_R_sign_45 (by decide) ?_
            exact hret _ _ _ _ _ _ d_R_sign_46 (Option.some.inj hf) hP
          · have hf := it_f h13 hf
            refine lv_iload hx hb d_R_sign_36 (lv_at hl 5 rfl) ?_
            refine lv_iload_n hx hb d_R_sign_38 rfl (lv_at hl 1 rfl) ?_
            obtain ⟨x14, h15, hf⟩ := bd_some hf
            refine w_callS (As := [.int v1]) (rest := [.int v5]) C (c_Na_depth l v1 x14 h15) cf_Na_depth tb_191 (by decide) rfl hl.1 rfl (Nat.le_of_ble_eq_true rfl) d_R_sign_39 ?_
            refine lv_icmp_le hx hb d_R_sign_42 (tgt := 47) (by decide) (fun h16 => ?_) (fun h16 => ?_)
            · have hf := it_t h16 hf
              refine lv_iload_n hx hb d_R_sign_47 rfl (lv_at hl 1 rfl) ?_
              refine lv_iload_n hx hb d_R_sign_48 rfl (lv_at hl 2 rfl) ?_
              obtain ⟨x17, h18, hf⟩ := bd_some hf
              refine w_callS (As := [.int v1, .int v2]) (rest := []) C (c_Na_setOf l v1 v2 x17 h18) cf_Na_setOf tb_153 (by decide) rfl hl.1 rfl (Nat.le_of_ble_eq_true rfl) d_R_sign_49 ?_
              refine lv_istore (lv' := [(6, .int x17), (0, .ref (G.2.1 0)), (1, .int v1), (2, .int v2), (3, .int v3), (4, .int v4), (5, .int v5)]) hx hb d_R_sign_52 hl (by decide) rfl (fun ls hl => ?_)
              refine lv_aload_n hx hb d_R_sign_54 rfl (lv_at hl 1 rfl) ?_
              refine w_get C hP (fdX_0_records G S) tb_118 d_R_sign_55 ?_
              refine lv_iload hx hb d_R_sign_58 (lv_at hl 0 rfl) ?_
              obtain ⟨x19, h20, hf⟩ := bd_some hf
              refine w_callI (As := [.int x17]) (rest := []) C (c_Re_sizeOf l G S x17 x19 h20) cf_Re_sizeOf tb_194 (by decide) hP (obX_1 G S) rfl hl.1 rfl (Nat.le_of_ble_eq_true rfl) d_R_sign_60 (fun H locs hP => ?_)
              refine lv_if_ne hx hb d_R_sign_63 (tgt := 68) (by decide) (fun h21 => ?_) (fun h21 => ?_)
              · have hf := it_f h21 hf
                refine lv_aload_n hx hb d_R_sign_68 rfl (lv_at hl 1 rfl) ?_
                refine w_get C hP (fdX_0_signatures G S) tb_119 d_R_sign_69 ?_
                refine lv_iload hx hb d_R_sign_72 (lv_at hl 0 rfl) ?_
                refine lv_iload_n hx hb d_R_sign_74 rfl (lv_at hl 4 rfl) ?_
                refine lv_iload hx hb d_R_sign_75 (lv_at hl 5 rfl) ?_
                refine lv_iload hx hb d_R_sign_77 (lv_at hl 6 rfl) ?_
                obtain ⟨x22, h23, hf⟩ := bd_some hf
                refine w_callI (As := [.int x17, .int v3, .int v4, .int v5]) (rest := []) C (c_Si_make l G S x17 v3 v4 v5 x22 h23) cf_Si_make tb_195 (by decide) hP (obX_4 G S) rfl hl.1 rfl (Nat.le_of_ble_eq_true rfl) d_R_sign_79 (fun H locs hP => ?_)
                exact hret _ _ _ _ _ _ d_R_sign_82 (Option.some.inj hf) hP
              · have hf := it_t h21 hf
                refine lv_iconst (v := (-1 : Int32)) hx hb d_R_sign_66 (by decide) ?_
                exact hret _ _ _ _ _ _ d_R_sign_67 (Option.some.inj hf) hP
            · have hf := it_f h16 hf
              refine lv_iconst (v := (-1 : Int32)) hx hb d_R_sign_45 (by decide) ?_
              exact hret _ _ _ _ _ _ d_R_sign_46 (Option.some.inj hf) hP
        · have hf := it_t h12 hf
          refine lv_iconst (v := (-1 : Int32)) hx hb d_R_sign_29 (by decide) ?_
          exact hret _ _ _ _ _ _ d_R_sign_30 (Option.some.inj hf) hP
def f_R_spoil (S : XSt) (v1 : Int32) (v2 : Int32) : Option (Int32 × XSt) := Option.bind (f_Si_shiftMark S v1 v2) (fun x1 => zgd (zib x1.1) (some (x1.1, x1.2)))
set_option maxHeartbeats 4000000 in
set_option maxRecDepth 100000 in
theorem c_R_spoil (l : Launch) (G : XG) (S : XSt) (v1 : Int32) (v2 : Int32) (o0 : (Int32 × XSt)) (hf : f_R_spoil S v1 v2 = some o0) : MetI l y_R_spoil b_R_spoil 3 (some .boolean) 1 [.ref (G.2.1 0), .int v1, .int v2] G.1 (tyX G) (zAX G) (wX G S) o0.1 (wX G o0.2) := by
  refine mkZ (by decide) (Nat.le_of_ble_eq_true rfl) ?_
  intro p e R s m args below meth c ls Q C hl hP hret0
  replace C : Cw p m c b_R_spoil 3 s args "TrustResolver" R 1 := C
  have hx := C.1
  have hb := C.2.1
  replace hl : lv_has ls 3 [(0, .ref (G.2.1 0)), (1, .int v1), (2, .int v2)] := hl
  have hret : ∀ (pc : Nat) (ls : Array Slot) (H : Heap) (locs : List Loc) (v : Int32) (S' : XSt), decode b_R_spoil pc = .ok (.ireturn, 1) → zib v = true → (v, S') = o0 → Pw G.1 (tyX G) (zAX G) s (wX G S') H locs → W p l e R s m args below meth c H locs 0 0 Q (F0 m pc ls [.int v]) := fun pc ls H locs v S' hd hz he hP => hret0 pc ls H locs v hd hz (by rw [← he]) (by rw [← he]; exact hP)
  clear hret0
  unfold f_R_spoil at hf
  refine lv_aload_n hx hb d_R_spoil_0 rfl (lv_at hl 0 rfl) ?_
  refine w_get C hP (fdX_0_signatures G S) tb_119 d_R_spoil_1 ?_
  refine lv_iload_n hx hb d_R_spoil_4 rfl (lv_at hl 1 rfl) ?_
  refine lv_iload_n hx hb d_R_spoil_5 rfl (lv_at hl 2 rfl) ?_
  obtain ⟨x1, h2, hf⟩ := bd_some hf
  refine w_callI (As := [.int v1, .int v2]) (rest := []) C (c_Si_shiftMark l G S v1 v2 x1 h2) cf_Si_shiftMark tb_236 (by decide) hP (obX_4 G S) rfl hl.1 rfl (Nat.le_of_ble_eq_true rfl) d_R_spoil_6 (fun H locs hP => ?_)
  obtain ⟨h3, hf⟩ := zgd_some hf
  exact hret _ _ _ _ _ _ d_R_spoil_9 h3 (Option.some.inj hf) hP
def f_R_seal (S : XSt) (v1 : Int32) (v2 : Int32) : Option Int32 := Option.bind (f_Na_isName v1) (fun x1 => (if x1 = (0 : Int32) then some (-1 : Int32) else Option.bind (f_R_isKey v2) (fun x4 => (if x4 = (0 : Int32) then some (-1 : Int32) else Option.bind (f_Di_sealOf v1 v2) (fun x7 => some x7)))))
set_option maxHeartbeats 4000000 in
set_option maxRecDepth 100000 in
theorem c_R_seal (l : Launch) (G : XG) (S : XSt) (v1 : Int32) (v2 : Int32) (o0 : Int32) (hf : f_R_seal S v1 v2 = some o0) : MetI l y_R_seal b_R_seal 3 (some .int) 2 [.ref (G.2.1 0), .int v1, .int v2] G.1 (tyX G) (zAX G) (wX G S) o0 (wX G S) := by
  refine mkI (by decide) (Nat.le_of_ble_eq_true rfl) ?_
  intro p e R s m args below meth c ls Q C hl hP hret0
  replace C : Cw p m c b_R_seal 3 s args "TrustResolver" R 2 := C
  have hx := C.1
  have hb := C.2.1
  replace hl : lv_has ls 3 [(0, .ref (G.2.1 0)), (1, .int v1), (2, .int v2)] := hl
  have hret := hret0
  clear hret0
  unfold f_R_seal at hf
  refine lv_iload_n hx hb d_R_seal_0 rfl (lv_at hl 1 rfl) ?_
  obtain ⟨x1, h2, hf⟩ := bd_some hf
  refine w_callS (As := [.int v1]) (rest := []) C (c_Na_isName l v1 x1 h2) cf_Na_isName tb_130 (by decide) rfl hl.1 rfl (Nat.le_of_ble_eq_true rfl) d_R_seal_1 ?_
  refine lv_if_eq hx hb d_R_seal_4 (tgt := 14) (by decide) (fun h3 => ?_) (fun h3 => ?_)
  · have hf := it_t h3 hf
    refine lv_iconst (v := (-1 : Int32)) hx hb d_R_seal_14 (by decide) ?_
    exact hret _ _ _ _ _ d_R_seal_15 (Option.some.inj hf) hP
  · have hf := it_f h3 hf
    refine lv_iload_n hx hb d_R_seal_7 rfl (lv_at hl 2 rfl) ?_
    obtain ⟨x4, h5, hf⟩ := bd_some hf
    refine w_callS (As := [.int v2]) (rest := []) C (c_R_isKey l v2 x4 h5) cf_R_isKey tb_140 (by decide) rfl hl.1 rfl (Nat.le_of_ble_eq_true rfl) d_R_seal_8 ?_
    refine lv_if_ne hx hb d_R_seal_11 (tgt := 16) (by decide) (fun h6 => ?_) (fun h6 => ?_)
    · have hf := it_f h6 hf
      refine lv_iload_n hx hb d_R_seal_16 rfl (lv_at hl 1 rfl) ?_
      refine lv_iload_n hx hb d_R_seal_17 rfl (lv_at hl 2 rfl) ?_
      obtain ⟨x7, h8, hf⟩ := bd_some hf
      refine w_callS (As := [.int v1, .int v2]) (rest := []) C (c_Di_sealOf l v1 v2 x7 h8) cf_Di_sealOf tb_244 (by decide) rfl hl.1 rfl (Nat.le_of_ble_eq_true rfl) d_R_seal_18 ?_
      exact hret _ _ _ _ _ d_R_seal_21 (Option.some.inj hf) hP
    · have hf := it_t h6 hf
      refine lv_iconst (v := (-1 : Int32)) hx hb d_R_seal_14 (by decide) ?_
      exact hret _ _ _ _ _ d_R_seal_15 (Option.some.inj hf) hP
def f_R_anchor (S : XSt) (v1 : Int32) (v2 : Int32) : Option (Int32 × XSt) := Option.bind (f_Na_isName v1) (fun x1 => (if x1 = (0 : Int32) then some ((-1 : Int32), S) else (if (0 : Int32) ≤ v2 then Option.bind (f_An_put S v1 v2) (fun x5 => some (x5.1, x5.2)) else some ((-1 : Int32), S))))
set_option maxHeartbeats 4000000 in
set_option maxRecDepth 100000 in
theorem c_R_anchor (l : Launch) (G : XG) (S : XSt) (v1 : Int32) (v2 : Int32) (o0 : (Int32 × XSt)) (hf : f_R_anchor S v1 v2 = some o0) : MetI l y_R_anchor b_R_anchor 3 (some .int) 1 [.ref (G.2.1 0), .int v1, .int v2] G.1 (tyX G) (zAX G) (wX G S) o0.1 (wX G o0.2) := by
  refine mkI (by decide) (Nat.le_of_ble_eq_true rfl) ?_
  intro p e R s m args below meth c ls Q C hl hP hret0
  replace C : Cw p m c b_R_anchor 3 s args "TrustResolver" R 1 := C
  have hx := C.1
  have hb := C.2.1
  replace hl : lv_has ls 3 [(0, .ref (G.2.1 0)), (1, .int v1), (2, .int v2)] := hl
  have hret : ∀ (pc : Nat) (ls : Array Slot) (H : Heap) (locs : List Loc) (v : Int32) (S' : XSt), decode b_R_anchor pc = .ok (.ireturn, 1) → (v, S') = o0 → Pw G.1 (tyX G) (zAX G) s (wX G S') H locs → W p l e R s m args below meth c H locs 0 0 Q (F0 m pc ls [.int v]) := fun pc ls H locs v S' hd he hP => hret0 pc ls H locs v hd (by rw [← he]) (by rw [← he]; exact hP)
  clear hret0
  unfold f_R_anchor at hf
  refine lv_iload_n hx hb d_R_anchor_0 rfl (lv_at hl 1 rfl) ?_
  obtain ⟨x1, h2, hf⟩ := bd_some hf
  refine w_callS (As := [.int v1]) (rest := []) C (c_Na_isName l v1 x1 h2) cf_Na_isName tb_130 (by decide) rfl hl.1 rfl (Nat.le_of_ble_eq_true rfl) d_R_anchor_1 ?_
  refine lv_if_eq hx hb d_R_anchor_4 (tgt := 11) (by decide) (fun h3 => ?_) (fun h3 => ?_)
  · have hf := it_t h3 hf
    refine lv_iconst (v := (-1 : Int32)) hx hb d_R_anchor_11 (by decide) ?_
    exact hret _ _ _ _ _ _ d_R_anchor_12 (Option.some.inj hf) hP
  · have hf := it_f h3 hf
    refine lv_iload_n hx hb d_R_anchor_7 rfl (lv_at hl 2 rfl) ?_
    refine lv_if_ge hx hb d_R_anchor_8 (tgt := 13) (by decide) (fun h4 => ?_) (fun h4 => ?_)
    · have hf := it_t h4 hf
      refine lv_aload_n hx hb d_R_anchor_13 rfl (lv_at hl 0 rfl) ?_
      refine w_get C hP (fdX_0_anchors G S) tb_120 d_R_anchor_14 ?_
      refine lv_iload_n hx hb d_R_anchor_17 rfl (lv_at hl 1 rfl) ?_
      refine lv_iload_n hx hb d_R_anchor_18 rfl (lv_at hl 2 rfl) ?_
      obtain ⟨x5, h6, hf⟩ := bd_some hf
      refine w_callI (As := [.int v1, .int v2]) (rest := []) C (c_An_put l G S v1 v2 x5 h6) cf_An_put tb_253 (by decide) hP (obX_15 G S) rfl hl.1 rfl (Nat.le_of_ble_eq_true rfl) d_R_anchor_19 (fun H locs hP => ?_)
      exact hret _ _ _ _ _ _ d_R_anchor_22 (Option.some.inj hf) hP
    · have hf := it_f h4 hf
      refine lv_iconst (v := (-1 : Int32)) hx hb d_R_anchor_11 (by decide) ?_
      exact hret _ _ _ _ _ _ d_R_anchor_12 (Option.some.inj hf) hP
def f_R_tick (S : XSt) (v1 : Int32) : Option (Int32 × XSt) := (if v1 < (0 : Int32) then some ((-1 : Int32), S) else (if v1 ≤ (100000 : Int32) then Option.bind (f_Si_passTime S v1) (fun x3 => some (x3.1, x3.2)) else some ((-1 : Int32), S)))
set_option maxHeartbeats 4000000 in
set_option maxRecDepth 100000 in
theorem c_R_tick (l : Launch) (G : XG) (S : XSt) (v1 : Int32) (o0 : (Int32 × XSt)) (hf : f_R_tick S v1 = some o0) : MetI l y_R_tick b_R_tick 2 (some .int) 1 [.ref (G.2.1 0), .int v1] G.1 (tyX G) (zAX G) (wX G S) o0.1 (wX G o0.2) := by
  refine mkI (by decide) (Nat.le_of_ble_eq_true rfl) ?_
  intro p e R s m args below meth c ls Q C hl hP hret0
  replace C : Cw p m c b_R_tick 2 s args "TrustResolver" R 1 := C
  have hx := C.1
  have hb := C.2.1
  replace hl : lv_has ls 2 [(0, .ref (G.2.1 0)), (1, .int v1)] := hl
  have hret : ∀ (pc : Nat) (ls : Array Slot) (H : Heap) (locs : List Loc) (v : Int32) (S' : XSt), decode b_R_tick pc = .ok (.ireturn, 1) → (v, S') = o0 → Pw G.1 (tyX G) (zAX G) s (wX G S') H locs → W p l e R s m args below meth c H locs 0 0 Q (F0 m pc ls [.int v]) := fun pc ls H locs v S' hd he hP => hret0 pc ls H locs v hd (by rw [← he]) (by rw [← he]; exact hP)
  clear hret0
  unfold f_R_tick at hf
  refine lv_iload_n hx hb d_R_tick_0 rfl (lv_at hl 1 rfl) ?_
  refine lv_if_lt hx hb d_R_tick_1 (tgt := 10) (by decide) (fun h1 => ?_) (fun h1 => ?_)
  · have hf := it_t h1 hf
    refine lv_iconst (v := (-1 : Int32)) hx hb d_R_tick_10 (by decide) ?_
    exact hret _ _ _ _ _ _ d_R_tick_11 (Option.some.inj hf) hP
  · have hf := it_f h1 hf
    refine lv_iload_n hx hb d_R_tick_4 rfl (lv_at hl 1 rfl) ?_
    refine lv_ldc (v := (100000 : Int32)) hx hb C.2.2.2.1 (C.2.2.2.2.1 _ tb_261) d_R_tick_5 ?_
    refine lv_icmp_le hx hb d_R_tick_7 (tgt := 12) (by decide) (fun h2 => ?_) (fun h2 => ?_)
    · have hf := it_t h2 hf
      refine lv_aload_n hx hb d_R_tick_12 rfl (lv_at hl 0 rfl) ?_
      refine w_get C hP (fdX_0_signatures G S) tb_119 d_R_tick_13 ?_
      refine lv_iload_n hx hb d_R_tick_16 rfl (lv_at hl 1 rfl) ?_
      obtain ⟨x3, h4, hf⟩ := bd_some hf
      refine w_callI (As := [.int v1]) (rest := []) C (c_Si_passTime l G S v1 x3 h4) cf_Si_passTime tb_262 (by decide) hP (obX_4 G S) rfl hl.1 rfl (Nat.le_of_ble_eq_true rfl) d_R_tick_17 (fun H locs hP => ?_)
      exact hret _ _ _ _ _ _ d_R_tick_20 (Option.some.inj hf) hP
    · have hf := it_f h2 hf
      refine lv_iconst (v := (-1 : Int32)) hx hb d_R_tick_10 (by decide) ?_
      exact hret _ _ _ _ _ _ d_R_tick_11 (Option.some.inj hf) hP
def f_R_ask (S : XSt) (v1 : Int32) (v2 : Int32) : Option (Int32 × XSt) := Option.bind (f_Na_isName v1) (fun x1 => (if x1 = (0 : Int32) then some ((-1 : Int32), S) else Option.bind (f_R_isType v2) (fun x4 => (if x4 = (0 : Int32) then some ((-1 : Int32), S) else Option.bind (f_Qu_pose S v1 v2) (fun x7 => Option.bind (f_R_verdictOf (x7.1 11)) (fun x9 => some (x9, x7)))))))
set_option maxHeartbeats 4000000 in
set_option maxRecDepth 100000 in
theorem c_R_ask (l : Launch) (G : XG) (S : XSt) (v1 : Int32) (v2 : Int32) (o0 : (Int32 × XSt)) (hf : f_R_ask S v1 v2 = some o0) : MetI l y_R_ask b_R_ask 3 (some .int) 6 [.ref (G.2.1 0), .int v1, .int v2] G.1 (tyX G) (zAX G) (wX G S) o0.1 (wX G o0.2) := by
  refine mkI (by decide) (Nat.le_of_ble_eq_true rfl) ?_
  intro p e R s m args below meth c ls Q C hl hP hret0
  replace C : Cw p m c b_R_ask 3 s args "TrustResolver" R 6 := C
  have hx := C.1
  have hb := C.2.1
  replace hl : lv_has ls 3 [(0, .ref (G.2.1 0)), (1, .int v1), (2, .int v2)] := hl
  have hret : ∀ (pc : Nat) (ls : Array Slot) (H : Heap) (locs : List Loc) (v : Int32) (S' : XSt), decode b_R_ask pc = .ok (.ireturn, 1) → (v, S') = o0 → Pw G.1 (tyX G) (zAX G) s (wX G S') H locs → W p l e R s m args below meth c H locs 0 0 Q (F0 m pc ls [.int v]) := fun pc ls H locs v S' hd he hP => hret0 pc ls H locs v hd (by rw [← he]) (by rw [← he]; exact hP)
  clear hret0
  unfold f_R_ask at hf
  refine lv_iload_n hx hb d_R_ask_0 rfl (lv_at hl 1 rfl) ?_
  obtain ⟨x1, h2, hf⟩ := bd_some hf
  refine w_callS (As := [.int v1]) (rest := []) C (c_Na_isName l v1 x1 h2) cf_Na_isName tb_130 (by decide) rfl hl.1 rfl (Nat.le_of_ble_eq_true rfl) d_R_ask_1 ?_
  refine lv_if_eq hx hb d_R_ask_4 (tgt := 14) (by decide) (fun h3 => ?_) (fun h3 => ?_)
  · have hf := it_t h3 hf
    refine lv_iconst (v := (-1 : Int32)) hx hb d_R_ask_14 (by decide) ?_
    exact hret _ _ _ _ _ _ d_R_ask_15 (Option.some.inj hf) hP
  · have hf := it_f h3 hf
    refine lv_iload_n hx hb d_R_ask_7 rfl (lv_at hl 2 rfl) ?_
    obtain ⟨x4, h5, hf⟩ := bd_some hf
    refine w_callS (As := [.int v2]) (rest := []) C (c_R_isType l v2 x4 h5) cf_R_isType tb_134 (by decide) rfl hl.1 rfl (Nat.le_of_ble_eq_true rfl) d_R_ask_8 ?_
    refine lv_if_ne hx hb d_R_ask_11 (tgt := 16) (by decide) (fun h6 => ?_) (fun h6 => ?_)
    · have hf := it_f h6 hf
      refine lv_aload_n hx hb d_R_ask_16 rfl (lv_at hl 0 rfl) ?_
      refine w_get C hP (fdX_0_question G S) tb_121 d_R_ask_17 ?_
      refine lv_iload_n hx hb d_R_ask_20 rfl (lv_at hl 1 rfl) ?_
      refine lv_iload_n hx hb d_R_ask_21 rfl (lv_at hl 2 rfl) ?_
      obtain ⟨x7, h8, hf⟩ := bd_some hf
      refine w_callV (As := [.int v1, .int v2]) (rest := []) C (c_Qu_pose l G S v1 v2 x7 h8) cf_Qu_pose tb_270 (by decide) hP (obX_18 G S) rfl hl.1 rfl (Nat.le_of_ble_eq_true rfl) d_R_ask_22 (fun H locs hP => ?_)
      refine lv_aload_n hx hb d_R_ask_25 rfl (lv_at hl 0 rfl) ?_
      refine w_get C hP (fdX_0_question G x7) tb_121 d_R_ask_26 ?_
      refine w_getN C hP (fdX_18_why G x7) nl_9 d_R_ask_29 ?_
      obtain ⟨x9, h10, hf⟩ := bd_some hf
      refine w_callS (As := [.int (x7.1 11)]) (rest := []) C (c_R_verdictOf l (x7.1 11) x9 h10) cf_R_verdictOf tb_378 (by decide) rfl hl.1 rfl (Nat.le_of_ble_eq_true rfl) d_R_ask_32 ?_
      exact hret _ _ _ _ _ _ d_R_ask_35 (Option.some.inj hf) hP
    · have hf := it_t h6 hf
      refine lv_iconst (v := (-1 : Int32)) hx hb d_R_ask_14 (by decide) ?_
      exact hret _ _ _ _ _ _ d_R_ask_15 (Option.some.inj hf) hP
def f_R_reason (S : XSt)  : Option Int32 := some (S.1 11)
set_option maxHeartbeats 4000000 in
set_option maxRecDepth 100000 in
theorem c_R_reason (l : Launch) (G : XG) (S : XSt)  (o0 : Int32) (hf : f_R_reason S = some o0) : MetI l y_R_reason b_R_reason 1 (some .int) 0 [.ref (G.2.1 0)] G.1 (tyX G) (zAX G) (wX G S) o0 (wX G S) := by
  refine mkI (by decide) (Nat.le_of_ble_eq_true rfl) ?_
  intro p e R s m args below meth c ls Q C hl hP hret0
  replace C : Cw p m c b_R_reason 1 s args "TrustResolver" R 0 := C
  have hx := C.1
  have hb := C.2.1
  replace hl : lv_has ls 1 [(0, .ref (G.2.1 0))] := hl
  have hret := hret0
  clear hret0
  unfold f_R_reason at hf
  refine lv_aload_n hx hb d_R_reason_0 rfl (lv_at hl 0 rfl) ?_
  refine w_get C hP (fdX_0_question G S) tb_121 d_R_reason_1 ?_
  refine w_getN C hP (fdX_18_why G S) nl_9 d_R_reason_4 ?_
  exact hret _ _ _ _ _ d_R_reason_7 (Option.some.inj hf) hP
def f_R_answer (S : XSt) (v1 : Int32) : Option Int32 := Option.bind (f_Qu_dataNow S v1) (fun x1 => some x1)
set_option maxHeartbeats 4000000 in
set_option maxRecDepth 100000 in
theorem c_R_answer (l : Launch) (G : XG) (S : XSt) (v1 : Int32) (o0 : Int32) (hf : f_R_answer S v1 = some o0) : MetI l y_R_answer b_R_answer 2 (some .int) 2 [.ref (G.2.1 0), .int v1] G.1 (tyX G) (zAX G) (wX G S) o0 (wX G S) := by
  refine mkI (by decide) (Nat.le_of_ble_eq_true rfl) ?_
  intro p e R s m args below meth c ls Q C hl hP hret0
  replace C : Cw p m c b_R_answer 2 s args "TrustResolver" R 2 := C
  have hx := C.1
  have hb := C.2.1
  replace hl : lv_has ls 2 [(0, .ref (G.2.1 0)), (1, .int v1)] := hl
  have hret := hret0
  clear hret0
  unfold f_R_answer at hf
  refine lv_aload_n hx hb d_R_answer_0 rfl (lv_at hl 0 rfl) ?_
  refine w_get C hP (fdX_0_question G S) tb_121 d_R_answer_1 ?_
  refine lv_iload_n hx hb d_R_answer_4 rfl (lv_at hl 1 rfl) ?_
  obtain ⟨x1, h2, hf⟩ := bd_some hf
  refine w_callI (As := [.int v1]) (rest := []) C (c_Qu_dataNow l G S v1 x1 h2) cf_Qu_dataNow tb_389 (by decide) hP (obX_18 G S) rfl hl.1 rfl (Nat.le_of_ble_eq_true rfl) d_R_answer_5 (fun H locs hP => ?_)
  exact hret _ _ _ _ _ d_R_answer_8 (Option.some.inj hf) hP
def f_R_zone (S : XSt) (v1 : Int32) : Option Int32 := Option.bind (f_Qu_zoneAt S v1) (fun x1 => some x1)
set_option maxHeartbeats 4000000 in
set_option maxRecDepth 100000 in
theorem c_R_zone (l : Launch) (G : XG) (S : XSt) (v1 : Int32) (o0 : Int32) (hf : f_R_zone S v1 = some o0) : MetI l y_R_zone b_R_zone 2 (some .int) 1 [.ref (G.2.1 0), .int v1] G.1 (tyX G) (zAX G) (wX G S) o0 (wX G S) := by
  refine mkI (by decide) (Nat.le_of_ble_eq_true rfl) ?_
  intro p e R s m args below meth c ls Q C hl hP hret0
  replace C : Cw p m c b_R_zone 2 s args "TrustResolver" R 1 := C
  have hx := C.1
  have hb := C.2.1
  replace hl : lv_has ls 2 [(0, .ref (G.2.1 0)), (1, .int v1)] := hl
  have hret := hret0
  clear hret0
  unfold f_R_zone at hf
  refine lv_aload_n hx hb d_R_zone_0 rfl (lv_at hl 0 rfl) ?_
  refine w_get C hP (fdX_0_question G S) tb_121 d_R_zone_1 ?_
  refine lv_iload_n hx hb d_R_zone_4 rfl (lv_at hl 1 rfl) ?_
  obtain ⟨x1, h2, hf⟩ := bd_some hf
  refine w_callI (As := [.int v1]) (rest := []) C (c_Qu_zoneAt l G S v1 x1 h2) cf_Qu_zoneAt tb_397 (by decide) hP (obX_18 G S) rfl hl.1 rfl (Nat.le_of_ble_eq_true rfl) d_R_zone_5 (fun H locs hP => ?_)
  exact hret _ _ _ _ _ d_R_zone_8 (Option.some.inj hf) hP
def f_R_figure (S : XSt) (v1 : Int32) : Option Int32 := (if v1 = (0 : Int32) then some (S.1 0) else (if v1 = (1 : Int32) then some (S.1 1) else (if v1 = (2 : Int32) then some (S.1 4) else (if v1 = (3 : Int32) then some (S.1 10) else some (-1 : Int32)))))
set_option maxHeartbeats 4000000 in
set_option maxRecDepth 100000 in
theorem c_R_figure (l : Launch) (G : XG) (S : XSt) (v1 : Int32) (o0 : Int32) (hf : f_R_figure S v1 = some o0) : MetI l y_R_figure b_R_figure 2 (some .int) 0 [.ref (G.2.1 0), .int v1] G.1 (tyX G) (zAX G) (wX G S) o0 (wX G S) := by
  refine mkI (by decide) (Nat.le_of_ble_eq_true rfl) ?_
  intro p e R s m args below meth c ls Q C hl hP hret0
  replace C : Cw p m c b_R_figure 2 s args "TrustResolver" R 0 := C
  have hx := C.1
  have hb := C.2.1
  replace hl : lv_has ls 2 [(0, .ref (G.2.1 0)), (1, .int v1)] := hl
  have hret := hret0
  clear hret0
  unfold f_R_figure at hf
  refine lv_iload_n hx hb d_R_figure_0 rfl (lv_at hl 1 rfl) ?_
  by_cases h1 : v1 = (0 : Int32)
  · have hf := it_t h1 hf
    refine lv_tableIn hx hb d_R_figure_1 (by rw [h1]; decide) (by rw [h1]; decide) (by rw [h1]; rfl) (tgt := 32) (by decide) ?_
    refine lv_aload_n hx hb d_R_figure_32 rfl (lv_at hl 0 rfl) ?_
    refine w_get C hP (fdX_0_records G S) tb_118 d_R_figure_33 ?_
    refine w_getN C hP (fdX_1_count G S) nl_2 d_R_figure_36 ?_
    exact hret _ _ _ _ _ d_R_figure_39 (Option.some.inj hf) hP
  have hf := it_f h1 hf
  by_cases h2 : v1 = (1 : Int32)
  · have hf := it_t h2 hf
    refine lv_tableIn hx hb d_R_figure_1 (by rw [h2]; decide) (by rw [h2]; decide) (by rw [h2]; rfl) (tgt := 40) (by decide) ?_
    refine lv_aload_n hx hb d_R_figure_40 rfl (lv_at hl 0 rfl) ?_
    refine w_get C hP (fdX_0_signatures G S) tb_119 d_R_figure_41 ?_
    refine w_getN C hP (fdX_4_count G S) nl_3 d_R_figure_44 ?_
    exact hret _ _ _ _ _ d_R_figure_47 (Option.some.inj hf) hP
  have hf := it_f h2 hf
  by_cases h3 : v1 = (2 : Int32)
  · have hf := it_t h3 hf
    refine lv_tableIn hx hb d_R_figure_1 (by rw [h3]; decide) (by rw [h3]; decide) (by rw [h3]; rfl) (tgt := 48) (by decide) ?_
    refine lv_aload_n hx hb d_R_figure_48 rfl (lv_at hl 0 rfl) ?_
    refine w_get C hP (fdX_0_signatures G S) tb_119 d_R_figure_49 ?_
    refine w_getN C hP (fdX_4_now G S) nl_4 d_R_figure_52 ?_
    exact hret _ _ _ _ _ d_R_figure_55 (Option.some.inj hf) hP
  have hf := it_f h3 hf
  by_cases h4 : v1 = (3 : Int32)
  · have hf := it_t h4 hf
    refine lv_tableIn hx hb d_R_figure_1 (by rw [h4]; decide) (by rw [h4]; decide) (by rw [h4]; rfl) (tgt := 56) (by decide) ?_
    refine lv_aload_n hx hb d_R_figure_56 rfl (lv_at hl 0 rfl) ?_
    refine w_get C hP (fdX_0_question G S) tb_121 d_R_figure_57 ?_
    refine w_getN C hP (fdX_18_countedKeys G S) nl_8 d_R_figure_60 ?_
    exact hret _ _ _ _ _ d_R_figure_63 (Option.some.inj hf) hP
  have hf := it_f h4 hf
  have h1T := lv_neT (a := 0) h1 (by decide)
  have h2T := lv_neT (a := 1) h2 (by decide)
  have h3T := lv_neT (a := 2) h3 (by decide)
  have h4T := lv_neT (a := 3) h4 (by decide)
  refine lv_tableOut hx hb d_R_figure_1 (by omega) (tgt := 64) (by decide) ?_
  refine lv_iconst (v := (-1 : Int32)) hx hb d_R_figure_64 (by decide) ?_
  exact hret _ _ _ _ _ d_R_figure_65 (Option.some.inj hf) hP
def f_R_above (S : XSt) (v1 : Int32) (v2 : Int32) : Option Int32 := Option.bind (f_Na_isName v1) (fun x1 => (if x1 = (0 : Int32) then some (-2 : Int32) else Option.bind (f_Na_isName v2) (fun x4 => (if x4 = (0 : Int32) then some (-2 : Int32) else (if v1 = v2 then some (0 : Int32) else Option.bind (f_Na_isOrAbove v1 v2) (fun x8 => (if x8 = (0 : Int32) then some (1 : Int32) else some (-1 : Int32))))))))
set_option maxHeartbeats 4000000 in
set_option maxRecDepth 100000 in
theorem c_R_above (l : Launch) (G : XG) (S : XSt) (v1 : Int32) (v2 : Int32) (o0 : Int32) (hf : f_R_above S v1 v2 = some o0) : MetI l y_R_above b_R_above 3 (some .int) 2 [.ref (G.2.1 0), .int v1, .int v2] G.1 (tyX G) (zAX G) (wX G S) o0 (wX G S) := by
  refine mkI (by decide) (Nat.le_of_ble_eq_true rfl) ?_
  intro p e R s m args below meth c ls Q C hl hP hret0
  replace C : Cw p m c b_R_above 3 s args "TrustResolver" R 2 := C
  have hx := C.1
  have hb := C.2.1
  replace hl : lv_has ls 3 [(0, .ref (G.2.1 0)), (1, .int v1), (2, .int v2)] := hl
  have hret := hret0
  clear hret0
  unfold f_R_above at hf
  refine lv_iload_n hx hb d_R_above_0 rfl (lv_at hl 1 rfl) ?_
  obtain ⟨x1, h2, hf⟩ := bd_some hf
  refine w_callS (As := [.int v1]) (rest := []) C (c_Na_isName l v1 x1 h2) cf_Na_isName tb_130 (by decide) rfl hl.1 rfl (Nat.le_of_ble_eq_true rfl) d_R_above_1 ?_
  refine lv_if_eq hx hb d_R_above_4 (tgt := 14) (by decide) (fun h3 => ?_) (fun h3 => ?_)
  · have hf := it_t h3 hf
    refine lv_bipush (v := (-2 : Int32)) hx hb d_R_above_14 (by decide) ?_
    exact hret _ _ _ _ _ d_R_above_16 (Option.some.inj hf) hP
  · have hf := it_f h3 hf
    refine lv_iload_n hx hb d_R_above_7 rfl (lv_at hl 2 rfl) ?_
    obtain ⟨x4, h5, hf⟩ := bd_some hf
    refine w_callS (As := [.int v2]) (rest := []) C (c_Na_isName l v2 x4 h5) cf_Na_isName tb_130 (by decide) rfl hl.1 rfl (Nat.le_of_ble_eq_true rfl) d_R_above_8 ?_
    refine lv_if_ne hx hb d_R_above_11 (tgt := 17) (by decide) (fun h6 => ?_) (fun h6 => ?_)
    · have hf := it_f h6 hf
      refine lv_iload_n hx hb d_R_above_17 rfl (lv_at hl 1 rfl) ?_
      refine lv_iload_n hx hb d_R_above_18 rfl (lv_at hl 2 rfl) ?_
      refine lv_icmp_ne hx hb d_R_above_19 (tgt := 24) (by decide) (fun h7 => ?_) (fun h7 => ?_)
      · have hf := it_f h7 hf
        refine lv_iload_n hx hb d_R_above_24 rfl (lv_at hl 1 rfl) ?_
        refine lv_iload_n hx hb d_R_above_25 rfl (lv_at hl 2 rfl) ?_
        obtain ⟨x8, h9, hf⟩ := bd_some hf
        refine w_callS (As := [.int v1, .int v2]) (rest := []) C (c_Na_isOrAbove l v1 v2 x8 h9) cf_Na_isOrAbove tb_409 (by decide) rfl hl.1 rfl (Nat.le_of_ble_eq_true rfl) d_R_above_26 ?_
        refine lv_if_eq hx hb d_R_above_29 (tgt := 36) (by decide) (fun h10 => ?_) (fun h10 => ?_)
        · have hf := it_t h10 hf
          refine lv_iconst (v := (1 : Int32)) hx hb d_R_above_36 (by decide) ?_
          exact hret _ _ _ _ _ d_R_above_37 (Option.some.inj hf) hP
        · have hf := it_f h10 hf
          refine lv_iconst (v := (-1 : Int32)) hx hb d_R_above_32 (by decide) ?_
          refine lv_goto hx hb d_R_above_33 (tgt := 37) (by decide) ?_
          exact hret _ _ _ _ _ d_R_above_37 (Option.some.inj hf) hP
      · have hf := it_t h7 hf
        refine lv_iconst (v := (0 : Int32)) hx hb d_R_above_22 (by decide) ?_
        exact hret _ _ _ _ _ d_R_above_23 (Option.some.inj hf) hP
    · have hf := it_t h6 hf
      refine lv_bipush (v := (-2 : Int32)) hx hb d_R_above_14 (by decide) ?_
      exact hret _ _ _ _ _ d_R_above_16 (Option.some.inj hf) hP
