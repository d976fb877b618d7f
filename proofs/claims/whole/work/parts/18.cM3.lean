def f_M_add (S : MSt) (v1 : Int32) (v2 : Int32) (v3 : Int32) : Option (Int32 × MSt) := Option.bind (f_M_isName v1) (fun x1 => (if x1 = (0 : Int32) then some ((-1 : Int32), S) else Option.bind (f_M_isType v2) (fun x4 => (if x4 = (0 : Int32) then some ((-1 : Int32), S) else Option.bind (f_M_isData v2 v3) (fun x7 => (if x7 = (0 : Int32) then some ((-1 : Int32), S) else Option.bind (f_M_has S v1 v2 v3) (fun x10 => (if x10 = (0 : Int32) then (if (S.1 0) = (48 : Int32) then some ((-2 : Int32), S) else zgd (zin (S.1 0) 48) (znm (zmA S 0 (S.1 0) v1) (fun S17 => zgd (zin (S17.1 0) 48) (znm (zmA S17 1 (S17.1 0) v2) (fun S20 => zgd (zin (S20.1 0) 48) (znm (zmA S20 2 (S20.1 0) v3) (fun S23 => znm (zmS S23 0 ((S23.1 0) + (1 : Int32))) (fun S25 => Option.bind (f_M_size S25 v1 v2) (fun x27 => some (x27, S25)))))))))) else Option.bind (f_M_size S v1 v2) (fun x13 => some (x13, S))))))))))
set_option maxHeartbeats 4000000 in
set_option maxRecDepth 100000 in
theorem c_M_add (l : Launch) (G : XG) (S : MSt) (v1 : Int32) (v2 : Int32) (v3 : Int32) (o0 : (Int32 × MSt)) (hf : f_M_add S v1 v2 v3 = some o0) : MetI l y_M_add b_M_add 4 (some .int) 3 [.ref (G.2.1 0), .int v1, .int v2, .int v3] G.1 (tyX G) (zAM G) (wM G S) o0.1 (wM G o0.2) := by
  refine mkI (by decide) (Nat.le_of_ble_eq_true rfl) ?_
  intro p e R s m args below meth c ls Q C hl hP hret0
  replace C : Cw p m c b_M_add 4 s args "TrustResolverModel" R 3 := C
  have hx := C.1
  have hb := C.2.1
  replace hl : lv_has ls 4 [(0, .ref (G.2.1 0)), (1, .int v1), (2, .int v2), (3, .int v3)] := hl
  have hret : ∀ (pc : Nat) (ls : Array Slot) (H : Heap) (locs : List Loc) (v : Int32) (S' : MSt), decode b_M_add pc = .ok (.ireturn, 1) → (v, S') = o0 → Pw G.1 (tyX G) (zAM G) s (wM G S') H locs → W p l e R s m args below meth c H locs 0 0 Q (F0 m pc ls [.int v]) := fun pc ls H locs v S' hd he hP => hret0 pc ls H locs v hd (by rw [← he]) (by rw [← he]; exact hP)
  clear hret0
  unfold f_M_add at hf
  refine lv_iload_n hx hb d_M_add_0 rfl (lv_at hl 1 rfl) ?_
  obtain ⟨x1, h2, hf⟩ := bd_some hf
  refine w_callS (As := [.int v1]) (rest := []) C (c_M_isName l v1 x1 h2) cf_M_isName tb_476 (by decide) rfl hl.1 rfl (Nat.le_of_ble_eq_true rfl) d_M_add_1 ?_
  refine lv_if_eq hx hb d_M_add_4 (tgt := 22) (by decide) (fun h3 => ?_) (fun h3 => ?_)
  · have hf := it_t h3 hf
    refine lv_iconst (v := (-1 : Int32)) hx hb d_M_add_22 (by decide) ?_
    exact hret _ _ _ _ _ _ d_M_add_23 (Option.some.inj hf) hP
  · have hf := it_f h3 hf
    refine lv_iload_n hx hb d_M_add_7 rfl (lv_at hl 2 rfl) ?_
    obtain ⟨x4, h5, hf⟩ := bd_some hf
    refine w_callS (As := [.int v2]) (rest := []) C (c_M_isType l v2 x4 h5) cf_M_isType tb_483 (by decide) rfl hl.1 rfl (Nat.le_of_ble_eq_true rfl) d_M_add_8 ?_
    refine lv_if_eq hx hb d_M_add_11 (tgt := 22) (by decide) (fun h6 => ?_) (fun h6 => ?_)
    · have hf := it_t h6 hf
      refine lv_iconst (v := (-1 : Int32)) hx hb d_M_add_22 (by decide) ?_
      exact hret _ _ _ _ _ _ d_M_add_23 (Option.some.inj hf) hP
    · have hf := it_f h6 hf
      refine lv_iload_n hx hb d_M_add_14 rfl (lv_at hl 2 rfl) ?_
      refine lv_iload_n hx hb d_M_add_15 rfl (lv_at hl 3 rfl) ?_
      obtain ⟨x7, h8, hf⟩ := bd_some hf
      refine w_callS (As := [.int v2, .int v3]) (rest := []) C (c_M_isData l v2 v3 x7 h8) cf_M_isData tb_486 (by decide) rfl hl.1 rfl (Nat.le_of_ble_eq_true rfl) d_M_add_16 ?_
      refine lv_if_ne hx hb d_M_add_19 (tgt := 24) (by decide) (fun h9 => ?_) (fun h9 => ?_)
      · have hf := it_f h9 hf
        refine lv_aload_n hx hb d_M_add_24 rfl (lv_at hl 0 rfl) ?_
        refine lv_iload_n hx hb d_M_add_25 rfl (lv_at hl 1 rfl) ?_
        refine lv_iload_n hx hb d_M_add_26 rfl (lv_at hl 2 rfl) ?_
        refine lv_iload_n hx hb d_M_add_27 rfl (lv_at hl 3 rfl) ?_
        obtain ⟨x10, h11, hf⟩ := bd_some hf
        refine w_callI (As := [.int v1, .int v2, .int v3]) (rest := []) C (c_M_has l G S v1 v2 v3 x10 h11) cf_M_has tb_495 (by decide) hP (obM_0 G S) rfl hl.1 rfl (Nat.le_of_ble_eq_true rfl) d_M_add_28 (fun H locs hP => ?_)
        refine lv_if_ne hx hb d_M_add_31 (tgt := 86) (by decide) (fun h12 => ?_) (fun h12 => ?_)
        · have hf := it_f h12 hf
          refine lv_aload_n hx hb d_M_add_86 rfl (lv_at hl 0 rfl) ?_
          refine lv_iload_n hx hb d_M_add_87 rfl (lv_at hl 1 rfl) ?_
          refine lv_iload_n hx hb d_M_add_88 rfl (lv_at hl 2 rfl) ?_
          obtain ⟨x13, h14, hf⟩ := bd_some hf
          refine w_callI (As := [.int v1, .int v2]) (rest := []) C (c_M_size l G S v1 v2 x13 h14) cf_M_size tb_498 (by decide) hP (obM_0 G S) rfl hl.1 rfl (Nat.le_of_ble_eq_true rfl) d_M_add_89 (fun H locs hP => ?_)
          exact hret _ _ _ _ _ _ d_M_add_92 (Option.some.inj hf) hP
        · have hf := it_t h12 hf
          refine lv_aload_n hx hb d_M_add_34 rfl (lv_at hl 0 rfl) ?_
          refine w_get C hP (fdM_0_records G S) tb_416 d_M_add_35 ?_
          refine lv_bipush (v := (48 : Int32)) hx hb d_M_add_38 (by decide) ?_
          refine lv_icmp_ne hx hb d_M_add_40 (tgt := 46) (by decide) (fun h15 => ?_) (fun h15 => ?_)
          · have hf := it_f h15 hf
            refine lv_aload_n hx hb d_M_add_46 rfl (lv_at hl 0 rfl) ?_
            refine w_get C hP (fdM_0_owners G S) tb_417 d_M_add_47 ?_
            refine lv_aload_n hx hb d_M_add_50 rfl (lv_at hl 0 rfl) ?_
            refine w_get C hP (fdM_0_records G S) tb_416 d_M_add_51 ?_
            refine lv_iload_n hx hb d_M_add_54 rfl (lv_at hl 1 rfl) ?_
            obtain ⟨h16, hf⟩ := zgd_some hf
            refine w_iast (t0 := 0) C hP (stM_0 G S (S.1 0) v1) rfl h16 d_M_add_55 (fun H locs hP => ?_)
            obtain ⟨S17, e18, hf⟩ := znm_some hf
            rw [← e18] at hP
            refine lv_aload_n hx hb d_M_add_56 rfl (lv_at hl 0 rfl) ?_
            refine w_get C hP (fdM_0_types G S17) tb_418 d_M_add_57 ?_
            refine lv_aload_n hx hb d_M_add_60 rfl (lv_at hl 0 rfl) ?_
            refine w_get C hP (fdM_0_records G S17) tb_416 d_M_add_61 ?_
            refine lv_iload_n hx hb d_M_add_64 rfl (lv_at hl 2 rfl) ?_
            obtain ⟨h19, hf⟩ := zgd_some hf
            refine w_iast (t0 := 0) C hP (stM_1 G S17 (S17.1 0) v2) rfl h19 d_M_add_65 (fun H locs hP => ?_)
            obtain ⟨S20, e21, hf⟩ := znm_some hf
            rw [← e21] at hP
            refine lv_aload_n hx hb d_M_add_66 rfl (lv_at hl 0 rfl) ?_
            refine w_get C hP (fdM_0_datas G S20) tb_419 d_M_add_67 ?_
            refine lv_aload_n hx hb d_M_add_70 rfl (lv_at hl 0 rfl) ?_
            refine w_get C hP (fdM_0_records G S20) tb_416 d_M_add_71 ?_
            refine lv_iload_n hx hb d_M_add_74 rfl (lv_at hl 3 rfl) ?_
            obtain ⟨h22, hf⟩ := zgd_some hf
            refine w_iast (t0 := 0) C hP (stM_2 G S20 (S20.1 0) v3) rfl h22 d_M_add_75 (fun H locs hP => ?_)
            obtain ⟨S23, e24, hf⟩ := znm_some hf
            rw [← e24] at hP
            refine lv_aload_n hx hb d_M_add_76 rfl (lv_at hl 0 rfl) ?_
            refine lv_dup hx hb d_M_add_77 rfl ?_
            refine w_get C hP (fdM_0_records G S23) tb_416 d_M_add_78 ?_
            refine lv_iconst (v := (1 : Int32)) hx hb d_M_add_81 (by decide) ?_
            refine lv_iadd hx hb d_M_add_82 ?_
            refine w_put C hP (ptM_0_records G S23 ((S23.1 0) + (1 : Int32))) tb_416 d_M_add_83 (fun H locs hP => ?_)
            obtain ⟨S25, e26, hf⟩ := znm_some hf
            rw [← e26] at hP
            refine lv_aload_n hx hb d_M_add_86 rfl (lv_at hl 0 rfl) ?_
            refine lv_iload_n hx hb d_M_add_87 rfl (lv_at hl 1 rfl) ?_
            refine lv_iload_n hx hb d_M_add_88 rfl (lv_at hl 2 rfl) ?_
            obtain ⟨x27, h28, hf⟩ := bd_some hf
            refine w_callI (As := [.int v1, .int v2]) (rest := []) C (c_M_size l G S25 v1 v2 x27 h28) cf_M_size tb_498 (by decide) hP (obM_0 G S25) rfl hl.1 rfl (Nat.le_of_ble_eq_true rfl) d_M_add_89 (fun H locs hP => ?_)
            exact hret _ _ _ _ _ _ d_M_add_92 (Option.some.inj hf) hP
          · have hf := it_t h15 hf
            refine lv_bipush (v := (-2 : Int32)) hx hb d_M_add_43 (by decide) ?_
            exact hret _ _ _ _ _ _ d_M_add_45 (Option.some.inj hf) hP
      · have hf := it_t h9 hf
        refine lv_iconst (v := (-1 : Int32)) hx hb d_M_add_22 (by decide) ?_
        exact hret _ _ _ _ _ _ d_M_add_23 (Option.some.inj hf) hP
def f_M_sign (S : MSt) (v1 : Int32) (v2 : Int32) (v3 : Int32) (v4 : Int32) (v5 : Int32) : Option (Int32 × MSt) := Option.bind (f_M_isName v1) (fun x1 => (if x1 = (0 : Int32) then some ((-1 : Int32), S) else Option.bind (f_M_isName v3) (fun x4 => (if x4 = (0 : Int32) then some ((-1 : Int32), S) else Option.bind (f_M_isType v2) (fun x7 => (if x7 = (0 : Int32) then some ((-1 : Int32), S) else Option.bind (f_M_isKey v4) (fun x10 => (if x10 = (0 : Int32) then some ((-1 : Int32), S) else (if v5 < (0 : Int32) then some ((-1 : Int32), S) else Option.bind (f_M_depth v1) (fun x14 => (if x14 < v5 then some ((-1 : Int32), S) else Option.bind (f_M_size S v1 v2) (fun x17 => (if x17 = (0 : Int32) then some ((-1 : Int32), S) else (if (S.1 3) = (32 : Int32) then some ((-2 : Int32), S) else zgd (zin (S.1 3) 32) (znm (zmA S 3 (S.1 3) v1) (fun S22 => zgd (zin (S.1 3) 32) (znm (zmA S22 4 (S.1 3) v2) (fun S25 => zgd (zin (S.1 3) 32) (znm (zmA S25 5 (S.1 3) v3) (fun S28 => zgd (zin (S.1 3) 32) (znm (zmA S28 6 (S.1 3) v4) (fun S31 => zgd (zin (S.1 3) 32) (znm (zmA S31 7 (S.1 3) v5) (fun S34 => zgd (zin (S.1 3) 32) (znm (zmA S34 8 (S.1 3) (S34.1 1)) (fun S37 => zgd (zin (S.1 3) 32) (znm (zmA S37 9 (S.1 3) (S37.1 2)) (fun S40 => Option.bind (f_M_markOf S40 (S.1 3)) (fun x42 => zgd (zin (S.1 3) 32) (znm (zmA x42.2 10 (S.1 3) x42.1) (fun S45 => znm (zmS S45 3 ((S45.1 3) + (1 : Int32))) (fun S47 => some ((S.1 3), S47)))))))))))))))))))))))))))))))))
set_option maxHeartbeats 4000000 in
set_option maxRecDepth 100000 in
theorem c_M_sign (l : Launch) (G : XG) (S : MSt) (v1 : Int32) (v2 : Int32) (v3 : Int32) (v4 : Int32) (v5 : Int32) (o0 : (Int32 × MSt)) (hf : f_M_sign S v1 v2 v3 v4 v5 = some o0) : MetI l y_M_sign b_M_sign 7 (some .int) 4 [.ref (G.2.1 0), .int v1, .int v2, .int v3, .int v4, .int v5] G.1 (tyX G) (zAM G) (wM G S) o0.1 (wM G o0.2) := by
  refine mkI (by decide) (Nat.le_of_ble_eq_true rfl) ?_
  intro p e R s m args below meth c ls Q C hl hP hret0
  replace C : Cw p m c b_M_sign 7 s args "TrustResolverModel" R 4 := C
  have hx := C.1
  have hb := C.2.1
  replace hl : lv_has ls 7 [(0, .ref (G.2.1 0)), (1, .int v1), (2, .int v2), (3, .int v3), (4, .int v4), (5, .int v5)] := hl
  have hret : ∀ (pc : Nat) (ls : Array Slot) (H : Heap) (locs : List Loc) (v : Int32) (S' : MSt), decode b_M_sign pc = .ok (.ireturn, 1) → (v, S') = o0 → Pw G.1 (tyX G) (zAM G) s (wM G S') H locs → W p l e R s m args below meth c H locs 0 0 Q (F0 m pc ls [.int v]) := fun pc ls H locs v S' hd he hP => hret0 pc ls H locs v hd (by rw [← he]) (by rw [← he]; exact hP)
  clear hret0
  unfold f_M_sign at hf
  refine lv_iload_n hx hb d_M_sign_0 rfl (lv_at hl 1 rfl) ?_
  obtain ⟨x1, h2, hf⟩ := bd_some hf
  refine w_callS (As := [.int v1]) (rest := []) C (c_M_isName l v1 x1 h2) cf_M_isName tb_476 (by decide) rfl hl.1 rfl (Nat.le_of_ble_eq_true rfl) d_M_sign_1 ?_
  refine lv_if_eq hx hb d_M_sign_4 (tgt := 52) (by decide) (fun h3 => ?_) (fun h3 => ?_)
  · have hf := it_t h3 hf
    refine lv_iconst (v := (-1 : Int32)) hx hb d_M_sign_52 (by decide) ?_
    exact hret _ _ _ _ _ _ d_M_sign_53 (Option.some.inj hf) hP
  · have hf := it_f h3 hf
    refine lv_iload_n hx hb d_M_sign_7 rfl (lv_at hl 3 rfl) ?_
    obtain ⟨x4, h5, hf⟩ := bd_some hf
    refine w_callS (As := [.int v3]) (rest := []) C (c_M_isName l v3 x4 h5) cf_M_isName tb_476 (by decide) rfl hl.1 rfl (Nat.le_of_ble_eq_true rfl) d_M_sign_8 ?_
    refine lv_if_eq hx hb d_M_sign_11 (tgt := 52) (by decide) (fun h6 => ?_) (fun h6 => ?_)
    · have hf := it_t h6 hf
      refine lv_iconst (v := (-1 : Int32)) hx hb d_M_sign_52 (by decide) ?_
      exact hret _ _ _ _ _ _ d_M_sign_53 (Option.some.inj hf) hP
    · have hf := it_f h6 hf
      refine lv_iload_n hx hb d_M_sign_14 rfl (lv_at hl 2 rfl) ?_
      obtain ⟨x7, h8, hf⟩ := bd_some hf
      refine w_callS (As := [.int v2]) (rest := []) C (c_M_isType l v2 x7 h8) cf_M_isType tb_483 (by decide) rfl hl.1 rfl (Nat.le_of_ble_eq_true rfl) d_M_sign_15 ?_
      refine lv_if_eq hx hb d_M_sign_18 (tgt := 52) (by decide) (fun h9 => ?_) (fun h9 => ?_)
      · have hf := it_t h9 hf
        refine lv_iconst (v := (-1 : Int32)) hx hb d_M_sign_52 (by decide) ?_
        exact hret _ _ _ _ _ _ d_M_sign_53 (Option.some.inj hf) hP
      · have hf := it_f h9 hf
        refine lv_iload hx hb d_M_sign_21 (lv_at hl 4 rfl) ?_
        obtain ⟨x10, h11, hf⟩ := bd_some hf
        refine w_callS (As := [.int v4]) (rest := []) C (c_M_isKey l v4 x10 h11) cf_M_isKey tb_489 (by decide) rfl hl.1 rfl (Nat.le_of_ble_eq_true rfl) d_M_sign_23 ?_
        refine lv_if_eq hx hb d_M_sign_26 (tgt := 52) (by decide) (fun h12 => ?_) (fun h12 => ?_)
        · have hf := it_t h12 hf
          refine lv_iconst (v := (-1 : Int32)) hx hb d_M_sign_52 (by decide) ?_
          exact hret _ _ _ _ _ _ d_M_sign_53 (Option.some.inj hf) hP
        · have hf := it_f h12 hf
          refine lv_iload hx hb d_M_sign_29 (lv_at hl 5 rfl) ?_
          refine lv_if_lt hx hb d_M_sign_31 (tgt := 52) (by decide) (fun h13 => ?_) (fun h13 => ?_)
          · have hf := it_t h13 hf
            refine lv_iconst (v := (-1 : Int32)) hx hb d_M_sign_52 (by decide) ?_
            exact hret _ _ _ _ _ _ d_M_sign_53 (Option.some.inj hf) hP
          · have hf := it_f h13 hf
            refine lv_iload hx hb d_M_sign_34 (lv_at hl 5 rfl) ?_
            refine lv_iload_n hx hb d_M_sign_36 rfl (lv_at hl 1 rfl) ?_
            obtain ⟨x14, h15, hf⟩ := bd_some hf
            refine w_callS (As := [.int v1]) (rest := [.int v5]) C (c_M_depth l v1 x14 h15) cf_M_depth tb_527 (by decide) rfl hl.1 rfl (Nat.le_of_ble_eq_true rfl) d_M_sign_37 ?_
            refine lv_icmp_gt hx hb d_M_sign_40 (tgt := 52) (by decide) (fun h16 => ?_) (fun h16 => ?_)
            · have hf := it_t h16 hf
              refine lv_iconst (v := (-1 : Int32)) hx hb d_M_sign_52 (by decide) ?_
              exact hret _ _ _ _ _ _ d_M_sign_53 (Option.some.inj hf) hP
            · have hf := it_f h16 hf
              refine lv_aload_n hx hb d_M_sign_43 rfl (lv_at hl 0 rfl) ?_
              refine lv_iload_n hx hb d_M_sign_44 rfl (lv_at hl 1 rfl) ?_
              refine lv_iload_n hx hb d_M_sign_45 rfl (lv_at hl 2 rfl) ?_
              obtain ⟨x17, h18, hf⟩ := bd_some hf
              refine w_callI (As := [.int v1, .int v2]) (rest := []) C (c_M_size l G S v1 v2 x17 h18) cf_M_size tb_498 (by decide) hP (obM_0 G S) rfl hl.1 rfl (Nat.le_of_ble_eq_true rfl) d_M_sign_46 (fun H locs hP => ?_)
              refine lv_if_ne hx hb d_M_sign_49 (tgt := 54) (by decide) (fun h19 => ?_) (fun h19 => ?_)
              · have hf := it_f h19 hf
                refine lv_aload_n hx hb d_M_sign_54 rfl (lv_at hl 0 rfl) ?_
                refine w_get C hP (fdM_0_signatures G S) tb_422 d_M_sign_55 ?_
                refine lv_bipush (v := (32 : Int32)) hx hb d_M_sign_58 (by decide) ?_
                refine lv_icmp_ne hx hb d_M_sign_60 (tgt := 66) (by decide) (fun h20 => ?_) (fun h20 => ?_)
                · have hf := it_f h20 hf
                  refine lv_aload_n hx hb d_M_sign_66 rfl (lv_at hl 0 rfl) ?_
                  refine w_get C hP (fdM_0_signatures G S) tb_422 d_M_sign_67 ?_
                  refine lv_istore (lv' := [(6, .int (S.1 3)), (0, .ref (G.2.1 0)), (1, .int v1), (2, .int v2), (3, .int v3), (4, .int v4), (5, .int v5)]) hx hb d_M_sign_70 hl (by decide) rfl (fun ls hl => ?_)
                  refine lv_aload_n hx hb d_M_sign_72 rfl (lv_at hl 1 rfl) ?_
                  refine w_get C hP (fdM_0_signed G S) tb_423 d_M_sign_73 ?_
                  refine lv_iload hx hb d_M_sign_76 (lv_at hl 0 rfl) ?_
                  refine lv_iload_n hx hb d_M_sign_78 rfl (lv_at hl 2 rfl) ?_
                  obtain ⟨h21, hf⟩ := zgd_some hf
                  refine w_iast (t0 := 0) C hP (stM_3 G S (S.1 3) v1) rfl h21 d_M_sign_79 (fun H locs hP => ?_)
                  obtain ⟨S22, e23, hf⟩ := znm_some hf
                  rw [← e23] at hP
                  refine lv_aload_n hx hb d_M_sign_80 rfl (lv_at hl 1 rfl) ?_
                  refine w_get C hP (fdM_0_signedTypes G S22) tb_424 d_M_sign_81 ?_
                  refine lv_iload hx hb d_M_sign_84 (lv_at hl 0 rfl) ?_
                  refine lv_iload_n hx hb d_M_sign_86 rfl (lv_at hl 3 rfl) ?_
                  obtain ⟨h24, hf⟩ := zgd_some hf
                  refine w_iast (t0 := 0) C hP (stM_4 G S22 (S.1 3) v2) rfl h24 d_M_sign_87 (fun H locs hP => ?_)
                  obtain ⟨S25, e26, hf⟩ := znm_some hf
                  rw [← e26] at hP
                  refine lv_aload_n hx hb d_M_sign_88 rfl (lv_at hl 1 rfl) ?_
                  refine w_get C hP (fdM_0_signers G S25) tb_425 d_M_sign_89 ?_
                  refine lv_iload hx hb d_M_sign_92 (lv_at hl 0 rfl) ?_
                  refine lv_iload_n hx hb d_M_sign_94 rfl (lv_at hl 4 rfl) ?_
                  obtain ⟨h27, hf⟩ := zgd_some hf
                  refine w_iast (t0 := 0) C hP (stM_5 G S25 (S.1 3) v3) rfl h27 d_M_sign_95 (fun H locs hP => ?_)
                  obtain ⟨S28, e29, hf⟩ := znm_some hf
                  rw [← e29] at hP
                  refine lv_aload_n hx hb d_M_sign_96 rfl (lv_at hl 1 rfl) ?_
                  refine w_get C hP (fdM_0_keys G S28) tb_426 d_M_sign_97 ?_
                  refine lv_iload hx hb d_M_sign_100 (lv_at hl 0 rfl) ?_
                  refine lv_iload hx hb d_M_sign_102 (lv_at hl 5 rfl) ?_
                  obtain ⟨h30, hf⟩ := zgd_some hf
                  refine w_iast (t0 := 0) C hP (stM_6 G S28 (S.1 3) v4) rfl h30 d_M_sign_104 (fun H locs hP => ?_)
                  obtain ⟨S31, e32, hf⟩ := znm_some hf
                  rw [← e32] at hP
                  refine lv_aload_n hx hb d_M_sign_105 rfl (lv_at hl 1 rfl) ?_
                  refine w_get C hP (fdM_0_labels G S31) tb_427 d_M_sign_106 ?_
                  refine lv_iload hx hb d_M_sign_109 (lv_at hl 0 rfl) ?_
                  refine lv_iload hx hb d_M_sign_111 (lv_at hl 6 rfl) ?_
                  obtain ⟨h33, hf⟩ := zgd_some hf
                  refine w_iast (t0 := 0) C hP (stM_7 G S31 (S.1 3) v5) rfl h33 d_M_sign_113 (fun H locs hP => ?_)
                  obtain ⟨S34, e35, hf⟩ := znm_some hf
                  rw [← e35] at hP
                  refine lv_aload_n hx hb d_M_sign_114 rfl (lv_at hl 1 rfl) ?_
                  refine w_get C hP (fdM_0_froms G S34) tb_428 d_M_sign_115 ?_
                  refine lv_iload hx hb d_M_sign_118 (lv_at hl 0 rfl) ?_
                  refine lv_aload_n hx hb d_M_sign_120 rfl (lv_at hl 1 rfl) ?_
                  refine w_get C hP (fdM_0_firstTime G S34) tb_420 d_M_sign_121 ?_
                  obtain ⟨h36, hf⟩ := zgd_some hf
                  refine w_iast (t0 := 0) C hP (stM_8 G S34 (S.1 3) (S34.1 1)) rfl h36 d_M_sign_124 (fun H locs hP => ?_)
                  obtain ⟨S37, e38, hf⟩ := znm_some hf
                  rw [← e38] at hP
                  refine lv_aload_n hx hb d_M_sign_125 rfl (lv_at hl 1 rfl) ?_
                  refine w_get C hP (fdM_0_tos G S37) tb_429 d_M_sign_126 ?_
                  refine lv_iload hx hb d_M_sign_129 (lv_at hl 0 rfl) ?_
                  refine lv_aload_n hx hb d_M_sign_131 rfl (lv_at hl 1 rfl) ?_
                  refine w_get C hP (fdM_0_lastTime G S37) tb_421 d_M_sign_132 ?_
                  obtain ⟨h39, hf⟩ := zgd_some hf
                  refine w_iast (t0 := 0) C hP (stM_9 G S37 (S.1 3) (S37.1 2)) rfl h39 d_M_sign_135 (fun H locs hP => ?_)
                  obtain ⟨S40, e41, hf⟩ := znm_some hf
                  rw [← e41] at hP
                  refine lv_aload_n hx hb d_M_sign_136 rfl (lv_at hl 1 rfl) ?_
                  refine w_get C hP (fdM_0_marks G S40) tb_430 d_M_sign_137 ?_
                  refine lv_iload hx hb d_M_sign_140 (lv_at hl 0 rfl) ?_
                  refine lv_aload_n hx hb d_M_sign_142 rfl (lv_at hl 1 rfl) ?_
                  refine lv_iload hx hb d_M_sign_143 (lv_at hl 0 rfl) ?_
                  obtain ⟨x42, h43, hf⟩ := bd_some hf
                  refine w_callI (As := [.int (S.1 3)]) (rest := [.int (S.1 3), .ref (G.2.1 11)]) C (c_M_markOf l G S40 (S.1 3) x42 h43) cf_M_markOf tb_530 (by decide) hP (obM_0 G S40) rfl hl.1 rfl (Nat.le_of_ble_eq_true rfl) d_M_sign_145 (fun H locs hP => ?_)
                  obtain ⟨h44, hf⟩ := zgd_some hf
                  refine w_iast (t0 := 0) C hP (stM_10 G x42.2 (S.1 3) x42.1) rfl h44 d_M_sign_148 (fun H locs hP => ?_)
                  obtain ⟨S45, e46, hf⟩ := znm_some hf
                  rw [← e46] at hP
                  refine lv_aload_n hx hb d_M_sign_149 rfl (lv_at hl 1 rfl) ?_
                  refine lv_dup hx hb d_M_sign_150 rfl ?_
                  refine w_get C hP (fdM_0_signatures G S45) tb_422 d_M_sign_151 ?_
                  refine lv_iconst (v := (1 : Int32)) hx hb d_M_sign_154 (by decide) ?_
                  refine lv_iadd hx hb d_M_sign_155 ?_
                  refine w_put C hP (ptM_0_signatures G S45 ((S45.1 3) + (1 : Int32))) tb_422 d_M_sign_156 (fun H locs hP => ?_)
                  obtain ⟨S47, e48, hf⟩ := znm_some hf
                  rw [← e48] at hP
                  refine lv_iload hx hb d_M_sign_159 (lv_at hl 0 rfl) ?_
                  exact hret _ _ _ _ _ _ d_M_sign_161 (Option.some.inj hf) hP
                · have hf := it_t h20 hf
                  refine lv_bipush (v := (-2 : Int32)) hx hb d_M_sign_63 (by decide) ?_
                  exact hret _ _ _ _ _ _ d_M_sign_65 (Option.some.inj hf) hP
              · have hf := it_t h19 hf
                refine lv_iconst (v := (-1 : Int32)) hx hb d_M_sign_52 (by decide) ?_
                exact hret _ _ _ _ _ _ d_M_sign_53 (Option.some.inj hf) hP
def J_M_isGood_40 (S : MSt) (v1 : Int32) (v3 : Int32) (s0 : Int32) : Option (Int32 × MSt) := (if s0 = (0 : Int32) then some ((0 : Int32), S) else zgd (zin v1 32) (Option.bind (f_M_counts S (S.2.1 6 (Int32.toNatClampNeg v1))) (fun x3 => (if x3.1 = (0 : Int32) then some ((0 : Int32), x3.2) else zgd (zin v1 32) ((if (x3.2.1 5) < (x3.2.2.1 8 (Int32.toNatClampNeg v1)) then some ((0 : Int32), x3.2) else zgd (zin v1 32) ((if (x3.2.2.1 9 (Int32.toNatClampNeg v1)) < (x3.2.1 5) then some ((0 : Int32), x3.2) else zgd (zin v1 32) (Option.bind (f_M_size x3.2 v3 (x3.2.2.1 4 (Int32.toNatClampNeg v1))) (fun x11 => (if x11 ≤ (0 : Int32) then some ((0 : Int32), x3.2) else zgd (zin v1 32) (Option.bind (f_M_markOf x3.2 v1) (fun x15 => (if (x3.2.2.1 10 (Int32.toNatClampNeg v1)) = x15.1 then some ((1 : Int32), x15.2) else some ((0 : Int32), x15.2)))))))))))))))
def f_M_isGood (S : MSt) (v1 : Int32) : Option (Int32 × MSt) := Option.bind (f_M_here S) (fun x18 => zgd (zin v1 32) (zgd (zin v1 32) ((if (S.2.1 5 (Int32.toNatClampNeg v1)) = x18 then (if x18 = (S.2.1 3 (Int32.toNatClampNeg v1)) then J_M_isGood_40 S v1 (S.2.1 3 (Int32.toNatClampNeg v1)) (1 : Int32) else Option.bind (f_M_isAbove x18 (S.2.1 3 (Int32.toNatClampNeg v1))) (fun x24 => (if x24 = (0 : Int32) then J_M_isGood_40 S v1 (S.2.1 3 (Int32.toNatClampNeg v1)) (0 : Int32) else J_M_isGood_40 S v1 (S.2.1 3 (Int32.toNatClampNeg v1)) (1 : Int32)))) else J_M_isGood_40 S v1 (S.2.1 3 (Int32.toNatClampNeg v1)) (0 : Int32)))))
set_option maxHeartbeats 4000000 in
set_option maxRecDepth 100000 in
theorem c_M_isGood (l : Launch) (G : XG) (S : MSt) (v1 : Int32) (o0 : (Int32 × MSt)) (hf : f_M_isGood S v1 = some o0) : MetI l y_M_isGood b_M_isGood 5 (some .boolean) 4 [.ref (G.2.1 0), .int v1] G.1 (tyX G) (zAM G) (wM G S) o0.1 (wM G o0.2) := by
  refine mkZ (by decide) (Nat.le_of_ble_eq_true rfl) ?_
  intro p e R s m args below meth c ls Q C hl hP hret0
  replace C : Cw p m c b_M_isGood 5 s args "TrustResolverModel" R 4 := C
  have hx := C.1
  have hb := C.2.1
  replace hl : lv_has ls 5 [(0, .ref (G.2.1 0)), (1, .int v1)] := hl
  have hret : ∀ (pc : Nat) (ls : Array Slot) (H : Heap) (locs : List Loc) (v : Int32) (S' : MSt), decode b_M_isGood pc = .ok (.ireturn, 1) → zib v = true → (v, S') = o0 → Pw G.1 (tyX G) (zAM G) s (wM G S') H locs → W p l e R s m args below meth c H locs 0 0 Q (F0 m pc ls [.int v]) := fun pc ls H locs v S' hd hz he hP => hret0 pc ls H locs v hd hz (by rw [← he]) (by rw [← he]; exact hP)
  clear hret0
  unfold f_M_isGood at hf
  have JP_40 : ∀ (S : MSt) (v1 : Int32) (v3 : Int32) (s0 : Int32) (ls : Array Slot) (H : Heap) (locs : List Loc) , lv_has ls 5 [(0, .ref (G.2.1 0)), (1, .int v1), (3, .int v3)] → Pw G.1 (tyX G) (zAM G) s (wM G S) H locs → J_M_isGood_40 S v1 v3 s0 = some o0 → W p l e R s m args below meth c H locs 0 0 Q (F0 m 40 ls [.int s0]) := by
    intro S v1 v3 s0 ls H locs hl hP hf
    unfold J_M_isGood_40 at hf
    refine lv_istore (lv' := [(4, .int s0), (0, .ref (G.2.1 0)), (1, .int v1), (3, .int v3)]) hx hb d_M_isGood_40 hl (by decide) rfl (fun ls hl => ?_)
    refine lv_iload hx hb d_M_isGood_42 (lv_at hl 0 rfl) ?_
    refine lv_if_eq hx hb d_M_isGood_44 (tgt := 118) (by decide) (fun h1 => ?_) (fun h1 => ?_)
    · have hf := it_t h1 hf
      refine lv_iconst (v := (0 : Int32)) hx hb d_M_isGood_118 (by decide) ?_
      exact hret _ _ _ _ _ _ d_M_isGood_119 (by decide) (Option.some.inj hf) hP
    · have hf := it_f h1 hf
      refine lv_aload_n hx hb d_M_isGood_47 rfl (lv_at hl 1 rfl) ?_
      refine lv_aload_n hx hb d_M_isGood_48 rfl (lv_at hl 1 rfl) ?_
      refine w_get C hP (fdM_0_keys G S) tb_426 d_M_isGood_49 ?_
      refine lv_iload_n hx hb d_M_isGood_52 rfl (lv_at hl 2 rfl) ?_
      obtain ⟨h2, hf⟩ := zgd_some hf
      refine w_iald (t0 := 0) C hP (arM_6 G S) rfl h2 d_M_isGood_53 ?_
      obtain ⟨x3, h4, hf⟩ := bd_some hf
      refine w_callI (As := [.int (S.2.1 6 (Int32.toNatClampNeg v1))]) (rest := []) C (c_M_counts l G S (S.2.1 6 (Int32.toNatClampNeg v1)) x3 h4) cf_M_counts tb_580 (by decide) hP (obM_0 G S) rfl hl.1 rfl (Nat.le_of_ble_eq_true rfl) d_M_isGood_54 (fun H locs hP => ?_)
      refine lv_if_eq hx hb d_M_isGood_57 (tgt := 118) (by decide) (fun h5 => ?_) (fun h5 => ?_)
      · have hf := it_t h5 hf
        refine lv_iconst (v := (0 : Int32)) hx hb d_M_isGood_118 (by decide) ?_
        exact hret _ _ _ _ _ _ d_M_isGood_119 (by decide) (Option.some.inj hf) hP
      · have hf := it_f h5 hf
        refine lv_aload_n hx hb d_M_isGood_60 rfl (lv_at hl 1 rfl) ?_
        refine w_get C hP (fdM_0_time G x3.2) tb_434 d_M_isGood_61 ?_
        refine lv_aload_n hx hb d_M_isGood_64 rfl (lv_at hl 1 rfl) ?_
        refine w_get C hP (fdM_0_froms G x3.2) tb_428 d_M_isGood_65 ?_
        refine lv_iload_n hx hb d_M_isGood_68 rfl (lv_at hl 2 rfl) ?_
        obtain ⟨h6, hf⟩ := zgd_some hf
        refine w_iald (t0 := 0) C hP (arM_8 G x3.2) rfl h6 d_M_isGood_69 ?_
        refine lv_icmp_lt hx hb d_M_isGood_70 (tgt := 118) (by decide) (fun h7 => ?_) (fun h7 => ?_)
        · have hf := it_t h7 hf
          refine lv_iconst (v := (0 : Int32)) hx hb d_M_isGood_118 (by decide) ?_
          exact hret _ _ _ _ _ _ d_M_isGood_119 (by decide) (Option.some.inj hf) hP
        · have hf := it_f h7 hf
          refine lv_aload_n hx hb d_M_isGood_73 rfl (lv_at hl 1 rfl) ?_
          refine w_get C hP (fdM_0_time G x3.2) tb_434 d_M_isGood_74 ?_
          refine lv_aload_n hx hb d_M_isGood_77 rfl (lv_at hl 1 rfl) ?_
          refine w_get C hP (fdM_0_tos G x3.2) tb_429 d_M_isGood_78 ?_
          refine lv_iload_n hx hb d_M_isGood_81 rfl (lv_at hl 2 rfl) ?_
          obtain ⟨h8, hf⟩ := zgd_some hf
          refine w_iald (t0 := 0) C hP (arM_9 G x3.2) rfl h8 d_M_isGood_82 ?_
          refine lv_icmp_gt hx hb d_M_isGood_83 (tgt := 118) (by decide) (fun h9 => ?_) (fun h9 => ?_)
          · have hf := it_t h9 hf
            refine lv_iconst (v := (0 : Int32)) hx hb d_M_isGood_118 (by decide) ?_
            exact hret _ _ _ _ _ _ d_M_isGood_119 (by decide) (Option.some.inj hf) hP
          · have hf := it_f h9 hf
            refine lv_aload_n hx hb d_M_isGood_86 rfl (lv_at hl 1 rfl) ?_
            refine lv_iload_n hx hb d_M_isGood_87 rfl (lv_at hl 3 rfl) ?_
            refine lv_aload_n hx hb d_M_isGood_88 rfl (lv_at hl 1 rfl) ?_
            refine w_get C hP (fdM_0_signedTypes G x3.2) tb_424 d_M_isGood_89 ?_
            refine lv_iload_n hx hb d_M_isGood_92 rfl (lv_at hl 2 rfl) ?_
            obtain ⟨h10, hf⟩ := zgd_some hf
            refine w_iald (t0 := 0) C hP (arM_4 G x3.2) rfl h10 d_M_isGood_93 ?_
            obtain ⟨x11, h12, hf⟩ := bd_some hf
            refine w_callI (As := [.int v3, .int (x3.2.2.1 4 (Int32.toNatClampNeg v1))]) (rest := []) C (c_M_size l G x3.2 v3 (x3.2.2.1 4 (Int32.toNatClampNeg v1)) x11 h12) cf_M_size tb_498 (by decide) hP (obM_0 G x3.2) rfl hl.1 rfl (Nat.le_of_ble_eq_true rfl) d_M_isGood_94 (fun H locs hP => ?_)
            refine lv_if_le hx hb d_M_isGood_97 (tgt := 118) (by decide) (fun h13 => ?_) (fun h13 => ?_)
            · have hf := it_t h13 hf
              refine lv_iconst (v := (0 : Int32)) hx hb d_M_isGood_118 (by decide) ?_
              exact hret _ _ _ _ _ _ d_M_isGood_119 (by decide) (Option.some.inj hf) hP
            · have hf := it_f h13 hf
              refine lv_aload_n hx hb d_M_isGood_100 rfl (lv_at hl 1 rfl) ?_
              refine w_get C hP (fdM_0_marks G x3.2) tb_430 d_M_isGood_101 ?_
              refine lv_iload_n hx hb d_M_isGood_104 rfl (lv_at hl 2 rfl) ?_
              obtain ⟨h14, hf⟩ := zgd_some hf
              refine w_iald (t0 := 0) C hP (arM_10 G x3.2) rfl h14 d_M_isGood_105 ?_
              refine lv_aload_n hx hb d_M_isGood_106 rfl (lv_at hl 1 rfl) ?_
              refine lv_iload_n hx hb d_M_isGood_107 rfl (lv_at hl 2 rfl) ?_
              obtain ⟨x15, h16, hf⟩ := bd_some hf
              refine w_callI (As := [.int v1]) (rest := [.int (x3.2.2.1 10 (Int32.toNatClampNeg v1))]) C (c_M_markOf l G x3.2 v1 x15 h16) cf_M_markOf tb_530 (by decide) hP (obM_0 G x3.2) rfl hl.1 rfl (Nat.le_of_ble_eq_true rfl) d_M_isGood_108 (fun H locs hP => ?_)
              refine lv_icmp_ne hx hb d_M_isGood_111 (tgt := 118) (by decide) (fun h17 => ?_) (fun h17 => ?_)
              · have hf := it_f h17 hf
                refine lv_iconst (v := (0 : Int32)) hx hb d_M_isGood_118 (by decide) ?_
                exact hret _ _ _ _ _ _ d_M_isGood_119 (by decide) (Option.some.inj hf) hP
              · have hf := it_t h17 hf
                refine lv_iconst (v := (1 : Int32)) hx hb d_M_isGood_114 (by decide) ?_
                refine lv_goto hx hb d_M_isGood_115 (tgt := 119) (by decide) ?_
                exact hret _ _ _ _ _ _ d_M_isGood_119 (by decide) (Option.some.inj hf) hP
  refine lv_aload_n hx hb d_M_isGood_0 rfl (lv_at hl 0 rfl) ?_
  obtain ⟨x18, h19, hf⟩ := bd_some hf
  refine w_callI (As := []) (rest := []) C (c_M_here l G S x18 h19) cf_M_here tb_568 (by decide) hP (obM_0 G S) rfl hl.1 rfl (Nat.le_of_ble_eq_true rfl) d_M_isGood_1 (fun H locs hP => ?_)
  refine lv_istore_n (lv' := [(2, .int x18), (0, .ref (G.2.1 0)), (1, .int v1)]) hx hb d_M_isGood_4 rfl hl (by decide) rfl (fun ls hl => ?_)
  refine lv_aload_n hx hb d_M_isGood_5 rfl (lv_at hl 1 rfl) ?_
  refine w_get C hP (fdM_0_signed G S) tb_423 d_M_isGood_6 ?_
  refine lv_iload_n hx hb d_M_isGood_9 rfl (lv_at hl 2 rfl) ?_
  obtain ⟨h20, hf⟩ := zgd_some hf
  refine w_iald (t0 := 0) C hP (arM_3 G S) rfl h20 d_M_isGood_10 ?_
  refine lv_istore_n (lv' := [(3, .int (S.2.1 3 (Int32.toNatClampNeg v1))), (2, .int x18), (0, .ref (G.2.1 0)), (1, .int v1)]) hx hb d_M_isGood_11 rfl hl (by decide) rfl (fun ls hl => ?_)
  refine lv_aload_n hx hb d_M_isGood_12 rfl (lv_at hl 2 rfl) ?_
  refine w_get C hP (fdM_0_signers G S) tb_425 d_M_isGood_13 ?_
  refine lv_iload_n hx hb d_M_isGood_16 rfl (lv_at hl 3 rfl) ?_
  obtain ⟨h21, hf⟩ := zgd_some hf
  refine w_iald (t0 := 0) C hP (arM_5 G S) rfl h21 d_M_isGood_17 ?_
  refine lv_iload_n hx hb d_M_isGood_18 rfl (lv_at hl 1 rfl) ?_
  refine lv_icmp_ne hx hb d_M_isGood_19 (tgt := 39) (by decide) (fun h22 => ?_) (fun h22 => ?_)
  · have hf := it_f h22 hf
    refine lv_iconst (v := (0 : Int32)) hx hb d_M_isGood_39 (by decide) ?_
    exact JP_40 S v1 (S.2.1 3 (Int32.toNatClampNeg v1)) (0 : Int32) _ _ _ (lv_sub hl [2, 3, 0] rfl) hP hf
  · have hf := it_t h22 hf
    refine lv_iload_n hx hb d_M_isGood_22 rfl (lv_at hl 1 rfl) ?_
    refine lv_iload_n hx hb d_M_isGood_23 rfl (lv_at hl 0 rfl) ?_
    refine lv_icmp_eq hx hb d_M_isGood_24 (tgt := 35) (by decide) (fun h23 => ?_) (fun h23 => ?_)
    · have hf := it_t h23 hf
      refine lv_iconst (v := (1 : Int32)) hx hb d_M_isGood_35 (by decide) ?_
      refine lv_goto hx hb d_M_isGood_36 (tgt := 40) (by decide) ?_
      exact JP_40 S v1 (S.2.1 3 (Int32.toNatClampNeg v1)) (1 : Int32) _ _ _ (lv_sub hl [2, 3, 0] rfl) hP hf
    · have hf := it_f h23 hf
      refine lv_iload_n hx hb d_M_isGood_27 rfl (lv_at hl 1 rfl) ?_
      refine lv_iload_n hx hb d_M_isGood_28 rfl (lv_at hl 0 rfl) ?_
      obtain ⟨x24, h25, hf⟩ := bd_some hf
      refine w_callS (As := [.int x18, .int (S.2.1 3 (Int32.toNatClampNeg v1))]) (rest := []) C (c_M_isAbove l x18 (S.2.1 3 (Int32.toNatClampNeg v1)) x24 h25) cf_M_isAbove tb_562 (by decide) rfl hl.1 rfl (Nat.le_of_ble_eq_true rfl) d_M_isGood_29 ?_
      refine lv_if_eq hx hb d_M_isGood_32 (tgt := 39) (by decide) (fun h26 => ?_) (fun h26 => ?_)
      · have hf := it_t h26 hf
        refine lv_iconst (v := (0 : Int32)) hx hb d_M_isGood_39 (by decide) ?_
        exact JP_40 S v1 (S.2.1 3 (Int32.toNatClampNeg v1)) (0 : Int32) _ _ _ (lv_sub hl [2, 3, 0] rfl) hP hf
      · have hf := it_f h26 hf
        refine lv_iconst (v := (1 : Int32)) hx hb d_M_isGood_35 (by decide) ?_
        refine lv_goto hx hb d_M_isGood_36 (tgt := 40) (by decide) ?_
        exact JP_40 S v1 (S.2.1 3 (Int32.toNatClampNeg v1)) (1 : Int32) _ _ _ (lv_sub hl [2, 3, 0] rfl) hP hf
def L_M_isPlain_5 (v1 : Int32) (v2 : Int32) (v3 : Int32) (v4 : Int32) (S : MSt) : Option ((Int32 × Int32 × MSt) ⊕ (Int32 × MSt)) := (if (S.1 3) ≤ v4 then zup (zgd (zib v3) (some (v3, S))) else (if v3 = (0 : Int32) then zgd (zin v4 32) ((if (S.2.1 3 (Int32.toNatClampNeg v4)) = v1 then zgd (zin v4 32) ((if (S.2.1 4 (Int32.toNatClampNeg v4)) = v2 then zgd (zin v4 32) (Option.bind (f_M_depth v1) (fun x10 => (if (S.2.1 7 (Int32.toNatClampNeg v4)) = x10 then Option.bind (f_M_isGood S v4) (fun x13 => (if x13.1 = (0 : Int32) then some (Sum.inl ((0 : Int32), (v4 + (1 : Int32)), x13.2)) else some (Sum.inl ((1 : Int32), (v4 + (1 : Int32)), x13.2)))) else some (Sum.inl ((0 : Int32), (v4 + (1 : Int32)), S))))) else some (Sum.inl ((0 : Int32), (v4 + (1 : Int32)), S)))) else some (Sum.inl ((0 : Int32), (v4 + (1 : Int32)), S)))) else zup (zgd (zib v3) (some (v3, S)))))
def LS_M_isPlain_5 (v1 : Int32) (v2 : Int32) (v : (Int32 × Int32 × MSt)) : Option ((Int32 × Int32 × MSt) ⊕ (Int32 × MSt)) := L_M_isPlain_5 v1 v2 v.1 v.2.1 v.2.2
def f_M_isPlain (S : MSt) (v1 : Int32) (v2 : Int32) : Option (Int32 × MSt) := zit (LS_M_isPlain_5 v1 v2) 64 ((0 : Int32), (0 : Int32), S)
set_option maxHeartbeats 4000000 in
set_option maxRecDepth 100000 in
theorem c_M_isPlain (l : Launch) (G : XG) (S : MSt) (v1 : Int32) (v2 : Int32) (o0 : (Int32 × MSt)) (hf : f_M_isPlain S v1 v2 = some o0) : MetI l y_M_isPlain b_M_isPlain 5 (some .boolean) 5 [.ref (G.2.1 0), .int v1, .int v2] G.1 (tyX G) (zAM G) (wM G S) o0.1 (wM G o0.2) := by
  refine mkZ (by decide) (Nat.le_of_ble_eq_true rfl) ?_
  intro p e R s m args below meth c ls Q C hl hP hret0
  replace C : Cw p m c b_M_isPlain 5 s args "TrustResolverModel" R 5 := C
  have hx := C.1
  have hb := C.2.1
  replace hl : lv_has ls 5 [(0, .ref (G.2.1 0)), (1, .int v1), (2, .int v2)] := hl
  have hret : ∀ (pc : Nat) (ls : Array Slot) (H : Heap) (locs : List Loc) (v : Int32) (S' : MSt), decode b_M_isPlain pc = .ok (.ireturn, 1) → zib v = true → (v, S') = o0 → Pw G.1 (tyX G) (zAM G) s (wM G S') H locs → W p l e R s m args below meth c H locs 0 0 Q (F0 m pc ls [.int v]) := fun pc ls H locs v S' hd hz he hP => hret0 pc ls H locs v hd hz (by rw [← he]) (by rw [← he]; exact hP)
  clear hret0
  unfold f_M_isPlain at hf
  have LP_5 : ∀ (v1 : Int32) (v2 : Int32) (n : Nat) (v3 : Int32) (v4 : Int32) (S : MSt) (ls : Array Slot) (H : Heap) (locs : List Loc) , lv_has ls 5 [(0, .ref (G.2.1 0)), (1, .int v1), (2, .int v2), (3, .int v3), (4, .int v4)] → Pw G.1 (tyX G) (zAM G) s (wM G S) H locs → zit (LS_M_isPlain_5 v1 v2) n (v3, v4, S) = some o0 → W p l e R s m args below meth c H locs 0 0 Q (F0 m 5 ls []) := by
    intro v1 v2 n
    induction n with
    | zero => intro v3 v4 S ls H locs hl hP hf; exact zit_0 hf
    | succ n ih1 =>
      intro v3 v4 S ls H locs hl hP hf
      obtain ⟨o1, hf, hk1⟩ := zit_s hf
      have hf : L_M_isPlain_5 v1 v2 v3 v4 S = some o1 := hf
      unfold L_M_isPlain_5 at hf
      refine lv_iload hx hb d_M_isPlain_5 (lv_at hl 4 rfl) ?_
      refine lv_aload_n hx hb d_M_isPlain_7 rfl (lv_at hl 0 rfl) ?_
      refine w_get C hP (fdM_0_signatures G S) tb_422 d_M_isPlain_8 ?_
      refine lv_icmp_ge hx hb d_M_isPlain_11 (tgt := 75) (by decide) (fun h1 => ?_) (fun h1 => ?_)
      · have hf := it_t h1 hf
        have hf := zup_k hf hk1
        refine lv_iload_n hx hb d_M_isPlain_75 rfl (lv_at hl 3 rfl) ?_
        obtain ⟨h2, hf⟩ := zgd_some hf
        exact hret _ _ _ _ _ _ d_M_isPlain_76 h2 (Option.some.inj hf) hP
      · have hf := it_f h1 hf
        refine lv_iload_n hx hb d_M_isPlain_14 rfl (lv_at hl 3 rfl) ?_
        refine lv_if_ne hx hb d_M_isPlain_15 (tgt := 75) (by decide) (fun h3 => ?_) (fun h3 => ?_)
        · have hf := it_f h3 hf
          have hf := zup_k hf hk1
          refine lv_iload_n hx hb d_M_isPlain_75 rfl (lv_at hl 3 rfl) ?_
          obtain ⟨h4, hf⟩ := zgd_some hf
          exact hret _ _ _ _ _ _ d_M_isPlain_76 h4 (Option.some.inj hf) hP
        · have hf := it_t h3 hf
          refine lv_aload_n hx hb d_M_isPlain_18 rfl (lv_at hl 0 rfl) ?_
          refine w_get C hP (fdM_0_signed G S) tb_423 d_M_isPlain_19 ?_
          refine lv_iload hx hb d_M_isPlain_22 (lv_at hl 4 rfl) ?_
          obtain ⟨h5, hf⟩ := zgd_some hf
          refine w_iald (t0 := 0) C hP (arM_3 G S) rfl h5 d_M_isPlain_24 ?_
          refine lv_iload_n hx hb d_M_isPlain_25 rfl (lv_at hl 1 rfl) ?_
          refine lv_icmp_ne hx hb d_M_isPlain_26 (tgt := 67) (by decide) (fun h6 => ?_) (fun h6 => ?_)
          · have hf := it_f h6 hf
            refine lv_iconst (v := (0 : Int32)) hx hb d_M_isPlain_67 (by decide) ?_
            refine lv_istore_n (lv' := [(3, .int (0 : Int32)), (0, .ref (G.2.1 0)), (1, .int v1), (2, .int v2), (4, .int v4)]) hx hb d_M_isPlain_68 rfl hl (by decide) rfl (fun ls hl => ?_)
            refine lv_iinc (k := 4) (v := (v4 + (1 : Int32))) (lv' := [(4, .int (v4 + (1 : Int32))), (3, .int (0 : Int32)), (0, .ref (G.2.1 0)), (1, .int v1), (2, .int v2)]) hx hb d_M_isPlain_69 hl rfl (ii (by decide) _) (by decide) rfl (fun ls hl => ?_)
            refine lv_goto hx hb d_M_isPlain_72 (tgt := 5) (by decide) ?_
            exact ih1 (0 : Int32) (v4 + (1 : Int32)) S _ _ _ (lv_sub hl [2, 3, 4, 1, 0] rfl) hP (znx_l hf hk1)
          · have hf := it_t h6 hf
            refine lv_aload_n hx hb d_M_isPlain_29 rfl (lv_at hl 0 rfl) ?_
            refine w_get C hP (fdM_0_signedTypes G S) tb_424 d_M_isPlain_30 ?_
            refine lv_iload hx hb d_M_isPlain_33 (lv_at hl 4 rfl) ?_
            obtain ⟨h7, hf⟩ := zgd_some hf
            refine w_iald (t0 := 0) C hP (arM_4 G S) rfl h7 d_M_isPlain_35 ?_
            refine lv_iload_n hx hb d_M_isPlain_36 rfl (lv_at hl 2 rfl) ?_
            refine lv_icmp_ne hx hb d_M_isPlain_37 (tgt := 67) (by decide) (fun h8 => ?_) (fun h8 => ?_)
            · have hf := it_f h8 hf
              refine lv_iconst (v := (0 : Int32)) hx hb d_M_isPlain_67 (by decide) ?_
              refine lv_istore_n (lv' := [(3, .int (0 : Int32)), (0, .ref (G.2.1 0)), (1, .int v1), (2, .int v2), (4, .int v4)]) hx hb d_M_isPlain_68 rfl hl (by decide) rfl (fun ls hl => ?_)
              refine lv_iinc (k := 4) (v := (v4 + (1 : Int32))) (lv' := [(4, .int (v4 + (1 : Int32))), (3, .int (0 : Int32)), (0, .ref (G.2.1 0)), (1, .int v1), (2, .int v2)]) hx hb d_M_isPlain_69 hl rfl (ii (by decide) _) (by decide) rfl (fun ls hl => ?_)
              refine lv_goto hx hb d_M_isPlain_72 (tgt := 5) (by decide) ?_
              exact ih1 (0 : Int32) (v4 + (1 : Int32)) S _ _ _ (lv_sub hl [2, 3, 4, 1, 0] rfl) hP (znx_l hf hk1)
            · have hf := it_t h8 hf
              refine lv_aload_n hx hb d_M_isPlain_40 rfl (lv_at hl 0 rfl) ?_
              refine w_get C hP (fdM_0_labels G S) tb_427 d_M_isPlain_41 ?_
              refine lv_iload hx hb d_M_isPlain_44 (lv_at hl 4 rfl) ?_
              obtain ⟨h9, hf⟩ := zgd_some hf
              refine w_iald (t0 := 0) C hP (arM_7 G S) rfl h9 d_M_isPlain_46 ?_
              refine lv_iload_n hx hb d_M_isPlain_47 rfl (lv_at hl 1 rfl) ?_
              obtain ⟨x10, h11, hf⟩ := bd_some hf
              refine w_callS (As := [.int v1]) (rest := [.int (S.2.1 7 (Int32.toNatClampNeg v4))]) C (c_M_depth l v1 x10 h11) cf_M_depth tb_527 (by decide) rfl hl.1 rfl (Nat.le_of_ble_eq_true rfl) d_M_isPlain_48 ?_
              refine lv_icmp_ne hx hb d_M_isPlain_51 (tgt := 67) (by decide) (fun h12 => ?_) (fun h12 => ?_)
              · have hf := it_f h12 hf
                refine lv_iconst (v := (0 : Int32)) hx hb d_M_isPlain_67 (by decide) ?_
                refine lv_istore_n (lv' := [(3, .int (0 : Int32)), (0, .ref (G.2.1 0)), (1, .int v1), (2, .int v2), (4, .int v4)]) hx hb d_M_isPlain_68 rfl hl (by decide) rfl (fun ls hl => ?_)
                refine lv_iinc (k := 4) (v := (v4 + (1 : Int32))) (lv' := [(4, .int (v4 + (1 : Int32))), (3, .int (0 : Int32)), (0, .ref (G.2.1 0)), (1, .int v1), (2, .int v2)]) hx hb d_M_isPlain_69 hl rfl (ii (by decide) _) (by decide) rfl (fun ls hl => ?_)
                refine lv_goto hx hb d_M_isPlain_72 (tgt := 5) (by decide) ?_
                exact ih1 (0 : Int32) (v4 + (1 : Int32)) S _ _ _ (lv_sub hl [2, 3, 4, 1, 0] rfl) hP (znx_l hf hk1)
              · have hf := it_t h12 hf
                refine lv_aload_n hx hb d_M_isPlain_54 rfl (lv_at hl 0 rfl) ?_
                refine lv_iload hx hb d_M_isPlain_55 (lv_at hl 4 rfl) ?_
                obtain ⟨x13, h14, hf⟩ := bd_some hf
                refine w_callI (As := [.int v4]) (rest := []) C (c_M_isGood l G S v4 x13 h14) cf_M_isGood tb_577 (by decide) hP (obM_0 G S) rfl hl.1 rfl (Nat.le_of_ble_eq_true rfl) d_M_isPlain_57 (fun H locs hP => ?_)
                refine lv_if_eq hx hb d_M_isPlain_60 (tgt := 67) (by decide) (fun h15 => ?_) (fun h15 => ?_)
                · have hf := it_t h15 hf
                  refine lv_iconst (v := (0 : Int32)) hx hb d_M_isPlain_67 (by decide) ?_
                  refine lv_istore_n (lv' := [(3, .int (0 : Int32)), (0, .ref (G.2.1 0)), (1, .int v1), (2, .int v2), (4, .int v4)]) hx hb d_M_isPlain_68 rfl hl (by decide) rfl (fun ls hl => ?_)
                  refine lv_iinc (k := 4) (v := (v4 + (1 : Int32))) (lv' := [(4, .int (v4 + (1 : Int32))), (3, .int (0 : Int32)), (0, .ref (G.2.1 0)), (1, .int v1), (2, .int v2)]) hx hb d_M_isPlain_69 hl rfl (ii (by decide) _) (by decide) rfl (fun ls hl => ?_)
                  refine lv_goto hx hb d_M_isPlain_72 (tgt := 5) (by decide) ?_
                  exact ih1 (0 : Int32) (v4 + (1 : Int32)) x13.2 _ _ _ (lv_sub hl [2, 3, 4, 1, 0] rfl) hP (znx_l hf hk1)
                · have hf := it_f h15 hf
                  refine lv_iconst (v := (1 : Int32)) hx hb d_M_isPlain_63 (by decide) ?_
                  refine lv_goto hx hb d_M_isPlain_64 (tgt := 68) (by decide) ?_
                  refine lv_istore_n (lv' := [(3, .int (1 : Int32)), (0, .ref (G.2.1 0)), (1, .int v1), (2, .int v2), (4, .int v4)]) hx hb d_M_isPlain_68 rfl hl (by decide) rfl (fun ls hl => ?_)
                  refine lv_iinc (k := 4) (v := (v4 + (1 : Int32))) (lv' := [(4, .int (v4 + (1 : Int32))), (3, .int (1 : Int32)), (0, .ref (G.2.1 0)), (1, .int v1), (2, .int v2)]) hx hb d_M_isPlain_69 hl rfl (ii (by decide) _) (by decide) rfl (fun ls hl => ?_)
                  refine lv_goto hx hb d_M_isPlain_72 (tgt := 5) (by decide) ?_
                  exact ih1 (1 : Int32) (v4 + (1 : Int32)) x13.2 _ _ _ (lv_sub hl [2, 3, 4, 1, 0] rfl) hP (znx_l hf hk1)
  refine lv_iconst (v := (0 : Int32)) hx hb d_M_isPlain_0 (by decide) ?_
  refine lv_istore_n (lv' := [(3, .int (0 : Int32)), (0, .ref (G.2.1 0)), (1, .int v1), (2, .int v2)]) hx hb d_M_isPlain_1 rfl hl (by decide) rfl (fun ls hl => ?_)
  refine lv_iconst (v := (0 : Int32)) hx hb d_M_isPlain_2 (by decide) ?_
  refine lv_istore (lv' := [(4, .int (0 : Int32)), (3, .int (0 : Int32)), (0, .ref (G.2.1 0)), (1, .int v1), (2, .int v2)]) hx hb d_M_isPlain_3 hl (by decide) rfl (fun ls hl => ?_)
  exact LP_5 v1 v2 64 (0 : Int32) (0 : Int32) S _ _ _ (lv_sub hl [2, 3, 4, 1, 0] rfl) hP hf
def L_M_isCovered_4 (v1 : Int32) (v2 : Int32) (v3 : Int32) (S : MSt) : Option ((Int32 × Int32 × MSt) ⊕ (Int32 × MSt)) := (if (S.1 0) ≤ v3 then zup (zgd (zib v2) (some (v2, S))) else (if v2 = (0 : Int32) then zgd (zin v3 48) ((if (S.2.1 1 (Int32.toNatClampNeg v3)) = (5 : Int32) then zgd (zin v3 48) ((if v1 ≤ (S.2.1 0 (Int32.toNatClampNeg v3)) then some (Sum.inl (v2, (v3 + (1 : Int32)), S)) else zgd (zin v3 48) (Option.bind (f_M_isPlain S (S.2.1 0 (Int32.toNatClampNeg v3)) (5 : Int32)) (fun x10 => (if x10.1 = (0 : Int32) then some (Sum.inl (v2, (v3 + (1 : Int32)), x10.2)) else zgd (zin v3 48) (Option.bind (f_M_dataAt x10.2 (x10.2.2.1 0 (Int32.toNatClampNeg v3)) (5 : Int32) (0 : Int32)) (fun x14 => (if v1 < (x14 &&& (1048575 : Int32)) then some (Sum.inl ((1 : Int32), (v3 + (1 : Int32)), x10.2)) else Option.bind (f_M_here x10.2) (fun x17 => (if (x14 &&& (1048575 : Int32)) = x17 then some (Sum.inl ((1 : Int32), (v3 + (1 : Int32)), x10.2)) else some (Sum.inl ((0 : Int32), (v3 + (1 : Int32)), x10.2)))))))))))) else some (Sum.inl (v2, (v3 + (1 : Int32)), S)))) else zup (zgd (zib v2) (some (v2, S)))))
def LS_M_isCovered_4 (v1 : Int32) (v : (Int32 × Int32 × MSt)) : Option ((Int32 × Int32 × MSt) ⊕ (Int32 × MSt)) := L_M_isCovered_4 v1 v.1 v.2.1 v.2.2
def f_M_isCovered (S : MSt) (v1 : Int32) : Option (Int32 × MSt) := zit (LS_M_isCovered_4 v1) 64 ((0 : Int32), (0 : Int32), S)
set_option maxHeartbeats 4000000 in
set_option maxRecDepth 100000 in
theorem c_M_isCovered (l : Launch) (G : XG) (S : MSt) (v1 : Int32) (o0 : (Int32 × MSt)) (hf : f_M_isCovered S v1 = some o0) : MetI l y_M_isCovered b_M_isCovered 5 (some .boolean) 6 [.ref (G.2.1 0), .int v1] G.1 (tyX G) (zAM G) (wM G S) o0.1 (wM G o0.2) := by
  refine mkZ (by decide) (Nat.le_of_ble_eq_true rfl) ?_
  intro p e R s m args below meth c ls Q C hl hP hret0
  replace C : Cw p m c b_M_isCovered 5 s args "TrustResolverModel" R 6 := C
  have hx := C.1
  have hb := C.2.1
  replace hl : lv_has ls 5 [(0, .ref (G.2.1 0)), (1, .int v1)] := hl
  have hret : ∀ (pc : Nat) (ls : Array Slot) (H : Heap) (locs : List Loc) (v : Int32) (S' : MSt), decode b_M_isCovered pc = .ok (.ireturn, 1) → zib v = true → (v, S') = o0 → Pw G.1 (tyX G) (zAM G) s (wM G S') H locs → W p l e R s m args below meth c H locs 0 0 Q (F0 m pc ls [.int v]) := fun pc ls H locs v S' hd hz he hP => hret0 pc ls H locs v hd hz (by rw [← he]) (by rw [← he]; exact hP)
  clear hret0
  unfold f_M_isCovered at hf
  have LP_4 : ∀ (v1 : Int32) (n : Nat) (v2 : Int32) (v3 : Int32) (S : MSt) (ls : Array Slot) (H : Heap) (locs : List Loc) , lv_has ls 5 [(0, .ref (G.2.1 0)), (1, .int v1), (2, .int v2), (3, .int v3)] → Pw G.1 (tyX G) (zAM G) s (wM G S) H locs → zit (LS_M_isCovered_4 v1) n (v2, v3, S) = some o0 → W p l e R s m args below meth c H locs 0 0 Q (F0 m 4 ls []) := by
    intro v1 n
    induction n with
    | zero => intro v2 v3 S ls H locs hl hP hf; exact zit_0 hf
    | succ n ih1 =>
      intro v2 v3 S ls H locs hl hP hf
      obtain ⟨o1, hf, hk1⟩ := zit_s hf
      have hf : L_M_isCovered_4 v1 v2 v3 S = some o1 := hf
      unfold L_M_isCovered_4 at hf
      refine lv_iload_n hx hb d_M_isCovered_4 rfl (lv_at hl 3 rfl) ?_
      refine lv_aload_n hx hb d_M_isCovered_5 rfl (lv_at hl 0 rfl) ?_
      refine w_get C hP (fdM_0_records G S) tb_416 d_M_isCovered_6 ?_
      refine lv_icmp_ge hx hb d_M_isCovered_9 (tgt := 94) (by decide) (fun h1 => ?_) (fun h1 => ?_)
      · have hf := it_t h1 hf
        have hf := zup_k hf hk1
        refine lv_iload_n hx hb d_M_isCovered_94 rfl (lv_at hl 2 rfl) ?_
        obtain ⟨h2, hf⟩ := zgd_some hf
        exact hret _ _ _ _ _ _ d_M_isCovered_95 h2 (Option.some.inj hf) hP
      · have hf := it_f h1 hf
        refine lv_iload_n hx hb d_M_isCovered_12 rfl (lv_at hl 2 rfl) ?_
        refine lv_if_ne hx hb d_M_isCovered_13 (tgt := 94) (by decide) (fun h3 => ?_) (fun h3 => ?_)
        · have hf := it_f h3 hf
          have hf := zup_k hf hk1
          refine lv_iload_n hx hb d_M_isCovered_94 rfl (lv_at hl 2 rfl) ?_
          obtain ⟨h4, hf⟩ := zgd_some hf
          exact hret _ _ _ _ _ _ d_M_isCovered_95 h4 (Option.some.inj hf) hP
        · have hf := it_t h3 hf
          refine lv_aload_n hx hb d_M_isCovered_16 rfl (lv_at hl 0 rfl) ?_
          refine w_get C hP (fdM_0_types G S) tb_418 d_M_isCovered_17 ?_
          refine lv_iload_n hx hb d_M_isCovered_20 rfl (lv_at hl 3 rfl) ?_
          obtain ⟨h5, hf⟩ := zgd_some hf
          refine w_iald (t0 := 0) C hP (arM_1 G S) rfl h5 d_M_isCovered_21 ?_
          refine lv_iconst (v := (5 : Int32)) hx hb d_M_isCovered_22 (by decide) ?_
          refine lv_icmp_ne hx hb d_M_isCovered_23 (tgt := 88) (by decide) (fun h6 => ?_) (fun h6 => ?_)
          · have hf := it_f h6 hf
            refine lv_iinc (k := 3) (v := (v3 + (1 : Int32))) (lv' := [(3, .int (v3 + (1 : Int32))), (0, .ref (G.2.1 0)), (1, .int v1), (2, .int v2)]) hx hb d_M_isCovered_88 hl rfl (ii (by decide) _) (by decide) rfl (fun ls hl => ?_)
            refine lv_goto hx hb d_M_isCovered_91 (tgt := 4) (by decide) ?_
            exact ih1 v2 (v3 + (1 : Int32)) S _ _ _ (lv_sub hl [1, 2, 3, 0] rfl) hP (znx_l hf hk1)
          · have hf := it_t h6 hf
            refine lv_aload_n hx hb d_M_isCovered_26 rfl (lv_at hl 0 rfl) ?_
            refine w_get C hP (fdM_0_owners G S) tb_417 d_M_isCovered_27 ?_
            refine lv_iload_n hx hb d_M_isCovered_30 rfl (lv_at hl 3 rfl) ?_
            obtain ⟨h7, hf⟩ := zgd_some hf
            refine w_iald (t0 := 0) C hP (arM_0 G S) rfl h7 d_M_isCovered_31 ?_
            refine lv_iload_n hx hb d_M_isCovered_32 rfl (lv_at hl 1 rfl) ?_
            refine lv_icmp_ge hx hb d_M_isCovered_33 (tgt := 88) (by decide) (fun h8 => ?_) (fun h8 => ?_)
            · have hf := it_t h8 hf
              refine lv_iinc (k := 3) (v := (v3 + (1 : Int32))) (lv' := [(3, .int (v3 + (1 : Int32))), (0, .ref (G.2.1 0)), (1, .int v1), (2, .int v2)]) hx hb d_M_isCovered_88 hl rfl (ii (by decide) _) (by decide) rfl (fun ls hl => ?_)
              refine lv_goto hx hb d_M_isCovered_91 (tgt := 4) (by decide) ?_
              exact ih1 v2 (v3 + (1 : Int32)) S _ _ _ (lv_sub hl [1, 2, 3, 0] rfl) hP (znx_l hf hk1)
            · have hf := it_f h8 hf
              refine lv_aload_n hx hb d_M_isCovered_36 rfl (lv_at hl 0 rfl) ?_
              refine lv_aload_n hx hb d_M_isCovered_37 rfl (lv_at hl 0 rfl) ?_
              refine w_get C hP (fdM_0_owners G S) tb_417 d_M_isCovered_38 ?_
              refine lv_iload_n hx hb d_M_isCovered_41 rfl (lv_at hl 3 rfl) ?_
              obtain ⟨h9, hf⟩ := zgd_some hf
              refine w_iald (t0 := 0) C hP (arM_0 G S) rfl h9 d_M_isCovered_42 ?_
              refine lv_iconst (v := (5 : Int32)) hx hb d_M_isCovered_43 (by decide) ?_
              obtain ⟨x10, h11, hf⟩ := bd_some hf
              refine w_callI (As := [.int (S.2.1 0 (Int32.toNatClampNeg v3)), .int (5 : Int32)]) (rest := []) C (c_M_isPlain l G S (S.2.1 0 (Int32.toNatClampNeg v3)) (5 : Int32) x10 h11) cf_M_isPlain tb_574 (by decide) hP (obM_0 G S) rfl hl.1 rfl (Nat.le_of_ble_eq_true rfl) d_M_isCovered_44 (fun H locs hP => ?_)
              refine lv_if_eq hx hb d_M_isCovered_47 (tgt := 88) (by decide) (fun h12 => ?_) (fun h12 => ?_)
              · have hf := it_t h12 hf
                refine lv_iinc (k := 3) (v := (v3 + (1 : Int32))) (lv' := [(3, .int (v3 + (1 : Int32))), (0, .ref (G.2.1 0)), (1, .int v1), (2, .int v2)]) hx hb d_M_isCovered_88 hl rfl (ii (by decide) _) (by decide) rfl (fun ls hl => ?_)
                refine lv_goto hx hb d_M_isCovered_91 (tgt := 4) (by decide) ?_
                exact ih1 v2 (v3 + (1 : Int32)) x10.2 _ _ _ (lv_sub hl [1, 2, 3, 0] rfl) hP (znx_l hf hk1)
              · have hf := it_f h12 hf
                refine lv_aload_n hx hb d_M_isCovered_50 rfl (lv_at hl 0 rfl) ?_
                refine lv_aload_n hx hb d_M_isCovered_51 rfl (lv_at hl 0 rfl) ?_
                refine w_get C hP (fdM_0_owners G x10.2) tb_417 d_M_isCovered_52 ?_
                refine lv_iload_n hx hb d_M_isCovered_55 rfl (lv_at hl 3 rfl) ?_
                obtain ⟨h13, hf⟩ := zgd_some hf
                refine w_iald (t0 := 0) C hP (arM_0 G x10.2) rfl h13 d_M_isCovered_56 ?_
                refine lv_iconst (v := (5 : Int32)) hx hb d_M_isCovered_57 (by decide) ?_
                refine lv_iconst (v := (0 : Int32)) hx hb d_M_isCovered_58 (by decide) ?_
                obtain ⟨x14, h15, hf⟩ := bd_some hf
                refine w_callI (As := [.int (x10.2.2.1 0 (Int32.toNatClampNeg v3)), .int (5 : Int32), .int (0 : Int32)]) (rest := []) C (c_M_dataAt l G x10.2 (x10.2.2.1 0 (Int32.toNatClampNeg v3)) (5 : Int32) (0 : Int32) x14 h15) cf_M_dataAt tb_539 (by decide) hP (obM_0 G x10.2) rfl hl.1 rfl (Nat.le_of_ble_eq_true rfl) d_M_isCovered_59 (fun H locs hP => ?_)
                refine lv_ldc (v := (1048575 : Int32)) hx hb C.2.2.2.1 (C.2.2.2.2.1 _ tb_494) d_M_isCovered_62 ?_
                refine lv_iand hx hb d_M_isCovered_64 ?_
                refine lv_istore (lv' := [(4, .int (x14 &&& (1048575 : Int32))), (0, .ref (G.2.1 0)), (1, .int v1), (2, .int v2), (3, .int v3)]) hx hb d_M_isCovered_65 hl (by decide) rfl (fun ls hl => ?_)
                refine lv_iload_n hx hb d_M_isCovered_67 rfl (lv_at hl 2 rfl) ?_
                refine lv_iload hx hb d_M_isCovered_68 (lv_at hl 0 rfl) ?_
                refine lv_icmp_lt hx hb d_M_isCovered_70 (tgt := 82) (by decide) (fun h16 => ?_) (fun h16 => ?_)
                · have hf := it_t h16 hf
                  refine lv_iconst (v := (1 : Int32)) hx hb d_M_isCovered_82 (by decide) ?_
                  refine lv_goto hx hb d_M_isCovered_83 (tgt := 87) (by decide) ?_
                  refine lv_istore_n (lv' := [(2, .int (1 : Int32)), (4, .int (x14 &&& (1048575 : Int32))), (0, .ref (G.2.1 0)), (1, .int v1), (3, .int v3)]) hx hb d_M_isCovered_87 rfl hl (by decide) rfl (fun ls hl => ?_)
                  refine lv_iinc (k := 4) (v := (v3 + (1 : Int32))) (lv' := [(3, .int (v3 + (1 : Int32))), (2, .int (1 : Int32)), (4, .int (x14 &&& (1048575 : Int32))), (0, .ref (G.2.1 0)), (1, .int v1)]) hx hb d_M_isCovered_88 hl rfl (ii (by decide) _) (by decide) rfl (fun ls hl => ?_)
                  refine lv_goto hx hb d_M_isCovered_91 (tgt := 4) (by decide) ?_
                  exact ih1 (1 : Int32) (v3 + (1 : Int32)) x10.2 _ _ _ (lv_sub hl [3, 4, 1, 0] rfl) hP (znx_l hf hk1)
                · have hf := it_f h16 hf
                  refine lv_iload hx hb d_M_isCovered_73 (lv_at hl 0 rfl) ?_
                  refine lv_aload_n hx hb d_M_isCovered_75 rfl (lv_at hl 1 rfl) ?_
                  obtain ⟨x17, h18, hf⟩ := bd_some hf
                  refine w_callI (As := []) (rest := [.int (x14 &&& (1048575 : Int32))]) C (c_M_here l G x10.2 x17 h18) cf_M_here tb_568 (by decide) hP (obM_0 G x10.2) rfl hl.1 rfl (Nat.le_of_ble_eq_true rfl) d_M_isCovered_76 (fun H locs hP => ?_)
                  refine lv_icmp_ne hx hb d_M_isCovered_79 (tgt := 86) (by decide) (fun h19 => ?_) (fun h19 => ?_)
                  · have hf := it_f h19 hf
                    refine lv_iconst (v := (0 : Int32)) hx hb d_M_isCovered_86 (by decide) ?_
                    refine lv_istore_n (lv' := [(2, .int (0 : Int32)), (4, .int (x14 &&& (1048575 : Int32))), (0, .ref (G.2.1 0)), (1, .int v1), (3, .int v3)]) hx hb d_M_isCovered_87 rfl hl (by decide) rfl (fun ls hl => ?_)
                    refine lv_iinc (k := 4) (v := (v3 + (1 : Int32))) (lv' := [(3, .int (v3 + (1 : Int32))), (2, .int (0 : Int32)), (4, .int (x14 &&& (1048575 : Int32))), (0, .ref (G.2.1 0)), (1, .int v1)]) hx hb d_M_isCovered_88 hl rfl (ii (by decide) _) (by decide) rfl (fun ls hl => ?_)
                    refine lv_goto hx hb d_M_isCovered_91 (tgt := 4) (by decide) ?_
                    exact ih1 (0 : Int32) (v3 + (1 : Int32)) x10.2 _ _ _ (lv_sub hl [3, 4, 1, 0] rfl) hP (znx_l hf hk1)
                  · have hf := it_t h19 hf
                    refine lv_iconst (v := (1 : Int32)) hx hb d_M_isCovered_82 (by decide) ?_
                    refine lv_goto hx hb d_M_isCovered_83 (tgt := 87) (by decide) ?_
                    refine lv_istore_n (lv' := [(2, .int (1 : Int32)), (4, .int (x14 &&& (1048575 : Int32))), (0, .ref (G.2.1 0)), (1, .int v1), (3, .int v3)]) hx hb d_M_isCovered_87 rfl hl (by decide) rfl (fun ls hl => ?_)
                    refine lv_iinc (k := 4) (v := (v3 + (1 : Int32))) (lv' := [(3, .int (v3 + (1 : Int32))), (2, .int (1 : Int32)), (4, .int (x14 &&& (1048575 : Int32))), (0, .ref (G.2.1 0)), (1, .int v1)]) hx hb d_M_isCovered_88 hl rfl (ii (by decide) _) (by decide) rfl (fun ls hl => ?_)
                    refine lv_goto hx hb d_M_isCovered_91 (tgt := 4) (by decide) ?_
                    exact ih1 (1 : Int32) (v3 + (1 : Int32)) x10.2 _ _ _ (lv_sub hl [3, 4, 1, 0] rfl) hP (znx_l hf hk1)
  refine lv_iconst (v := (0 : Int32)) hx hb d_M_isCovered_0 (by decide) ?_
  refine lv_istore_n (lv' := [(2, .int (0 : Int32)), (0, .ref (G.2.1 0)), (1, .int v1)]) hx hb d_M_isCovered_1 rfl hl (by decide) rfl (fun ls hl => ?_)
  refine lv_iconst (v := (0 : Int32)) hx hb d_M_isCovered_2 (by decide) ?_
  refine lv_istore_n (lv' := [(3, .int (0 : Int32)), (2, .int (0 : Int32)), (0, .ref (G.2.1 0)), (1, .int v1)]) hx hb d_M_isCovered_3 rfl hl (by decide) rfl (fun ls hl => ?_)
  exact LP_4 v1 64 (0 : Int32) (0 : Int32) S _ _ _ (lv_sub hl [2, 3, 1, 0] rfl) hP hf
def J_M_isKnown_54 (S : MSt) (v1 : Int32) (v3 : Int32) (s0 : Int32) : Option ((Int32 × Int32 × MSt) ⊕ (Int32 × MSt)) := (if s0 = (0 : Int32) then some (Sum.inl ((0 : Int32), (v3 + (1 : Int32)), S)) else zgd (zin v3 48) (Option.bind (f_M_isPlain S (S.2.1 0 (Int32.toNatClampNeg v3)) (5 : Int32)) (fun x3 => (if x3.1 = (0 : Int32) then some (Sum.inl ((0 : Int32), (v3 + (1 : Int32)), x3.2)) else some (Sum.inl ((1 : Int32), (v3 + (1 : Int32)), x3.2))))))
def L_M_isKnown_4 (v1 : Int32) (v2 : Int32) (v3 : Int32) (S : MSt) : Option ((Int32 × Int32 × MSt) ⊕ (Int32 × MSt)) := (if (S.1 0) ≤ v3 then zup (zgd (zib v2) (some (v2, S))) else (if v2 = (0 : Int32) then zgd (zin v3 48) ((if (S.2.1 1 (Int32.toNatClampNeg v3)) = (5 : Int32) then zgd (zin v3 48) ((if (S.2.1 0 (Int32.toNatClampNeg v3)) = v1 then J_M_isKnown_54 S v1 v3 (1 : Int32) else zgd (zin v3 48) (Option.bind (f_M_isAbove v1 (S.2.1 0 (Int32.toNatClampNeg v3))) (fun x15 => (if x15 = (0 : Int32) then J_M_isKnown_54 S v1 v3 (0 : Int32) else J_M_isKnown_54 S v1 v3 (1 : Int32)))))) else J_M_isKnown_54 S v1 v3 (0 : Int32))) else zup (zgd (zib v2) (some (v2, S)))))
def LS_M_isKnown_4 (v1 : Int32) (v : (Int32 × Int32 × MSt)) : Option ((Int32 × Int32 × MSt) ⊕ (Int32 × MSt)) := L_M_isKnown_4 v1 v.1 v.2.1 v.2.2
def f_M_isKnown (S : MSt) (v1 : Int32) : Option (Int32 × MSt) := zit (LS_M_isKnown_4 v1) 64 ((0 : Int32), (0 : Int32), S)
set_option maxHeartbeats 4000000 in
set_option maxRecDepth 100000 in
theorem c_M_isKnown (l : Launch) (G : XG) (S : MSt) (v1 : Int32) (o0 : (Int32 × MSt)) (hf : f_M_isKnown S v1 = some o0) : MetI l y_M_isKnown b_M_isKnown 5 (some .boolean) 6 [.ref (G.2.1 0), .int v1] G.1 (tyX G) (zAM G) (wM G S) o0.1 (wM G o0.2) := by
  refine mkZ (by decide) (Nat.le_of_ble_eq_true rfl) ?_
  intro p e R s m args below meth c ls Q C hl hP hret0
  replace C : Cw p m c b_M_isKnown 5 s args "TrustResolverModel" R 6 := C
  have hx := C.1
  have hb := C.2.1
  replace hl : lv_has ls 5 [(0, .ref (G.2.1 0)), (1, .int v1)] := hl
  have hret : ∀ (pc : Nat) (ls : Array Slot) (H : Heap) (locs : List Loc) (v : Int32) (S' : MSt), decode b_M_isKnown pc = .ok (.ireturn, 1) → zib v = true → (v, S') = o0 → Pw G.1 (tyX G) (zAM G) s (wM G S') H locs → W p l e R s m args below meth c H locs 0 0 Q (F0 m pc ls [.int v]) := fun pc ls H locs v S' hd hz he hP => hret0 pc ls H locs v hd hz (by rw [← he]) (by rw [← he]; exact hP)
  clear hret0
  unfold f_M_isKnown at hf
  have LP_4 : ∀ (v1 : Int32) (n : Nat) (v2 : Int32) (v3 : Int32) (S : MSt) (ls : Array Slot) (H : Heap) (locs : List Loc) , lv_has ls 5 [(0, .ref (G.2.1 0)), (1, .int v1), (2, .int v2), (3, .int v3)] → Pw G.1 (tyX G) (zAM G) s (wM G S) H locs → zit (LS_M_isKnown_4 v1) n (v2, v3, S) = some o0 → W p l e R s m args below meth c H locs 0 0 Q (F0 m 4 ls []) := by
    intro v1 n
    induction n with
    | zero => intro v2 v3 S ls H locs hl hP hf; exact zit_0 hf
    | succ n ih1 =>
      intro v2 v3 S ls H locs hl hP hf
      obtain ⟨o1, hf, hk1⟩ := zit_s hf
      have hf : L_M_isKnown_4 v1 v2 v3 S = some o1 := hf
      unfold L_M_isKnown_4 at hf
      have JP_54 : ∀ (S : MSt) (v3 : Int32) (s0 : Int32) (ls : Array Slot) (H : Heap) (locs : List Loc) , lv_has ls 5 [(0, .ref (G.2.1 0)), (1, .int v1), (3, .int v3)] → Pw G.1 (tyX G) (zAM G) s (wM G S) H locs → J_M_isKnown_54 S v1 v3 s0 = some o1 → W p l e R s m args below meth c H locs 0 0 Q (F0 m 54 ls [.int s0]) := by
        intro S v3 s0 ls H locs hl hP hf
        unfold J_M_isKnown_54 at hf
        refine lv_istore (lv' := [(4, .int s0), (0, .ref (G.2.1 0)), (1, .int v1), (3, .int v3)]) hx hb d_M_isKnown_54 hl (by decide) rfl (fun ls hl => ?_)
        refine lv_iload hx hb d_M_isKnown_56 (lv_at hl 0 rfl) ?_
        refine lv_if_eq hx hb d_M_isKnown_58 (tgt := 79) (by decide) (fun h1 => ?_) (fun h1 => ?_)
        · have hf := it_t h1 hf
          refine lv_iconst (v := (0 : Int32)) hx hb d_M_isKnown_79 (by decide) ?_
          refine lv_istore_n (lv' := [(2, .int (0 : Int32)), (4, .int s0), (0, .ref (G.2.1 0)), (1, .int v1), (3, .int v3)]) hx hb d_M_isKnown_80 rfl hl (by decide) rfl (fun ls hl => ?_)
          refine lv_iinc (k := 4) (v := (v3 + (1 : Int32))) (lv' := [(3, .int (v3 + (1 : Int32))), (2, .int (0 : Int32)), (4, .int s0), (0, .ref (G.2.1 0)), (1, .int v1)]) hx hb d_M_isKnown_81 hl rfl (ii (by decide) _) (by decide) rfl (fun ls hl => ?_)
          refine lv_goto hx hb d_M_isKnown_84 (tgt := 4) (by decide) ?_
          exact ih1 (0 : Int32) (v3 + (1 : Int32)) S _ _ _ (lv_sub hl [3, 4, 1, 0] rfl) hP (znx_l hf hk1)
        · have hf := it_f h1 hf
          refine lv_aload_n hx hb d_M_isKnown_61 rfl (lv_at hl 1 rfl) ?_
          refine lv_aload_n hx hb d_M_isKnown_62 rfl (lv_at hl 1 rfl) ?_
          refine w_get C hP (fdM_0_owners G S) tb_417 d_M_isKnown_63 ?_
          refine lv_iload_n hx hb d_M_isKnown_66 rfl (lv_at hl 3 rfl) ?_
          obtain ⟨h2, hf⟩ := zgd_some hf
          refine w_iald (t0 := 0) C hP (arM_0 G S) rfl h2 d_M_isKnown_67 ?_
          refine lv_iconst (v := (5 : Int32)) hx hb d_M_isKnown_68 (by decide) ?_
          obtain ⟨x3, h4, hf⟩ := bd_some hf
          refine w_callI (As := [.int (S.2.1 0 (Int32.toNatClampNeg v3)), .int (5 : Int32)]) (rest := []) C (c_M_isPlain l G S (S.2.1 0 (Int32.toNatClampNeg v3)) (5 : Int32) x3 h4) cf_M_isPlain tb_574 (by decide) hP (obM_0 G S) rfl hl.1 rfl (Nat.le_of_ble_eq_true rfl) d_M_isKnown_69 (fun H locs hP => ?_)
          refine lv_if_eq hx hb d_M_isKnown_72 (tgt := 79) (by decide) (fun h5 => ?_) (fun h5 => ?_)
          · have hf := it_t h5 hf
            refine lv_iconst (v := (0 : Int32)) hx hb d_M_isKnown_79 (by decide) ?_
            refine lv_istore_n (lv' := [(2, .int (0 : Int32)), (4, .int s0), (0, .ref (G.2.1 0)), (1, .int v1), (3, .int v3)]) hx hb d_M_isKnown_80 rfl hl (by decide) rfl (fun ls hl => ?_)
            refine lv_iinc (k := 4) (v := (v3 + (1 : Int32))) (lv' := [(3, .int (v3 + (1 : Int32))), (2, .int (0 : Int32)), (4, .int s0), (0, .ref (G.2.1 0)), (1, .int v1)]) hx hb d_M_isKnown_81 hl rfl (ii (by decide) _) (by decide) rfl (fun ls hl => ?_)
            refine lv_goto hx hb d_M_isKnown_84 (tgt := 4) (by decide) ?_
            exact ih1 (0 : Int32) (v3 + (1 : Int32)) x3.2 _ _ _ (lv_sub hl [3, 4, 1, 0] rfl) hP (znx_l hf hk1)
          · have hf := it_f h5 hf
            refine lv_iconst (v := (1 : Int32)) hx hb d_M_isKnown_75 (by decide) ?_
            refine lv_goto hx hb d_M_isKnown_76 (tgt := 80) (by decide) ?_
            refine lv_istore_n (lv' := [(2, .int (1 : Int32)), (4, .int s0), (0, .ref (G.2.1 0)), (1, .int v1), (3, .int v3)]) hx hb d_M_isKnown_80 rfl hl (by decide) rfl (fun ls hl => ?_)
            refine lv_iinc (k := 4) (v := (v3 + (1 : Int32))) (lv' := [(3, .int (v3 + (1 : Int32))), (2, .int (1 : Int32)), (4, .int s0), (0, .ref (G.2.1 0)), (1, .int v1)]) hx hb d_M_isKnown_81 hl rfl (ii (by decide) _) (by decide) rfl (fun ls hl => ?_)
            refine lv_goto hx hb d_M_isKnown_84 (tgt := 4) (by decide) ?_
            exact ih1 (1 : Int32) (v3 + (1 : Int32)) x3.2 _ _ _ (lv_sub hl [3, 4, 1, 0] rfl) hP (znx_l hf hk1)
      refine lv_iload_n hx hb d_M_isKnown_4 rfl (lv_at hl 3 rfl) ?_
      refine lv_aload_n hx hb d_M_isKnown_5 rfl (lv_at hl 0 rfl) ?_
      refine w_get C hP (fdM_0_records G S) tb_416 d_M_isKnown_6 ?_
      refine lv_icmp_ge hx hb d_M_isKnown_9 (tgt := 87) (by decide) (fun h6 => ?_) (fun h6 => ?_)
      · have hf := it_t h6 hf
        have hf := zup_k hf hk1
        refine lv_iload_n hx hb d_M_isKnown_87 rfl (lv_at hl 2 rfl) ?_
        obtain ⟨h7, hf⟩ := zgd_some hf
        exact hret _ _ _ _ _ _ d_M_isKnown_88 h7 (Option.some.inj hf) hP
      · have hf := it_f h6 hf
        refine lv_iload_n hx hb d_M_isKnown_12 rfl (lv_at hl 2 rfl) ?_
        refine lv_if_ne hx hb d_M_isKnown_13 (tgt := 87) (by decide) (fun h8 => ?_) (fun h8 => ?_)
        · have hf := it_f h8 hf
          have hf := zup_k hf hk1
          refine lv_iload_n hx hb d_M_isKnown_87 rfl (lv_at hl 2 rfl) ?_
          obtain ⟨h9, hf⟩ := zgd_some hf
          exact hret _ _ _ _ _ _ d_M_isKnown_88 h9 (Option.some.inj hf) hP
        · have hf := it_t h8 hf
          refine lv_aload_n hx hb d_M_isKnown_16 rfl (lv_at hl 0 rfl) ?_
          refine w_get C hP (fdM_0_types G S) tb_418 d_M_isKnown_17 ?_
          refine lv_iload_n hx hb d_M_isKnown_20 rfl (lv_at hl 3 rfl) ?_
          obtain ⟨h10, hf⟩ := zgd_some hf
          refine w_iald (t0 := 0) C hP (arM_1 G S) rfl h10 d_M_isKnown_21 ?_
          refine lv_iconst (v := (5 : Int32)) hx hb d_M_isKnown_22 (by decide) ?_
          refine lv_icmp_ne hx hb d_M_isKnown_23 (tgt := 53) (by decide) (fun h11 => ?_) (fun h11 => ?_)
          · have hf := it_f h11 hf
            refine lv_iconst (v := (0 : Int32)) hx hb d_M_isKnown_53 (by decide) ?_
            exact JP_54 S v3 (0 : Int32) _ _ _ (lv_sub hl [0, 1, 3] rfl) hP hf
          · have hf := it_t h11 hf
            refine lv_aload_n hx hb d_M_isKnown_26 rfl (lv_at hl 0 rfl) ?_
            refine w_get C hP (fdM_0_owners G S) tb_417 d_M_isKnown_27 ?_
            refine lv_iload_n hx hb d_M_isKnown_30 rfl (lv_at hl 3 rfl) ?_
            obtain ⟨h12, hf⟩ := zgd_some hf
            refine w_iald (t0 := 0) C hP (arM_0 G S) rfl h12 d_M_isKnown_31 ?_
            refine lv_iload_n hx hb d_M_isKnown_32 rfl (lv_at hl 1 rfl) ?_
            refine lv_icmp_eq hx hb d_M_isKnown_33 (tgt := 49) (by decide) (fun h13 => ?_) (fun h13 => ?_)
            · have hf := it_t h13 hf
              refine lv_iconst (v := (1 : Int32)) hx hb d_M_isKnown_49 (by decide) ?_
              refine lv_goto hx hb d_M_isKnown_50 (tgt := 54) (by decide) ?_
              exact JP_54 S v3 (1 : Int32) _ _ _ (lv_sub hl [0, 1, 3] rfl) hP hf
            · have hf := it_f h13 hf
              refine lv_iload_n hx hb d_M_isKnown_36 rfl (lv_at hl 1 rfl) ?_
              refine lv_aload_n hx hb d_M_isKnown_37 rfl (lv_at hl 0 rfl) ?_
              refine w_get C hP (fdM_0_owners G S) tb_417 d_M_isKnown_38 ?_
              refine lv_iload_n hx hb d_M_isKnown_41 rfl (lv_at hl 3 rfl) ?_
              obtain ⟨h14, hf⟩ := zgd_some hf
              refine w_iald (t0 := 0) C hP (arM_0 G S) rfl h14 d_M_isKnown_42 ?_
              obtain ⟨x15, h16, hf⟩ := bd_some hf
              refine w_callS (As := [.int v1, .int (S.2.1 0 (Int32.toNatClampNeg v3))]) (rest := []) C (c_M_isAbove l v1 (S.2.1 0 (Int32.toNatClampNeg v3)) x15 h16) cf_M_isAbove tb_562 (by decide) rfl hl.1 rfl (Nat.le_of_ble_eq_true rfl) d_M_isKnown_43 ?_
              refine lv_if_eq hx hb d_M_isKnown_46 (tgt := 53) (by decide) (fun h17 => ?_) (fun h17 => ?_)
              · have hf := it_t h17 hf
                refine lv_iconst (v := (0 : Int32)) hx hb d_M_isKnown_53 (by decide) ?_
                exact JP_54 S v3 (0 : Int32) _ _ _ (lv_sub hl [0, 1, 3] rfl) hP hf
              · have hf := it_f h17 hf
                refine lv_iconst (v := (1 : Int32)) hx hb d_M_isKnown_49 (by decide) ?_
                refine lv_goto hx hb d_M_isKnown_50 (tgt := 54) (by decide) ?_
                exact JP_54 S v3 (1 : Int32) _ _ _ (lv_sub hl [0, 1, 3] rfl) hP hf
  refine lv_iconst (v := (0 : Int32)) hx hb d_M_isKnown_0 (by decide) ?_
  refine lv_istore_n (lv' := [(2, .int (0 : Int32)), (0, .ref (G.2.1 0)), (1, .int v1)]) hx hb d_M_isKnown_1 rfl hl (by decide) rfl (fun ls hl => ?_)
  refine lv_iconst (v := (0 : Int32)) hx hb d_M_isKnown_2 (by decide) ?_
  refine lv_istore_n (lv' := [(3, .int (0 : Int32)), (2, .int (0 : Int32)), (0, .ref (G.2.1 0)), (1, .int v1)]) hx hb d_M_isKnown_3 rfl hl (by decide) rfl (fun ls hl => ?_)
  exact LP_4 v1 64 (0 : Int32) (0 : Int32) S _ _ _ (lv_sub hl [2, 3, 1, 0] rfl) hP hf
def L_M_tryKeys_33 (v1 : Int32) (v2 : Int32) (v3 : Int32) (v4 : Int32) (S : MSt) : Option ((Int32 × Int32 × MSt) ⊕ (Int32 × MSt)) := (if v2 ≤ v4 then zup ((if v3 = (0 : Int32) then some ((3 : Int32), S) else Option.bind (f_M_isPlain S v1 (4 : Int32)) (fun x3 => (if x3.1 = (0 : Int32) then some ((4 : Int32), x3.2) else znm (zmS x3.2 11 (1 : Int32)) (fun S6 => znm (zmS S6 10 v2) (fun S8 => some ((0 : Int32), S8))))))) else (if v3 = (0 : Int32) then Option.bind (f_M_dataAt S v1 (4 : Int32) v4) (fun x11 => Option.bind (f_M_isTrusted S x11) (fun x13 => (if x13.1 = (0 : Int32) then some (Sum.inl ((0 : Int32), (v4 + (1 : Int32)), x13.2)) else some (Sum.inl ((1 : Int32), (v4 + (1 : Int32)), x13.2))))) else some (Sum.inl ((1 : Int32), (v4 + (1 : Int32)), S))))
def LS_M_tryKeys_33 (v1 : Int32) (v2 : Int32) (v : (Int32 × Int32 × MSt)) : Option ((Int32 × Int32 × MSt) ⊕ (Int32 × MSt)) := L_M_tryKeys_33 v1 v2 v.1 v.2.1 v.2.2
def f_M_tryKeys (S : MSt)  : Option (Int32 × MSt) := Option.bind (f_M_here S) (fun x16 => Option.bind (f_M_size S x16 (4 : Int32)) (fun x18 => znm (zmS S 11 (0 : Int32)) (fun S20 => znm (zmS S20 10 (0 : Int32)) (fun S22 => (if x18 = (0 : Int32) then some ((2 : Int32), S22) else zit (LS_M_tryKeys_33 x16 x18) 64 ((0 : Int32), (0 : Int32), S22))))))
set_option maxHeartbeats 4000000 in
set_option maxRecDepth 100000 in
theorem c_M_tryKeys (l : Launch) (G : XG) (S : MSt)  (o0 : (Int32 × MSt)) (hf : f_M_tryKeys S = some o0) : MetI l y_M_tryKeys b_M_tryKeys 5 (some .int) 6 [.ref (G.2.1 0)] G.1 (tyX G) (zAM G) (wM G S) o0.1 (wM G o0.2) := by
  refine mkI (by decide) (Nat.le_of_ble_eq_true rfl) ?_
  intro p e R s m args below meth c ls Q C hl hP hret0
  replace C : Cw p m c b_M_tryKeys 5 s args "TrustResolverModel" R 6 := C
  have hx := C.1
  have hb := C.2.1
  replace hl : lv_has ls 5 [(0, .ref (G.2.1 0))] := hl
  have hret : ∀ (pc : Nat) (ls : Array Slot) (H : Heap) (locs : List Loc) (v : Int32) (S' : MSt), decode b_M_tryKeys pc = .ok (.ireturn, 1) → (v, S') = o0 → Pw G.1 (tyX G) (zAM G) s (wM G S') H locs → W p l e R s m args below meth c H locs 0 0 Q (F0 m pc ls [.int v]) := fun pc ls H locs v S' hd he hP => hret0 pc ls H locs v hd (by rw [← he]) (by rw [← he]; exact hP)
  clear hret0
  unfold f_M_tryKeys at hf
  have LP_33 : ∀ (v1 : Int32) (v2 : Int32) (n : Nat) (v3 : Int32) (v4 : Int32) (S : MSt) (ls : Array Slot) (H : Heap) (locs : List Loc) , lv_has ls 5 [(0, .ref (G.2.1 0)), (1, .int v1), (2, .int v2), (3, .int v3), (4, .int v4)] → Pw G.1 (tyX G) (zAM G) s (wM G S) H locs → zit (LS_M_tryKeys_33 v1 v2) n (v3, v4, S) = some o0 → W p l e R s m args below meth c H locs 0 0 Q (F0 m 33 ls []) := by
    intro v1 v2 n
    induction n with
    | zero => intro v3 v4 S ls H locs hl hP hf; exact zit_0 hf
    | succ n ih1 =>
      intro v3 v4 S ls H locs hl hP hf
      obtain ⟨o1, hf, hk1⟩ := zit_s hf
      have hf : L_M_tryKeys_33 v1 v2 v3 v4 S = some o1 := hf
      unfold L_M_tryKeys_33 at hf
      refine lv_iload hx hb d_M_tryKeys_33 (lv_at hl 4 rfl) ?_
      refine lv_iload_n hx hb d_M_tryKeys_35 rfl (lv_at hl 2 rfl) ?_
      refine lv_icmp_ge hx hb d_M_tryKeys_36 (tgt := 70) (by decide) (fun h1 => ?_) (fun h1 => ?_)
      · have hf := it_t h1 hf
        have hf := zup_k hf hk1
        refine lv_iload_n hx hb d_M_tryKeys_70 rfl (lv_at hl 3 rfl) ?_
        refine lv_if_ne hx hb d_M_tryKeys_71 (tgt := 76) (by decide) (fun h2 => ?_) (fun h2 => ?_)
        · have hf := it_f h2 hf
          refine lv_aload_n hx hb d_M_tryKeys_76 rfl (lv_at hl 0 rfl) ?_
          refine lv_iload_n hx hb d_M_tryKeys_77 rfl (lv_at hl 1 rfl) ?_
          refine lv_iconst (v := (4 : Int32)) hx hb d_M_tryKeys_78 (by decide) ?_
          obtain ⟨x3, h4, hf⟩ := bd_some hf
          refine w_callI (As := [.int v1, .int (4 : Int32)]) (rest := []) C (c_M_isPlain l G S v1 (4 : Int32) x3 h4) cf_M_isPlain tb_574 (by decide) hP (obM_0 G S) rfl hl.1 rfl (Nat.le_of_ble_eq_true rfl) d_M_tryKeys_79 (fun H locs hP => ?_)
          refine lv_if_ne hx hb d_M_tryKeys_82 (tgt := 87) (by decide) (fun h5 => ?_) (fun h5 => ?_)
          · have hf := it_f h5 hf
            refine lv_aload_n hx hb d_M_tryKeys_87 rfl (lv_at hl 0 rfl) ?_
            refine lv_iconst (v := (1 : Int32)) hx hb d_M_tryKeys_88 (by decide) ?_
            refine w_put C hP (ptM_0_all G x3.2 (1 : Int32) (by decide)) tb_441 d_M_tryKeys_89 (fun H locs hP => ?_)
            obtain ⟨S6, e7, hf⟩ := znm_some hf
            rw [← e7] at hP
            refine lv_aload_n hx hb d_M_tryKeys_92 rfl (lv_at hl 0 rfl) ?_
            refine lv_iload_n hx hb d_M_tryKeys_93 rfl (lv_at hl 2 rfl) ?_
            refine w_put C hP (ptM_0_counted G S6 v2) tb_440 d_M_tryKeys_94 (fun H locs hP => ?_)
            obtain ⟨S8, e9, hf⟩ := znm_some hf
            rw [← e9] at hP
            refine lv_iconst (v := (0 : Int32)) hx hb d_M_tryKeys_97 (by decide) ?_
            exact hret _ _ _ _ _ _ d_M_tryKeys_98 (Option.some.inj hf) hP
          · have hf := it_t h5 hf
            refine lv_iconst (v := (4 : Int32)) hx hb d_M_tryKeys_85 (by decide) ?_
            exact hret _ _ _ _ _ _ d_M_tryKeys_86 (Option.some.inj hf) hP
        · have hf := it_t h2 hf
          refine lv_iconst (v := (3 : Int32)) hx hb d_M_tryKeys_74 (by decide) ?_
          exact hret _ _ _ _ _ _ d_M_tryKeys_75 (Option.some.inj hf) hP
      · have hf := it_f h1 hf
        refine lv_iload_n hx hb d_M_tryKeys_39 rfl (lv_at hl 3 rfl) ?_
        refine lv_if_ne hx hb d_M_tryKeys_40 (tgt := 58) (by decide) (fun h10 => ?_) (fun h10 => ?_)
        · have hf := it_f h10 hf
          refine lv_iconst (v := (1 : Int32)) hx hb d_M_tryKeys_58 (by decide) ?_
          refine lv_goto hx hb d_M_tryKeys_59 (tgt := 63) (by decide) ?_
          refine lv_istore_n (lv' := [(3, .int (1 : Int32)), (0, .ref (G.2.1 0)), (1, .int v1), (2, .int v2), (4, .int v4)]) hx hb d_M_tryKeys_63 rfl hl (by decide) rfl (fun ls hl => ?_)
          refine lv_iinc (k := 4) (v := (v4 + (1 : Int32))) (lv' := [(4, .int (v4 + (1 : Int32))), (3, .int (1 : Int32)), (0, .ref (G.2.1 0)), (1, .int v1), (2, .int v2)]) hx hb d_M_tryKeys_64 hl rfl (ii (by decide) _) (by decide) rfl (fun ls hl => ?_)
          refine lv_goto hx hb d_M_tryKeys_67 (tgt := 33) (by decide) ?_
          exact ih1 (1 : Int32) (v4 + (1 : Int32)) S _ _ _ (lv_sub hl [2, 3, 4, 1, 0] rfl) hP (znx_l hf hk1)
        · have hf := it_t h10 hf
          refine lv_aload_n hx hb d_M_tryKeys_43 rfl (lv_at hl 0 rfl) ?_
          refine lv_aload_n hx hb d_M_tryKeys_44 rfl (lv_at hl 0 rfl) ?_
          refine lv_iload_n hx hb d_M_tryKeys_45 rfl (lv_at hl 1 rfl) ?_
          refine lv_iconst (v := (4 : Int32)) hx hb d_M_tryKeys_46 (by decide) ?_
          refine lv_iload hx hb d_M_tryKeys_47 (lv_at hl 4 rfl) ?_
          obtain ⟨x11, h12, hf⟩ := bd_some hf
          refine w_callI (As := [.int v1, .int (4 : Int32), .int v4]) (rest := [.ref (G.2.1 0)]) C (c_M_dataAt l G S v1 (4 : Int32) v4 x11 h12) cf_M_dataAt tb_539 (by decide) hP (obM_0 G S) rfl hl.1 rfl (Nat.le_of_ble_eq_true rfl) d_M_tryKeys_49 (fun H locs hP => ?_)
          obtain ⟨x13, h14, hf⟩ := bd_some hf
          refine w_callI (As := [.int x11]) (rest := []) C (c_M_isTrusted l G S x11 x13 h14) cf_M_isTrusted tb_571 (by decide) hP (obM_0 G S) rfl hl.1 rfl (Nat.le_of_ble_eq_true rfl) d_M_tryKeys_52 (fun H locs hP => ?_)
          refine lv_if_eq hx hb d_M_tryKeys_55 (tgt := 62) (by decide) (fun h15 => ?_) (fun h15 => ?_)
          · have hf := it_t h15 hf
            refine lv_iconst (v := (0 : Int32)) hx hb d_M_tryKeys_62 (by decide) ?_
            refine lv_istore_n (lv' := [(3, .int (0 : Int32)), (0, .ref (G.2.1 0)), (1, .int v1), (2, .int v2), (4, .int v4)]) hx hb d_M_tryKeys_63 rfl hl (by decide) rfl (fun ls hl => ?_)
            refine lv_iinc (k := 4) (v := (v4 + (1 : Int32))) (lv' := [(4, .int (v4 + (1 : Int32))), (3, .int (0 : Int32)), (0, .ref (G.2.1 0)), (1, .int v1), (2, .int v2)]) hx hb d_M_tryKeys_64 hl rfl (ii (by decide) _) (by decide) rfl (fun ls hl => ?_)
            refine lv_goto hx hb d_M_tryKeys_67 (tgt := 33) (by decide) ?_
            exact ih1 (0 : Int32) (v4 + (1 : Int32)) x13.2 _ _ _ (lv_sub hl [2, 3, 4, 1, 0] rfl) hP (znx_l hf hk1)
          · have hf := it_f h15 hf
            refine lv_iconst (v := (1 : Int32)) hx hb d_M_tryKeys_58 (by decide) ?_
            refine lv_goto hx hb d_M_tryKeys_59 (tgt := 63) (by decide) ?_
            refine lv_istore_n (lv' := [(3, .int (1 : Int32)), (0, .ref (G.2.1 0)), (1, .int v1), (2, .int v2), (4, .int v4)]) hx hb d_M_tryKeys_63 rfl hl (by decide) rfl (fun ls hl => ?_)
            refine lv_iinc (k := 4) (v := (v4 + (1 : Int32))) (lv' := [(4, .int (v4 + (1 : Int32))), (3, .int (1 : Int32)), (0, .ref (G.2.1 0)), (1, .int v1), (2, .int v2)]) hx hb d_M_tryKeys_64 hl rfl (ii (by decide) _) (by decide) rfl (fun ls hl => ?_)
            refine lv_goto hx hb d_M_tryKeys_67 (tgt := 33) (by decide) ?_
            exact ih1 (1 : Int32) (v4 + (1 : Int32)) x13.2 _ _ _ (lv_sub hl [2, 3, 4, 1, 0] rfl) hP (znx_l hf hk1)
  refine lv_aload_n hx hb d_M_tryKeys_0 rfl (lv_at hl 0 rfl) ?_
  obtain ⟨x16, h17, hf⟩ := bd_some hf
  refine w_callI (As := []) (rest := []) C (c_M_here l G S x16 h17) cf_M_here tb_568 (by decide) hP (obM_0 G S) rfl hl.1 rfl (Nat.le_of_ble_eq_true rfl) d_M_tryKeys_1 (fun H locs hP => ?_)
  refine lv_istore_n (lv' := [(1, .int x16), (0, .ref (G.2.1 0))]) hx hb d_M_tryKeys_4 rfl hl (by decide) rfl (fun ls hl => ?_)
  refine lv_aload_n hx hb d_M_tryKeys_5 rfl (lv_at hl 1 rfl) ?_
  refine lv_iload_n hx hb d_M_tryKeys_6 rfl (lv_at hl 0 rfl) ?_
  refine lv_iconst (v := (4 : Int32)) hx hb d_M_tryKeys_7 (by decide) ?_
  obtain ⟨x18, h19, hf⟩ := bd_some hf
  refine w_callI (As := [.int x16, .int (4 : Int32)]) (rest := []) C (c_M_size l G S x16 (4 : Int32) x18 h19) cf_M_size tb_498 (by decide) hP (obM_0 G S) rfl hl.1 rfl (Nat.le_of_ble_eq_true rfl) d_M_tryKeys_8 (fun H locs hP => ?_)
  refine lv_istore_n (lv' := [(2, .int x18), (1, .int x16), (0, .ref (G.2.1 0))]) hx hb d_M_tryKeys_11 rfl hl (by decide) rfl (fun ls hl => ?_)
  refine lv_aload_n hx hb d_M_tryKeys_12 rfl (lv_at hl 2 rfl) ?_
  refine lv_iconst (v := (0 : Int32)) hx hb d_M_tryKeys_13 (by decide) ?_
  refine w_put C hP (ptM_0_all G S (0 : Int32) (by decide)) tb_441 d_M_tryKeys_14 (fun H locs hP => ?_)
  obtain ⟨S20, e21, hf⟩ := znm_some hf
  rw [← e21] at hP
  refine lv_aload_n hx hb d_M_tryKeys_17 rfl (lv_at hl 2 rfl) ?_
  refine lv_iconst (v := (0 : Int32)) hx hb d_M_tryKeys_18 (by decide) ?_
  refine w_put C hP (ptM_0_counted G S20 (0 : Int32)) tb_440 d_M_tryKeys_19 (fun H locs hP => ?_)
  obtain ⟨S22, e23, hf⟩ := znm_some hf
  rw [← e23] at hP
  refine lv_iload_n hx hb d_M_tryKeys_22 rfl (lv_at hl 0 rfl) ?_
  refine lv_if_ne hx hb d_M_tryKeys_23 (tgt := 28) (by decide) (fun h24 => ?_) (fun h24 => ?_)
  · have hf := it_f h24 hf
    refine lv_iconst (v := (0 : Int32)) hx hb d_M_tryKeys_28 (by decide) ?_
    refine lv_istore_n (lv' := [(3, .int (0 : Int32)), (2, .int x18), (1, .int x16), (0, .ref (G.2.1 0))]) hx hb d_M_tryKeys_29 rfl hl (by decide) rfl (fun ls hl => ?_)
    refine lv_iconst (v := (0 : Int32)) hx hb d_M_tryKeys_30 (by decide) ?_
    refine lv_istore (lv' := [(4, .int (0 : Int32)), (3, .int (0 : Int32)), (2, .int x18), (1, .int x16), (0, .ref (G.2.1 0))]) hx hb d_M_tryKeys_31 hl (by decide) rfl (fun ls hl => ?_)
    exact LP_33 x16 x18 64 (0 : Int32) (0 : Int32) S22 _ _ _ (lv_sub hl [4, 3, 2, 1, 0] rfl) hP hf
  · have hf := it_t h24 hf
    refine lv_iconst (v := (2 : Int32)) hx hb d_M_tryKeys_26 (by decide) ?_
    exact hret _ _ _ _ _ _ d_M_tryKeys_27 (Option.some.inj hf) hP
def J_M_tryCut_47 (S : MSt) (v1 : Int32) (s0 : Int32) : Option (Int32 × MSt) := (if s0 = (0 : Int32) then some ((7 : Int32), S) else Option.bind (f_M_tells S v1 (2 : Int32)) (fun x2 => (if x2 = (0 : Int32) then some ((7 : Int32), S) else Option.bind (f_M_tells S v1 (3 : Int32)) (fun x5 => (if x5 = (0 : Int32) then some ((6 : Int32), S) else some ((7 : Int32), S))))))
def f_M_tryCut (S : MSt) (v1 : Int32) : Option (Int32 × MSt) := Option.bind (f_M_size S v1 (3 : Int32)) (fun x8 => (if x8 ≤ (0 : Int32) then Option.bind (f_M_size S v1 (5 : Int32)) (fun x11 => (if x11 ≤ (0 : Int32) then J_M_tryCut_47 S v1 (0 : Int32) else Option.bind (f_M_isPlain S v1 (5 : Int32)) (fun x14 => (if x14.1 = (0 : Int32) then J_M_tryCut_47 x14.2 v1 (0 : Int32) else J_M_tryCut_47 x14.2 v1 (1 : Int32))))) else Option.bind (f_M_isPlain S v1 (3 : Int32)) (fun x17 => (if x17.1 = (0 : Int32) then some ((5 : Int32), x17.2) else some ((0 : Int32), x17.2)))))
set_option maxHeartbeats 4000000 in
set_option maxRecDepth 100000 in
theorem c_M_tryCut (l : Launch) (G : XG) (S : MSt) (v1 : Int32) (o0 : (Int32 × MSt)) (hf : f_M_tryCut S v1 = some o0) : MetI l y_M_tryCut b_M_tryCut 3 (some .int) 6 [.ref (G.2.1 0), .int v1] G.1 (tyX G) (zAM G) (wM G S) o0.1 (wM G o0.2) := by
  refine mkI (by decide) (Nat.le_of_ble_eq_true rfl) ?_
  intro p e R s m args below meth c ls Q C hl hP hret0
  replace C : Cw p m c b_M_tryCut 3 s args "TrustResolverModel" R 6 := C
  have hx := C.1
  have hb := C.2.1
  replace hl : lv_has ls 3 [(0, .ref (G.2.1 0)), (1, .int v1)] := hl
  have hret : ∀ (pc : Nat) (ls : Array Slot) (H : Heap) (locs : List Loc) (v : Int32) (S' : MSt), decode b_M_tryCut pc = .ok (.ireturn, 1) → (v, S') = o0 → Pw G.1 (tyX G) (zAM G) s (wM G S') H locs → W p l e R s m args below meth c H locs 0 0 Q (F0 m pc ls [.int v]) := fun pc ls H locs v S' hd he hP => hret0 pc ls H locs v hd (by rw [← he]) (by rw [← he]; exact hP)
  clear hret0
  unfold f_M_tryCut at hf
  have JP_47 : ∀ (S : MSt) (v1 : Int32) (s0 : Int32) (ls : Array Slot) (H : Heap) (locs : List Loc) , lv_has ls 3 [(0, .ref (G.2.1 0)), (1, .int v1)] → Pw G.1 (tyX G) (zAM G) s (wM G S) H locs → J_M_tryCut_47 S v1 s0 = some o0 → W p l e R s m args below meth c H locs 0 0 Q (F0 m 47 ls [.int s0]) := by
    intro S v1 s0 ls H locs hl hP hf
    unfold J_M_tryCut_47 at hf
    refine lv_istore_n (lv' := [(2, .int s0), (0, .ref (G.2.1 0)), (1, .int v1)]) hx hb d_M_tryCut_47 rfl hl (by decide) rfl (fun ls hl => ?_)
    refine lv_iload_n hx hb d_M_tryCut_48 rfl (lv_at hl 0 rfl) ?_
    refine lv_if_eq hx hb d_M_tryCut_49 (tgt := 75) (by decide) (fun h1 => ?_) (fun h1 => ?_)
    · have hf := it_t h1 hf
      refine lv_bipush (v := (7 : Int32)) hx hb d_M_tryCut_75 (by decide) ?_
      exact hret _ _ _ _ _ _ d_M_tryCut_77 (Option.some.inj hf) hP
    · have hf := it_f h1 hf
      refine lv_aload_n hx hb d_M_tryCut_52 rfl (lv_at hl 1 rfl) ?_
      refine lv_iload_n hx hb d_M_tryCut_53 rfl (lv_at hl 2 rfl) ?_
      refine lv_iconst (v := (2 : Int32)) hx hb d_M_tryCut_54 (by decide) ?_
      obtain ⟨x2, h3, hf⟩ := bd_some hf
      refine w_callI (As := [.int v1, .int (2 : Int32)]) (rest := []) C (c_M_tells l G S v1 (2 : Int32) x2 h3) cf_M_tells tb_592 (by decide) hP (obM_0 G S) rfl hl.1 rfl (Nat.le_of_ble_eq_true rfl) d_M_tryCut_55 (fun H locs hP => ?_)
      refine lv_if_eq hx hb d_M_tryCut_58 (tgt := 75) (by decide) (fun h4 => ?_) (fun h4 => ?_)
      · have hf := it_t h4 hf
        refine lv_bipush (v := (7 : Int32)) hx hb d_M_tryCut_75 (by decide) ?_
        exact hret _ _ _ _ _ _ d_M_tryCut_77 (Option.some.inj hf) hP
      · have hf := it_f h4 hf
        refine lv_aload_n hx hb d_M_tryCut_61 rfl (lv_at hl 1 rfl) ?_
        refine lv_iload_n hx hb d_M_tryCut_62 rfl (lv_at hl 2 rfl) ?_
        refine lv_iconst (v := (3 : Int32)) hx hb d_M_tryCut_63 (by decide) ?_
        obtain ⟨x5, h6, hf⟩ := bd_some hf
        refine w_callI (As := [.int v1, .int (3 : Int32)]) (rest := []) C (c_M_tells l G S v1 (3 : Int32) x5 h6) cf_M_tells tb_592 (by decide) hP (obM_0 G S) rfl hl.1 rfl (Nat.le_of_ble_eq_true rfl) d_M_tryCut_64 (fun H locs hP => ?_)
        refine lv_if_ne hx hb d_M_tryCut_67 (tgt := 75) (by decide) (fun h7 => ?_) (fun h7 => ?_)
        · have hf := it_f h7 hf
          refine lv_bipush (v := (7 : Int32)) hx hb d_M_tryCut_75 (by decide) ?_
          exact hret _ _ _ _ _ _ d_M_tryCut_77 (Option.some.inj hf) hP
        · have hf := it_t h7 hf
          refine lv_bipush (v := (6 : Int32)) hx hb d_M_tryCut_70 (by decide) ?_
          refine lv_goto hx hb d_M_tryCut_72 (tgt := 77) (by decide) ?_
          exact hret _ _ _ _ _ _ d_M_tryCut_77 (Option.some.inj hf) hP
  refine lv_aload_n hx hb d_M_tryCut_0 rfl (lv_at hl 0 rfl) ?_
  refine lv_iload_n hx hb d_M_tryCut_1 rfl (lv_at hl 1 rfl) ?_
  refine lv_iconst (v := (3 : Int32)) hx hb d_M_tryCut_2 (by decide) ?_
  obtain ⟨x8, h9, hf⟩ := bd_some hf
  refine w_callI (As := [.int v1, .int (3 : Int32)]) (rest := []) C (c_M_size l G S v1 (3 : Int32) x8 h9) cf_M_size tb_498 (by decide) hP (obM_0 G S) rfl hl.1 rfl (Nat.le_of_ble_eq_true rfl) d_M_tryCut_3 (fun H locs hP => ?_)
  refine lv_if_le hx hb d_M_tryCut_6 (tgt := 24) (by decide) (fun h10 => ?_) (fun h10 => ?_)
  · have hf := it_t h10 hf
    refine lv_aload_n hx hb d_M_tryCut_24 rfl (lv_at hl 0 rfl) ?_
    refine lv_iload_n hx hb d_M_tryCut_25 rfl (lv_at hl 1 rfl) ?_
    refine lv_iconst (v := (5 : Int32)) hx hb d_M_tryCut_26 (by decide) ?_
    obtain ⟨x11, h12, hf⟩ := bd_some hf
    refine w_callI (As := [.int v1, .int (5 : Int32)]) (rest := []) C (c_M_size l G S v1 (5 : Int32) x11 h12) cf_M_size tb_498 (by decide) hP (obM_0 G S) rfl hl.1 rfl (Nat.le_of_ble_eq_true rfl) d_M_tryCut_27 (fun H locs hP => ?_)
    refine lv_if_le hx hb d_M_tryCut_30 (tgt := 46) (by decide) (fun h13 => ?_) (fun h13 => ?_)
    · have hf := it_t h13 hf
      refine lv_iconst (v := (0 : Int32)) hx hb d_M_tryCut_46 (by decide) ?_
      exact JP_47 S v1 (0 : Int32) _ _ _ (lv_sub hl [0, 1] rfl) hP hf
    · have hf := it_f h13 hf
      refine lv_aload_n hx hb d_M_tryCut_33 rfl (lv_at hl 0 rfl) ?_
      refine lv_iload_n hx hb d_M_tryCut_34 rfl (lv_at hl 1 rfl) ?_
      refine lv_iconst (v := (5 : Int32)) hx hb d_M_tryCut_35 (by decide) ?_
      obtain ⟨x14, h15, hf⟩ := bd_some hf
      refine w_callI (As := [.int v1, .int (5 : Int32)]) (rest := []) C (c_M_isPlain l G S v1 (5 : Int32) x14 h15) cf_M_isPlain tb_574 (by decide) hP (obM_0 G S) rfl hl.1 rfl (Nat.le_of_ble_eq_true rfl) d_M_tryCut_36 (fun H locs hP => ?_)
      refine lv_if_eq hx hb d_M_tryCut_39 (tgt := 46) (by decide) (fun h16 => ?_) (fun h16 => ?_)
      · have hf := it_t h16 hf
        refine lv_iconst (v := (0 : Int32)) hx hb d_M_tryCut_46 (by decide) ?_
        exact JP_47 x14.2 v1 (0 : Int32) _ _ _ (lv_sub hl [0, 1] rfl) hP hf
      · have hf := it_f h16 hf
        refine lv_iconst (v := (1 : Int32)) hx hb d_M_tryCut_42 (by decide) ?_
        refine lv_goto hx hb d_M_tryCut_43 (tgt := 47) (by decide) ?_
        exact JP_47 x14.2 v1 (1 : Int32) _ _ _ (lv_sub hl [0, 1] rfl) hP hf
  · have hf := it_f h10 hf
    refine lv_aload_n hx hb d_M_tryCut_9 rfl (lv_at hl 0 rfl) ?_
    refine lv_iload_n hx hb d_M_tryCut_10 rfl (lv_at hl 1 rfl) ?_
    refine lv_iconst (v := (3 : Int32)) hx hb d_M_tryCut_11 (by decide) ?_
    obtain ⟨x17, h18, hf⟩ := bd_some hf
    refine w_callI (As := [.int v1, .int (3 : Int32)]) (rest := []) C (c_M_isPlain l G S v1 (3 : Int32) x17 h18) cf_M_isPlain tb_574 (by decide) hP (obM_0 G S) rfl hl.1 rfl (Nat.le_of_ble_eq_true rfl) d_M_tryCut_12 (fun H locs hP => ?_)
    refine lv_if_eq hx hb d_M_tryCut_15 (tgt := 22) (by decide) (fun h19 => ?_) (fun h19 => ?_)
    · have hf := it_t h19 hf
      refine lv_iconst (v := (5 : Int32)) hx hb d_M_tryCut_22 (by decide) ?_
      exact hret _ _ _ _ _ _ d_M_tryCut_23 (Option.some.inj hf) hP
    · have hf := it_f h19 hf
      refine lv_iconst (v := (0 : Int32)) hx hb d_M_tryCut_18 (by decide) ?_
      refine lv_goto hx hb d_M_tryCut_19 (tgt := 23) (by decide) ?_
      exact hret _ _ _ _ _ _ d_M_tryCut_23 (Option.some.inj hf) hP
def J_M_tryAnswers_177 (S : MSt) (v1 : Int32) (v2 : Int32) (v3 : Int32)  : Option (Int32 × MSt) := Option.bind (f_M_cut v1 v3) (fun x1 => Option.bind (f_M_cut v1 (v3 + (1 : Int32))) (fun x3 => Option.bind (f_M_isCovered S x3) (fun x5 => (if x5.1 = (0 : Int32) then some ((14 : Int32), x5.2) else Option.bind (f_M_star x1) (fun x8 => Option.bind (f_M_isCovered x5.2 x8) (fun x10 => (if x10.1 = (0 : Int32) then Option.bind (f_M_size x10.2 x8 (5 : Int32)) (fun x13 => (if x13 ≤ (0 : Int32) then some ((17 : Int32), x10.2) else Option.bind (f_M_isPlain x10.2 x8 (5 : Int32)) (fun x16 => (if x16.1 = (0 : Int32) then some ((17 : Int32), x16.2) else Option.bind (f_M_tells x16.2 x8 v2) (fun x19 => (if x19 = (0 : Int32) then some ((16 : Int32), x16.2) else some ((17 : Int32), x16.2))))))) else some ((15 : Int32), x10.2))))))))
def L_M_tryAnswers_148 (v1 : Int32) (v2 : Int32) (v3 : Int32) (S : MSt) : Option ((Int32 × MSt) ⊕ (Int32 × MSt)) := Option.bind (f_M_here S) (fun x22 => Option.bind (f_M_depth x22) (fun x24 => (if v3 ≤ x24 then zup (J_M_tryAnswers_177 S v1 v2 v3) else Option.bind (f_M_cut v1 v3) (fun x27 => Option.bind (f_M_isKnown S x27) (fun x29 => (if x29.1 = (0 : Int32) then some (Sum.inl ((v3 + (-1 : Int32)), x29.2)) else zup (J_M_tryAnswers_177 x29.2 v1 v2 v3)))))))
def LS_M_tryAnswers_148 (v1 : Int32) (v2 : Int32) (v : (Int32 × MSt)) : Option ((Int32 × MSt) ⊕ (Int32 × MSt)) := L_M_tryAnswers_148 v1 v2 v.1 v.2
def J_M_tryAnswers_130 (S : MSt) (v1 : Int32) (v2 : Int32)  : Option (Int32 × MSt) := Option.bind (f_M_here S) (fun x32 => (if v1 = x32 then some ((14 : Int32), S) else Option.bind (f_M_depth v1) (fun x35 => zit (LS_M_tryAnswers_148 v1 v2) 64 ((x35 - (1 : Int32)), S))))
def L_M_tryAnswers_23 (v1 : Int32) (v2 : Int32) (v3 : Int32) (S : MSt) : Option ((Int32 × MSt) ⊕ (Int32 × MSt)) := (if (S.1 3) ≤ v3 then zup (some ((11 : Int32), S)) else zgd (zin v3 32) ((if (S.2.1 3 (Int32.toNatClampNeg v3)) = v1 then zgd (zin v3 32) ((if (S.2.1 4 (Int32.toNatClampNeg v3)) = v2 then Option.bind (f_M_isGood S v3) (fun x42 => (if x42.1 = (0 : Int32) then some (Sum.inl ((v3 + (1 : Int32)), x42.2)) else zup (zgd (zin v3 32) (Option.bind (f_M_cut v1 ((x42.2.2.1 7 (Int32.toNatClampNeg v3)) + (1 : Int32))) (fun x46 => Option.bind (f_M_isCovered x42.2 x46) (fun x48 => (if x48.1 = (0 : Int32) then some ((10 : Int32), x48.2) else some ((9 : Int32), x48.2)))))))) else some (Sum.inl ((v3 + (1 : Int32)), S)))) else some (Sum.inl ((v3 + (1 : Int32)), S)))))
def LS_M_tryAnswers_23 (v1 : Int32) (v2 : Int32) (v : (Int32 × MSt)) : Option ((Int32 × MSt) ⊕ (Int32 × MSt)) := L_M_tryAnswers_23 v1 v2 v.1 v.2
def f_M_tryAnswers (S : MSt) (v1 : Int32) (v2 : Int32) : Option (Int32 × MSt) := Option.bind (f_M_size S v1 v2) (fun x51 => (if x51 ≤ (0 : Int32) then Option.bind (f_M_size S v1 (5 : Int32)) (fun x54 => (if x54 ≤ (0 : Int32) then J_M_tryAnswers_130 S v1 v2 else Option.bind (f_M_isPlain S v1 (5 : Int32)) (fun x57 => (if x57.1 = (0 : Int32) then J_M_tryAnswers_130 x57.2 v1 v2 else Option.bind (f_M_tells x57.2 v1 v2) (fun x60 => (if x60 = (0 : Int32) then some ((12 : Int32), x57.2) else some ((13 : Int32), x57.2))))))) else Option.bind (f_M_isPlain S v1 v2) (fun x63 => (if x63.1 = (0 : Int32) then zit (LS_M_tryAnswers_23 v1 v2) 64 ((0 : Int32), x63.2) else some ((8 : Int32), x63.2)))))
set_option maxHeartbeats 4000000 in
set_option maxRecDepth 100000 in
theorem c_M_tryAnswers (l : Launch) (G : XG) (S : MSt) (v1 : Int32) (v2 : Int32) (o0 : (Int32 × MSt)) (hf : f_M_tryAnswers S v1 v2 = some o0) : MetI l y_M_tryAnswers b_M_tryAnswers 6 (some .int) 7 [.ref (G.2.1 0), .int v1, .int v2] G.1 (tyX G) (zAM G) (wM G S) o0.1 (wM G o0.2) := by
  refine mkI (by decide) (Nat.le_of_ble_eq_true rfl) ?_
  intro p e R s m args below meth c ls Q C hl hP hret0
  replace C : Cw p m c b_M_tryAnswers 6 s args "TrustResolverModel" R 7 := C
  have hx := C.1
  have hb := C.2.1
  replace hl : lv_has ls 6 [(0, .ref (G.2.1 0)), (1, .int v1), (2, .int v2)] := hl
  have hret : ∀ (pc : Nat) (ls : Array Slot) (H : Heap) (locs : List Loc) (v : Int32) (S' : MSt), decode b_M_tryAnswers pc = .ok (.ireturn, 1) → (v, S') = o0 → Pw G.1 (tyX G) (zAM G) s (wM G S') H locs → W p l e R s m args below meth c H locs 0 0 Q (F0 m pc ls [.int v]) := fun pc ls H locs v S' hd he hP => hret0 pc ls H locs v hd (by rw [← he]) (by rw [← he]; exact hP)
  clear hret0
  unfold f_M_tryAnswers at hf
  have JP_177 : ∀ (S : MSt) (v1 : Int32) (v2 : Int32) (v3 : Int32)  (ls : Array Slot) (H : Heap) (locs : List Loc) , lv_has ls 6 [(0, .ref (G.2.1 0)), (1, .int v1), (2, .int v2), (3, .int v3)] → Pw G.1 (tyX G) (zAM G) s (wM G S) H locs → J_M_tryAnswers_177 S v1 v2 v3 = some o0 → W p l e R s m args below meth c H locs 0 0 Q (F0 m 177 ls []) := by
    intro S v1 v2 v3 ls H locs hl hP hf
    unfold J_M_tryAnswers_177 at hf
    refine lv_iload_n hx hb d_M_tryAnswers_177 rfl (lv_at hl 1 rfl) ?_
    refine lv_iload_n hx hb d_M_tryAnswers_178 rfl (lv_at hl 3 rfl) ?_
    obtain ⟨x1, h2, hf⟩ := bd_some hf
    refine w_callS (As := [.int v1, .int v3]) (rest := []) C (c_M_cut l v1 v3 x1 h2) cf_M_cut tb_533 (by decide) rfl hl.1 rfl (Nat.le_of_ble_eq_true rfl) d_M_tryAnswers_179 ?_
    refine lv_istore (lv' := [(4, .int x1), (0, .ref (G.2.1 0)), (1, .int v1), (2, .int v2), (3, .int v3)]) hx hb d_M_tryAnswers_182 hl (by decide) rfl (fun ls hl => ?_)
    refine lv_aload_n hx hb d_M_tryAnswers_184 rfl (lv_at hl 1 rfl) ?_
    refine lv_iload_n hx hb d_M_tryAnswers_185 rfl (lv_at hl 2 rfl) ?_
    refine lv_iload_n hx hb d_M_tryAnswers_186 rfl (lv_at hl 4 rfl) ?_
    refine lv_iconst (v := (1 : Int32)) hx hb d_M_tryAnswers_187 (by decide) ?_
    refine lv_iadd hx hb d_M_tryAnswers_188 ?_
    obtain ⟨x3, h4, hf⟩ := bd_some hf
    refine w_callS (As := [.int v1, .int (v3 + (1 : Int32))]) (rest := [.ref (G.2.1 0)]) C (c_M_cut l v1 (v3 + (1 : Int32)) x3 h4) cf_M_cut tb_533 (by decide) rfl hl.1 rfl (Nat.le_of_ble_eq_true rfl) d_M_tryAnswers_189 ?_
    obtain ⟨x5, h6, hf⟩ := bd_some hf
    refine w_callI (As := [.int x3]) (rest := []) C (c_M_isCovered l G S x3 x5 h6) cf_M_isCovered tb_589 (by decide) hP (obM_0 G S) rfl hl.1 rfl (Nat.le_of_ble_eq_true rfl) d_M_tryAnswers_192 (fun H locs hP => ?_)
    refine lv_if_ne hx hb d_M_tryAnswers_195 (tgt := 201) (by decide) (fun h7 => ?_) (fun h7 => ?_)
    · have hf := it_f h7 hf
      refine lv_iload hx hb d_M_tryAnswers_201 (lv_at hl 0 rfl) ?_
      obtain ⟨x8, h9, hf⟩ := bd_some hf
      refine w_callS (As := [.int x1]) (rest := []) C (c_M_star l x1 x8 h9) cf_M_star tb_536 (by decide) rfl hl.1 rfl (Nat.le_of_ble_eq_true rfl) d_M_tryAnswers_203 ?_
      refine lv_istore (lv' := [(5, .int x8), (4, .int x1), (0, .ref (G.2.1 0)), (1, .int v1), (2, .int v2), (3, .int v3)]) hx hb d_M_tryAnswers_206 hl (by decide) rfl (fun ls hl => ?_)
      refine lv_aload_n hx hb d_M_tryAnswers_208 rfl (lv_at hl 2 rfl) ?_
      refine lv_iload hx hb d_M_tryAnswers_209 (lv_at hl 0 rfl) ?_
      obtain ⟨x10, h11, hf⟩ := bd_some hf
      refine w_callI (As := [.int x8]) (rest := []) C (c_M_isCovered l G x5.2 x8 x10 h11) cf_M_isCovered tb_589 (by decide) hP (obM_0 G x5.2) rfl hl.1 rfl (Nat.le_of_ble_eq_true rfl) d_M_tryAnswers_211 (fun H locs hP => ?_)
      refine lv_if_eq hx hb d_M_tryAnswers_214 (tgt := 220) (by decide) (fun h12 => ?_) (fun h12 => ?_)
      · have hf := it_t h12 hf
        refine lv_aload_n hx hb d_M_tryAnswers_220 rfl (lv_at hl 2 rfl) ?_
        refine lv_iload hx hb d_M_tryAnswers_221 (lv_at hl 0 rfl) ?_
        refine lv_iconst (v := (5 : Int32)) hx hb d_M_tryAnswers_223 (by decide) ?_
        obtain ⟨x13, h14, hf⟩ := bd_some hf
        refine w_callI (As := [.int x8, .int (5 : Int32)]) (rest := []) C (c_M_size l G x10.2 x8 (5 : Int32) x13 h14) cf_M_size tb_498 (by decide) hP (obM_0 G x10.2) rfl hl.1 rfl (Nat.le_of_ble_eq_true rfl) d_M_tryAnswers_224 (fun H locs hP => ?_)
        refine lv_if_le hx hb d_M_tryAnswers_227 (tgt := 255) (by decide) (fun h15 => ?_) (fun h15 => ?_)
        · have hf := it_t h15 hf
          refine lv_bipush (v := (17 : Int32)) hx hb d_M_tryAnswers_255 (by decide) ?_
          exact hret _ _ _ _ _ _ d_M_tryAnswers_257 (Option.some.inj hf) hP
        · have hf := it_f h15 hf
          refine lv_aload_n hx hb d_M_tryAnswers_230 rfl (lv_at hl 2 rfl) ?_
          refine lv_iload hx hb d_M_tryAnswers_231 (lv_at hl 0 rfl) ?_
          refine lv_iconst (v := (5 : Int32)) hx hb d_M_tryAnswers_233 (by decide) ?_
          obtain ⟨x16, h17, hf⟩ := bd_some hf
          refine w_callI (As := [.int x8, .int (5 : Int32)]) (rest := []) C (c_M_isPlain l G x10.2 x8 (5 : Int32) x16 h17) cf_M_isPlain tb_574 (by decide) hP (obM_0 G x10.2) rfl hl.1 rfl (Nat.le_of_ble_eq_true rfl) d_M_tryAnswers_234 (fun H locs hP => ?_)
          refine lv_if_eq hx hb d_M_tryAnswers_237 (tgt := 255) (by decide) (fun h18 => ?_) (fun h18 => ?_)
          · have hf := it_t h18 hf
            refine lv_bipush (v := (17 : Int32)) hx hb d_M_tryAnswers_255 (by decide) ?_
            exact hret _ _ _ _ _ _ d_M_tryAnswers_257 (Option.some.inj hf) hP
          · have hf := it_f h18 hf
            refine lv_aload_n hx hb d_M_tryAnswers_240 rfl (lv_at hl 2 rfl) ?_
            refine lv_iload hx hb d_M_tryAnswers_241 (lv_at hl 0 rfl) ?_
            refine lv_iload_n hx hb d_M_tryAnswers_243 rfl (lv_at hl 4 rfl) ?_
            obtain ⟨x19, h20, hf⟩ := bd_some hf
            refine w_callI (As := [.int x8, .int v2]) (rest := []) C (c_M_tells l G x16.2 x8 v2 x19 h20) cf_M_tells tb_592 (by decide) hP (obM_0 G x16.2) rfl hl.1 rfl (Nat.le_of_ble_eq_true rfl) d_M_tryAnswers_244 (fun H locs hP => ?_)
            refine lv_if_ne hx hb d_M_tryAnswers_247 (tgt := 255) (by decide) (fun h21 => ?_) (fun h21 => ?_)
            · have hf := it_f h21 hf
              refine lv_bipush (v := (17 : Int32)) hx hb d_M_tryAnswers_255 (by decide) ?_
              exact hret _ _ _ _ _ _ d_M_tryAnswers_257 (Option.some.inj hf) hP
            · have hf := it_t h21 hf
              refine lv_bipush (v := (16 : Int32)) hx hb d_M_tryAnswers_250 (by decide) ?_
              refine lv_goto hx hb d_M_tryAnswers_252 (tgt := 257) (by decide) ?_
              exact hret _ _ _ _ _ _ d_M_tryAnswers_257 (Option.some.inj hf) hP
      · have hf := it_f h12 hf
        refine lv_bipush (v := (15 : Int32)) hx hb d_M_tryAnswers_217 (by decide) ?_
        exact hret _ _ _ _ _ _ d_M_tryAnswers_219 (Option.some.inj hf) hP
    · have hf := it_t h7 hf
      refine lv_bipush (v := (14 : Int32)) hx hb d_M_tryAnswers_198 (by decide) ?_
      exact hret _ _ _ _ _ _ d_M_tryAnswers_200 (Option.some.inj hf) hP
  have LP_148 : ∀ (v1 : Int32) (v2 : Int32) (n : Nat) (v3 : Int32) (S : MSt) (ls : Array Slot) (H : Heap) (locs : List Loc) , lv_has ls 6 [(0, .ref (G.2.1 0)), (1, .int v1), (2, .int v2), (3, .int v3)] → Pw G.1 (tyX G) (zAM G) s (wM G S) H locs → zit (LS_M_tryAnswers_148 v1 v2) n (v3, S) = some o0 → W p l e R s m args below meth c H locs 0 0 Q (F0 m 148 ls []) := by
    intro v1 v2 n
    induction n with
    | zero => intro v3 S ls H locs hl hP hf; exact zit_0 hf
    | succ n ih1 =>
      intro v3 S ls H locs hl hP hf
      obtain ⟨o1, hf, hk1⟩ := zit_s hf
      have hf : L_M_tryAnswers_148 v1 v2 v3 S = some o1 := hf
      unfold L_M_tryAnswers_148 at hf
      refine lv_iload_n hx hb d_M_tryAnswers_148 rfl (lv_at hl 3 rfl) ?_
      refine lv_aload_n hx hb d_M_tryAnswers_149 rfl (lv_at hl 0 rfl) ?_
      obtain ⟨x22, h23, hf⟩ := bd_some hf
      refine w_callI (As := []) (rest := [.int v3]) C (c_M_here l G S x22 h23) cf_M_here tb_568 (by decide) hP (obM_0 G S) rfl hl.1 rfl (Nat.le_of_ble_eq_true rfl) d_M_tryAnswers_150 (fun H locs hP => ?_)
      obtain ⟨x24, h25, hf⟩ := bd_some hf
      refine w_callS (As := [.int x22]) (rest := [.int v3]) C (c_M_depth l x22 x24 h25) cf_M_depth tb_527 (by decide) rfl hl.1 rfl (Nat.le_of_ble_eq_true rfl) d_M_tryAnswers_153 ?_
      refine lv_icmp_le hx hb d_M_tryAnswers_156 (tgt := 177) (by decide) (fun h26 => ?_) (fun h26 => ?_)
      · have hf := it_t h26 hf
        have hf := zup_k hf hk1
        exact JP_177 S v1 v2 v3 _ _ _ (lv_sub hl [0, 1, 2, 3] rfl) hP hf
      · have hf := it_f h26 hf
        refine lv_aload_n hx hb d_M_tryAnswers_159 rfl (lv_at hl 0 rfl) ?_
        refine lv_iload_n hx hb d_M_tryAnswers_160 rfl (lv_at hl 1 rfl) ?_
        refine lv_iload_n hx hb d_M_tryAnswers_161 rfl (lv_at hl 3 rfl) ?_
        obtain ⟨x27, h28, hf⟩ := bd_some hf
        refine w_callS (As := [.int v1, .int v3]) (rest := [.ref (G.2.1 0)]) C (c_M_cut l v1 v3 x27 h28) cf_M_cut tb_533 (by decide) rfl hl.1 rfl (Nat.le_of_ble_eq_true rfl) d_M_tryAnswers_162 ?_
        obtain ⟨x29, h30, hf⟩ := bd_some hf
        refine w_callI (As := [.int x27]) (rest := []) C (c_M_isKnown l G S x27 x29 h30) cf_M_isKnown tb_595 (by decide) hP (obM_0 G S) rfl hl.1 rfl (Nat.le_of_ble_eq_true rfl) d_M_tryAnswers_165 (fun H locs hP => ?_)
        refine lv_if_ne hx hb d_M_tryAnswers_168 (tgt := 177) (by decide) (fun h31 => ?_) (fun h31 => ?_)
        · have hf := it_f h31 hf
          have hf := zup_k hf hk1
          exact JP_177 x29.2 v1 v2 v3 _ _ _ (lv_sub hl [0, 1, 2, 3] rfl) hP hf
        · have hf := it_t h31 hf
          refine lv_iinc (k := 3) (v := (v3 + (-1 : Int32))) (lv' := [(3, .int (v3 + (-1 : Int32))), (0, .ref (G.2.1 0)), (1, .int v1), (2, .int v2)]) hx hb d_M_tryAnswers_171 hl rfl (ii (by decide) _) (by decide) rfl (fun ls hl => ?_)
          refine lv_goto hx hb d_M_tryAnswers_174 (tgt := 148) (by decide) ?_
          exact ih1 (v3 + (-1 : Int32)) x29.2 _ _ _ (lv_sub hl [1, 2, 3, 0] rfl) hP (znx_l hf hk1)
  have JP_130 : ∀ (S : MSt) (v1 : Int32) (v2 : Int32)  (ls : Array Slot) (H : Heap) (locs : List Loc) , lv_has ls 6 [(0, .ref (G.2.1 0)), (1, .int v1), (2, .int v2)] → Pw G.1 (tyX G) (zAM G) s (wM G S) H locs → J_M_tryAnswers_130 S v1 v2 = some o0 → W p l e R s m args below meth c H locs 0 0 Q (F0 m 130 ls []) := by
    intro S v1 v2 ls H locs hl hP hf
    unfold J_M_tryAnswers_130 at hf
    refine lv_iload_n hx hb d_M_tryAnswers_130 rfl (lv_at hl 1 rfl) ?_
    refine lv_aload_n hx hb d_M_tryAnswers_131 rfl (lv_at hl 0 rfl) ?_
    obtain ⟨x32, h33, hf⟩ := bd_some hf
    refine w_callI (As := []) (rest := [.int v1]) C (c_M_here l G S x32 h33) cf_M_here tb_568 (by decide) hP (obM_0 G S) rfl hl.1 rfl (Nat.le_of_ble_eq_true rfl) d_M_tryAnswers_132 (fun H locs hP => ?_)
    refine lv_icmp_ne hx hb d_M_tryAnswers_135 (tgt := 141) (by decide) (fun h34 => ?_) (fun h34 => ?_)
    · have hf := it_f h34 hf
      refine lv_iload_n hx hb d_M_tryAnswers_141 rfl (lv_at hl 1 rfl) ?_
      obtain ⟨x35, h36, hf⟩ := bd_some hf
      refine w_callS (As := [.int v1]) (rest := []) C (c_M_depth l v1 x35 h36) cf_M_depth tb_527 (by decide) rfl hl.1 rfl (Nat.le_of_ble_eq_true rfl) d_M_tryAnswers_142 ?_
      refine lv_iconst (v := (1 : Int32)) hx hb d_M_tryAnswers_145 (by decide) ?_
      refine lv_isub hx hb d_M_tryAnswers_146 ?_
      refine lv_istore_n (lv' := [(3, .int (x35 - (1 : Int32))), (0, .ref (G.2.1 0)), (1, .int v1), (2, .int v2)]) hx hb d_M_tryAnswers_147 rfl hl (by decide) rfl (fun ls hl => ?_)
      exact LP_148 v1 v2 64 (x35 - (1 : Int32)) S _ _ _ (lv_sub hl [1, 2, 3, 0] rfl) hP hf
    · have hf := it_t h34 hf
      refine lv_bipush (v := (14 : Int32)) hx hb d_M_tryAnswers_138 (by decide) ?_
      exact hret _ _ _ _ _ _ d_M_tryAnswers_140 (Option.some.inj hf) hP
  have LP_23 : ∀ (v1 : Int32) (v2 : Int32) (n : Nat) (v3 : Int32) (S : MSt) (ls : Array Slot) (H : Heap) (locs : List Loc) , lv_has ls 6 [(0, .ref (G.2.1 0)), (1, .int v1), (2, .int v2), (3, .int v3)] → Pw G.1 (tyX G) (zAM G) s (wM G S) H locs → zit (LS_M_tryAnswers_23 v1 v2) n (v3, S) = some o0 → W p l e R s m args below meth c H locs 0 0 Q (F0 m 23 ls []) := by
    intro v1 v2 n
    induction n with
    | zero => intro v3 S ls H locs hl hP hf; exact zit_0 hf
    | succ n ih1 =>
      intro v3 S ls H locs hl hP hf
      obtain ⟨o1, hf, hk1⟩ := zit_s hf
      have hf : L_M_tryAnswers_23 v1 v2 v3 S = some o1 := hf
      unfold L_M_tryAnswers_23 at hf
      refine lv_iload_n hx hb d_M_tryAnswers_23 rfl (lv_at hl 3 rfl) ?_
      refine lv_aload_n hx hb d_M_tryAnswers_24 rfl (lv_at hl 0 rfl) ?_
      refine w_get C hP (fdM_0_signatures G S) tb_422 d_M_tryAnswers_25 ?_
      refine lv_icmp_ge hx hb d_M_tryAnswers_28 (tgt := 92) (by decide) (fun h37 => ?_) (fun h37 => ?_)
      · have hf := it_t h37 hf
        have hf := zup_k hf hk1
        refine lv_bipush (v := (11 : Int32)) hx hb d_M_tryAnswers_92 (by decide) ?_
        exact hret _ _ _ _ _ _ d_M_tryAnswers_94 (Option.some.inj hf) hP
      · have hf := it_f h37 hf
        refine lv_aload_n hx hb d_M_tryAnswers_31 rfl (lv_at hl 0 rfl) ?_
        refine w_get C hP (fdM_0_signed G S) tb_423 d_M_tryAnswers_32 ?_
        refine lv_iload_n hx hb d_M_tryAnswers_35 rfl (lv_at hl 3 rfl) ?_
        obtain ⟨h38, hf⟩ := zgd_some hf
        refine w_iald (t0 := 0) C hP (arM_3 G S) rfl h38 d_M_tryAnswers_36 ?_
        refine lv_iload_n hx hb d_M_tryAnswers_37 rfl (lv_at hl 1 rfl) ?_
        refine lv_icmp_ne hx hb d_M_tryAnswers_38 (tgt := 86) (by decide) (fun h39 => ?_) (fun h39 => ?_)
        · have hf := it_f h39 hf
          refine lv_iinc (k := 3) (v := (v3 + (1 : Int32))) (lv' := [(3, .int (v3 + (1 : Int32))), (0, .ref (G.2.1 0)), (1, .int v1), (2, .int v2)]) hx hb d_M_tryAnswers_86 hl rfl (ii (by decide) _) (by decide) rfl (fun ls hl => ?_)
          refine lv_goto hx hb d_M_tryAnswers_89 (tgt := 23) (by decide) ?_
          exact ih1 (v3 + (1 : Int32)) S _ _ _ (lv_sub hl [1, 2, 3, 0] rfl) hP (znx_l hf hk1)
        · have hf := it_t h39 hf
          refine lv_aload_n hx hb d_M_tryAnswers_41 rfl (lv_at hl 0 rfl) ?_
          refine w_get C hP (fdM_0_signedTypes G S) tb_424 d_M_tryAnswers_42 ?_
          refine lv_iload_n hx hb d_M_tryAnswers_45 rfl (lv_at hl 3 rfl) ?_
          obtain ⟨h40, hf⟩ := zgd_some hf
          refine w_iald (t0 := 0) C hP (arM_4 G S) rfl h40 d_M_tryAnswers_46 ?_
          refine lv_iload_n hx hb d_M_tryAnswers_47 rfl (lv_at hl 2 rfl) ?_
          refine lv_icmp_ne hx hb d_M_tryAnswers_48 (tgt := 86) (by decide) (fun h41 => ?_) (fun h41 => ?_)
          · have hf := it_f h41 hf
            refine lv_iinc (k := 3) (v := (v3 + (1 : Int32))) (lv' := [(3, .int (v3 + (1 : Int32))), (0, .ref (G.2.1 0)), (1, .int v1), (2, .int v2)]) hx hb d_M_tryAnswers_86 hl rfl (ii (by decide) _) (by decide) rfl (fun ls hl => ?_)
            refine lv_goto hx hb d_M_tryAnswers_89 (tgt := 23) (by decide) ?_
            exact ih1 (v3 + (1 : Int32)) S _ _ _ (lv_sub hl [1, 2, 3, 0] rfl) hP (znx_l hf hk1)
          · have hf := it_t h41 hf
            refine lv_aload_n hx hb d_M_tryAnswers_51 rfl (lv_at hl 0 rfl) ?_
            refine lv_iload_n hx hb d_M_tryAnswers_52 rfl (lv_at hl 3 rfl) ?_
            obtain ⟨x42, h43, hf⟩ := bd_some hf
            refine w_callI (As := [.int v3]) (rest := []) C (c_M_isGood l G S v3 x42 h43) cf_M_isGood tb_577 (by decide) hP (obM_0 G S) rfl hl.1 rfl (Nat.le_of_ble_eq_true rfl) d_M_tryAnswers_53 (fun H locs hP => ?_)
            refine lv_if_eq hx hb d_M_tryAnswers_56 (tgt := 86) (by decide) (fun h44 => ?_) (fun h44 => ?_)
            · have hf := it_t h44 hf
              refine lv_iinc (k := 3) (v := (v3 + (1 : Int32))) (lv' := [(3, .int (v3 + (1 : Int32))), (0, .ref (G.2.1 0)), (1, .int v1), (2, .int v2)]) hx hb d_M_tryAnswers_86 hl rfl (ii (by decide) _) (by decide) rfl (fun ls hl => ?_)
              refine lv_goto hx hb d_M_tryAnswers_89 (tgt := 23) (by decide) ?_
              exact ih1 (v3 + (1 : Int32)) x42.2 _ _ _ (lv_sub hl [1, 2, 3, 0] rfl) hP (znx_l hf hk1)
            · have hf := it_f h44 hf
              have hf := zup_k hf hk1
              refine lv_aload_n hx hb d_M_tryAnswers_59 rfl (lv_at hl 0 rfl) ?_
              refine lv_iload_n hx hb d_M_tryAnswers_60 rfl (lv_at hl 1 rfl) ?_
              refine lv_aload_n hx hb d_M_tryAnswers_61 rfl (lv_at hl 0 rfl) ?_
              refine w_get C hP (fdM_0_labels G x42.2) tb_427 d_M_tryAnswers_62 ?_
              refine lv_iload_n hx hb d_M_tryAnswers_65 rfl (lv_at hl 3 rfl) ?_
              obtain ⟨h45, hf⟩ := zgd_some hf
              refine w_iald (t0 := 0) C hP (arM_7 G x42.2) rfl h45 d_M_tryAnswers_66 ?_
              refine lv_iconst (v := (1 : Int32)) hx hb d_M_tryAnswers_67 (by decide) ?_
              refine lv_iadd hx hb d_M_tryAnswers_68 ?_
              obtain ⟨x46, h47, hf⟩ := bd_some hf
              refine w_callS (As := [.int v1, .int ((x42.2.2.1 7 (Int32.toNatClampNeg v3)) + (1 : Int32))]) (rest := [.ref (G.2.1 0)]) C (c_M_cut l v1 ((x42.2.2.1 7 (Int32.toNatClampNeg v3)) + (1 : Int32)) x46 h47) cf_M_cut tb_533 (by decide) rfl hl.1 rfl (Nat.le_of_ble_eq_true rfl) d_M_tryAnswers_69 ?_
              obtain ⟨x48, h49, hf⟩ := bd_some hf
              refine w_callI (As := [.int x46]) (rest := []) C (c_M_isCovered l G x42.2 x46 x48 h49) cf_M_isCovered tb_589 (by decide) hP (obM_0 G x42.2) rfl hl.1 rfl (Nat.le_of_ble_eq_true rfl) d_M_tryAnswers_72 (fun H locs hP => ?_)
              refine lv_if_eq hx hb d_M_tryAnswers_75 (tgt := 83) (by decide) (fun h50 => ?_) (fun h50 => ?_)
              · have hf := it_t h50 hf
                refine lv_bipush (v := (10 : Int32)) hx hb d_M_tryAnswers_83 (by decide) ?_
                exact hret _ _ _ _ _ _ d_M_tryAnswers_85 (Option.some.inj hf) hP
              · have hf := it_f h50 hf
                refine lv_bipush (v := (9 : Int32)) hx hb d_M_tryAnswers_78 (by decide) ?_
                refine lv_goto hx hb d_M_tryAnswers_80 (tgt := 85) (by decide) ?_
                exact hret _ _ _ _ _ _ d_M_tryAnswers_85 (Option.some.inj hf) hP
  refine lv_aload_n hx hb d_M_tryAnswers_0 rfl (lv_at hl 0 rfl) ?_
  refine lv_iload_n hx hb d_M_tryAnswers_1 rfl (lv_at hl 1 rfl) ?_
  refine lv_iload_n hx hb d_M_tryAnswers_2 rfl (lv_at hl 2 rfl) ?_
  obtain ⟨x51, h52, hf⟩ := bd_some hf
  refine w_callI (As := [.int v1, .int v2]) (rest := []) C (c_M_size l G S v1 v2 x51 h52) cf_M_size tb_498 (by decide) hP (obM_0 G S) rfl hl.1 rfl (Nat.le_of_ble_eq_true rfl) d_M_tryAnswers_3 (fun H locs hP => ?_)
  refine lv_if_le hx hb d_M_tryAnswers_6 (tgt := 95) (by decide) (fun h53 => ?_) (fun h53 => ?_)
  · have hf := it_t h53 hf
    refine lv_aload_n hx hb d_M_tryAnswers_95 rfl (lv_at hl 0 rfl) ?_
    refine lv_iload_n hx hb d_M_tryAnswers_96 rfl (lv_at hl 1 rfl) ?_
    refine lv_iconst (v := (5 : Int32)) hx hb d_M_tryAnswers_97 (by decide) ?_
    obtain ⟨x54, h55, hf⟩ := bd_some hf
    refine w_callI (As := [.int v1, .int (5 : Int32)]) (rest := []) C (c_M_size l G S v1 (5 : Int32) x54 h55) cf_M_size tb_498 (by decide) hP (obM_0 G S) rfl hl.1 rfl (Nat.le_of_ble_eq_true rfl) d_M_tryAnswers_98 (fun H locs hP => ?_)
    refine lv_if_le hx hb d_M_tryAnswers_101 (tgt := 130) (by decide) (fun h56 => ?_) (fun h56 => ?_)
    · have hf := it_t h56 hf
      exact JP_130 S v1 v2 _ _ _ (lv_sub hl [0, 1, 2] rfl) hP hf
    · have hf := it_f h56 hf
      refine lv_aload_n hx hb d_M_tryAnswers_104 rfl (lv_at hl 0 rfl) ?_
      refine lv_iload_n hx hb d_M_tryAnswers_105 rfl (lv_at hl 1 rfl) ?_
      refine lv_iconst (v := (5 : Int32)) hx hb d_M_tryAnswers_106 (by decide) ?_
      obtain ⟨x57, h58, hf⟩ := bd_some hf
      refine w_callI (As := [.int v1, .int (5 : Int32)]) (rest := []) C (c_M_isPlain l G S v1 (5 : Int32) x57 h58) cf_M_isPlain tb_574 (by decide) hP (obM_0 G S) rfl hl.1 rfl (Nat.le_of_ble_eq_true rfl) d_M_tryAnswers_107 (fun H locs hP => ?_)
      refine lv_if_eq hx hb d_M_tryAnswers_110 (tgt := 130) (by decide) (fun h59 => ?_) (fun h59 => ?_)
      · have hf := it_t h59 hf
        exact JP_130 x57.2 v1 v2 _ _ _ (lv_sub hl [0, 1, 2] rfl) hP hf
      · have hf := it_f h59 hf
        refine lv_aload_n hx hb d_M_tryAnswers_113 rfl (lv_at hl 0 rfl) ?_
        refine lv_iload_n hx hb d_M_tryAnswers_114 rfl (lv_at hl 1 rfl) ?_
        refine lv_iload_n hx hb d_M_tryAnswers_115 rfl (lv_at hl 2 rfl) ?_
        obtain ⟨x60, h61, hf⟩ := bd_some hf
        refine w_callI (As := [.int v1, .int v2]) (rest := []) C (c_M_tells l G x57.2 v1 v2 x60 h61) cf_M_tells tb_592 (by decide) hP (obM_0 G x57.2) rfl hl.1 rfl (Nat.le_of_ble_eq_true rfl) d_M_tryAnswers_116 (fun H locs hP => ?_)
        refine lv_if_eq hx hb d_M_tryAnswers_119 (tgt := 127) (by decide) (fun h62 => ?_) (fun h62 => ?_)
        · have hf := it_t h62 hf
          refine lv_bipush (v := (12 : Int32)) hx hb d_M_tryAnswers_127 (by decide) ?_
          exact hret _ _ _ _ _ _ d_M_tryAnswers_129 (Option.some.inj hf) hP
        · have hf := it_f h62 hf
          refine lv_bipush (v := (13 : Int32)) hx hb d_M_tryAnswers_122 (by decide) ?_
          refine lv_goto hx hb d_M_tryAnswers_124 (tgt := 129) (by decide) ?_
          exact hret _ _ _ _ _ _ d_M_tryAnswers_129 (Option.some.inj hf) hP
  · have hf := it_f h53 hf
    refine lv_aload_n hx hb d_M_tryAnswers_9 rfl (lv_at hl 0 rfl) ?_
    refine lv_iload_n hx hb d_M_tryAnswers_10 rfl (lv_at hl 1 rfl) ?_
    refine lv_iload_n hx hb d_M_tryAnswers_11 rfl (lv_at hl 2 rfl) ?_
    obtain ⟨x63, h64, hf⟩ := bd_some hf
    refine w_callI (As := [.int v1, .int v2]) (rest := []) C (c_M_isPlain l G S v1 v2 x63 h64) cf_M_isPlain tb_574 (by decide) hP (obM_0 G S) rfl hl.1 rfl (Nat.le_of_ble_eq_true rfl) d_M_tryAnswers_12 (fun H locs hP => ?_)
    refine lv_if_eq hx hb d_M_tryAnswers_15 (tgt := 21) (by decide) (fun h65 => ?_) (fun h65 => ?_)
    · have hf := it_t h65 hf
      refine lv_iconst (v := (0 : Int32)) hx hb d_M_tryAnswers_21 (by decide) ?_
      refine lv_istore_n (lv' := [(3, .int (0 : Int32)), (0, .ref (G.2.1 0)), (1, .int v1), (2, .int v2)]) hx hb d_M_tryAnswers_22 rfl hl (by decide) rfl (fun ls hl => ?_)
      exact LP_23 v1 v2 64 (0 : Int32) x63.2 _ _ _ (lv_sub hl [1, 2, 3, 0] rfl) hP hf
    · have hf := it_f h65 hf
      refine lv_bipush (v := (8 : Int32)) hx hb d_M_tryAnswers_18 (by decide) ?_
      exact hret _ _ _ _ _ _ d_M_tryAnswers_20 (Option.some.inj hf) hP
def L_M_resolve_129 (v1 : Int32) (v2 : Int32) (v4 : Int32) (S : MSt) : Option ((Int32 × MSt) ⊕ (Int32 × MSt)) := (if v4 = (0 : Int32) then Option.bind (f_M_nextCut S v1 v2) (fun x2 => (if (0 : Int32) ≤ x2 then Option.bind (f_M_tryCut S x2) (fun x5 => (if x5.1 = (0 : Int32) then zgd (zin (x5.2.1 9) 5) (znm (zmA x5.2 13 (x5.2.1 9) x2) (fun S9 => znm (zmS S9 9 ((S9.1 9) + (1 : Int32))) (fun S11 => znm (zmS S11 12 (-1 : Int32)) (fun S13 => Option.bind (f_M_tryKeys S13) (fun x15 => some (Sum.inl (x15.1, x15.2))))))) else some (Sum.inl (x5.1, x5.2)))) else zup (Option.bind (f_M_tryAnswers S v1 v2) (fun x17 => some (x17.1, x17.2))))) else zup (some (v4, S)))
def LS_M_resolve_129 (v1 : Int32) (v2 : Int32) (v : (Int32 × MSt)) : Option ((Int32 × MSt) ⊕ (Int32 × MSt)) := L_M_resolve_129 v1 v2 v.1 v.2
def J_M_resolve_44 (S : MSt) (v1 : Int32) (v2 : Int32) (v3 : Int32) (v4 : Int32) (s0 : Int32) : Option ((Int32 × Int32) ⊕ (Int32 × MSt)) := (if s0 = (0 : Int32) then some (Sum.inl (v3, (v4 + (1 : Int32)))) else (if v3 < (0 : Int32) then some (Sum.inl (v4, (v4 + (1 : Int32)))) else zgd (zin v4 4) (Option.bind (f_M_depth (S.2.1 11 (Int32.toNatClampNeg v4))) (fun x22 => zgd (zin v3 4) (Option.bind (f_M_depth (S.2.1 11 (Int32.toNatClampNeg v3))) (fun x25 => (if x22 ≤ x25 then some (Sum.inl (v3, (v4 + (1 : Int32)))) else some (Sum.inl (v4, (v4 + (1 : Int32)))))))))))
def L_M_resolve_5 (S : MSt) (v1 : Int32) (v2 : Int32) (v3 : Int32) (v4 : Int32) : Option ((Int32 × Int32) ⊕ (Int32 × MSt)) := (if (S.1 4) ≤ v4 then zup ((if (0 : Int32) ≤ v3 then zgd (zin v3 4) (zgd (zin (0 : Int32) 5) (znm (zmA S 13 (0 : Int32) (S.2.1 11 (Int32.toNatClampNeg v3))) (fun S32 => znm (zmS S32 9 (1 : Int32)) (fun S34 => zgd (zin v3 4) (znm (zmS S34 12 (S34.2.1 12 (Int32.toNatClampNeg v3))) (fun S37 => Option.bind (f_M_tryKeys S37) (fun x39 => zit (LS_M_resolve_129 v1 v2) 64 (x39.1, x39.2)))))))) else some ((1 : Int32), S))) else zgd (zin v4 4) ((if (S.2.1 11 (Int32.toNatClampNeg v4)) = v1 then J_M_resolve_44 S v1 v2 v3 v4 (1 : Int32) else zgd (zin v4 4) (Option.bind (f_M_isAbove (S.2.1 11 (Int32.toNatClampNeg v4)) v1) (fun x44 => (if x44 = (0 : Int32) then J_M_resolve_44 S v1 v2 v3 v4 (0 : Int32) else J_M_resolve_44 S v1 v2 v3 v4 (1 : Int32)))))))
def LS_M_resolve_5 (S : MSt) (v1 : Int32) (v2 : Int32) (v : (Int32 × Int32)) : Option ((Int32 × Int32) ⊕ (Int32 × MSt)) := L_M_resolve_5 S v1 v2 v.1 v.2
def f_M_resolve (S : MSt) (v1 : Int32) (v2 : Int32) : Option (Int32 × MSt) := zit (LS_M_resolve_5 S v1 v2) 64 ((-1 : Int32), (0 : Int32))
set_option maxHeartbeats 4000000 in
set_option maxRecDepth 100000 in
theorem c_M_resolve (l : Launch) (G : XG) (S : MSt) (v1 : Int32) (v2 : Int32) (o0 : (Int32 × MSt)) (hf : f_M_resolve S v1 v2 = some o0) : MetI l y_M_resolve b_M_resolve 6 (some .int) 8 [.ref (G.2.1 0), .int v1, .int v2] G.1 (tyX G) (zAM G) (wM G S) o0.1 (wM G o0.2) := by
  refine mkI (by decide) (Nat.le_of_ble_eq_true rfl) ?_
  intro p e R s m args below meth c ls Q C hl hP hret0
  replace C : Cw p m c b_M_resolve 6 s args "TrustResolverModel" R 8 := C
  have hx := C.1
  have hb := C.2.1
  replace hl : lv_has ls 6 [(0, .ref (G.2.1 0)), (1, .int v1), (2, .int v2)] := hl
  have hret : ∀ (pc : Nat) (ls : Array Slot) (H : Heap) (locs : List Loc) (v : Int32) (S' : MSt), decode b_M_resolve pc = .ok (.ireturn, 1) → (v, S') = o0 → Pw G.1 (tyX G) (zAM G) s (wM G S') H locs → W p l e R s m args below meth c H locs 0 0 Q (F0 m pc ls [.int v]) := fun pc ls H locs v S' hd he hP => hret0 pc ls H locs v hd (by rw [← he]) (by rw [← he]; exact hP)
  clear hret0
  unfold f_M_resolve at hf
  have LP_129 : ∀ (v1 : Int32) (v2 : Int32) (n : Nat) (v4 : Int32) (S : MSt) (ls : Array Slot) (H : Heap) (locs : List Loc) , lv_has ls 6 [(0, .ref (G.2.1 0)), (1, .int v1), (2, .int v2), (4, .int v4)] → Pw G.1 (tyX G) (zAM G) s (wM G S) H locs → zit (LS_M_resolve_129 v1 v2) n (v4, S) = some o0 → W p l e R s m args below meth c H locs 0 0 Q (F0 m 129 ls []) := by
    intro v1 v2 n
    induction n with
    | zero => intro v4 S ls H locs hl hP hf; exact zit_0 hf
    | succ n ih1 =>
      intro v4 S ls H locs hl hP hf
      obtain ⟨o1, hf, hk1⟩ := zit_s hf
      have hf : L_M_resolve_129 v1 v2 v4 S = some o1 := hf
      unfold L_M_resolve_129 at hf
      refine lv_iload hx hb d_M_resolve_129 (lv_at hl 3 rfl) ?_
      refine lv_if_ne hx hb d_M_resolve_131 (tgt := 202) (by decide) (fun h1 => ?_) (fun h1 => ?_)
      · have hf := it_f h1 hf
        have hf := zup_k hf hk1
        refine lv_iload hx hb d_M_resolve_202 (lv_at hl 3 rfl) ?_
        exact hret _ _ _ _ _ _ d_M_resolve_204 (Option.some.inj hf) hP
      · have hf := it_t h1 hf
        refine lv_aload_n hx hb d_M_resolve_134 rfl (lv_at hl 0 rfl) ?_
        refine lv_iload_n hx hb d_M_resolve_135 rfl (lv_at hl 1 rfl) ?_
        refine lv_iload_n hx hb d_M_resolve_136 rfl (lv_at hl 2 rfl) ?_
        obtain ⟨x2, h3, hf⟩ := bd_some hf
        refine w_callI (As := [.int v1, .int v2]) (rest := []) C (c_M_nextCut l G S v1 v2 x2 h3) cf_M_nextCut tb_583 (by decide) hP (obM_0 G S) rfl hl.1 rfl (Nat.le_of_ble_eq_true rfl) d_M_resolve_137 (fun H locs hP => ?_)
        refine lv_istore (lv' := [(5, .int x2), (0, .ref (G.2.1 0)), (1, .int v1), (2, .int v2), (4, .int v4)]) hx hb d_M_resolve_140 hl (by decide) rfl (fun ls hl => ?_)
        refine lv_iload hx hb d_M_resolve_142 (lv_at hl 0 rfl) ?_
        refine lv_if_ge hx hb d_M_resolve_144 (tgt := 154) (by decide) (fun h4 => ?_) (fun h4 => ?_)
        · have hf := it_t h4 hf
          refine lv_aload_n hx hb d_M_resolve_154 rfl (lv_at hl 1 rfl) ?_
          refine lv_iload hx hb d_M_resolve_155 (lv_at hl 0 rfl) ?_
          obtain ⟨x5, h6, hf⟩ := bd_some hf
          refine w_callI (As := [.int x2]) (rest := []) C (c_M_tryCut l G S x2 x5 h6) cf_M_tryCut tb_598 (by decide) hP (obM_0 G S) rfl hl.1 rfl (Nat.le_of_ble_eq_true rfl) d_M_resolve_157 (fun H locs hP => ?_)
          refine lv_istore (lv' := [(4, .int x5.1), (5, .int x2), (0, .ref (G.2.1 0)), (1, .int v1), (2, .int v2)]) hx hb d_M_resolve_160 hl (by decide) rfl (fun ls hl => ?_)
          refine lv_iload hx hb d_M_resolve_162 (lv_at hl 0 rfl) ?_
          refine lv_if_ne hx hb d_M_resolve_164 (tgt := 199) (by decide) (fun h7 => ?_) (fun h7 => ?_)
          · have hf := it_f h7 hf
            refine lv_goto hx hb d_M_resolve_199 (tgt := 129) (by decide) ?_
            exact ih1 x5.1 x5.2 _ _ _ (lv_sub hl [2, 3, 4, 0] rfl) hP (znx_l hf hk1)
          · have hf := it_t h7 hf
            refine lv_aload_n hx hb d_M_resolve_167 rfl (lv_at hl 2 rfl) ?_
            refine w_get C hP (fdM_0_zone G x5.2) tb_439 d_M_resolve_168 ?_
            refine lv_aload_n hx hb d_M_resolve_171 rfl (lv_at hl 2 rfl) ?_
            refine w_get C hP (fdM_0_zones G x5.2) tb_438 d_M_resolve_172 ?_
            refine lv_iload hx hb d_M_resolve_175 (lv_at hl 1 rfl) ?_
            obtain ⟨h8, hf⟩ := zgd_some hf
            refine w_iast (t0 := 0) C hP (stM_13 G x5.2 (x5.2.1 9) x2) rfl h8 d_M_resolve_177 (fun H locs hP => ?_)
            obtain ⟨S9, e10, hf⟩ := znm_some hf
            rw [← e10] at hP
            refine lv_aload_n hx hb d_M_resolve_178 rfl (lv_at hl 2 rfl) ?_
            refine lv_dup hx hb d_M_resolve_179 rfl ?_
            refine w_get C hP (fdM_0_zones G S9) tb_438 d_M_resolve_180 ?_
            refine lv_iconst (v := (1 : Int32)) hx hb d_M_resolve_183 (by decide) ?_
            refine lv_iadd hx hb d_M_resolve_184 ?_
            refine w_put C hP (ptM_0_zones G S9 ((S9.1 9) + (1 : Int32))) tb_438 d_M_resolve_185 (fun H locs hP => ?_)
            obtain ⟨S11, e12, hf⟩ := znm_some hf
            rw [← e12] at hP
            refine lv_aload_n hx hb d_M_resolve_188 rfl (lv_at hl 2 rfl) ?_
            refine lv_iconst (v := (-1 : Int32)) hx hb d_M_resolve_189 (by decide) ?_
            refine w_put C hP (ptM_0_trusted G S11 (-1 : Int32)) tb_442 d_M_resolve_190 (fun H locs hP => ?_)
            obtain ⟨S13, e14, hf⟩ := znm_some hf
            rw [← e14] at hP
            refine lv_aload_n hx hb d_M_resolve_193 rfl (lv_at hl 2 rfl) ?_
            obtain ⟨x15, h16, hf⟩ := bd_some hf
            refine w_callI (As := []) (rest := []) C (c_M_tryKeys l G S13 x15 h16) cf_M_tryKeys tb_565 (by decide) hP (obM_0 G S13) rfl hl.1 rfl (Nat.le_of_ble_eq_true rfl) d_M_resolve_194 (fun H locs hP => ?_)
            refine lv_istore (lv' := [(4, .int x15.1), (5, .int x2), (0, .ref (G.2.1 0)), (1, .int v1), (2, .int v2)]) hx hb d_M_resolve_197 hl (by decide) rfl (fun ls hl => ?_)
            refine lv_goto hx hb d_M_resolve_199 (tgt := 129) (by decide) ?_
            exact ih1 x15.1 x15.2 _ _ _ (lv_sub hl [2, 3, 4, 0] rfl) hP (znx_l hf hk1)
        · have hf := it_f h4 hf
          have hf := zup_k hf hk1
          refine lv_aload_n hx hb d_M_resolve_147 rfl (lv_at hl 1 rfl) ?_
          refine lv_iload_n hx hb d_M_resolve_148 rfl (lv_at hl 2 rfl) ?_
          refine lv_iload_n hx hb d_M_resolve_149 rfl (lv_at hl 3 rfl) ?_
          obtain ⟨x17, h18, hf⟩ := bd_some hf
          refine w_callI (As := [.int v1, .int v2]) (rest := []) C (c_M_tryAnswers l G S v1 v2 x17 h18) cf_M_tryAnswers tb_586 (by decide) hP (obM_0 G S) rfl hl.1 rfl (Nat.le_of_ble_eq_true rfl) d_M_resolve_150 (fun H locs hP => ?_)
          exact hret _ _ _ _ _ _ d_M_resolve_153 (Option.some.inj hf) hP
  have LP_5 : ∀ (S : MSt) (v1 : Int32) (v2 : Int32) (n : Nat) (v3 : Int32) (v4 : Int32) (ls : Array Slot) (H : Heap) (locs : List Loc) , lv_has ls 6 [(0, .ref (G.2.1 0)), (1, .int v1), (2, .int v2), (3, .int v3), (4, .int v4)] → Pw G.1 (tyX G) (zAM G) s (wM G S) H locs → zit (LS_M_resolve_5 S v1 v2) n (v3, v4) = some o0 → W p l e R s m args below meth c H locs 0 0 Q (F0 m 5 ls []) := by
    intro S v1 v2 n
    induction n with
    | zero => intro v3 v4 ls H locs hl hP hf; exact zit_0 hf
    | succ n ih1 =>
      intro v3 v4 ls H locs hl hP hf
      obtain ⟨o1, hf, hk1⟩ := zit_s hf
      have hf : L_M_resolve_5 S v1 v2 v3 v4 = some o1 := hf
      unfold L_M_resolve_5 at hf
      have JP_44 : ∀ (v3 : Int32) (v4 : Int32) (s0 : Int32) (ls : Array Slot) (H : Heap) (locs : List Loc) , lv_has ls 6 [(0, .ref (G.2.1 0)), (1, .int v1), (2, .int v2), (3, .int v3), (4, .int v4)] → Pw G.1 (tyX G) (zAM G) s (wM G S) H locs → J_M_resolve_44 S v1 v2 v3 v4 s0 = some o1 → W p l e R s m args below meth c H locs 0 0 Q (F0 m 44 ls [.int s0]) := by
        intro v3 v4 s0 ls H locs hl hP hf
        unfold J_M_resolve_44 at hf
        refine lv_istore (lv' := [(5, .int s0), (0, .ref (G.2.1 0)), (1, .int v1), (2, .int v2), (3, .int v3), (4, .int v4)]) hx hb d_M_resolve_44 hl (by decide) rfl (fun ls hl => ?_)
        refine lv_iload hx hb d_M_resolve_46 (lv_at hl 0 rfl) ?_
        refine lv_if_eq hx hb d_M_resolve_48 (tgt := 82) (by decide) (fun h19 => ?_) (fun h19 => ?_)
        · have hf := it_t h19 hf
          refine lv_iload_n hx hb d_M_resolve_82 rfl (lv_at hl 4 rfl) ?_
          refine lv_istore_n (lv' := [(3, .int v3), (5, .int s0), (0, .ref (G.2.1 0)), (1, .int v1), (2, .int v2), (4, .int v4)]) hx hb d_M_resolve_83 rfl hl (by decide) rfl (fun ls hl => ?_)
          refine lv_iinc (k := 5) (v := (v4 + (1 : Int32))) (lv' := [(4, .int (v4 + (1 : Int32))), (3, .int v3), (5, .int s0), (0, .ref (G.2.1 0)), (1, .int v1), (2, .int v2)]) hx hb d_M_resolve_84 hl rfl (ii (by decide) _) (by decide) rfl (fun ls hl => ?_)
          refine lv_goto hx hb d_M_resolve_87 (tgt := 5) (by decide) ?_
          exact ih1 v3 (v4 + (1 : Int32)) _ _ _ (lv_sub hl [3, 4, 5, 1, 0] rfl) hP (znx_l hf hk1)
        · have hf := it_f h19 hf
          refine lv_iload_n hx hb d_M_resolve_51 rfl (lv_at hl 4 rfl) ?_
          refine lv_if_lt hx hb d_M_resolve_52 (tgt := 77) (by decide) (fun h20 => ?_) (fun h20 => ?_)
          · have hf := it_t h20 hf
            refine lv_iload hx hb d_M_resolve_77 (lv_at hl 5 rfl) ?_
            refine lv_goto hx hb d_M_resolve_79 (tgt := 83) (by decide) ?_
            refine lv_istore_n (lv' := [(3, .int v4), (5, .int s0), (0, .ref (G.2.1 0)), (1, .int v1), (2, .int v2), (4, .int v4)]) hx hb d_M_resolve_83 rfl hl (by decide) rfl (fun ls hl => ?_)
            refine lv_iinc (k := 5) (v := (v4 + (1 : Int32))) (lv' := [(4, .int (v4 + (1 : Int32))), (3, .int v4), (5, .int s0), (0, .ref (G.2.1 0)), (1, .int v1), (2, .int v2)]) hx hb d_M_resolve_84 hl rfl (ii (by decide) _) (by decide) rfl (fun ls hl => ?_)
            refine lv_goto hx hb d_M_resolve_87 (tgt := 5) (by decide) ?_
            exact ih1 v4 (v4 + (1 : Int32)) _ _ _ (lv_sub hl [3, 4, 5, 1, 0] rfl) hP (znx_l hf hk1)
          · have hf := it_f h20 hf
            refine lv_aload_n hx hb d_M_resolve_55 rfl (lv_at hl 1 rfl) ?_
            refine w_get C hP (fdM_0_anchorZones G S) tb_432 d_M_resolve_56 ?_
            refine lv_iload hx hb d_M_resolve_59 (lv_at hl 5 rfl) ?_
            obtain ⟨h21, hf⟩ := zgd_some hf
            refine w_iald (t0 := 0) C hP (arM_11 G S) rfl h21 d_M_resolve_61 ?_
            obtain ⟨x22, h23, hf⟩ := bd_some hf
            refine w_callS (As := [.int (S.2.1 11 (Int32.toNatClampNeg v4))]) (rest := []) C (c_M_depth l (S.2.1 11 (Int32.toNatClampNeg v4)) x22 h23) cf_M_depth tb_527 (by decide) rfl hl.1 rfl (Nat.le_of_ble_eq_true rfl) d_M_resolve_62 ?_
            refine lv_aload_n hx hb d_M_resolve_65 rfl (lv_at hl 1 rfl) ?_
            refine w_get C hP (fdM_0_anchorZones G S) tb_432 d_M_resolve_66 ?_
            refine lv_iload_n hx hb d_M_resolve_69 rfl (lv_at hl 4 rfl) ?_
            obtain ⟨h24, hf⟩ := zgd_some hf
            refine w_iald (t0 := 0) C hP (arM_11 G S) rfl h24 d_M_resolve_70 ?_
            obtain ⟨x25, h26, hf⟩ := bd_some hf
            refine w_callS (As := [.int (S.2.1 11 (Int32.toNatClampNeg v3))]) (rest := [.int x22]) C (c_M_depth l (S.2.1 11 (Int32.toNatClampNeg v3)) x25 h26) cf_M_depth tb_527 (by decide) rfl hl.1 rfl (Nat.le_of_ble_eq_true rfl) d_M_resolve_71 ?_
            refine lv_icmp_le hx hb d_M_resolve_74 (tgt := 82) (by decide) (fun h27 => ?_) (fun h27 => ?_)
            · have hf := it_t h27 hf
              refine lv_iload_n hx hb d_M_resolve_82 rfl (lv_at hl 4 rfl) ?_
              refine lv_istore_n (lv' := [(3, .int v3), (5, .int s0), (0, .ref (G.2.1 0)), (1, .int v1), (2, .int v2), (4, .int v4)]) hx hb d_M_resolve_83 rfl hl (by decide) rfl (fun ls hl => ?_)
              refine lv_iinc (k := 5) (v := (v4 + (1 : Int32))) (lv' := [(4, .int (v4 + (1 : Int32))), (3, .int v3), (5, .int s0), (0, .ref (G.2.1 0)), (1, .int v1), (2, .int v2)]) hx hb d_M_resolve_84 hl rfl (ii (by decide) _) (by decide) rfl (fun ls hl => ?_)
              refine lv_goto hx hb d_M_resolve_87 (tgt := 5) (by decide) ?_
              exact ih1 v3 (v4 + (1 : Int32)) _ _ _ (lv_sub hl [3, 4, 5, 1, 0] rfl) hP (znx_l hf hk1)
            · have hf := it_f h27 hf
              refine lv_iload hx hb d_M_resolve_77 (lv_at hl 5 rfl) ?_
              refine lv_goto hx hb d_M_resolve_79 (tgt := 83) (by decide) ?_
              refine lv_istore_n (lv' := [(3, .int v4), (5, .int s0), (0, .ref (G.2.1 0)), (1, .int v1), (2, .int v2), (4, .int v4)]) hx hb d_M_resolve_83 rfl hl (by decide) rfl (fun ls hl => ?_)
              refine lv_iinc (k := 5) (v := (v4 + (1 : Int32))) (lv' := [(4, .int (v4 + (1 : Int32))), (3, .int v4), (5, .int s0), (0, .ref (G.2.1 0)), (1, .int v1), (2, .int v2)]) hx hb d_M_resolve_84 hl rfl (ii (by decide) _) (by decide) rfl (fun ls hl => ?_)
              refine lv_goto hx hb d_M_resolve_87 (tgt := 5) (by decide) ?_
              exact ih1 v4 (v4 + (1 : Int32)) _ _ _ (lv_sub hl [3, 4, 5, 1, 0] rfl) hP (znx_l hf hk1)
      refine lv_iload hx hb d_M_resolve_5 (lv_at hl 4 rfl) ?_
      refine lv_aload_n hx hb d_M_resolve_7 rfl (lv_at hl 0 rfl) ?_
      refine w_get C hP (fdM_0_anchors G S) tb_431 d_M_resolve_8 ?_
      refine lv_icmp_ge hx hb d_M_resolve_11 (tgt := 90) (by decide) (fun h28 => ?_) (fun h28 => ?_)
      · have hf := it_t h28 hf
        have hf := zup_k hf hk1
        refine lv_iload_n hx hb d_M_resolve_90 rfl (lv_at hl 3 rfl) ?_
        refine lv_if_ge hx hb d_M_resolve_91 (tgt := 96) (by decide) (fun h29 => ?_) (fun h29 => ?_)
        · have hf := it_t h29 hf
          refine lv_aload_n hx hb d_M_resolve_96 rfl (lv_at hl 0 rfl) ?_
          refine w_get C hP (fdM_0_zone G S) tb_439 d_M_resolve_97 ?_
          refine lv_iconst (v := (0 : Int32)) hx hb d_M_resolve_100 (by decide) ?_
          refine lv_aload_n hx hb d_M_resolve_101 rfl (lv_at hl 0 rfl) ?_
          refine w_get C hP (fdM_0_anchorZones G S) tb_432 d_M_resolve_102 ?_
          refine lv_iload_n hx hb d_M_resolve_105 rfl (lv_at hl 3 rfl) ?_
          obtain ⟨h30, hf⟩ := zgd_some hf
          refine w_iald (t0 := 0) C hP (arM_11 G S) rfl h30 d_M_resolve_106 ?_
          obtain ⟨h31, hf⟩ := zgd_some hf
          refine w_iast (t0 := 0) C hP (stM_13 G S (0 : Int32) (S.2.1 11 (Int32.toNatClampNeg v3))) rfl h31 d_M_resolve_107 (fun H locs hP => ?_)
          obtain ⟨S32, e33, hf⟩ := znm_some hf
          rw [← e33] at hP
          refine lv_aload_n hx hb d_M_resolve_108 rfl (lv_at hl 0 rfl) ?_
          refine lv_iconst (v := (1 : Int32)) hx hb d_M_resolve_109 (by decide) ?_
          refine w_put C hP (ptM_0_zones G S32 (1 : Int32)) tb_438 d_M_resolve_110 (fun H locs hP => ?_)
          obtain ⟨S34, e35, hf⟩ := znm_some hf
          rw [← e35] at hP
          refine lv_aload_n hx hb d_M_resolve_113 rfl (lv_at hl 0 rfl) ?_
          refine lv_aload_n hx hb d_M_resolve_114 rfl (lv_at hl 0 rfl) ?_
          refine w_get C hP (fdM_0_anchorDigests G S34) tb_433 d_M_resolve_115 ?_
          refine lv_iload_n hx hb d_M_resolve_118 rfl (lv_at hl 3 rfl) ?_
          obtain ⟨h36, hf⟩ := zgd_some hf
          refine w_iald (t0 := 0) C hP (arM_12 G S34) rfl h36 d_M_resolve_119 ?_
          refine w_put C hP (ptM_0_trusted G S34 (S34.2.1 12 (Int32.toNatClampNeg v3))) tb_442 d_M_resolve_120 (fun H locs hP => ?_)
          obtain ⟨S37, e38, hf⟩ := znm_some hf
          rw [← e38] at hP
          refine lv_aload_n hx hb d_M_resolve_123 rfl (lv_at hl 0 rfl) ?_
          obtain ⟨x39, h40, hf⟩ := bd_some hf
          refine w_callI (As := []) (rest := []) C (c_M_tryKeys l G S37 x39 h40) cf_M_tryKeys tb_565 (by decide) hP (obM_0 G S37) rfl hl.1 rfl (Nat.le_of_ble_eq_true rfl) d_M_resolve_124 (fun H locs hP => ?_)
          refine lv_istore (lv' := [(4, .int x39.1), (0, .ref (G.2.1 0)), (1, .int v1), (2, .int v2), (3, .int v3)]) hx hb d_M_resolve_127 hl (by decide) rfl (fun ls hl => ?_)
          exact LP_129 v1 v2 64 x39.1 x39.2 _ _ _ (lv_sub hl [1, 2, 3, 0] rfl) hP hf
        · have hf := it_f h29 hf
          refine lv_iconst (v := (1 : Int32)) hx hb d_M_resolve_94 (by decide) ?_
          exact hret _ _ _ _ _ _ d_M_resolve_95 (Option.some.inj hf) hP
      · have hf := it_f h28 hf
        refine lv_aload_n hx hb d_M_resolve_14 rfl (lv_at hl 0 rfl) ?_
        refine w_get C hP (fdM_0_anchorZones G S) tb_432 d_M_resolve_15 ?_
        refine lv_iload hx hb d_M_resolve_18 (lv_at hl 4 rfl) ?_
        obtain ⟨h41, hf⟩ := zgd_some hf
        refine w_iald (t0 := 0) C hP (arM_11 G S) rfl h41 d_M_resolve_20 ?_
        refine lv_iload_n hx hb d_M_resolve_21 rfl (lv_at hl 1 rfl) ?_
        refine lv_icmp_eq hx hb d_M_resolve_22 (tgt := 39) (by decide) (fun h42 => ?_) (fun h42 => ?_)
        · have hf := it_t h42 hf
          refine lv_iconst (v := (1 : Int32)) hx hb d_M_resolve_39 (by decide) ?_
          refine lv_goto hx hb d_M_resolve_40 (tgt := 44) (by decide) ?_
          exact JP_44 v3 v4 (1 : Int32) _ _ _ (lv_sub hl [0, 1, 2, 3, 4] rfl) hP hf
        · have hf := it_f h42 hf
          refine lv_aload_n hx hb d_M_resolve_25 rfl (lv_at hl 0 rfl) ?_
          refine w_get C hP (fdM_0_anchorZones G S) tb_432 d_M_resolve_26 ?_
          refine lv_iload hx hb d_M_resolve_29 (lv_at hl 4 rfl) ?_
          obtain ⟨h43, hf⟩ := zgd_some hf
          refine w_iald (t0 := 0) C hP (arM_11 G S) rfl h43 d_M_resolve_31 ?_
          refine lv_iload_n hx hb d_M_resolve_32 rfl (lv_at hl 1 rfl) ?_
          obtain ⟨x44, h45, hf⟩ := bd_some hf
          refine w_callS (As := [.int (S.2.1 11 (Int32.toNatClampNeg v4)), .int v1]) (rest := []) C (c_M_isAbove l (S.2.1 11 (Int32.toNatClampNeg v4)) v1 x44 h45) cf_M_isAbove tb_562 (by decide) rfl hl.1 rfl (Nat.le_of_ble_eq_true rfl) d_M_resolve_33 ?_
          refine lv_if_eq hx hb d_M_resolve_36 (tgt := 43) (by decide) (fun h46 => ?_) (fun h46 => ?_)
          · have hf := it_t h46 hf
            refine lv_iconst (v := (0 : Int32)) hx hb d_M_resolve_43 (by decide) ?_
            exact JP_44 v3 v4 (0 : Int32) _ _ _ (lv_sub hl [0, 1, 2, 3, 4] rfl) hP hf
          · have hf := it_f h46 hf
            refine lv_iconst (v := (1 : Int32)) hx hb d_M_resolve_39 (by decide) ?_
            refine lv_goto hx hb d_M_resolve_40 (tgt := 44) (by decide) ?_
            exact JP_44 v3 v4 (1 : Int32) _ _ _ (lv_sub hl [0, 1, 2, 3, 4] rfl) hP hf
  refine lv_iconst (v := (-1 : Int32)) hx hb d_M_resolve_0 (by decide) ?_
  refine lv_istore_n (lv' := [(3, .int (-1 : Int32)), (0, .ref (G.2.1 0)), (1, .int v1), (2, .int v2)]) hx hb d_M_resolve_1 rfl hl (by decide) rfl (fun ls hl => ?_)
  refine lv_iconst (v := (0 : Int32)) hx hb d_M_resolve_2 (by decide) ?_
  refine lv_istore (lv' := [(4, .int (0 : Int32)), (3, .int (-1 : Int32)), (0, .ref (G.2.1 0)), (1, .int v1), (2, .int v2)]) hx hb d_M_resolve_3 hl (by decide) rfl (fun ls hl => ?_)
  exact LP_5 S v1 v2 64 (-1 : Int32) (0 : Int32) _ _ _ (lv_sub hl [2, 3, 4, 1, 0] rfl) hP hf
def J_M_ask_96 (S : MSt)  (s0 : Int32) : Option (Int32 × MSt) := (if (S.1 6) = (1 : Int32) then some ((3 : Int32), S) else (if (S.1 6) = (6 : Int32) then some ((1 : Int32), S) else (if s0 = (0 : Int32) then some ((2 : Int32), S) else some ((0 : Int32), S))))
def f_M_ask (S : MSt) (v1 : Int32) (v2 : Int32) : Option (Int32 × MSt) := Option.bind (f_M_isName v1) (fun x4 => (if x4 = (0 : Int32) then some ((-1 : Int32), S) else Option.bind (f_M_isType v2) (fun x7 => (if x7 = (0 : Int32) then some ((-1 : Int32), S) else znm (zmS S 7 v1) (fun S10 => znm (zmS S10 8 v2) (fun S12 => znm (zmS S12 9 (0 : Int32)) (fun S14 => znm (zmS S14 10 (0 : Int32)) (fun S16 => Option.bind (f_M_resolve S16 v1 v2) (fun x18 => znm (zmS x18.2 6 x18.1) (fun S20 => (if (S20.1 6) = (8 : Int32) then J_M_ask_96 S20 (1 : Int32) else (if (S20.1 6) = (9 : Int32) then J_M_ask_96 S20 (1 : Int32) else (if (S20.1 6) = (12 : Int32) then J_M_ask_96 S20 (1 : Int32) else (if (S20.1 6) = (15 : Int32) then J_M_ask_96 S20 (1 : Int32) else (if (S20.1 6) = (16 : Int32) then J_M_ask_96 S20 (1 : Int32) else J_M_ask_96 S20 (0 : Int32))))))))))))))))
set_option maxHeartbeats 4000000 in
set_option maxRecDepth 100000 in
theorem c_M_ask (l : Launch) (G : XG) (S : MSt) (v1 : Int32) (v2 : Int32) (o0 : (Int32 × MSt)) (hf : f_M_ask S v1 v2 = some o0) : MetI l y_M_ask b_M_ask 4 (some .int) 9 [.ref (G.2.1 0), .int v1, .int v2] G.1 (tyX G) (zAM G) (wM G S) o0.1 (wM G o0.2) := by
  refine mkI (by decide) (Nat.le_of_ble_eq_true rfl) ?_
  intro p e R s m args below meth c ls Q C hl hP hret0
  replace C : Cw p m c b_M_ask 4 s args "TrustResolverModel" R 9 := C
  have hx := C.1
  have hb := C.2.1
  replace hl : lv_has ls 4 [(0, .ref (G.2.1 0)), (1, .int v1), (2, .int v2)] := hl
  have hret : ∀ (pc : Nat) (ls : Array Slot) (H : Heap) (locs : List Loc) (v : Int32) (S' : MSt), decode b_M_ask pc = .ok (.ireturn, 1) → (v, S') = o0 → Pw G.1 (tyX G) (zAM G) s (wM G S') H locs → W p l e R s m args below meth c H locs 0 0 Q (F0 m pc ls [.int v]) := fun pc ls H locs v S' hd he hP => hret0 pc ls H locs v hd (by rw [← he]) (by rw [← he]; exact hP)
  clear hret0
  unfold f_M_ask at hf
  have JP_96 : ∀ (S : MSt)  (s0 : Int32) (ls : Array Slot) (H : Heap) (locs : List Loc) , lv_has ls 4 [(0, .ref (G.2.1 0))] → Pw G.1 (tyX G) (zAM G) s (wM G S) H locs → J_M_ask_96 S s0 = some o0 → W p l e R s m args below meth c H locs 0 0 Q (F0 m 96 ls [.int s0]) := by
    intro S s0 ls H locs hl hP hf
    unfold J_M_ask_96 at hf
    refine lv_istore_n (lv' := [(3, .int s0), (0, .ref (G.2.1 0))]) hx hb d_M_ask_96 rfl hl (by decide) rfl (fun ls hl => ?_)
    refine lv_aload_n hx hb d_M_ask_97 rfl (lv_at hl 1 rfl) ?_
    refine w_get C hP (fdM_0_reason G S) tb_435 d_M_ask_98 ?_
    refine lv_iconst (v := (1 : Int32)) hx hb d_M_ask_101 (by decide) ?_
    refine lv_icmp_ne hx hb d_M_ask_102 (tgt := 109) (by decide) (fun h1 => ?_) (fun h1 => ?_)
    · have hf := it_f h1 hf
      refine lv_aload_n hx hb d_M_ask_109 rfl (lv_at hl 1 rfl) ?_
      refine w_get C hP (fdM_0_reason G S) tb_435 d_M_ask_110 ?_
      refine lv_bipush (v := (6 : Int32)) hx hb d_M_ask_113 (by decide) ?_
      refine lv_icmp_ne hx hb d_M_ask_115 (tgt := 122) (by decide) (fun h2 => ?_) (fun h2 => ?_)
      · have hf := it_f h2 hf
        refine lv_iload_n hx hb d_M_ask_122 rfl (lv_at hl 0 rfl) ?_
        refine lv_if_eq hx hb d_M_ask_123 (tgt := 130) (by decide) (fun h3 => ?_) (fun h3 => ?_)
        · have hf := it_t h3 hf
          refine lv_iconst (v := (2 : Int32)) hx hb d_M_ask_130 (by decide) ?_
          exact hret _ _ _ _ _ _ d_M_ask_131 (Option.some.inj hf) hP
        · have hf := it_f h3 hf
          refine lv_iconst (v := (0 : Int32)) hx hb d_M_ask_126 (by decide) ?_
          refine lv_goto hx hb d_M_ask_127 (tgt := 131) (by decide) ?_
          exact hret _ _ _ _ _ _ d_M_ask_131 (Option.some.inj hf) hP
      · have hf := it_t h2 hf
        refine lv_iconst (v := (1 : Int32)) hx hb d_M_ask_118 (by decide) ?_
        refine lv_goto hx hb d_M_ask_119 (tgt := 131) (by decide) ?_
        exact hret _ _ _ _ _ _ d_M_ask_131 (Option.some.inj hf) hP
    · have hf := it_t h1 hf
      refine lv_iconst (v := (3 : Int32)) hx hb d_M_ask_105 (by decide) ?_
      refine lv_goto hx hb d_M_ask_106 (tgt := 131) (by decide) ?_
      exact hret _ _ _ _ _ _ d_M_ask_131 (Option.some.inj hf) hP
  refine lv_iload_n hx hb d_M_ask_0 rfl (lv_at hl 1 rfl) ?_
  obtain ⟨x4, h5, hf⟩ := bd_some hf
  refine w_callS (As := [.int v1]) (rest := []) C (c_M_isName l v1 x4 h5) cf_M_isName tb_476 (by decide) rfl hl.1 rfl (Nat.le_of_ble_eq_true rfl) d_M_ask_1 ?_
  refine lv_if_eq hx hb d_M_ask_4 (tgt := 14) (by decide) (fun h6 => ?_) (fun h6 => ?_)
  · have hf := it_t h6 hf
    refine lv_iconst (v := (-1 : Int32)) hx hb d_M_ask_14 (by decide) ?_
    exact hret _ _ _ _ _ _ d_M_ask_15 (Option.some.inj hf) hP
  · have hf := it_f h6 hf
    refine lv_iload_n hx hb d_M_ask_7 rfl (lv_at hl 2 rfl) ?_
    obtain ⟨x7, h8, hf⟩ := bd_some hf
    refine w_callS (As := [.int v2]) (rest := []) C (c_M_isType l v2 x7 h8) cf_M_isType tb_483 (by decide) rfl hl.1 rfl (Nat.le_of_ble_eq_true rfl) d_M_ask_8 ?_
    refine lv_if_ne hx hb d_M_ask_11 (tgt := 16) (by decide) (fun h9 => ?_) (fun h9 => ?_)
    · have hf := it_f h9 hf
      refine lv_aload_n hx hb d_M_ask_16 rfl (lv_at hl 0 rfl) ?_
      refine lv_iload_n hx hb d_M_ask_17 rfl (lv_at hl 1 rfl) ?_
      refine w_put C hP (ptM_0_askedName G S v1) tb_436 d_M_ask_18 (fun H locs hP => ?_)
      obtain ⟨S10, e11, hf⟩ := znm_some hf
      rw [← e11] at hP
      refine lv_aload_n hx hb d_M_ask_21 rfl (lv_at hl 0 rfl) ?_
      refine lv_iload_n hx hb d_M_ask_22 rfl (lv_at hl 2 rfl) ?_
      refine w_put C hP (ptM_0_askedType G S10 v2) tb_437 d_M_ask_23 (fun H locs hP => ?_)
      obtain ⟨S12, e13, hf⟩ := znm_some hf
      rw [← e13] at hP
      refine lv_aload_n hx hb d_M_ask_26 rfl (lv_at hl 0 rfl) ?_
      refine lv_iconst (v := (0 : Int32)) hx hb d_M_ask_27 (by decide) ?_
      refine w_put C hP (ptM_0_zones G S12 (0 : Int32)) tb_438 d_M_ask_28 (fun H locs hP => ?_)
      obtain ⟨S14, e15, hf⟩ := znm_some hf
      rw [← e15] at hP
      refine lv_aload_n hx hb d_M_ask_31 rfl (lv_at hl 0 rfl) ?_
      refine lv_iconst (v := (0 : Int32)) hx hb d_M_ask_32 (by decide) ?_
      refine w_put C hP (ptM_0_counted G S14 (0 : Int32)) tb_440 d_M_ask_33 (fun H locs hP => ?_)
      obtain ⟨S16, e17, hf⟩ := znm_some hf
      rw [← e17] at hP
      refine lv_aload_n hx hb d_M_ask_36 rfl (lv_at hl 0 rfl) ?_
      refine lv_aload_n hx hb d_M_ask_37 rfl (lv_at hl 0 rfl) ?_
      refine lv_iload_n hx hb d_M_ask_38 rfl (lv_at hl 1 rfl) ?_
      refine lv_iload_n hx hb d_M_ask_39 rfl (lv_at hl 2 rfl) ?_
      obtain ⟨x18, h19, hf⟩ := bd_some hf
      refine w_callI (As := [.int v1, .int v2]) (rest := [.ref (G.2.1 0)]) C (c_M_resolve l G S16 v1 v2 x18 h19) cf_M_resolve tb_559 (by decide) hP (obM_0 G S16) rfl hl.1 rfl (Nat.le_of_ble_eq_true rfl) d_M_ask_40 (fun H locs hP => ?_)
      refine w_put C hP (ptM_0_reason G x18.2 x18.1) tb_435 d_M_ask_43 (fun H locs hP => ?_)
      obtain ⟨S20, e21, hf⟩ := znm_some hf
      rw [← e21] at hP
      refine lv_aload_n hx hb d_M_ask_46 rfl (lv_at hl 0 rfl) ?_
      refine w_get C hP (fdM_0_reason G S20) tb_435 d_M_ask_47 ?_
      refine lv_bipush (v := (8 : Int32)) hx hb d_M_ask_50 (by decide) ?_
      refine lv_icmp_eq hx hb d_M_ask_52 (tgt := 91) (by decide) (fun h22 => ?_) (fun h22 => ?_)
      · have hf := it_t h22 hf
        refine lv_iconst (v := (1 : Int32)) hx hb d_M_ask_91 (by decide) ?_
        refine lv_goto hx hb d_M_ask_92 (tgt := 96) (by decide) ?_
        exact JP_96 S20 (1 : Int32) _ _ _ (lv_sub hl [0] rfl) hP hf
      · have hf := it_f h22 hf
        refine lv_aload_n hx hb d_M_ask_55 rfl (lv_at hl 0 rfl) ?_
        refine w_get C hP (fdM_0_reason G S20) tb_435 d_M_ask_56 ?_
        refine lv_bipush (v := (9 : Int32)) hx hb d_M_ask_59 (by decide) ?_
        refine lv_icmp_eq hx hb d_M_ask_61 (tgt := 91) (by decide) (fun h23 => ?_) (fun h23 => ?_)
        · have hf := it_t h23 hf
          refine lv_iconst (v := (1 : Int32)) hx hb d_M_ask_91 (by decide) ?_
          refine lv_goto hx hb d_M_ask_92 (tgt := 96) (by decide) ?_
          exact JP_96 S20 (1 : Int32) _ _ _ (lv_sub hl [0] rfl) hP hf
        · have hf := it_f h23 hf
          refine lv_aload_n hx hb d_M_ask_64 rfl (lv_at hl 0 rfl) ?_
          refine w_get C hP (fdM_0_reason G S20) tb_435 d_M_ask_65 ?_
          refine lv_bipush (v := (12 : Int32)) hx hb d_M_ask_68 (by decide) ?_
          refine lv_icmp_eq hx hb d_M_ask_70 (tgt := 91) (by decide) (fun h24 => ?_) (fun h24 => ?_)
          · have hf := it_t h24 hf
            refine lv_iconst (v := (1 : Int32)) hx hb d_M_ask_91 (by decide) ?_
            refine lv_goto hx hb d_M_ask_92 (tgt := 96) (by decide) ?_
            exact JP_96 S20 (1 : Int32) _ _ _ (lv_sub hl [0] rfl) hP hf
          · have hf := it_f h24 hf
            refine lv_aload_n hx hb d_M_ask_73 rfl (lv_at hl 0 rfl) ?_
            refine w_get C hP (fdM_0_reason G S20) tb_435 d_M_ask_74 ?_
            refine lv_bipush (v := (15 : Int32)) hx hb d_M_ask_77 (by decide) ?_
            refine lv_icmp_eq hx hb d_M_ask_79 (tgt := 91) (by decide) (fun h25 => ?_) (fun h25 => ?_)
            · have hf := it_t h25 hf
              refine lv_iconst (v := (1 : Int32)) hx hb d_M_ask_91 (by decide) ?_
              refine lv_goto hx hb d_M_ask_92 (tgt := 96) (by decide) ?_
              exact JP_96 S20 (1 : Int32) _ _ _ (lv_sub hl [0] rfl) hP hf
            · have hf := it_f h25 hf
              refine lv_aload_n hx hb d_M_ask_82 rfl (lv_at hl 0 rfl) ?_
              refine w_get C hP (fdM_0_reason G S20) tb_435 d_M_ask_83 ?_
              refine lv_bipush (v := (16 : Int32)) hx hb d_M_ask_86 (by decide) ?_
              refine lv_icmp_ne hx hb d_M_ask_88 (tgt := 95) (by decide) (fun h26 => ?_) (fun h26 => ?_)
              · have hf := it_f h26 hf
                refine lv_iconst (v := (0 : Int32)) hx hb d_M_ask_95 (by decide) ?_
                exact JP_96 S20 (0 : Int32) _ _ _ (lv_sub hl [0] rfl) hP hf
              · have hf := it_t h26 hf
                refine lv_iconst (v := (1 : Int32)) hx hb d_M_ask_91 (by decide) ?_
                refine lv_goto hx hb d_M_ask_92 (tgt := 96) (by decide) ?_
                exact JP_96 S20 (1 : Int32) _ _ _ (lv_sub hl [0] rfl) hP hf
    · have hf := it_t h9 hf
      refine lv_iconst (v := (-1 : Int32)) hx hb d_M_ask_14 (by decide) ?_
      exact hret _ _ _ _ _ _ d_M_ask_15 (Option.some.inj hf) hP
