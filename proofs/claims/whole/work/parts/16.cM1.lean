def f_M_label (v0 : Int32) (v1 : Int32) : Option Int32 := some ((v0 >>> (((15 : Int32) - ((5 : Int32) * v1)) &&& (31 : Int32))) &&& (31 : Int32))
set_option maxHeartbeats 4000000 in
set_option maxRecDepth 100000 in
theorem c_M_label (l : Launch) (v0 : Int32) (v1 : Int32) (o0 : Int32) (hf : f_M_label v0 v1 = some o0) : MetSI l y_M_label b_M_label 2 (some .int) 0 [.int v0, .int v1] o0 := by
  refine mkSI (by decide) (Nat.le_of_ble_eq_true rfl) ?_
  intro p e R s m args below meth c ls Q C hl hret0
  replace C : Cw p m c b_M_label 2 s args "TrustResolverModel" R 0 := C
  have hx := C.1
  have hb := C.2.1
  replace hl : lv_has ls 2 [(0, .int v0), (1, .int v1)] := hl
  have hret := hret0
  clear hret0
  unfold f_M_label at hf
  refine lv_iload_n hx hb d_M_label_0 rfl (lv_at hl 0 rfl) ?_
  refine lv_bipush (v := (15 : Int32)) hx hb d_M_label_1 (by decide) ?_
  refine lv_iconst (v := (5 : Int32)) hx hb d_M_label_3 (by decide) ?_
  refine lv_iload_n hx hb d_M_label_4 rfl (lv_at hl 1 rfl) ?_
  refine lv_imul hx hb d_M_label_5 ?_
  refine lv_isub hx hb d_M_label_6 ?_
  refine lv_ishr hx hb d_M_label_7 ?_
  refine lv_bipush (v := (31 : Int32)) hx hb d_M_label_8 (by decide) ?_
  refine lv_iand hx hb d_M_label_10 ?_
  exact hret _ _ _ d_M_label_11 (Option.some.inj hf)
def L_M_depth_4 (v0 : Int32) (v1 : Int32) (v2 : Int32) : Option ((Int32 × Int32) ⊕ Int32) := (if (4 : Int32) ≤ v2 then zup (some v1) else Option.bind (f_M_label v0 v2) (fun x2 => (if x2 ≤ (0 : Int32) then some (Sum.inl (v1, (v2 + (1 : Int32)))) else some (Sum.inl ((v1 + (1 : Int32)), (v2 + (1 : Int32)))))))
def LS_M_depth_4 (v0 : Int32) (v : (Int32 × Int32)) : Option ((Int32 × Int32) ⊕ Int32) := L_M_depth_4 v0 v.1 v.2
def f_M_depth (v0 : Int32) : Option Int32 := zit (LS_M_depth_4 v0) 64 ((0 : Int32), (0 : Int32))
set_option maxHeartbeats 4000000 in
set_option maxRecDepth 100000 in
theorem c_M_depth (l : Launch) (v0 : Int32) (o0 : Int32) (hf : f_M_depth v0 = some o0) : MetSI l y_M_depth b_M_depth 3 (some .int) 1 [.int v0] o0 := by
  refine mkSI (by decide) (Nat.le_of_ble_eq_true rfl) ?_
  intro p e R s m args below meth c ls Q C hl hret0
  replace C : Cw p m c b_M_depth 3 s args "TrustResolverModel" R 1 := C
  have hx := C.1
  have hb := C.2.1
  replace hl : lv_has ls 3 [(0, .int v0)] := hl
  have hret := hret0
  clear hret0
  unfold f_M_depth at hf
  have LP_4 : ∀ (v0 : Int32) (n : Nat) (v1 : Int32) (v2 : Int32) (ls : Array Slot) , lv_has ls 3 [(0, .int v0), (1, .int v1), (2, .int v2)] → zit (LS_M_depth_4 v0) n (v1, v2) = some o0 → W p l e R s m args below meth c s.heap [] 0 0 Q (F0 m 4 ls []) := by
    intro v0 n
    induction n with
    | zero => intro v1 v2 ls hl hf; exact zit_0 hf
    | succ n ih1 =>
      intro v1 v2 ls hl hf
      obtain ⟨o1, hf, hk1⟩ := zit_s hf
      have hf : L_M_depth_4 v0 v1 v2 = some o1 := hf
      unfold L_M_depth_4 at hf
      refine lv_iload_n hx hb d_M_depth_4 rfl (lv_at hl 2 rfl) ?_
      refine lv_iconst (v := (4 : Int32)) hx hb d_M_depth_5 (by decide) ?_
      refine lv_icmp_ge hx hb d_M_depth_6 (tgt := 31) (by decide) (fun h1 => ?_) (fun h1 => ?_)
      · have hf := it_t h1 hf
        have hf := zup_k hf hk1
        refine lv_iload_n hx hb d_M_depth_31 rfl (lv_at hl 1 rfl) ?_
        exact hret _ _ _ d_M_depth_32 (Option.some.inj hf)
      · have hf := it_f h1 hf
        refine lv_iload_n hx hb d_M_depth_9 rfl (lv_at hl 0 rfl) ?_
        refine lv_iload_n hx hb d_M_depth_10 rfl (lv_at hl 2 rfl) ?_
        obtain ⟨x2, h3, hf⟩ := bd_some hf
        refine w_callS (As := [.int v0, .int v2]) (rest := []) C (c_M_label l v0 v2 x2 h3) cf_M_label tb_480 (by decide) rfl hl.1 rfl (Nat.le_of_ble_eq_true rfl) d_M_depth_11 ?_
        refine lv_if_le hx hb d_M_depth_14 (tgt := 23) (by decide) (fun h4 => ?_) (fun h4 => ?_)
        · have hf := it_t h4 hf
          refine lv_iload_n hx hb d_M_depth_23 rfl (lv_at hl 1 rfl) ?_
          refine lv_istore_n (lv' := [(1, .int v1), (0, .int v0), (2, .int v2)]) hx hb d_M_depth_24 rfl hl (by decide) rfl (fun ls hl => ?_)
          refine lv_iinc (k := 2) (v := (v2 + (1 : Int32))) (lv' := [(2, .int (v2 + (1 : Int32))), (1, .int v1), (0, .int v0)]) hx hb d_M_depth_25 hl rfl (ii (by decide) _) (by decide) rfl (fun ls hl => ?_)
          refine lv_goto hx hb d_M_depth_28 (tgt := 4) (by decide) ?_
          exact ih1 v1 (v2 + (1 : Int32)) _ (lv_sub hl [2, 1, 0] rfl) (znx_l hf hk1)
        · have hf := it_f h4 hf
          refine lv_iload_n hx hb d_M_depth_17 rfl (lv_at hl 1 rfl) ?_
          refine lv_iconst (v := (1 : Int32)) hx hb d_M_depth_18 (by decide) ?_
          refine lv_iadd hx hb d_M_depth_19 ?_
          refine lv_goto hx hb d_M_depth_20 (tgt := 24) (by decide) ?_
          refine lv_istore_n (lv' := [(1, .int (v1 + (1 : Int32))), (0, .int v0), (2, .int v2)]) hx hb d_M_depth_24 rfl hl (by decide) rfl (fun ls hl => ?_)
          refine lv_iinc (k := 2) (v := (v2 + (1 : Int32))) (lv' := [(2, .int (v2 + (1 : Int32))), (1, .int (v1 + (1 : Int32))), (0, .int v0)]) hx hb d_M_depth_25 hl rfl (ii (by decide) _) (by decide) rfl (fun ls hl => ?_)
          refine lv_goto hx hb d_M_depth_28 (tgt := 4) (by decide) ?_
          exact ih1 (v1 + (1 : Int32)) (v2 + (1 : Int32)) _ (lv_sub hl [2, 1, 0] rfl) (znx_l hf hk1)
  refine lv_iconst (v := (0 : Int32)) hx hb d_M_depth_0 (by decide) ?_
  refine lv_istore_n (lv' := [(1, .int (0 : Int32)), (0, .int v0)]) hx hb d_M_depth_1 rfl hl (by decide) rfl (fun ls hl => ?_)
  refine lv_iconst (v := (0 : Int32)) hx hb d_M_depth_2 (by decide) ?_
  refine lv_istore_n (lv' := [(2, .int (0 : Int32)), (1, .int (0 : Int32)), (0, .int v0)]) hx hb d_M_depth_3 rfl hl (by decide) rfl (fun ls hl => ?_)
  exact LP_4 v0 64 (0 : Int32) (0 : Int32) _ (lv_sub hl [2, 1, 0] rfl) hf
def L_M_isName_16 (v0 : Int32) (v1 : Int32) (v2 : Int32) : Option ((Int32 × Int32) ⊕ Int32) := (if (4 : Int32) ≤ v2 then zup (zgd (zib v1) (some v1)) else (if v1 = (0 : Int32) then some (Sum.inl ((0 : Int32), (v2 + (1 : Int32)))) else Option.bind (f_M_label v0 v2) (fun x4 => (if (27 : Int32) < x4 then some (Sum.inl ((0 : Int32), (v2 + (1 : Int32)))) else (if v2 = (0 : Int32) then some (Sum.inl ((1 : Int32), (v2 + (1 : Int32)))) else Option.bind (f_M_label v0 v2) (fun x8 => (if x8 = (0 : Int32) then some (Sum.inl ((1 : Int32), (v2 + (1 : Int32)))) else Option.bind (f_M_label v0 (v2 - (1 : Int32))) (fun x11 => (if x11 ≤ (0 : Int32) then some (Sum.inl ((0 : Int32), (v2 + (1 : Int32)))) else some (Sum.inl ((1 : Int32), (v2 + (1 : Int32)))))))))))))
def LS_M_isName_16 (v0 : Int32) (v : (Int32 × Int32)) : Option ((Int32 × Int32) ⊕ Int32) := L_M_isName_16 v0 v.1 v.2
def f_M_isName (v0 : Int32) : Option Int32 := (if v0 < (0 : Int32) then some (0 : Int32) else (if v0 < (1048576 : Int32) then zit (LS_M_isName_16 v0) 64 ((1 : Int32), (0 : Int32)) else some (0 : Int32)))
set_option maxHeartbeats 4000000 in
set_option maxRecDepth 100000 in
theorem c_M_isName (l : Launch) (v0 : Int32) (o0 : Int32) (hf : f_M_isName v0 = some o0) : MetSI l y_M_isName b_M_isName 3 (some .boolean) 1 [.int v0] o0 := by
  refine mkSZ (by decide) (Nat.le_of_ble_eq_true rfl) ?_
  intro p e R s m args below meth c ls Q C hl hret0
  replace C : Cw p m c b_M_isName 3 s args "TrustResolverModel" R 1 := C
  have hx := C.1
  have hb := C.2.1
  replace hl : lv_has ls 3 [(0, .int v0)] := hl
  have hret := hret0
  clear hret0
  unfold f_M_isName at hf
  have LP_16 : ∀ (v0 : Int32) (n : Nat) (v1 : Int32) (v2 : Int32) (ls : Array Slot) , lv_has ls 3 [(0, .int v0), (1, .int v1), (2, .int v2)] → zit (LS_M_isName_16 v0) n (v1, v2) = some o0 → W p l e R s m args below meth c s.heap [] 0 0 Q (F0 m 16 ls []) := by
    intro v0 n
    induction n with
    | zero => intro v1 v2 ls hl hf; exact zit_0 hf
    | succ n ih1 =>
      intro v1 v2 ls hl hf
      obtain ⟨o1, hf, hk1⟩ := zit_s hf
      have hf : L_M_isName_16 v0 v1 v2 = some o1 := hf
      unfold L_M_isName_16 at hf
      refine lv_iload_n hx hb d_M_isName_16 rfl (lv_at hl 2 rfl) ?_
      refine lv_iconst (v := (4 : Int32)) hx hb d_M_isName_17 (by decide) ?_
      refine lv_icmp_ge hx hb d_M_isName_18 (tgt := 69) (by decide) (fun h1 => ?_) (fun h1 => ?_)
      · have hf := it_t h1 hf
        have hf := zup_k hf hk1
        refine lv_iload_n hx hb d_M_isName_69 rfl (lv_at hl 1 rfl) ?_
        obtain ⟨h2, hf⟩ := zgd_some hf
        exact hret _ _ _ d_M_isName_70 h2 (Option.some.inj hf)
      · have hf := it_f h1 hf
        refine lv_iload_n hx hb d_M_isName_21 rfl (lv_at hl 1 rfl) ?_
        refine lv_if_eq hx hb d_M_isName_22 (tgt := 61) (by decide) (fun h3 => ?_) (fun h3 => ?_)
        · have hf := it_t h3 hf
          refine lv_iconst (v := (0 : Int32)) hx hb d_M_isName_61 (by decide) ?_
          refine lv_istore_n (lv' := [(1, .int (0 : Int32)), (0, .int v0), (2, .int v2)]) hx hb d_M_isName_62 rfl hl (by decide) rfl (fun ls hl => ?_)
          refine lv_iinc (k := 2) (v := (v2 + (1 : Int32))) (lv' := [(2, .int (v2 + (1 : Int32))), (1, .int (0 : Int32)), (0, .int v0)]) hx hb d_M_isName_63 hl rfl (ii (by decide) _) (by decide) rfl (fun ls hl => ?_)
          refine lv_goto hx hb d_M_isName_66 (tgt := 16) (by decide) ?_
          exact ih1 (0 : Int32) (v2 + (1 : Int32)) _ (lv_sub hl [2, 1, 0] rfl) (znx_l hf hk1)
        · have hf := it_f h3 hf
          refine lv_iload_n hx hb d_M_isName_25 rfl (lv_at hl 0 rfl) ?_
          refine lv_iload_n hx hb d_M_isName_26 rfl (lv_at hl 2 rfl) ?_
          obtain ⟨x4, h5, hf⟩ := bd_some hf
          refine w_callS (As := [.int v0, .int v2]) (rest := []) C (c_M_label l v0 v2 x4 h5) cf_M_label tb_480 (by decide) rfl hl.1 rfl (Nat.le_of_ble_eq_true rfl) d_M_isName_27 ?_
          refine lv_bipush (v := (27 : Int32)) hx hb d_M_isName_30 (by decide) ?_
          refine lv_icmp_gt hx hb d_M_isName_32 (tgt := 61) (by decide) (fun h6 => ?_) (fun h6 => ?_)
          · have hf := it_t h6 hf
            refine lv_iconst (v := (0 : Int32)) hx hb d_M_isName_61 (by decide) ?_
            refine lv_istore_n (lv' := [(1, .int (0 : Int32)), (0, .int v0), (2, .int v2)]) hx hb d_M_isName_62 rfl hl (by decide) rfl (fun ls hl => ?_)
            refine lv_iinc (k := 2) (v := (v2 + (1 : Int32))) (lv' := [(2, .int (v2 + (1 : Int32))), (1, .int (0 : Int32)), (0, .int v0)]) hx hb d_M_isName_63 hl rfl (ii (by decide) _) (by decide) rfl (fun ls hl => ?_)
            refine lv_goto hx hb d_M_isName_66 (tgt := 16) (by decide) ?_
            exact ih1 (0 : Int32) (v2 + (1 : Int32)) _ (lv_sub hl [2, 1, 0] rfl) (znx_l hf hk1)
          · have hf := it_f h6 hf
            refine lv_iload_n hx hb d_M_isName_35 rfl (lv_at hl 2 rfl) ?_
            refine lv_if_eq hx hb d_M_isName_36 (tgt := 57) (by decide) (fun h7 => ?_) (fun h7 => ?_)
            · have hf := it_t h7 hf
              refine lv_iconst (v := (1 : Int32)) hx hb d_M_isName_57 (by decide) ?_
              refine lv_goto hx hb d_M_isName_58 (tgt := 62) (by decide) ?_
              refine lv_istore_n (lv' := [(1, .int (1 : Int32)), (0, .int v0), (2, .int v2)]) hx hb d_M_isName_62 rfl hl (by decide) rfl (fun ls hl => ?_)
              refine lv_iinc (k := 2) (v := (v2 + (1 : Int32))) (lv' := [(2, .int (v2 + (1 : Int32))), (1, .int (1 : Int32)), (0, .int v0)]) hx hb d_M_isName_63 hl rfl (ii (by decide) _) (by decide) rfl (fun ls hl => ?_)
              refine lv_goto hx hb d_M_isName_66 (tgt := 16) (by decide) ?_
              exact ih1 (1 : Int32) (v2 + (1 : Int32)) _ (lv_sub hl [2, 1, 0] rfl) (znx_l hf hk1)
            · have hf := it_f h7 hf
              refine lv_iload_n hx hb d_M_isName_39 rfl (lv_at hl 0 rfl) ?_
              refine lv_iload_n hx hb d_M_isName_40 rfl (lv_at hl 2 rfl) ?_
              obtain ⟨x8, h9, hf⟩ := bd_some hf
              refine w_callS (As := [.int v0, .int v2]) (rest := []) C (c_M_label l v0 v2 x8 h9) cf_M_label tb_480 (by decide) rfl hl.1 rfl (Nat.le_of_ble_eq_true rfl) d_M_isName_41 ?_
              refine lv_if_eq hx hb d_M_isName_44 (tgt := 57) (by decide) (fun h10 => ?_) (fun h10 => ?_)
              · have hf := it_t h10 hf
                refine lv_iconst (v := (1 : Int32)) hx hb d_M_isName_57 (by decide) ?_
                refine lv_goto hx hb d_M_isName_58 (tgt := 62) (by decide) ?_
                refine lv_istore_n (lv' := [(1, .int (1 : Int32)), (0, .int v0), (2, .int v2)]) hx hb d_M_isName_62 rfl hl (by decide) rfl (fun ls hl => ?_)
                refine lv_iinc (k := 2) (v := (v2 + (1 : Int32))) (lv' := [(2, .int (v2 + (1 : Int32))), (1, .int (1 : Int32)), (0, .int v0)]) hx hb d_M_isName_63 hl rfl (ii (by decide) _) (by decide) rfl (fun ls hl => ?_)
                refine lv_goto hx hb d_M_isName_66 (tgt := 16) (by decide) ?_
                exact ih1 (1 : Int32) (v2 + (1 : Int32)) _ (lv_sub hl [2, 1, 0] rfl) (znx_l hf hk1)
              · have hf := it_f h10 hf
                refine lv_iload_n hx hb d_M_isName_47 rfl (lv_at hl 0 rfl) ?_
                refine lv_iload_n hx hb d_M_isName_48 rfl (lv_at hl 2 rfl) ?_
                refine lv_iconst (v := (1 : Int32)) hx hb d_M_isName_49 (by decide) ?_
                refine lv_isub hx hb d_M_isName_50 ?_
                obtain ⟨x11, h12, hf⟩ := bd_some hf
                refine w_callS (As := [.int v0, .int (v2 - (1 : Int32))]) (rest := []) C (c_M_label l v0 (v2 - (1 : Int32)) x11 h12) cf_M_label tb_480 (by decide) rfl hl.1 rfl (Nat.le_of_ble_eq_true rfl) d_M_isName_51 ?_
                refine lv_if_le hx hb d_M_isName_54 (tgt := 61) (by decide) (fun h13 => ?_) (fun h13 => ?_)
                · have hf := it_t h13 hf
                  refine lv_iconst (v := (0 : Int32)) hx hb d_M_isName_61 (by decide) ?_
                  refine lv_istore_n (lv' := [(1, .int (0 : Int32)), (0, .int v0), (2, .int v2)]) hx hb d_M_isName_62 rfl hl (by decide) rfl (fun ls hl => ?_)
                  refine lv_iinc (k := 2) (v := (v2 + (1 : Int32))) (lv' := [(2, .int (v2 + (1 : Int32))), (1, .int (0 : Int32)), (0, .int v0)]) hx hb d_M_isName_63 hl rfl (ii (by decide) _) (by decide) rfl (fun ls hl => ?_)
                  refine lv_goto hx hb d_M_isName_66 (tgt := 16) (by decide) ?_
                  exact ih1 (0 : Int32) (v2 + (1 : Int32)) _ (lv_sub hl [2, 1, 0] rfl) (znx_l hf hk1)
                · have hf := it_f h13 hf
                  refine lv_iconst (v := (1 : Int32)) hx hb d_M_isName_57 (by decide) ?_
                  refine lv_goto hx hb d_M_isName_58 (tgt := 62) (by decide) ?_
                  refine lv_istore_n (lv' := [(1, .int (1 : Int32)), (0, .int v0), (2, .int v2)]) hx hb d_M_isName_62 rfl hl (by decide) rfl (fun ls hl => ?_)
                  refine lv_iinc (k := 2) (v := (v2 + (1 : Int32))) (lv' := [(2, .int (v2 + (1 : Int32))), (1, .int (1 : Int32)), (0, .int v0)]) hx hb d_M_isName_63 hl rfl (ii (by decide) _) (by decide) rfl (fun ls hl => ?_)
                  refine lv_goto hx hb d_M_isName_66 (tgt := 16) (by decide) ?_
                  exact ih1 (1 : Int32) (v2 + (1 : Int32)) _ (lv_sub hl [2, 1, 0] rfl) (znx_l hf hk1)
  refine lv_iload_n hx hb d_M_isName_0 rfl (lv_at hl 0 rfl) ?_
  refine lv_if_lt hx hb d_M_isName_1 (tgt := 10) (by decide) (fun h14 => ?_) (fun h14 => ?_)
  · have hf := it_t h14 hf
    refine lv_iconst (v := (0 : Int32)) hx hb d_M_isName_10 (by decide) ?_
    exact hret _ _ _ d_M_isName_11 (by decide) (Option.some.inj hf)
  · have hf := it_f h14 hf
    refine lv_iload_n hx hb d_M_isName_4 rfl (lv_at hl 0 rfl) ?_
    refine lv_ldc (v := (1048576 : Int32)) hx hb C.2.2.2.1 (C.2.2.2.2.1 _ tb_479) d_M_isName_5 ?_
    refine lv_icmp_lt hx hb d_M_isName_7 (tgt := 12) (by decide) (fun h15 => ?_) (fun h15 => ?_)
    · have hf := it_t h15 hf
      refine lv_iconst (v := (1 : Int32)) hx hb d_M_isName_12 (by decide) ?_
      refine lv_istore_n (lv' := [(1, .int (1 : Int32)), (0, .int v0)]) hx hb d_M_isName_13 rfl hl (by decide) rfl (fun ls hl => ?_)
      refine lv_iconst (v := (0 : Int32)) hx hb d_M_isName_14 (by decide) ?_
      refine lv_istore_n (lv' := [(2, .int (0 : Int32)), (1, .int (1 : Int32)), (0, .int v0)]) hx hb d_M_isName_15 rfl hl (by decide) rfl (fun ls hl => ?_)
      exact LP_16 v0 64 (1 : Int32) (0 : Int32) _ (lv_sub hl [2, 1, 0] rfl) hf
    · have hf := it_f h15 hf
      refine lv_iconst (v := (0 : Int32)) hx hb d_M_isName_10 (by decide) ?_
      exact hret _ _ _ d_M_isName_11 (by decide) (Option.some.inj hf)
def f_M_cut (v0 : Int32) (v1 : Int32) : Option Int32 := (if v1 = (0 : Int32) then some (0 : Int32) else some (v0 &&& ((-1 : Int32) <<< (((20 : Int32) - ((5 : Int32) * v1)) &&& (31 : Int32)))))
set_option maxHeartbeats 4000000 in
set_option maxRecDepth 100000 in
theorem c_M_cut (l : Launch) (v0 : Int32) (v1 : Int32) (o0 : Int32) (hf : f_M_cut v0 v1 = some o0) : MetSI l y_M_cut b_M_cut 2 (some .int) 0 [.int v0, .int v1] o0 := by
  refine mkSI (by decide) (Nat.le_of_ble_eq_true rfl) ?_
  intro p e R s m args below meth c ls Q C hl hret0
  replace C : Cw p m c b_M_cut 2 s args "TrustResolverModel" R 0 := C
  have hx := C.1
  have hb := C.2.1
  replace hl : lv_has ls 2 [(0, .int v0), (1, .int v1)] := hl
  have hret := hret0
  clear hret0
  unfold f_M_cut at hf
  refine lv_iload_n hx hb d_M_cut_0 rfl (lv_at hl 1 rfl) ?_
  refine lv_if_ne hx hb d_M_cut_1 (tgt := 8) (by decide) (fun h1 => ?_) (fun h1 => ?_)
  · have hf := it_f h1 hf
    refine lv_iload_n hx hb d_M_cut_8 rfl (lv_at hl 0 rfl) ?_
    refine lv_iconst (v := (-1 : Int32)) hx hb d_M_cut_9 (by decide) ?_
    refine lv_bipush (v := (20 : Int32)) hx hb d_M_cut_10 (by decide) ?_
    refine lv_iconst (v := (5 : Int32)) hx hb d_M_cut_12 (by decide) ?_
    refine lv_iload_n hx hb d_M_cut_13 rfl (lv_at hl 1 rfl) ?_
    refine lv_imul hx hb d_M_cut_14 ?_
    refine lv_isub hx hb d_M_cut_15 ?_
    refine lv_ishl hx hb d_M_cut_16 ?_
    refine lv_iand hx hb d_M_cut_17 ?_
    exact hret _ _ _ d_M_cut_18 (Option.some.inj hf)
  · have hf := it_t h1 hf
    refine lv_iconst (v := (0 : Int32)) hx hb d_M_cut_4 (by decide) ?_
    refine lv_goto hx hb d_M_cut_5 (tgt := 18) (by decide) ?_
    exact hret _ _ _ d_M_cut_18 (Option.some.inj hf)
def f_M_isAbove (v0 : Int32) (v1 : Int32) : Option Int32 := Option.bind (f_M_depth v0) (fun x1 => Option.bind (f_M_depth v1) (fun x3 => (if x3 ≤ x1 then some (0 : Int32) else Option.bind (f_M_depth v0) (fun x6 => Option.bind (f_M_cut v1 x6) (fun x8 => (if x8 = v0 then some (1 : Int32) else some (0 : Int32)))))))
set_option maxHeartbeats 4000000 in
set_option maxRecDepth 100000 in
theorem c_M_isAbove (l : Launch) (v0 : Int32) (v1 : Int32) (o0 : Int32) (hf : f_M_isAbove v0 v1 = some o0) : MetSI l y_M_isAbove b_M_isAbove 2 (some .boolean) 2 [.int v0, .int v1] o0 := by
  refine mkSZ (by decide) (Nat.le_of_ble_eq_true rfl) ?_
  intro p e R s m args below meth c ls Q C hl hret0
  replace C : Cw p m c b_M_isAbove 2 s args "TrustResolverModel" R 2 := C
  have hx := C.1
  have hb := C.2.1
  replace hl : lv_has ls 2 [(0, .int v0), (1, .int v1)] := hl
  have hret := hret0
  clear hret0
  unfold f_M_isAbove at hf
  refine lv_iload_n hx hb d_M_isAbove_0 rfl (lv_at hl 0 rfl) ?_
  obtain ⟨x1, h2, hf⟩ := bd_some hf
  refine w_callS (As := [.int v0]) (rest := []) C (c_M_depth l v0 x1 h2) cf_M_depth tb_527 (by decide) rfl hl.1 rfl (Nat.le_of_ble_eq_true rfl) d_M_isAbove_1 ?_
  refine lv_iload_n hx hb d_M_isAbove_4 rfl (lv_at hl 1 rfl) ?_
  obtain ⟨x3, h4, hf⟩ := bd_some hf
  refine w_callS (As := [.int v1]) (rest := [.int x1]) C (c_M_depth l v1 x3 h4) cf_M_depth tb_527 (by decide) rfl hl.1 rfl (Nat.le_of_ble_eq_true rfl) d_M_isAbove_5 ?_
  refine lv_icmp_ge hx hb d_M_isAbove_8 (tgt := 27) (by decide) (fun h5 => ?_) (fun h5 => ?_)
  · have hf := it_t h5 hf
    refine lv_iconst (v := (0 : Int32)) hx hb d_M_isAbove_27 (by decide) ?_
    exact hret _ _ _ d_M_isAbove_28 (by decide) (Option.some.inj hf)
  · have hf := it_f h5 hf
    refine lv_iload_n hx hb d_M_isAbove_11 rfl (lv_at hl 1 rfl) ?_
    refine lv_iload_n hx hb d_M_isAbove_12 rfl (lv_at hl 0 rfl) ?_
    obtain ⟨x6, h7, hf⟩ := bd_some hf
    refine w_callS (As := [.int v0]) (rest := [.int v1]) C (c_M_depth l v0 x6 h7) cf_M_depth tb_527 (by decide) rfl hl.1 rfl (Nat.le_of_ble_eq_true rfl) d_M_isAbove_13 ?_
    obtain ⟨x8, h9, hf⟩ := bd_some hf
    refine w_callS (As := [.int v1, .int x6]) (rest := []) C (c_M_cut l v1 x6 x8 h9) cf_M_cut tb_533 (by decide) rfl hl.1 rfl (Nat.le_of_ble_eq_true rfl) d_M_isAbove_16 ?_
    refine lv_iload_n hx hb d_M_isAbove_19 rfl (lv_at hl 0 rfl) ?_
    refine lv_icmp_ne hx hb d_M_isAbove_20 (tgt := 27) (by decide) (fun h10 => ?_) (fun h10 => ?_)
    · have hf := it_f h10 hf
      refine lv_iconst (v := (0 : Int32)) hx hb d_M_isAbove_27 (by decide) ?_
      exact hret _ _ _ d_M_isAbove_28 (by decide) (Option.some.inj hf)
    · have hf := it_t h10 hf
      refine lv_iconst (v := (1 : Int32)) hx hb d_M_isAbove_23 (by decide) ?_
      refine lv_goto hx hb d_M_isAbove_24 (tgt := 28) (by decide) ?_
      exact hret _ _ _ d_M_isAbove_28 (by decide) (Option.some.inj hf)
def f_M_star (v0 : Int32) : Option Int32 := Option.bind (f_M_depth v0) (fun x1 => some (v0 ||| ((1 : Int32) <<< (((15 : Int32) - ((5 : Int32) * x1)) &&& (31 : Int32)))))
set_option maxHeartbeats 4000000 in
set_option maxRecDepth 100000 in
theorem c_M_star (l : Launch) (v0 : Int32) (o0 : Int32) (hf : f_M_star v0 = some o0) : MetSI l y_M_star b_M_star 1 (some .int) 2 [.int v0] o0 := by
  refine mkSI (by decide) (Nat.le_of_ble_eq_true rfl) ?_
  intro p e R s m args below meth c ls Q C hl hret0
  replace C : Cw p m c b_M_star 1 s args "TrustResolverModel" R 2 := C
  have hx := C.1
  have hb := C.2.1
  replace hl : lv_has ls 1 [(0, .int v0)] := hl
  have hret := hret0
  clear hret0
  unfold f_M_star at hf
  refine lv_iload_n hx hb d_M_star_0 rfl (lv_at hl 0 rfl) ?_
  refine lv_iconst (v := (1 : Int32)) hx hb d_M_star_1 (by decide) ?_
  refine lv_bipush (v := (15 : Int32)) hx hb d_M_star_2 (by decide) ?_
  refine lv_iconst (v := (5 : Int32)) hx hb d_M_star_4 (by decide) ?_
  refine lv_iload_n hx hb d_M_star_5 rfl (lv_at hl 0 rfl) ?_
  obtain ⟨x1, h2, hf⟩ := bd_some hf
  refine w_callS (As := [.int v0]) (rest := [.int (5 : Int32), .int (15 : Int32), .int (1 : Int32), .int v0]) C (c_M_depth l v0 x1 h2) cf_M_depth tb_527 (by decide) rfl hl.1 rfl (Nat.le_of_ble_eq_true rfl) d_M_star_6 ?_
  refine lv_imul hx hb d_M_star_9 ?_
  refine lv_isub hx hb d_M_star_10 ?_
  refine lv_ishl hx hb d_M_star_11 ?_
  refine lv_ior hx hb d_M_star_12 ?_
  exact hret _ _ _ d_M_star_13 (Option.some.inj hf)
def f_M_isType (v0 : Int32) : Option Int32 := (if v0 < (1 : Int32) then some (0 : Int32) else (if (5 : Int32) < v0 then some (0 : Int32) else some (1 : Int32)))
set_option maxHeartbeats 4000000 in
set_option maxRecDepth 100000 in
theorem c_M_isType (l : Launch) (v0 : Int32) (o0 : Int32) (hf : f_M_isType v0 = some o0) : MetSI l y_M_isType b_M_isType 1 (some .boolean) 0 [.int v0] o0 := by
  refine mkSZ (by decide) (Nat.le_of_ble_eq_true rfl) ?_
  intro p e R s m args below meth c ls Q C hl hret0
  replace C : Cw p m c b_M_isType 1 s args "TrustResolverModel" R 0 := C
  have hx := C.1
  have hb := C.2.1
  replace hl : lv_has ls 1 [(0, .int v0)] := hl
  have hret := hret0
  clear hret0
  unfold f_M_isType at hf
  refine lv_iload_n hx hb d_M_isType_0 rfl (lv_at hl 0 rfl) ?_
  refine lv_iconst (v := (1 : Int32)) hx hb d_M_isType_1 (by decide) ?_
  refine lv_icmp_lt hx hb d_M_isType_2 (tgt := 14) (by decide) (fun h1 => ?_) (fun h1 => ?_)
  · have hf := it_t h1 hf
    refine lv_iconst (v := (0 : Int32)) hx hb d_M_isType_14 (by decide) ?_
    exact hret _ _ _ d_M_isType_15 (by decide) (Option.some.inj hf)
  · have hf := it_f h1 hf
    refine lv_iload_n hx hb d_M_isType_5 rfl (lv_at hl 0 rfl) ?_
    refine lv_iconst (v := (5 : Int32)) hx hb d_M_isType_6 (by decide) ?_
    refine lv_icmp_gt hx hb d_M_isType_7 (tgt := 14) (by decide) (fun h2 => ?_) (fun h2 => ?_)
    · have hf := it_t h2 hf
      refine lv_iconst (v := (0 : Int32)) hx hb d_M_isType_14 (by decide) ?_
      exact hret _ _ _ d_M_isType_15 (by decide) (Option.some.inj hf)
    · have hf := it_f h2 hf
      refine lv_iconst (v := (1 : Int32)) hx hb d_M_isType_10 (by decide) ?_
      refine lv_goto hx hb d_M_isType_11 (tgt := 15) (by decide) ?_
      exact hret _ _ _ d_M_isType_15 (by decide) (Option.some.inj hf)
def f_M_isKey (v0 : Int32) : Option Int32 := (if v0 < (1 : Int32) then some (0 : Int32) else (if (1000000 : Int32) < v0 then some (0 : Int32) else some (1 : Int32)))
set_option maxHeartbeats 4000000 in
set_option maxRecDepth 100000 in
theorem c_M_isKey (l : Launch) (v0 : Int32) (o0 : Int32) (hf : f_M_isKey v0 = some o0) : MetSI l y_M_isKey b_M_isKey 1 (some .boolean) 0 [.int v0] o0 := by
  refine mkSZ (by decide) (Nat.le_of_ble_eq_true rfl) ?_
  intro p e R s m args below meth c ls Q C hl hret0
  replace C : Cw p m c b_M_isKey 1 s args "TrustResolverModel" R 0 := C
  have hx := C.1
  have hb := C.2.1
  replace hl : lv_has ls 1 [(0, .int v0)] := hl
  have hret := hret0
  clear hret0
  unfold f_M_isKey at hf
  refine lv_iload_n hx hb d_M_isKey_0 rfl (lv_at hl 0 rfl) ?_
  refine lv_iconst (v := (1 : Int32)) hx hb d_M_isKey_1 (by decide) ?_
  refine lv_icmp_lt hx hb d_M_isKey_2 (tgt := 15) (by decide) (fun h1 => ?_) (fun h1 => ?_)
  · have hf := it_t h1 hf
    refine lv_iconst (v := (0 : Int32)) hx hb d_M_isKey_15 (by decide) ?_
    exact hret _ _ _ d_M_isKey_16 (by decide) (Option.some.inj hf)
  · have hf := it_f h1 hf
    refine lv_iload_n hx hb d_M_isKey_5 rfl (lv_at hl 0 rfl) ?_
    refine lv_ldc (v := (1000000 : Int32)) hx hb C.2.2.2.1 (C.2.2.2.2.1 _ tb_492) d_M_isKey_6 ?_
    refine lv_icmp_gt hx hb d_M_isKey_8 (tgt := 15) (by decide) (fun h2 => ?_) (fun h2 => ?_)
    · have hf := it_t h2 hf
      refine lv_iconst (v := (0 : Int32)) hx hb d_M_isKey_15 (by decide) ?_
      exact hret _ _ _ d_M_isKey_16 (by decide) (Option.some.inj hf)
    · have hf := it_f h2 hf
      refine lv_iconst (v := (1 : Int32)) hx hb d_M_isKey_11 (by decide) ?_
      refine lv_goto hx hb d_M_isKey_12 (tgt := 16) (by decide) ?_
      exact hret _ _ _ d_M_isKey_16 (by decide) (Option.some.inj hf)
def f_M_isData (v0 : Int32) (v1 : Int32) : Option Int32 := (if v0 = (3 : Int32) then (if v1 < (0 : Int32) then some (0 : Int32) else some (1 : Int32)) else (if v0 = (4 : Int32) then Option.bind (f_M_isKey v1) (fun x4 => zgd (zib x4) (some x4)) else (if v0 = (5 : Int32) then (if v1 < (0 : Int32) then some (0 : Int32) else (if (33554432 : Int32) ≤ v1 then some (0 : Int32) else Option.bind (f_M_isName (v1 &&& (1048575 : Int32))) (fun x10 => (if x10 = (0 : Int32) then some (0 : Int32) else some (1 : Int32))))) else some (1 : Int32))))
set_option maxHeartbeats 4000000 in
set_option maxRecDepth 100000 in
theorem c_M_isData (l : Launch) (v0 : Int32) (v1 : Int32) (o0 : Int32) (hf : f_M_isData v0 v1 = some o0) : MetSI l y_M_isData b_M_isData 2 (some .boolean) 2 [.int v0, .int v1] o0 := by
  refine mkSZ (by decide) (Nat.le_of_ble_eq_true rfl) ?_
  intro p e R s m args below meth c ls Q C hl hret0
  replace C : Cw p m c b_M_isData 2 s args "TrustResolverModel" R 2 := C
  have hx := C.1
  have hb := C.2.1
  replace hl : lv_has ls 2 [(0, .int v0), (1, .int v1)] := hl
  have hret := hret0
  clear hret0
  unfold f_M_isData at hf
  refine lv_iload_n hx hb d_M_isData_0 rfl (lv_at hl 0 rfl) ?_
  by_cases h1 : v0 = (3 : Int32)
  · have hf := it_t h1 hf
    refine lv_tableIn hx hb d_M_isData_1 (by rw [h1]; decide) (by rw [h1]; decide) (by rw [h1]; rfl) (tgt := 28) (by decide) ?_
    refine lv_iload_n hx hb d_M_isData_28 rfl (lv_at hl 1 rfl) ?_
    refine lv_if_lt hx hb d_M_isData_29 (tgt := 36) (by decide) (fun h2 => ?_) (fun h2 => ?_)
    · have hf := it_t h2 hf
      refine lv_iconst (v := (0 : Int32)) hx hb d_M_isData_36 (by decide) ?_
      exact hret _ _ _ d_M_isData_37 (by decide) (Option.some.inj hf)
    · have hf := it_f h2 hf
      refine lv_iconst (v := (1 : Int32)) hx hb d_M_isData_32 (by decide) ?_
      refine lv_goto hx hb d_M_isData_33 (tgt := 37) (by decide) ?_
      exact hret _ _ _ d_M_isData_37 (by decide) (Option.some.inj hf)
  have hf := it_f h1 hf
  by_cases h3 : v0 = (4 : Int32)
  · have hf := it_t h3 hf
    refine lv_tableIn hx hb d_M_isData_1 (by rw [h3]; decide) (by rw [h3]; decide) (by rw [h3]; rfl) (tgt := 38) (by decide) ?_
    refine lv_iload_n hx hb d_M_isData_38 rfl (lv_at hl 1 rfl) ?_
    obtain ⟨x4, h5, hf⟩ := bd_some hf
    refine w_callS (As := [.int v1]) (rest := []) C (c_M_isKey l v1 x4 h5) cf_M_isKey tb_489 (by decide) rfl hl.1 rfl (Nat.le_of_ble_eq_true rfl) d_M_isData_39 ?_
    obtain ⟨h6, hf⟩ := zgd_some hf
    exact hret _ _ _ d_M_isData_42 h6 (Option.some.inj hf)
  have hf := it_f h3 hf
  by_cases h7 : v0 = (5 : Int32)
  · have hf := it_t h7 hf
    refine lv_tableIn hx hb d_M_isData_1 (by rw [h7]; decide) (by rw [h7]; decide) (by rw [h7]; rfl) (tgt := 43) (by decide) ?_
    refine lv_iload_n hx hb d_M_isData_43 rfl (lv_at hl 1 rfl) ?_
    refine lv_if_lt hx hb d_M_isData_44 (tgt := 67) (by decide) (fun h8 => ?_) (fun h8 => ?_)
    · have hf := it_t h8 hf
      refine lv_iconst (v := (0 : Int32)) hx hb d_M_isData_67 (by decide) ?_
      exact hret _ _ _ d_M_isData_68 (by decide) (Option.some.inj hf)
    · have hf := it_f h8 hf
      refine lv_iload_n hx hb d_M_isData_47 rfl (lv_at hl 1 rfl) ?_
      refine lv_ldc (v := (33554432 : Int32)) hx hb C.2.2.2.1 (C.2.2.2.2.1 _ tb_493) d_M_isData_48 ?_
      refine lv_icmp_ge hx hb d_M_isData_50 (tgt := 67) (by decide) (fun h9 => ?_) (fun h9 => ?_)
      · have hf := it_t h9 hf
        refine lv_iconst (v := (0 : Int32)) hx hb d_M_isData_67 (by decide) ?_
        exact hret _ _ _ d_M_isData_68 (by decide) (Option.some.inj hf)
      · have hf := it_f h9 hf
        refine lv_iload_n hx hb d_M_isData_53 rfl (lv_at hl 1 rfl) ?_
        refine lv_ldc (v := (1048575 : Int32)) hx hb C.2.2.2.1 (C.2.2.2.2.1 _ tb_494) d_M_isData_54 ?_
        refine lv_iand hx hb d_M_isData_56 ?_
        obtain ⟨x10, h11, hf⟩ := bd_some hf
        refine w_callS (As := [.int (v1 &&& (1048575 : Int32))]) (rest := []) C (c_M_isName l (v1 &&& (1048575 : Int32)) x10 h11) cf_M_isName tb_476 (by decide) rfl hl.1 rfl (Nat.le_of_ble_eq_true rfl) d_M_isData_57 ?_
        refine lv_if_eq hx hb d_M_isData_60 (tgt := 67) (by decide) (fun h12 => ?_) (fun h12 => ?_)
        · have hf := it_t h12 hf
          refine lv_iconst (v := (0 : Int32)) hx hb d_M_isData_67 (by decide) ?_
          exact hret _ _ _ d_M_isData_68 (by decide) (Option.some.inj hf)
        · have hf := it_f h12 hf
          refine lv_iconst (v := (1 : Int32)) hx hb d_M_isData_63 (by decide) ?_
          refine lv_goto hx hb d_M_isData_64 (tgt := 68) (by decide) ?_
          exact hret _ _ _ d_M_isData_68 (by decide) (Option.some.inj hf)
  have hf := it_f h7 hf
  have h1T := lv_neT (a := 3) h1 (by decide)
  have h3T := lv_neT (a := 4) h3 (by decide)
  have h7T := lv_neT (a := 5) h7 (by decide)
  refine lv_tableOut hx hb d_M_isData_1 (by omega) (tgt := 69) (by decide) ?_
  refine lv_iconst (v := (1 : Int32)) hx hb d_M_isData_69 (by decide) ?_
  exact hret _ _ _ d_M_isData_70 (by decide) (Option.some.inj hf)
