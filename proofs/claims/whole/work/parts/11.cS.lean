def L_Na_isName_17 (v0 : Int32) (v1 : Int32) (v2 : Int32) : Option ((Int32 × Int32) ⊕ Int32) := (if v2 < (0 : Int32) then zup (some (1 : Int32)) else znm ((v0 >>> (v2 &&& (31 : Int32))) &&& (31 : Int32)) (fun y2 => (if (27 : Int32) < y2 then zup (some (0 : Int32)) else (if v1 = (0 : Int32) then (if y2 = (0 : Int32) then some (Sum.inl ((1 : Int32), (v2 + (-5 : Int32)))) else some (Sum.inl ((0 : Int32), (v2 + (-5 : Int32))))) else (if y2 = (0 : Int32) then (if y2 = (0 : Int32) then some (Sum.inl ((1 : Int32), (v2 + (-5 : Int32)))) else some (Sum.inl ((0 : Int32), (v2 + (-5 : Int32))))) else zup (some (0 : Int32)))))))
def LS_Na_isName_17 (v0 : Int32) (v : (Int32 × Int32)) : Option ((Int32 × Int32) ⊕ Int32) := L_Na_isName_17 v0 v.1 v.2
def f_Na_isName (v0 : Int32) : Option Int32 := (if v0 < (0 : Int32) then some (0 : Int32) else (if v0 < (1048576 : Int32) then zit (LS_Na_isName_17 v0) 64 ((0 : Int32), (15 : Int32)) else some (0 : Int32)))
set_option maxHeartbeats 4000000 in
set_option maxRecDepth 100000 in
theorem c_Na_isName (l : Launch) (v0 : Int32) (o0 : Int32) (hf : f_Na_isName v0 = some o0) : MetSI l y_Na_isName b_Na_isName 4 (some .boolean) 0 [.int v0] o0 := by
  refine mkSZ (by decide) (Nat.le_of_ble_eq_true rfl) ?_
  intro p e R s m args below meth c ls Q C hl hret0
  replace C : Cw p m c b_Na_isName 4 s args "TrustResolver$Names" R 0 := C
  have hx := C.1
  have hb := C.2.1
  replace hl : lv_has ls 4 [(0, .int v0)] := hl
  have hret := hret0
  clear hret0
  unfold f_Na_isName at hf
  have LP_17 : ∀ (v0 : Int32) (n : Nat) (v1 : Int32) (v2 : Int32) (ls : Array Slot) , lv_has ls 4 [(0, .int v0), (1, .int v1), (2, .int v2)] → zit (LS_Na_isName_17 v0) n (v1, v2) = some o0 → W p l e R s m args below meth c s.heap [] 0 0 Q (F0 m 17 ls []) := by
    intro v0 n
    induction n with
    | zero => intro v1 v2 ls hl hf; exact zit_0 hf
    | succ n ih1 =>
      intro v1 v2 ls hl hf
      obtain ⟨o1, hf, hk1⟩ := zit_s hf
      have hf : L_Na_isName_17 v0 v1 v2 = some o1 := hf
      unfold L_Na_isName_17 at hf
      refine lv_iload_n hx hb d_Na_isName_17 rfl (lv_at hl 2 rfl) ?_
      refine lv_if_lt hx hb d_Na_isName_18 (tgt := 60) (by decide) (fun h1 => ?_) (fun h1 => ?_)
      · have hf := it_t h1 hf
        have hf := zup_k hf hk1
        refine lv_iconst (v := (1 : Int32)) hx hb d_Na_isName_60 (by decide) ?_
        exact hret _ _ _ d_Na_isName_61 (by decide) (Option.some.inj hf)
      · have hf := it_f h1 hf
        refine lv_iload_n hx hb d_Na_isName_21 rfl (lv_at hl 0 rfl) ?_
        refine lv_iload_n hx hb d_Na_isName_22 rfl (lv_at hl 2 rfl) ?_
        refine lv_ishr hx hb d_Na_isName_23 ?_
        refine lv_bipush (v := (31 : Int32)) hx hb d_Na_isName_24 (by decide) ?_
        refine lv_iand hx hb d_Na_isName_26 ?_
        refine lv_topi (fun y2 e3 => ?_)
        have hf := znm_to e3 hf
        refine lv_istore_n (lv' := [(3, .int y2), (0, .int v0), (1, .int v1), (2, .int v2)]) hx hb d_Na_isName_27 rfl hl (by decide) rfl (fun ls hl => ?_)
        refine lv_iload_n hx hb d_Na_isName_28 rfl (lv_at hl 0 rfl) ?_
        refine lv_bipush (v := (27 : Int32)) hx hb d_Na_isName_29 (by decide) ?_
        refine lv_icmp_gt hx hb d_Na_isName_31 (tgt := 42) (by decide) (fun h4 => ?_) (fun h4 => ?_)
        · have hf := it_t h4 hf
          have hf := zup_k hf hk1
          refine lv_iconst (v := (0 : Int32)) hx hb d_Na_isName_42 (by decide) ?_
          exact hret _ _ _ d_Na_isName_43 (by decide) (Option.some.inj hf)
        · have hf := it_f h4 hf
          refine lv_iload_n hx hb d_Na_isName_34 rfl (lv_at hl 2 rfl) ?_
          refine lv_if_eq hx hb d_Na_isName_35 (tgt := 44) (by decide) (fun h5 => ?_) (fun h5 => ?_)
          · have hf := it_t h5 hf
            refine lv_iload_n hx hb d_Na_isName_44 rfl (lv_at hl 0 rfl) ?_
            refine lv_if_ne hx hb d_Na_isName_45 (tgt := 52) (by decide) (fun h6 => ?_) (fun h6 => ?_)
            · have hf := it_f h6 hf
              refine lv_iconst (v := (0 : Int32)) hx hb d_Na_isName_52 (by decide) ?_
              refine lv_istore_n (lv' := [(1, .int (0 : Int32)), (3, .int y2), (0, .int v0), (2, .int v2)]) hx hb d_Na_isName_53 rfl hl (by decide) rfl (fun ls hl => ?_)
              refine lv_iinc (k := 3) (v := (v2 + (-5 : Int32))) (lv' := [(2, .int (v2 + (-5 : Int32))), (1, .int (0 : Int32)), (3, .int y2), (0, .int v0)]) hx hb d_Na_isName_54 hl rfl (ii (by decide) _) (by decide) rfl (fun ls hl => ?_)
              refine lv_goto hx hb d_Na_isName_57 (tgt := 17) (by decide) ?_
              exact ih1 (0 : Int32) (v2 + (-5 : Int32)) _ (lv_sub hl [3, 1, 0] rfl) (znx_l hf hk1)
            · have hf := it_t h6 hf
              refine lv_iconst (v := (1 : Int32)) hx hb d_Na_isName_48 (by decide) ?_
              refine lv_goto hx hb d_Na_isName_49 (tgt := 53) (by decide) ?_
              refine lv_istore_n (lv' := [(1, .int (1 : Int32)), (3, .int y2), (0, .int v0), (2, .int v2)]) hx hb d_Na_isName_53 rfl hl (by decide) rfl (fun ls hl => ?_)
              refine lv_iinc (k := 3) (v := (v2 + (-5 : Int32))) (lv' := [(2, .int (v2 + (-5 : Int32))), (1, .int (1 : Int32)), (3, .int y2), (0, .int v0)]) hx hb d_Na_isName_54 hl rfl (ii (by decide) _) (by decide) rfl (fun ls hl => ?_)
              refine lv_goto hx hb d_Na_isName_57 (tgt := 17) (by decide) ?_
              exact ih1 (1 : Int32) (v2 + (-5 : Int32)) _ (lv_sub hl [3, 1, 0] rfl) (znx_l hf hk1)
          · have hf := it_f h5 hf
            refine lv_iload_n hx hb d_Na_isName_38 rfl (lv_at hl 0 rfl) ?_
            refine lv_if_eq hx hb d_Na_isName_39 (tgt := 44) (by decide) (fun h7 => ?_) (fun h7 => ?_)
            · have hf := it_t h7 hf
              refine lv_iload_n hx hb d_Na_isName_44 rfl (lv_at hl 0 rfl) ?_
              refine lv_if_ne hx hb d_Na_isName_45 (tgt := 52) (by decide) (fun h8 => ?_) (fun h8 => ?_)
              · have hf := it_f h8 hf
                refine lv_iconst (v := (0 : Int32)) hx hb d_Na_isName_52 (by decide) ?_
                refine lv_istore_n (lv' := [(1, .int (0 : Int32)), (3, .int y2), (0, .int v0), (2, .int v2)]) hx hb d_Na_isName_53 rfl hl (by decide) rfl (fun ls hl => ?_)
                refine lv_iinc (k := 3) (v := (v2 + (-5 : Int32))) (lv' := [(2, .int (v2 + (-5 : Int32))), (1, .int (0 : Int32)), (3, .int y2), (0, .int v0)]) hx hb d_Na_isName_54 hl rfl (ii (by decide) _) (by decide) rfl (fun ls hl => ?_)
                refine lv_goto hx hb d_Na_isName_57 (tgt := 17) (by decide) ?_
                exact ih1 (0 : Int32) (v2 + (-5 : Int32)) _ (lv_sub hl [3, 1, 0] rfl) (znx_l hf hk1)
              · have hf := it_t h8 hf
                refine lv_iconst (v := (1 : Int32)) hx hb d_Na_isName_48 (by decide) ?_
                refine lv_goto hx hb d_Na_isName_49 (tgt := 53) (by decide) ?_
                refine lv_istore_n (lv' := [(1, .int (1 : Int32)), (3, .int y2), (0, .int v0), (2, .int v2)]) hx hb d_Na_isName_53 rfl hl (by decide) rfl (fun ls hl => ?_)
                refine lv_iinc (k := 3) (v := (v2 + (-5 : Int32))) (lv' := [(2, .int (v2 + (-5 : Int32))), (1, .int (1 : Int32)), (3, .int y2), (0, .int v0)]) hx hb d_Na_isName_54 hl rfl (ii (by decide) _) (by decide) rfl (fun ls hl => ?_)
                refine lv_goto hx hb d_Na_isName_57 (tgt := 17) (by decide) ?_
                exact ih1 (1 : Int32) (v2 + (-5 : Int32)) _ (lv_sub hl [3, 1, 0] rfl) (znx_l hf hk1)
            · have hf := it_f h7 hf
              have hf := zup_k hf hk1
              refine lv_iconst (v := (0 : Int32)) hx hb d_Na_isName_42 (by decide) ?_
              exact hret _ _ _ d_Na_isName_43 (by decide) (Option.some.inj hf)
  refine lv_iload_n hx hb d_Na_isName_0 rfl (lv_at hl 0 rfl) ?_
  refine lv_if_lt hx hb d_Na_isName_1 (tgt := 10) (by decide) (fun h9 => ?_) (fun h9 => ?_)
  · have hf := it_t h9 hf
    refine lv_iconst (v := (0 : Int32)) hx hb d_Na_isName_10 (by decide) ?_
    exact hret _ _ _ d_Na_isName_11 (by decide) (Option.some.inj hf)
  · have hf := it_f h9 hf
    refine lv_iload_n hx hb d_Na_isName_4 rfl (lv_at hl 0 rfl) ?_
    refine lv_ldc (v := (1048576 : Int32)) hx hb C.2.2.2.1 (C.2.2.2.2.1 _ tb_133) d_Na_isName_5 ?_
    refine lv_icmp_lt hx hb d_Na_isName_7 (tgt := 12) (by decide) (fun h10 => ?_) (fun h10 => ?_)
    · have hf := it_t h10 hf
      refine lv_iconst (v := (0 : Int32)) hx hb d_Na_isName_12 (by decide) ?_
      refine lv_istore_n (lv' := [(1, .int (0 : Int32)), (0, .int v0)]) hx hb d_Na_isName_13 rfl hl (by decide) rfl (fun ls hl => ?_)
      refine lv_bipush (v := (15 : Int32)) hx hb d_Na_isName_14 (by decide) ?_
      refine lv_istore_n (lv' := [(2, .int (15 : Int32)), (1, .int (0 : Int32)), (0, .int v0)]) hx hb d_Na_isName_16 rfl hl (by decide) rfl (fun ls hl => ?_)
      exact LP_17 v0 64 (0 : Int32) (15 : Int32) _ (lv_sub hl [2, 1, 0] rfl) hf
    · have hf := it_f h10 hf
      refine lv_iconst (v := (0 : Int32)) hx hb d_Na_isName_10 (by decide) ?_
      exact hret _ _ _ d_Na_isName_11 (by decide) (Option.some.inj hf)
def L_Na_depth_5 (v0 : Int32) (v1 : Int32) (v2 : Int32) : Option ((Int32 × Int32) ⊕ Int32) := (if v2 < (0 : Int32) then zup (some v1) else (if ((v0 >>> (v2 &&& (31 : Int32))) &&& (31 : Int32)) = (0 : Int32) then some (Sum.inl (v1, (v2 + (-5 : Int32)))) else some (Sum.inl ((v1 + (1 : Int32)), (v2 + (-5 : Int32))))))
def LS_Na_depth_5 (v0 : Int32) (v : (Int32 × Int32)) : Option ((Int32 × Int32) ⊕ Int32) := L_Na_depth_5 v0 v.1 v.2
def f_Na_depth (v0 : Int32) : Option Int32 := zit (LS_Na_depth_5 v0) 64 ((0 : Int32), (15 : Int32))
set_option maxHeartbeats 4000000 in
set_option maxRecDepth 100000 in
theorem c_Na_depth (l : Launch) (v0 : Int32) (o0 : Int32) (hf : f_Na_depth v0 = some o0) : MetSI l y_Na_depth b_Na_depth 3 (some .int) 0 [.int v0] o0 := by
  refine mkSI (by decide) (Nat.le_of_ble_eq_true rfl) ?_
  intro p e R s m args below meth c ls Q C hl hret0
  replace C : Cw p m c b_Na_depth 3 s args "TrustResolver$Names" R 0 := C
  have hx := C.1
  have hb := C.2.1
  replace hl : lv_has ls 3 [(0, .int v0)] := hl
  have hret := hret0
  clear hret0
  unfold f_Na_depth at hf
  have LP_5 : ∀ (v0 : Int32) (n : Nat) (v1 : Int32) (v2 : Int32) (ls : Array Slot) , lv_has ls 3 [(0, .int v0), (1, .int v1), (2, .int v2)] → zit (LS_Na_depth_5 v0) n (v1, v2) = some o0 → W p l e R s m args below meth c s.heap [] 0 0 Q (F0 m 5 ls []) := by
    intro v0 n
    induction n with
    | zero => intro v1 v2 ls hl hf; exact zit_0 hf
    | succ n ih1 =>
      intro v1 v2 ls hl hf
      obtain ⟨o1, hf, hk1⟩ := zit_s hf
      have hf : L_Na_depth_5 v0 v1 v2 = some o1 := hf
      unfold L_Na_depth_5 at hf
      refine lv_iload_n hx hb d_Na_depth_5 rfl (lv_at hl 2 rfl) ?_
      refine lv_if_lt hx hb d_Na_depth_6 (tgt := 27) (by decide) (fun h1 => ?_) (fun h1 => ?_)
      · have hf := it_t h1 hf
        have hf := zup_k hf hk1
        refine lv_iload_n hx hb d_Na_depth_27 rfl (lv_at hl 1 rfl) ?_
        exact hret _ _ _ d_Na_depth_28 (Option.some.inj hf)
      · have hf := it_f h1 hf
        refine lv_iload_n hx hb d_Na_depth_9 rfl (lv_at hl 0 rfl) ?_
        refine lv_iload_n hx hb d_Na_depth_10 rfl (lv_at hl 2 rfl) ?_
        refine lv_ishr hx hb d_Na_depth_11 ?_
        refine lv_bipush (v := (31 : Int32)) hx hb d_Na_depth_12 (by decide) ?_
        refine lv_iand hx hb d_Na_depth_14 ?_
        refine lv_if_eq hx hb d_Na_depth_15 (tgt := 21) (by decide) (fun h2 => ?_) (fun h2 => ?_)
        · have hf := it_t h2 hf
          refine lv_iinc (k := 2) (v := (v2 + (-5 : Int32))) (lv' := [(2, .int (v2 + (-5 : Int32))), (0, .int v0), (1, .int v1)]) hx hb d_Na_depth_21 hl rfl (ii (by decide) _) (by decide) rfl (fun ls hl => ?_)
          refine lv_goto hx hb d_Na_depth_24 (tgt := 5) (by decide) ?_
          exact ih1 v1 (v2 + (-5 : Int32)) _ (lv_sub hl [1, 2, 0] rfl) (znx_l hf hk1)
        · have hf := it_f h2 hf
          refine lv_iinc (k := 1) (v := (v1 + (1 : Int32))) (lv' := [(1, .int (v1 + (1 : Int32))), (0, .int v0), (2, .int v2)]) hx hb d_Na_depth_18 hl rfl (ii (by decide) _) (by decide) rfl (fun ls hl => ?_)
          refine lv_iinc (k := 2) (v := (v2 + (-5 : Int32))) (lv' := [(2, .int (v2 + (-5 : Int32))), (1, .int (v1 + (1 : Int32))), (0, .int v0)]) hx hb d_Na_depth_21 hl rfl (ii (by decide) _) (by decide) rfl (fun ls hl => ?_)
          refine lv_goto hx hb d_Na_depth_24 (tgt := 5) (by decide) ?_
          exact ih1 (v1 + (1 : Int32)) (v2 + (-5 : Int32)) _ (lv_sub hl [2, 1, 0] rfl) (znx_l hf hk1)
  refine lv_iconst (v := (0 : Int32)) hx hb d_Na_depth_0 (by decide) ?_
  refine lv_istore_n (lv' := [(1, .int (0 : Int32)), (0, .int v0)]) hx hb d_Na_depth_1 rfl hl (by decide) rfl (fun ls hl => ?_)
  refine lv_bipush (v := (15 : Int32)) hx hb d_Na_depth_2 (by decide) ?_
  refine lv_istore_n (lv' := [(2, .int (15 : Int32)), (1, .int (0 : Int32)), (0, .int v0)]) hx hb d_Na_depth_4 rfl hl (by decide) rfl (fun ls hl => ?_)
  exact LP_5 v0 64 (0 : Int32) (15 : Int32) _ (lv_sub hl [2, 1, 0] rfl) hf
def f_Na_firstLabels (v0 : Int32) (v1 : Int32) : Option Int32 := some ((v0 >>> (((20 : Int32) - ((5 : Int32) * v1)) &&& (31 : Int32))) <<< (((20 : Int32) - ((5 : Int32) * v1)) &&& (31 : Int32)))
set_option maxHeartbeats 4000000 in
set_option maxRecDepth 100000 in
theorem c_Na_firstLabels (l : Launch) (v0 : Int32) (v1 : Int32) (o0 : Int32) (hf : f_Na_firstLabels v0 v1 = some o0) : MetSI l y_Na_firstLabels b_Na_firstLabels 3 (some .int) 0 [.int v0, .int v1] o0 := by
  refine mkSI (by decide) (Nat.le_of_ble_eq_true rfl) ?_
  intro p e R s m args below meth c ls Q C hl hret0
  replace C : Cw p m c b_Na_firstLabels 3 s args "TrustResolver$Names" R 0 := C
  have hx := C.1
  have hb := C.2.1
  replace hl : lv_has ls 3 [(0, .int v0), (1, .int v1)] := hl
  have hret := hret0
  clear hret0
  unfold f_Na_firstLabels at hf
  refine lv_bipush (v := (20 : Int32)) hx hb d_Na_firstLabels_0 (by decide) ?_
  refine lv_iconst (v := (5 : Int32)) hx hb d_Na_firstLabels_2 (by decide) ?_
  refine lv_iload_n hx hb d_Na_firstLabels_3 rfl (lv_at hl 1 rfl) ?_
  refine lv_imul hx hb d_Na_firstLabels_4 ?_
  refine lv_isub hx hb d_Na_firstLabels_5 ?_
  refine lv_istore_n (lv' := [(2, .int ((20 : Int32) - ((5 : Int32) * v1))), (0, .int v0), (1, .int v1)]) hx hb d_Na_firstLabels_6 rfl hl (by decide) rfl (fun ls hl => ?_)
  refine lv_iload_n hx hb d_Na_firstLabels_7 rfl (lv_at hl 1 rfl) ?_
  refine lv_iload_n hx hb d_Na_firstLabels_8 rfl (lv_at hl 0 rfl) ?_
  refine lv_ishr hx hb d_Na_firstLabels_9 ?_
  refine lv_iload_n hx hb d_Na_firstLabels_10 rfl (lv_at hl 0 rfl) ?_
  refine lv_ishl hx hb d_Na_firstLabels_11 ?_
  exact hret _ _ _ d_Na_firstLabels_12 (Option.some.inj hf)
def f_Na_isOrAbove (v0 : Int32) (v1 : Int32) : Option Int32 := Option.bind (f_Na_depth v0) (fun x1 => Option.bind (f_Na_firstLabels v1 x1) (fun x3 => (if x3 = v0 then some (1 : Int32) else some (0 : Int32))))
set_option maxHeartbeats 4000000 in
set_option maxRecDepth 100000 in
theorem c_Na_isOrAbove (l : Launch) (v0 : Int32) (v1 : Int32) (o0 : Int32) (hf : f_Na_isOrAbove v0 v1 = some o0) : MetSI l y_Na_isOrAbove b_Na_isOrAbove 2 (some .boolean) 1 [.int v0, .int v1] o0 := by
  refine mkSZ (by decide) (Nat.le_of_ble_eq_true rfl) ?_
  intro p e R s m args below meth c ls Q C hl hret0
  replace C : Cw p m c b_Na_isOrAbove 2 s args "TrustResolver$Names" R 1 := C
  have hx := C.1
  have hb := C.2.1
  replace hl : lv_has ls 2 [(0, .int v0), (1, .int v1)] := hl
  have hret := hret0
  clear hret0
  unfold f_Na_isOrAbove at hf
  refine lv_iload_n hx hb d_Na_isOrAbove_0 rfl (lv_at hl 1 rfl) ?_
  refine lv_iload_n hx hb d_Na_isOrAbove_1 rfl (lv_at hl 0 rfl) ?_
  obtain ⟨x1, h2, hf⟩ := bd_some hf
  refine w_callS (As := [.int v0]) (rest := [.int v1]) C (c_Na_depth l v0 x1 h2) cf_Na_depth tb_212 (by decide) rfl hl.1 rfl (Nat.le_of_ble_eq_true rfl) d_Na_isOrAbove_2 ?_
  obtain ⟨x3, h4, hf⟩ := bd_some hf
  refine w_callS (As := [.int v1, .int x1]) (rest := []) C (c_Na_firstLabels l v1 x1 x3 h4) cf_Na_firstLabels tb_281 (by decide) rfl hl.1 rfl (Nat.le_of_ble_eq_true rfl) d_Na_isOrAbove_5 ?_
  refine lv_iload_n hx hb d_Na_isOrAbove_8 rfl (lv_at hl 0 rfl) ?_
  refine lv_icmp_ne hx hb d_Na_isOrAbove_9 (tgt := 16) (by decide) (fun h5 => ?_) (fun h5 => ?_)
  · have hf := it_f h5 hf
    refine lv_iconst (v := (0 : Int32)) hx hb d_Na_isOrAbove_16 (by decide) ?_
    exact hret _ _ _ d_Na_isOrAbove_17 (by decide) (Option.some.inj hf)
  · have hf := it_t h5 hf
    refine lv_iconst (v := (1 : Int32)) hx hb d_Na_isOrAbove_12 (by decide) ?_
    refine lv_goto hx hb d_Na_isOrAbove_13 (tgt := 17) (by decide) ?_
    exact hret _ _ _ d_Na_isOrAbove_17 (by decide) (Option.some.inj hf)
def f_Na_starOf (v0 : Int32) : Option Int32 := Option.bind (f_Na_depth v0) (fun x1 => some (v0 ||| ((1 : Int32) <<< (((15 : Int32) - ((5 : Int32) * x1)) &&& (31 : Int32)))))
set_option maxHeartbeats 4000000 in
set_option maxRecDepth 100000 in
theorem c_Na_starOf (l : Launch) (v0 : Int32) (o0 : Int32) (hf : f_Na_starOf v0 = some o0) : MetSI l y_Na_starOf b_Na_starOf 1 (some .int) 1 [.int v0] o0 := by
  refine mkSI (by decide) (Nat.le_of_ble_eq_true rfl) ?_
  intro p e R s m args below meth c ls Q C hl hret0
  replace C : Cw p m c b_Na_starOf 1 s args "TrustResolver$Names" R 1 := C
  have hx := C.1
  have hb := C.2.1
  replace hl : lv_has ls 1 [(0, .int v0)] := hl
  have hret := hret0
  clear hret0
  unfold f_Na_starOf at hf
  refine lv_iload_n hx hb d_Na_starOf_0 rfl (lv_at hl 0 rfl) ?_
  refine lv_iconst (v := (1 : Int32)) hx hb d_Na_starOf_1 (by decide) ?_
  refine lv_bipush (v := (15 : Int32)) hx hb d_Na_starOf_2 (by decide) ?_
  refine lv_iconst (v := (5 : Int32)) hx hb d_Na_starOf_4 (by decide) ?_
  refine lv_iload_n hx hb d_Na_starOf_5 rfl (lv_at hl 0 rfl) ?_
  obtain ⟨x1, h2, hf⟩ := bd_some hf
  refine w_callS (As := [.int v0]) (rest := [.int (5 : Int32), .int (15 : Int32), .int (1 : Int32), .int v0]) C (c_Na_depth l v0 x1 h2) cf_Na_depth tb_212 (by decide) rfl hl.1 rfl (Nat.le_of_ble_eq_true rfl) d_Na_starOf_6 ?_
  refine lv_imul hx hb d_Na_starOf_9 ?_
  refine lv_isub hx hb d_Na_starOf_10 ?_
  refine lv_ishl hx hb d_Na_starOf_11 ?_
  refine lv_ior hx hb d_Na_starOf_12 ?_
  exact hret _ _ _ d_Na_starOf_13 (Option.some.inj hf)
def f_Na_setOf (v0 : Int32) (v1 : Int32) : Option Int32 := some ((v0 <<< ((3 : Int32) &&& (31 : Int32))) ||| v1)
set_option maxHeartbeats 4000000 in
set_option maxRecDepth 100000 in
theorem c_Na_setOf (l : Launch) (v0 : Int32) (v1 : Int32) (o0 : Int32) (hf : f_Na_setOf v0 v1 = some o0) : MetSI l y_Na_setOf b_Na_setOf 2 (some .int) 0 [.int v0, .int v1] o0 := by
  refine mkSI (by decide) (Nat.le_of_ble_eq_true rfl) ?_
  intro p e R s m args below meth c ls Q C hl hret0
  replace C : Cw p m c b_Na_setOf 2 s args "TrustResolver$Names" R 0 := C
  have hx := C.1
  have hb := C.2.1
  replace hl : lv_has ls 2 [(0, .int v0), (1, .int v1)] := hl
  have hret := hret0
  clear hret0
  unfold f_Na_setOf at hf
  refine lv_iload_n hx hb d_Na_setOf_0 rfl (lv_at hl 0 rfl) ?_
  refine lv_iconst (v := (3 : Int32)) hx hb d_Na_setOf_1 (by decide) ?_
  refine lv_ishl hx hb d_Na_setOf_2 ?_
  refine lv_iload_n hx hb d_Na_setOf_3 rfl (lv_at hl 1 rfl) ?_
  refine lv_ior hx hb d_Na_setOf_4 ?_
  exact hret _ _ _ d_Na_setOf_5 (Option.some.inj hf)
def f_Na_ownerOf (v0 : Int32) : Option Int32 := some (v0 >>> ((3 : Int32) &&& (31 : Int32)))
set_option maxHeartbeats 4000000 in
set_option maxRecDepth 100000 in
theorem c_Na_ownerOf (l : Launch) (v0 : Int32) (o0 : Int32) (hf : f_Na_ownerOf v0 = some o0) : MetSI l y_Na_ownerOf b_Na_ownerOf 1 (some .int) 0 [.int v0] o0 := by
  refine mkSI (by decide) (Nat.le_of_ble_eq_true rfl) ?_
  intro p e R s m args below meth c ls Q C hl hret0
  replace C : Cw p m c b_Na_ownerOf 1 s args "TrustResolver$Names" R 0 := C
  have hx := C.1
  have hb := C.2.1
  replace hl : lv_has ls 1 [(0, .int v0)] := hl
  have hret := hret0
  clear hret0
  unfold f_Na_ownerOf at hf
  refine lv_iload_n hx hb d_Na_ownerOf_0 rfl (lv_at hl 0 rfl) ?_
  refine lv_iconst (v := (3 : Int32)) hx hb d_Na_ownerOf_1 (by decide) ?_
  refine lv_ishr hx hb d_Na_ownerOf_2 ?_
  exact hret _ _ _ d_Na_ownerOf_3 (Option.some.inj hf)
def f_Na_typeOf (v0 : Int32) : Option Int32 := some (v0 &&& (7 : Int32))
set_option maxHeartbeats 4000000 in
set_option maxRecDepth 100000 in
theorem c_Na_typeOf (l : Launch) (v0 : Int32) (o0 : Int32) (hf : f_Na_typeOf v0 = some o0) : MetSI l y_Na_typeOf b_Na_typeOf 1 (some .int) 0 [.int v0] o0 := by
  refine mkSI (by decide) (Nat.le_of_ble_eq_true rfl) ?_
  intro p e R s m args below meth c ls Q C hl hret0
  replace C : Cw p m c b_Na_typeOf 1 s args "TrustResolver$Names" R 0 := C
  have hx := C.1
  have hb := C.2.1
  replace hl : lv_has ls 1 [(0, .int v0)] := hl
  have hret := hret0
  clear hret0
  unfold f_Na_typeOf at hf
  refine lv_iload_n hx hb d_Na_typeOf_0 rfl (lv_at hl 0 rfl) ?_
  refine lv_bipush (v := (7 : Int32)) hx hb d_Na_typeOf_1 (by decide) ?_
  refine lv_iand hx hb d_Na_typeOf_3 ?_
  exact hret _ _ _ d_Na_typeOf_4 (Option.some.inj hf)
def f_To_nameIn (v0 : Int32) : Option Int32 := some (v0 &&& (1048575 : Int32))
set_option maxHeartbeats 4000000 in
set_option maxRecDepth 100000 in
theorem c_To_nameIn (l : Launch) (v0 : Int32) (o0 : Int32) (hf : f_To_nameIn v0 = some o0) : MetSI l y_To_nameIn b_To_nameIn 1 (some .int) 0 [.int v0] o0 := by
  refine mkSI (by decide) (Nat.le_of_ble_eq_true rfl) ?_
  intro p e R s m args below meth c ls Q C hl hret0
  replace C : Cw p m c b_To_nameIn 1 s args "TrustResolver$Told" R 0 := C
  have hx := C.1
  have hb := C.2.1
  replace hl : lv_has ls 1 [(0, .int v0)] := hl
  have hret := hret0
  clear hret0
  unfold f_To_nameIn at hf
  refine lv_iload_n hx hb d_To_nameIn_0 rfl (lv_at hl 0 rfl) ?_
  refine lv_ldc (v := (1048575 : Int32)) hx hb C.2.2.2.1 (C.2.2.2.2.1 _ tb_151) d_To_nameIn_1 ?_
  refine lv_iand hx hb d_To_nameIn_3 ?_
  exact hret _ _ _ d_To_nameIn_4 (Option.some.inj hf)
def f_To_isTold (v0 : Int32) : Option Int32 := (if v0 < (0 : Int32) then some (0 : Int32) else (if (33554432 : Int32) ≤ v0 then some (0 : Int32) else Option.bind (f_To_nameIn v0) (fun x3 => Option.bind (f_Na_isName x3) (fun x5 => (if x5 = (0 : Int32) then some (0 : Int32) else some (1 : Int32))))))
set_option maxHeartbeats 4000000 in
set_option maxRecDepth 100000 in
theorem c_To_isTold (l : Launch) (v0 : Int32) (o0 : Int32) (hf : f_To_isTold v0 = some o0) : MetSI l y_To_isTold b_To_isTold 1 (some .boolean) 1 [.int v0] o0 := by
  refine mkSZ (by decide) (Nat.le_of_ble_eq_true rfl) ?_
  intro p e R s m args below meth c ls Q C hl hret0
  replace C : Cw p m c b_To_isTold 1 s args "TrustResolver$Told" R 1 := C
  have hx := C.1
  have hb := C.2.1
  replace hl : lv_has ls 1 [(0, .int v0)] := hl
  have hret := hret0
  clear hret0
  unfold f_To_isTold at hf
  refine lv_iload_n hx hb d_To_isTold_0 rfl (lv_at hl 0 rfl) ?_
  refine lv_if_lt hx hb d_To_isTold_1 (tgt := 24) (by decide) (fun h1 => ?_) (fun h1 => ?_)
  · have hf := it_t h1 hf
    refine lv_iconst (v := (0 : Int32)) hx hb d_To_isTold_24 (by decide) ?_
    exact hret _ _ _ d_To_isTold_25 (by decide) (Option.some.inj hf)
  · have hf := it_f h1 hf
    refine lv_iload_n hx hb d_To_isTold_4 rfl (lv_at hl 0 rfl) ?_
    refine lv_ldc (v := (33554432 : Int32)) hx hb C.2.2.2.1 (C.2.2.2.2.1 _ tb_147) d_To_isTold_5 ?_
    refine lv_icmp_ge hx hb d_To_isTold_7 (tgt := 24) (by decide) (fun h2 => ?_) (fun h2 => ?_)
    · have hf := it_t h2 hf
      refine lv_iconst (v := (0 : Int32)) hx hb d_To_isTold_24 (by decide) ?_
      exact hret _ _ _ d_To_isTold_25 (by decide) (Option.some.inj hf)
    · have hf := it_f h2 hf
      refine lv_iload_n hx hb d_To_isTold_10 rfl (lv_at hl 0 rfl) ?_
      obtain ⟨x3, h4, hf⟩ := bd_some hf
      refine w_callS (As := [.int v0]) (rest := []) C (c_To_nameIn l v0 x3 h4) cf_To_nameIn tb_148 (by decide) rfl hl.1 rfl (Nat.le_of_ble_eq_true rfl) d_To_isTold_11 ?_
      obtain ⟨x5, h6, hf⟩ := bd_some hf
      refine w_callS (As := [.int x3]) (rest := []) C (c_Na_isName l x3 x5 h6) cf_Na_isName tb_152 (by decide) rfl hl.1 rfl (Nat.le_of_ble_eq_true rfl) d_To_isTold_14 ?_
      refine lv_if_eq hx hb d_To_isTold_17 (tgt := 24) (by decide) (fun h7 => ?_) (fun h7 => ?_)
      · have hf := it_t h7 hf
        refine lv_iconst (v := (0 : Int32)) hx hb d_To_isTold_24 (by decide) ?_
        exact hret _ _ _ d_To_isTold_25 (by decide) (Option.some.inj hf)
      · have hf := it_f h7 hf
        refine lv_iconst (v := (1 : Int32)) hx hb d_To_isTold_20 (by decide) ?_
        refine lv_goto hx hb d_To_isTold_21 (tgt := 25) (by decide) ?_
        exact hret _ _ _ d_To_isTold_25 (by decide) (Option.some.inj hf)
def f_To_hasType (v0 : Int32) (v1 : Int32) : Option Int32 := (if ((v0 >>> ((((20 : Int32) + v1) - (1 : Int32)) &&& (31 : Int32))) &&& (1 : Int32)) = (0 : Int32) then some (0 : Int32) else some (1 : Int32))
set_option maxHeartbeats 4000000 in
set_option maxRecDepth 100000 in
theorem c_To_hasType (l : Launch) (v0 : Int32) (v1 : Int32) (o0 : Int32) (hf : f_To_hasType v0 v1 = some o0) : MetSI l y_To_hasType b_To_hasType 2 (some .boolean) 0 [.int v0, .int v1] o0 := by
  refine mkSZ (by decide) (Nat.le_of_ble_eq_true rfl) ?_
  intro p e R s m args below meth c ls Q C hl hret0
  replace C : Cw p m c b_To_hasType 2 s args "TrustResolver$Told" R 0 := C
  have hx := C.1
  have hb := C.2.1
  replace hl : lv_has ls 2 [(0, .int v0), (1, .int v1)] := hl
  have hret := hret0
  clear hret0
  unfold f_To_hasType at hf
  refine lv_iload_n hx hb d_To_hasType_0 rfl (lv_at hl 0 rfl) ?_
  refine lv_bipush (v := (20 : Int32)) hx hb d_To_hasType_1 (by decide) ?_
  refine lv_iload_n hx hb d_To_hasType_3 rfl (lv_at hl 1 rfl) ?_
  refine lv_iadd hx hb d_To_hasType_4 ?_
  refine lv_iconst (v := (1 : Int32)) hx hb d_To_hasType_5 (by decide) ?_
  refine lv_isub hx hb d_To_hasType_6 ?_
  refine lv_ishr hx hb d_To_hasType_7 ?_
  refine lv_iconst (v := (1 : Int32)) hx hb d_To_hasType_8 (by decide) ?_
  refine lv_iand hx hb d_To_hasType_9 ?_
  refine lv_if_eq hx hb d_To_hasType_10 (tgt := 17) (by decide) (fun h1 => ?_) (fun h1 => ?_)
  · have hf := it_t h1 hf
    refine lv_iconst (v := (0 : Int32)) hx hb d_To_hasType_17 (by decide) ?_
    exact hret _ _ _ d_To_hasType_18 (by decide) (Option.some.inj hf)
  · have hf := it_f h1 hf
    refine lv_iconst (v := (1 : Int32)) hx hb d_To_hasType_13 (by decide) ?_
    refine lv_goto hx hb d_To_hasType_14 (tgt := 18) (by decide) ?_
    exact hret _ _ _ d_To_hasType_18 (by decide) (Option.some.inj hf)
def f_Di_mix (v0 : Int64) (v2 : Int32) : Option Int64 := znm ((v0 ^^^ (Int32.toInt64 v2)) * (-7046029254386353131 : Int64)) (fun y1 => some (y1 ^^^ (((y1).toUInt64 >>> (((30 : Int32)).toInt64.toUInt64 &&& Int64.toUInt64 63)).toInt64)))
set_option maxHeartbeats 4000000 in
set_option maxRecDepth 100000 in
theorem c_Di_mix (l : Launch) (v0 : Int64) (v2 : Int32) (o0 : Int64) (hf : f_Di_mix v0 v2 = some o0) : MetSL l y_Di_mix b_Di_mix 5 0 [.long v0, .int v2] o0 := by
  refine mkSL (by decide) (Nat.le_of_ble_eq_true rfl) ?_
  intro p e R s m args below meth c ls Q C hl hret0
  replace C : Cw p m c b_Di_mix 5 s args "TrustResolver$Digests" R 0 := C
  have hx := C.1
  have hb := C.2.1
  replace hl : lv_has ls 5 [(0, .long v0), (2, .int v2)] := hl
  have hret := hret0
  clear hret0
  unfold f_Di_mix at hf
  refine lv_lload_n hx hb d_Di_mix_0 rfl (lv_at hl 0 rfl) ?_
  refine lv_iload_n hx hb d_Di_mix_1 rfl (lv_at hl 1 rfl) ?_
  refine lv_i2l (v := (Int32.toInt64 v2)) hx hb d_Di_mix_2 rfl ?_
  refine lv_lxor hx hb d_Di_mix_3 ?_
  refine lv_ldc2 (v := (-7046029254386353131 : Int64)) hx hb C.2.2.2.1 (C.2.2.2.2.1 _ tb_219) d_Di_mix_4 ?_
  refine lv_lmul hx hb d_Di_mix_7 ?_
  refine lv_topl (fun y1 e2 => ?_)
  have hf := znm_to e2 hf
  refine lv_lstore_n (lv' := [(3, .long y1), (0, .long v0), (2, .int v2)]) hx hb d_Di_mix_8 rfl hl (by decide) rfl (fun ls hl => ?_)
  refine lv_lload_n hx hb d_Di_mix_9 rfl (lv_at hl 0 rfl) ?_
  refine lv_lload_n hx hb d_Di_mix_10 rfl (lv_at hl 0 rfl) ?_
  refine lv_bipush (v := (30 : Int32)) hx hb d_Di_mix_11 (by decide) ?_
  refine lv_lushr (v := (((y1).toUInt64 >>> (((30 : Int32)).toInt64.toUInt64 &&& Int64.toUInt64 63)).toInt64)) hx hb d_Di_mix_13 rfl ?_
  refine lv_lxor hx hb d_Di_mix_14 ?_
  exact hret _ _ _ d_Di_mix_15 (Option.some.inj hf)
def f_Di_end (v0 : Int64) : Option Int32 := some (Int64.toInt32 (((v0).toUInt64 >>> (((33 : Int32)).toInt64.toUInt64 &&& Int64.toUInt64 63)).toInt64))
set_option maxHeartbeats 4000000 in
set_option maxRecDepth 100000 in
theorem c_Di_end (l : Launch) (v0 : Int64) (o0 : Int32) (hf : f_Di_end v0 = some o0) : MetSI l y_Di_end b_Di_end 2 (some .int) 0 [.long v0] o0 := by
  refine mkSI (by decide) (Nat.le_of_ble_eq_true rfl) ?_
  intro p e R s m args below meth c ls Q C hl hret0
  replace C : Cw p m c b_Di_end 2 s args "TrustResolver$Digests" R 0 := C
  have hx := C.1
  have hb := C.2.1
  replace hl : lv_has ls 2 [(0, .long v0)] := hl
  have hret := hret0
  clear hret0
  unfold f_Di_end at hf
  refine lv_lload_n hx hb d_Di_end_0 rfl (lv_at hl 0 rfl) ?_
  refine lv_bipush (v := (33 : Int32)) hx hb d_Di_end_1 (by decide) ?_
  refine lv_lushr (v := (((v0).toUInt64 >>> (((33 : Int32)).toInt64.toUInt64 &&& Int64.toUInt64 63)).toInt64)) hx hb d_Di_end_3 rfl ?_
  refine lv_l2i (v := (Int64.toInt32 (((v0).toUInt64 >>> (((33 : Int32)).toInt64.toUInt64 &&& Int64.toUInt64 63)).toInt64))) hx hb d_Di_end_4 rfl ?_
  exact hret _ _ _ d_Di_end_5 (Option.some.inj hf)
def f_Di_sealOf (v0 : Int32) (v1 : Int32) : Option Int32 := Option.bind (f_Di_mix (0 : Int64) (77 : Int32)) (fun x1 => Option.bind (f_Di_mix x1 v0) (fun x3 => Option.bind (f_Di_mix x3 v1) (fun x5 => Option.bind (f_Di_end x5) (fun x7 => some x7))))
set_option maxHeartbeats 4000000 in
set_option maxRecDepth 100000 in
theorem c_Di_sealOf (l : Launch) (v0 : Int32) (v1 : Int32) (o0 : Int32) (hf : f_Di_sealOf v0 v1 = some o0) : MetSI l y_Di_sealOf b_Di_sealOf 2 (some .int) 1 [.int v0, .int v1] o0 := by
  refine mkSI (by decide) (Nat.le_of_ble_eq_true rfl) ?_
  intro p e R s m args below meth c ls Q C hl hret0
  replace C : Cw p m c b_Di_sealOf 2 s args "TrustResolver$Digests" R 1 := C
  have hx := C.1
  have hb := C.2.1
  replace hl : lv_has ls 2 [(0, .int v0), (1, .int v1)] := hl
  have hret := hret0
  clear hret0
  unfold f_Di_sealOf at hf
  refine lv_lconst (v := (0 : Int64)) hx hb d_Di_sealOf_0 (by decide) ?_
  refine lv_bipush (v := (77 : Int32)) hx hb d_Di_sealOf_1 (by decide) ?_
  obtain ⟨x1, h2, hf⟩ := bd_some hf
  refine w_callSL (As := [.long (0 : Int64), .int (77 : Int32)]) (rest := []) C (c_Di_mix l (0 : Int64) (77 : Int32) x1 h2) cf_Di_mix tb_247 (by decide) rfl hl.1 rfl (Nat.le_of_ble_eq_true rfl) d_Di_sealOf_3 ?_
  refine lv_iload_n hx hb d_Di_sealOf_6 rfl (lv_at hl 0 rfl) ?_
  obtain ⟨x3, h4, hf⟩ := bd_some hf
  refine w_callSL (As := [.long x1, .int v0]) (rest := []) C (c_Di_mix l x1 v0 x3 h4) cf_Di_mix tb_247 (by decide) rfl hl.1 rfl (Nat.le_of_ble_eq_true rfl) d_Di_sealOf_7 ?_
  refine lv_iload_n hx hb d_Di_sealOf_10 rfl (lv_at hl 1 rfl) ?_
  obtain ⟨x5, h6, hf⟩ := bd_some hf
  refine w_callSL (As := [.long x3, .int v1]) (rest := []) C (c_Di_mix l x3 v1 x5 h6) cf_Di_mix tb_247 (by decide) rfl hl.1 rfl (Nat.le_of_ble_eq_true rfl) d_Di_sealOf_11 ?_
  obtain ⟨x7, h8, hf⟩ := bd_some hf
  refine w_callS (As := [.long x5]) (rest := []) C (c_Di_end l x5 x7 h8) cf_Di_end tb_248 (by decide) rfl hl.1 rfl (Nat.le_of_ble_eq_true rfl) d_Di_sealOf_14 ?_
  exact hret _ _ _ d_Di_sealOf_17 (Option.some.inj hf)
def f_R_isType (v0 : Int32) : Option Int32 := (if v0 < (1 : Int32) then some (0 : Int32) else (if (5 : Int32) < v0 then some (0 : Int32) else some (1 : Int32)))
set_option maxHeartbeats 4000000 in
set_option maxRecDepth 100000 in
theorem c_R_isType (l : Launch) (v0 : Int32) (o0 : Int32) (hf : f_R_isType v0 = some o0) : MetSI l y_R_isType b_R_isType 1 (some .boolean) 0 [.int v0] o0 := by
  refine mkSZ (by decide) (Nat.le_of_ble_eq_true rfl) ?_
  intro p e R s m args below meth c ls Q C hl hret0
  replace C : Cw p m c b_R_isType 1 s args "TrustResolver" R 0 := C
  have hx := C.1
  have hb := C.2.1
  replace hl : lv_has ls 1 [(0, .int v0)] := hl
  have hret := hret0
  clear hret0
  unfold f_R_isType at hf
  refine lv_iload_n hx hb d_R_isType_0 rfl (lv_at hl 0 rfl) ?_
  refine lv_iconst (v := (1 : Int32)) hx hb d_R_isType_1 (by decide) ?_
  refine lv_icmp_lt hx hb d_R_isType_2 (tgt := 14) (by decide) (fun h1 => ?_) (fun h1 => ?_)
  · have hf := it_t h1 hf
    refine lv_iconst (v := (0 : Int32)) hx hb d_R_isType_14 (by decide) ?_
    exact hret _ _ _ d_R_isType_15 (by decide) (Option.some.inj hf)
  · have hf := it_f h1 hf
    refine lv_iload_n hx hb d_R_isType_5 rfl (lv_at hl 0 rfl) ?_
    refine lv_iconst (v := (5 : Int32)) hx hb d_R_isType_6 (by decide) ?_
    refine lv_icmp_gt hx hb d_R_isType_7 (tgt := 14) (by decide) (fun h2 => ?_) (fun h2 => ?_)
    · have hf := it_t h2 hf
      refine lv_iconst (v := (0 : Int32)) hx hb d_R_isType_14 (by decide) ?_
      exact hret _ _ _ d_R_isType_15 (by decide) (Option.some.inj hf)
    · have hf := it_f h2 hf
      refine lv_iconst (v := (1 : Int32)) hx hb d_R_isType_10 (by decide) ?_
      refine lv_goto hx hb d_R_isType_11 (tgt := 15) (by decide) ?_
      exact hret _ _ _ d_R_isType_15 (by decide) (Option.some.inj hf)
def f_R_isKey (v0 : Int32) : Option Int32 := (if v0 < (1 : Int32) then some (0 : Int32) else (if (1000000 : Int32) < v0 then some (0 : Int32) else some (1 : Int32)))
set_option maxHeartbeats 4000000 in
set_option maxRecDepth 100000 in
theorem c_R_isKey (l : Launch) (v0 : Int32) (o0 : Int32) (hf : f_R_isKey v0 = some o0) : MetSI l y_R_isKey b_R_isKey 1 (some .boolean) 0 [.int v0] o0 := by
  refine mkSZ (by decide) (Nat.le_of_ble_eq_true rfl) ?_
  intro p e R s m args below meth c ls Q C hl hret0
  replace C : Cw p m c b_R_isKey 1 s args "TrustResolver" R 0 := C
  have hx := C.1
  have hb := C.2.1
  replace hl : lv_has ls 1 [(0, .int v0)] := hl
  have hret := hret0
  clear hret0
  unfold f_R_isKey at hf
  refine lv_iload_n hx hb d_R_isKey_0 rfl (lv_at hl 0 rfl) ?_
  refine lv_iconst (v := (1 : Int32)) hx hb d_R_isKey_1 (by decide) ?_
  refine lv_icmp_lt hx hb d_R_isKey_2 (tgt := 15) (by decide) (fun h1 => ?_) (fun h1 => ?_)
  · have hf := it_t h1 hf
    refine lv_iconst (v := (0 : Int32)) hx hb d_R_isKey_15 (by decide) ?_
    exact hret _ _ _ d_R_isKey_16 (by decide) (Option.some.inj hf)
  · have hf := it_f h1 hf
    refine lv_iload_n hx hb d_R_isKey_5 rfl (lv_at hl 0 rfl) ?_
    refine lv_ldc (v := (1000000 : Int32)) hx hb C.2.2.2.1 (C.2.2.2.2.1 _ tb_143) d_R_isKey_6 ?_
    refine lv_icmp_gt hx hb d_R_isKey_8 (tgt := 15) (by decide) (fun h2 => ?_) (fun h2 => ?_)
    · have hf := it_t h2 hf
      refine lv_iconst (v := (0 : Int32)) hx hb d_R_isKey_15 (by decide) ?_
      exact hret _ _ _ d_R_isKey_16 (by decide) (Option.some.inj hf)
    · have hf := it_f h2 hf
      refine lv_iconst (v := (1 : Int32)) hx hb d_R_isKey_11 (by decide) ?_
      refine lv_goto hx hb d_R_isKey_12 (tgt := 16) (by decide) ?_
      exact hret _ _ _ d_R_isKey_16 (by decide) (Option.some.inj hf)
def f_R_isData (v0 : Int32) (v1 : Int32) : Option Int32 := (if v0 = (3 : Int32) then (if v1 < (0 : Int32) then some (0 : Int32) else some (1 : Int32)) else (if v0 = (4 : Int32) then Option.bind (f_R_isKey v1) (fun x4 => zgd (zib x4) (some x4)) else (if v0 = (5 : Int32) then Option.bind (f_To_isTold v1) (fun x8 => zgd (zib x8) (some x8)) else some (1 : Int32))))
set_option maxHeartbeats 4000000 in
set_option maxRecDepth 100000 in
theorem c_R_isData (l : Launch) (v0 : Int32) (v1 : Int32) (o0 : Int32) (hf : f_R_isData v0 v1 = some o0) : MetSI l y_R_isData b_R_isData 2 (some .boolean) 2 [.int v0, .int v1] o0 := by
  refine mkSZ (by decide) (Nat.le_of_ble_eq_true rfl) ?_
  intro p e R s m args below meth c ls Q C hl hret0
  replace C : Cw p m c b_R_isData 2 s args "TrustResolver" R 2 := C
  have hx := C.1
  have hb := C.2.1
  replace hl : lv_has ls 2 [(0, .int v0), (1, .int v1)] := hl
  have hret := hret0
  clear hret0
  unfold f_R_isData at hf
  refine lv_iload_n hx hb d_R_isData_0 rfl (lv_at hl 0 rfl) ?_
  by_cases h1 : v0 = (3 : Int32)
  · have hf := it_t h1 hf
    refine lv_tableIn hx hb d_R_isData_1 (by rw [h1]; decide) (by rw [h1]; decide) (by rw [h1]; rfl) (tgt := 28) (by decide) ?_
    refine lv_iload_n hx hb d_R_isData_28 rfl (lv_at hl 1 rfl) ?_
    refine lv_if_lt hx hb d_R_isData_29 (tgt := 36) (by decide) (fun h2 => ?_) (fun h2 => ?_)
    · have hf := it_t h2 hf
      refine lv_iconst (v := (0 : Int32)) hx hb d_R_isData_36 (by decide) ?_
      exact hret _ _ _ d_R_isData_37 (by decide) (Option.some.inj hf)
    · have hf := it_f h2 hf
      refine lv_iconst (v := (1 : Int32)) hx hb d_R_isData_32 (by decide) ?_
      refine lv_goto hx hb d_R_isData_33 (tgt := 37) (by decide) ?_
      exact hret _ _ _ d_R_isData_37 (by decide) (Option.some.inj hf)
  have hf := it_f h1 hf
  by_cases h3 : v0 = (4 : Int32)
  · have hf := it_t h3 hf
    refine lv_tableIn hx hb d_R_isData_1 (by rw [h3]; decide) (by rw [h3]; decide) (by rw [h3]; rfl) (tgt := 38) (by decide) ?_
    refine lv_iload_n hx hb d_R_isData_38 rfl (lv_at hl 1 rfl) ?_
    obtain ⟨x4, h5, hf⟩ := bd_some hf
    refine w_callS (As := [.int v1]) (rest := []) C (c_R_isKey l v1 x4 h5) cf_R_isKey tb_140 (by decide) rfl hl.1 rfl (Nat.le_of_ble_eq_true rfl) d_R_isData_39 ?_
    obtain ⟨h6, hf⟩ := zgd_some hf
    exact hret _ _ _ d_R_isData_42 h6 (Option.some.inj hf)
  have hf := it_f h3 hf
  by_cases h7 : v0 = (5 : Int32)
  · have hf := it_t h7 hf
    refine lv_tableIn hx hb d_R_isData_1 (by rw [h7]; decide) (by rw [h7]; decide) (by rw [h7]; rfl) (tgt := 43) (by decide) ?_
    refine lv_iload_n hx hb d_R_isData_43 rfl (lv_at hl 1 rfl) ?_
    obtain ⟨x8, h9, hf⟩ := bd_some hf
    refine w_callS (As := [.int v1]) (rest := []) C (c_To_isTold l v1 x8 h9) cf_To_isTold tb_144 (by decide) rfl hl.1 rfl (Nat.le_of_ble_eq_true rfl) d_R_isData_44 ?_
    obtain ⟨h10, hf⟩ := zgd_some hf
    exact hret _ _ _ d_R_isData_47 h10 (Option.some.inj hf)
  have hf := it_f h7 hf
  have h1T := lv_neT (a := 3) h1 (by decide)
  have h3T := lv_neT (a := 4) h3 (by decide)
  have h7T := lv_neT (a := 5) h7 (by decide)
  refine lv_tableOut hx hb d_R_isData_1 (by omega) (tgt := 48) (by decide) ?_
  refine lv_iconst (v := (1 : Int32)) hx hb d_R_isData_48 (by decide) ?_
  exact hret _ _ _ d_R_isData_49 (by decide) (Option.some.inj hf)
def f_Si_signedName (v0 : Int32) (v1 : Int32) : Option Int32 := Option.bind (f_Na_depth v0) (fun x1 => (if v1 < x1 then Option.bind (f_Na_firstLabels v0 v1) (fun x4 => Option.bind (f_Na_starOf x4) (fun x6 => some x6)) else some v0))
set_option maxHeartbeats 4000000 in
set_option maxRecDepth 100000 in
theorem c_Si_signedName (l : Launch) (v0 : Int32) (v1 : Int32) (o0 : Int32) (hf : f_Si_signedName v0 v1 = some o0) : MetSI l y_Si_signedName b_Si_signedName 2 (some .int) 2 [.int v0, .int v1] o0 := by
  refine mkSI (by decide) (Nat.le_of_ble_eq_true rfl) ?_
  intro p e R s m args below meth c ls Q C hl hret0
  replace C : Cw p m c b_Si_signedName 2 s args "TrustResolver$Signatures" R 2 := C
  have hx := C.1
  have hb := C.2.1
  replace hl : lv_has ls 2 [(0, .int v0), (1, .int v1)] := hl
  have hret := hret0
  clear hret0
  unfold f_Si_signedName at hf
  refine lv_iload_n hx hb d_Si_signedName_0 rfl (lv_at hl 1 rfl) ?_
  refine lv_iload_n hx hb d_Si_signedName_1 rfl (lv_at hl 0 rfl) ?_
  obtain ⟨x1, h2, hf⟩ := bd_some hf
  refine w_callS (As := [.int v0]) (rest := [.int v1]) C (c_Na_depth l v0 x1 h2) cf_Na_depth tb_205 (by decide) rfl hl.1 rfl (Nat.le_of_ble_eq_true rfl) d_Si_signedName_2 ?_
  refine lv_icmp_lt hx hb d_Si_signedName_5 (tgt := 10) (by decide) (fun h3 => ?_) (fun h3 => ?_)
  · have hf := it_t h3 hf
    refine lv_iload_n hx hb d_Si_signedName_10 rfl (lv_at hl 0 rfl) ?_
    refine lv_iload_n hx hb d_Si_signedName_11 rfl (lv_at hl 1 rfl) ?_
    obtain ⟨x4, h5, hf⟩ := bd_some hf
    refine w_callS (As := [.int v0, .int v1]) (rest := []) C (c_Na_firstLabels l v0 v1 x4 h5) cf_Na_firstLabels tb_206 (by decide) rfl hl.1 rfl (Nat.le_of_ble_eq_true rfl) d_Si_signedName_12 ?_
    obtain ⟨x6, h7, hf⟩ := bd_some hf
    refine w_callS (As := [.int x4]) (rest := []) C (c_Na_starOf l x4 x6 h7) cf_Na_starOf tb_209 (by decide) rfl hl.1 rfl (Nat.le_of_ble_eq_true rfl) d_Si_signedName_15 ?_
    exact hret _ _ _ d_Si_signedName_18 (Option.some.inj hf)
  · have hf := it_f h3 hf
    refine lv_iload_n hx hb d_Si_signedName_8 rfl (lv_at hl 0 rfl) ?_
    exact hret _ _ _ d_Si_signedName_9 (Option.some.inj hf)
def f_R_verdictOf (v0 : Int32) : Option Int32 := (if v0 = (1 : Int32) then some (3 : Int32) else (if v0 = (6 : Int32) then some (1 : Int32) else (if v0 = (8 : Int32) then some (0 : Int32) else (if v0 = (9 : Int32) then some (0 : Int32) else (if v0 = (12 : Int32) then some (0 : Int32) else (if v0 = (15 : Int32) then some (0 : Int32) else (if v0 = (16 : Int32) then some (0 : Int32) else some (2 : Int32))))))))
set_option maxHeartbeats 4000000 in
set_option maxRecDepth 100000 in
theorem c_R_verdictOf (l : Launch) (v0 : Int32) (o0 : Int32) (hf : f_R_verdictOf v0 = some o0) : MetSI l y_R_verdictOf b_R_verdictOf 1 (some .int) 0 [.int v0] o0 := by
  refine mkSI (by decide) (Nat.le_of_ble_eq_true rfl) ?_
  intro p e R s m args below meth c ls Q C hl hret0
  replace C : Cw p m c b_R_verdictOf 1 s args "TrustResolver" R 0 := C
  have hx := C.1
  have hb := C.2.1
  replace hl : lv_has ls 1 [(0, .int v0)] := hl
  have hret := hret0
  clear hret0
  unfold f_R_verdictOf at hf
  refine lv_iload_n hx hb d_R_verdictOf_0 rfl (lv_at hl 0 rfl) ?_
  by_cases h1 : v0 = (1 : Int32)
  · have hf := it_t h1 hf
    refine lv_tableIn hx hb d_R_verdictOf_1 (by rw [h1]; decide) (by rw [h1]; decide) (by rw [h1]; rfl) (tgt := 80) (by decide) ?_
    refine lv_iconst (v := (3 : Int32)) hx hb d_R_verdictOf_80 (by decide) ?_
    exact hret _ _ _ d_R_verdictOf_81 (Option.some.inj hf)
  have hf := it_f h1 hf
  by_cases h2 : v0 = (6 : Int32)
  · have hf := it_t h2 hf
    refine lv_tableIn hx hb d_R_verdictOf_1 (by rw [h2]; decide) (by rw [h2]; decide) (by rw [h2]; rfl) (tgt := 82) (by decide) ?_
    refine lv_iconst (v := (1 : Int32)) hx hb d_R_verdictOf_82 (by decide) ?_
    exact hret _ _ _ d_R_verdictOf_83 (Option.some.inj hf)
  have hf := it_f h2 hf
  by_cases h3 : v0 = (8 : Int32)
  · have hf := it_t h3 hf
    refine lv_tableIn hx hb d_R_verdictOf_1 (by rw [h3]; decide) (by rw [h3]; decide) (by rw [h3]; rfl) (tgt := 84) (by decide) ?_
    refine lv_iconst (v := (0 : Int32)) hx hb d_R_verdictOf_84 (by decide) ?_
    exact hret _ _ _ d_R_verdictOf_85 (Option.some.inj hf)
  have hf := it_f h3 hf
  by_cases h4 : v0 = (9 : Int32)
  · have hf := it_t h4 hf
    refine lv_tableIn hx hb d_R_verdictOf_1 (by rw [h4]; decide) (by rw [h4]; decide) (by rw [h4]; rfl) (tgt := 84) (by decide) ?_
    refine lv_iconst (v := (0 : Int32)) hx hb d_R_verdictOf_84 (by decide) ?_
    exact hret _ _ _ d_R_verdictOf_85 (Option.some.inj hf)
  have hf := it_f h4 hf
  by_cases h5 : v0 = (12 : Int32)
  · have hf := it_t h5 hf
    refine lv_tableIn hx hb d_R_verdictOf_1 (by rw [h5]; decide) (by rw [h5]; decide) (by rw [h5]; rfl) (tgt := 84) (by decide) ?_
    refine lv_iconst (v := (0 : Int32)) hx hb d_R_verdictOf_84 (by decide) ?_
    exact hret _ _ _ d_R_verdictOf_85 (Option.some.inj hf)
  have hf := it_f h5 hf
  by_cases h6 : v0 = (15 : Int32)
  · have hf := it_t h6 hf
    refine lv_tableIn hx hb d_R_verdictOf_1 (by rw [h6]; decide) (by rw [h6]; decide) (by rw [h6]; rfl) (tgt := 84) (by decide) ?_
    refine lv_iconst (v := (0 : Int32)) hx hb d_R_verdictOf_84 (by decide) ?_
    exact hret _ _ _ d_R_verdictOf_85 (Option.some.inj hf)
  have hf := it_f h6 hf
  by_cases h7 : v0 = (16 : Int32)
  · have hf := it_t h7 hf
    refine lv_tableIn hx hb d_R_verdictOf_1 (by rw [h7]; decide) (by rw [h7]; decide) (by rw [h7]; rfl) (tgt := 84) (by decide) ?_
    refine lv_iconst (v := (0 : Int32)) hx hb d_R_verdictOf_84 (by decide) ?_
    exact hret _ _ _ d_R_verdictOf_85 (Option.some.inj hf)
  have hf := it_f h7 hf
  have h1T := lv_neT (a := 1) h1 (by decide)
  have h2T := lv_neT (a := 6) h2 (by decide)
  have h3T := lv_neT (a := 8) h3 (by decide)
  have h4T := lv_neT (a := 9) h4 (by decide)
  have h5T := lv_neT (a := 12) h5 (by decide)
  have h6T := lv_neT (a := 15) h6 (by decide)
  have h7T := lv_neT (a := 16) h7 (by decide)
  by_cases h8 : v0 = (2 : Int32)
  · refine lv_tableIn hx hb d_R_verdictOf_1 (by rw [h8]; decide) (by rw [h8]; decide) (by rw [h8]; rfl) (tgt := 86) (by decide) ?_
    refine lv_iconst (v := (2 : Int32)) hx hb d_R_verdictOf_86 (by decide) ?_
    exact hret _ _ _ d_R_verdictOf_87 (Option.some.inj hf)
  have h8T := lv_neT (a := 2) h8 (by decide)
  by_cases h9 : v0 = (3 : Int32)
  · refine lv_tableIn hx hb d_R_verdictOf_1 (by rw [h9]; decide) (by rw [h9]; decide) (by rw [h9]; rfl) (tgt := 86) (by decide) ?_
    refine lv_iconst (v := (2 : Int32)) hx hb d_R_verdictOf_86 (by decide) ?_
    exact hret _ _ _ d_R_verdictOf_87 (Option.some.inj hf)
  have h9T := lv_neT (a := 3) h9 (by decide)
  by_cases h10 : v0 = (4 : Int32)
  · refine lv_tableIn hx hb d_R_verdictOf_1 (by rw [h10]; decide) (by rw [h10]; decide) (by rw [h10]; rfl) (tgt := 86) (by decide) ?_
    refine lv_iconst (v := (2 : Int32)) hx hb d_R_verdictOf_86 (by decide) ?_
    exact hret _ _ _ d_R_verdictOf_87 (Option.some.inj hf)
  have h10T := lv_neT (a := 4) h10 (by decide)
  by_cases h11 : v0 = (5 : Int32)
  · refine lv_tableIn hx hb d_R_verdictOf_1 (by rw [h11]; decide) (by rw [h11]; decide) (by rw [h11]; rfl) (tgt := 86) (by decide) ?_
    refine lv_iconst (v := (2 : Int32)) hx hb d_R_verdictOf_86 (by decide) ?_
    exact hret _ _ _ d_R_verdictOf_87 (Option.some.inj hf)
  have h11T := lv_neT (a := 5) h11 (by decide)
  by_cases h12 : v0 = (7 : Int32)
  · refine lv_tableIn hx hb d_R_verdictOf_1 (by rw [h12]; decide) (by rw [h12]; decide) (by rw [h12]; rfl) (tgt := 86) (by decide) ?_
    refine lv_iconst (v := (2 : Int32)) hx hb d_R_verdictOf_86 (by decide) ?_
    exact hret _ _ _ d_R_verdictOf_87 (Option.some.inj hf)
  have h12T := lv_neT (a := 7) h12 (by decide)
  by_cases h13 : v0 = (10 : Int32)
  · refine lv_tableIn hx hb d_R_verdictOf_1 (by rw [h13]; decide) (by rw [h13]; decide) (by rw [h13]; rfl) (tgt := 86) (by decide) ?_
    refine lv_iconst (v := (2 : Int32)) hx hb d_R_verdictOf_86 (by decide) ?_
    exact hret _ _ _ d_R_verdictOf_87 (Option.some.inj hf)
  have h13T := lv_neT (a := 10) h13 (by decide)
  by_cases h14 : v0 = (11 : Int32)
  · refine lv_tableIn hx hb d_R_verdictOf_1 (by rw [h14]; decide) (by rw [h14]; decide) (by rw [h14]; rfl) (tgt := 86) (by decide) ?_
    refine lv_iconst (v := (2 : Int32)) hx hb d_R_verdictOf_86 (by decide) ?_
    exact hret _ _ _ d_R_verdictOf_87 (Option.some.inj hf)
  have h14T := lv_neT (a := 11) h14 (by decide)
  by_cases h15 : v0 = (13 : Int32)
  · refine lv_tableIn hx hb d_R_verdictOf_1 (by rw [h15]; decide) (by rw [h15]; decide) (by rw [h15]; rfl) (tgt := 86) (by decide) ?_
    refine lv_iconst (v := (2 : Int32)) hx hb d_R_verdictOf_86 (by decide) ?_
    exact hret _ _ _ d_R_verdictOf_87 (Option.some.inj hf)
  have h15T := lv_neT (a := 13) h15 (by decide)
  by_cases h16 : v0 = (14 : Int32)
  · refine lv_tableIn hx hb d_R_verdictOf_1 (by rw [h16]; decide) (by rw [h16]; decide) (by rw [h16]; rfl) (tgt := 86) (by decide) ?_
    refine lv_iconst (v := (2 : Int32)) hx hb d_R_verdictOf_86 (by decide) ?_
    exact hret _ _ _ d_R_verdictOf_87 (Option.some.inj hf)
  have h16T := lv_neT (a := 14) h16 (by decide)
  refine lv_tableOut hx hb d_R_verdictOf_1 (by omega) (tgt := 86) (by decide) ?_
  refine lv_iconst (v := (2 : Int32)) hx hb d_R_verdictOf_86 (by decide) ?_
  exact hret _ _ _ d_R_verdictOf_87 (Option.some.inj hf)
