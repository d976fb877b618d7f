def L_Re_startOf_2 (S : XSt) (v1 : Int32) (v2 : Int32) : Option (Int32 ⊕ Int32) := (if (S.1 0) ≤ v2 then zup (some v2) else zgd (zin v2 48) ((if v1 ≤ (S.2 0 (Int32.toNatClampNeg v2)) then zup (some v2) else some (Sum.inl (v2 + (1 : Int32))))))
def LS_Re_startOf_2 (S : XSt) (v1 : Int32) (v : Int32) : Option (Int32 ⊕ Int32) := L_Re_startOf_2 S v1 v
def f_Re_startOf (S : XSt) (v1 : Int32) : Option Int32 := zit (LS_Re_startOf_2 S v1) 64 (0 : Int32)
set_option maxHeartbeats 4000000 in
set_option maxRecDepth 100000 in
theorem c_Re_startOf (l : Launch) (G : XG) (S : XSt) (v1 : Int32) (o0 : Int32) (hf : f_Re_startOf S v1 = some o0) : MetI l y_Re_startOf b_Re_startOf 3 (some .int) 0 [.ref (G.2.1 1), .int v1] G.1 (tyX G) (zAX G) (wX G S) o0 (wX G S) := by
  refine mkI (by decide) (Nat.le_of_ble_eq_true rfl) ?_
  intro p e R s m args below meth c ls Q C hl hP hret0
  replace C : Cw p m c b_Re_startOf 3 s args "TrustResolver$Records" R 0 := C
  have hx := C.1
  have hb := C.2.1
  replace hl : lv_has ls 3 [(0, .ref (G.2.1 1)), (1, .int v1)] := hl
  have hret := hret0
  clear hret0
  unfold f_Re_startOf at hf
  have LP_2 : ∀ (v1 : Int32) (n : Nat) (v2 : Int32) (ls : Array Slot) (H : Heap) (locs : List Loc) , lv_has ls 3 [(0, .ref (G.2.1 1)), (1, .int v1), (2, .int v2)] → Pw G.1 (tyX G) (zAX G) s (wX G S) H locs → zit (LS_Re_startOf_2 S v1) n v2 = some o0 → W p l e R s m args below meth c H locs 0 0 Q (F0 m 2 ls []) := by
    intro v1 n
    induction n with
    | zero => intro v2 ls H locs hl hP hf; exact zit_0 hf
    | succ n ih1 =>
      intro v2 ls H locs hl hP hf
      obtain ⟨o1, hf, hk1⟩ := zit_s hf
      have hf : L_Re_startOf_2 S v1 v2 = some o1 := hf
      unfold L_Re_startOf_2 at hf
      refine lv_iload_n hx hb d_Re_startOf_2 rfl (lv_at hl 2 rfl) ?_
      refine lv_aload_n hx hb d_Re_startOf_3 rfl (lv_at hl 0 rfl) ?_
      refine w_get C hP (fdX_1_count G S) tb_26 d_Re_startOf_4 ?_
      refine lv_icmp_ge hx hb d_Re_startOf_7 (tgt := 26) (by decide) (fun h1 => ?_) (fun h1 => ?_)
      · have hf := it_t h1 hf
        have hf := zup_k hf hk1
        refine lv_iload_n hx hb d_Re_startOf_26 rfl (lv_at hl 2 rfl) ?_
        exact hret _ _ _ _ _ d_Re_startOf_27 (Option.some.inj hf) hP
      · have hf := it_f h1 hf
        refine lv_aload_n hx hb d_Re_startOf_10 rfl (lv_at hl 0 rfl) ?_
        refine w_get C hP (fdX_1_sets G S) tb_24 d_Re_startOf_11 ?_
        refine lv_iload_n hx hb d_Re_startOf_14 rfl (lv_at hl 2 rfl) ?_
        obtain ⟨h2, hf⟩ := zgd_some hf
        refine w_iald (t0 := 0) C hP (arX_0 G S) rfl h2 d_Re_startOf_15 ?_
        refine lv_iload_n hx hb d_Re_startOf_16 rfl (lv_at hl 1 rfl) ?_
        refine lv_icmp_ge hx hb d_Re_startOf_17 (tgt := 26) (by decide) (fun h3 => ?_) (fun h3 => ?_)
        · have hf := it_t h3 hf
          have hf := zup_k hf hk1
          refine lv_iload_n hx hb d_Re_startOf_26 rfl (lv_at hl 2 rfl) ?_
          exact hret _ _ _ _ _ d_Re_startOf_27 (Option.some.inj hf) hP
        · have hf := it_f h3 hf
          refine lv_iinc (k := 2) (v := (v2 + (1 : Int32))) (lv' := [(2, .int (v2 + (1 : Int32))), (0, .ref (G.2.1 1)), (1, .int v1)]) hx hb d_Re_startOf_20 hl rfl (ii (by decide) _) (by decide) rfl (fun ls hl => ?_)
          refine lv_goto hx hb d_Re_startOf_23 (tgt := 2) (by decide) ?_
          exact ih1 (v2 + (1 : Int32)) _ _ _ (lv_sub hl [1, 2, 0] rfl) hP (znx_l hf hk1)
  refine lv_iconst (v := (0 : Int32)) hx hb d_Re_startOf_0 (by decide) ?_
  refine lv_istore_n (lv' := [(2, .int (0 : Int32)), (0, .ref (G.2.1 1)), (1, .int v1)]) hx hb d_Re_startOf_1 rfl hl (by decide) rfl (fun ls hl => ?_)
  exact LP_2 v1 64 (0 : Int32) _ _ _ (lv_sub hl [1, 2, 0] rfl) hP hf
def L_Re_rowFor_6 (S : XSt) (v1 : Int32) (v2 : Int32) (v3 : Int32) : Option (Int32 ⊕ Int32) := (if (S.1 0) ≤ v3 then zup (some v3) else zgd (zin v3 48) ((if (S.2 0 (Int32.toNatClampNeg v3)) = v1 then zgd (zin v3 48) ((if v2 ≤ (S.2 1 (Int32.toNatClampNeg v3)) then zup (some v3) else some (Sum.inl (v3 + (1 : Int32))))) else zup (some v3))))
def LS_Re_rowFor_6 (S : XSt) (v1 : Int32) (v2 : Int32) (v : Int32) : Option (Int32 ⊕ Int32) := L_Re_rowFor_6 S v1 v2 v
def f_Re_rowFor (S : XSt) (v1 : Int32) (v2 : Int32) : Option Int32 := Option.bind (f_Re_startOf S v1) (fun x6 => zit (LS_Re_rowFor_6 S v1 v2) 64 x6)
set_option maxHeartbeats 4000000 in
set_option maxRecDepth 100000 in
theorem c_Re_rowFor (l : Launch) (G : XG) (S : XSt) (v1 : Int32) (v2 : Int32) (o0 : Int32) (hf : f_Re_rowFor S v1 v2 = some o0) : MetI l y_Re_rowFor b_Re_rowFor 4 (some .int) 1 [.ref (G.2.1 1), .int v1, .int v2] G.1 (tyX G) (zAX G) (wX G S) o0 (wX G S) := by
  refine mkI (by decide) (Nat.le_of_ble_eq_true rfl) ?_
  intro p e R s m args below meth c ls Q C hl hP hret0
  replace C : Cw p m c b_Re_rowFor 4 s args "TrustResolver$Records" R 1 := C
  have hx := C.1
  have hb := C.2.1
  replace hl : lv_has ls 4 [(0, .ref (G.2.1 1)), (1, .int v1), (2, .int v2)] := hl
  have hret := hret0
  clear hret0
  unfold f_Re_rowFor at hf
  have LP_6 : ∀ (v1 : Int32) (v2 : Int32) (n : Nat) (v3 : Int32) (ls : Array Slot) (H : Heap) (locs : List Loc) , lv_has ls 4 [(0, .ref (G.2.1 1)), (1, .int v1), (2, .int v2), (3, .int v3)] → Pw G.1 (tyX G) (zAX G) s (wX G S) H locs → zit (LS_Re_rowFor_6 S v1 v2) n v3 = some o0 → W p l e R s m args below meth c H locs 0 0 Q (F0 m 6 ls []) := by
    intro v1 v2 n
    induction n with
    | zero => intro v3 ls H locs hl hP hf; exact zit_0 hf
    | succ n ih1 =>
      intro v3 ls H locs hl hP hf
      obtain ⟨o1, hf, hk1⟩ := zit_s hf
      have hf : L_Re_rowFor_6 S v1 v2 v3 = some o1 := hf
      unfold L_Re_rowFor_6 at hf
      refine lv_iload_n hx hb d_Re_rowFor_6 rfl (lv_at hl 3 rfl) ?_
      refine lv_aload_n hx hb d_Re_rowFor_7 rfl (lv_at hl 0 rfl) ?_
      refine w_get C hP (fdX_1_count G S) tb_26 d_Re_rowFor_8 ?_
      refine lv_icmp_ge hx hb d_Re_rowFor_11 (tgt := 40) (by decide) (fun h1 => ?_) (fun h1 => ?_)
      · have hf := it_t h1 hf
        have hf := zup_k hf hk1
        refine lv_iload_n hx hb d_Re_rowFor_40 rfl (lv_at hl 3 rfl) ?_
        exact hret _ _ _ _ _ d_Re_rowFor_41 (Option.some.inj hf) hP
      · have hf := it_f h1 hf
        refine lv_aload_n hx hb d_Re_rowFor_14 rfl (lv_at hl 0 rfl) ?_
        refine w_get C hP (fdX_1_sets G S) tb_24 d_Re_rowFor_15 ?_
        refine lv_iload_n hx hb d_Re_rowFor_18 rfl (lv_at hl 3 rfl) ?_
        obtain ⟨h2, hf⟩ := zgd_some hf
        refine w_iald (t0 := 0) C hP (arX_0 G S) rfl h2 d_Re_rowFor_19 ?_
        refine lv_iload_n hx hb d_Re_rowFor_20 rfl (lv_at hl 1 rfl) ?_
        refine lv_icmp_ne hx hb d_Re_rowFor_21 (tgt := 40) (by decide) (fun h3 => ?_) (fun h3 => ?_)
        · have hf := it_f h3 hf
          have hf := zup_k hf hk1
          refine lv_iload_n hx hb d_Re_rowFor_40 rfl (lv_at hl 3 rfl) ?_
          exact hret _ _ _ _ _ d_Re_rowFor_41 (Option.some.inj hf) hP
        · have hf := it_t h3 hf
          refine lv_aload_n hx hb d_Re_rowFor_24 rfl (lv_at hl 0 rfl) ?_
          refine w_get C hP (fdX_1_datas G S) tb_25 d_Re_rowFor_25 ?_
          refine lv_iload_n hx hb d_Re_rowFor_28 rfl (lv_at hl 3 rfl) ?_
          obtain ⟨h4, hf⟩ := zgd_some hf
          refine w_iald (t0 := 0) C hP (arX_1 G S) rfl h4 d_Re_rowFor_29 ?_
          refine lv_iload_n hx hb d_Re_rowFor_30 rfl (lv_at hl 2 rfl) ?_
          refine lv_icmp_ge hx hb d_Re_rowFor_31 (tgt := 40) (by decide) (fun h5 => ?_) (fun h5 => ?_)
          · have hf := it_t h5 hf
            have hf := zup_k hf hk1
            refine lv_iload_n hx hb d_Re_rowFor_40 rfl (lv_at hl 3 rfl) ?_
            exact hret _ _ _ _ _ d_Re_rowFor_41 (Option.some.inj hf) hP
          · have hf := it_f h5 hf
            refine lv_iinc (k := 3) (v := (v3 + (1 : Int32))) (lv' := [(3, .int (v3 + (1 : Int32))), (0, .ref (G.2.1 1)), (1, .int v1), (2, .int v2)]) hx hb d_Re_rowFor_34 hl rfl (ii (by decide) _) (by decide) rfl (fun ls hl => ?_)
            refine lv_goto hx hb d_Re_rowFor_37 (tgt := 6) (by decide) ?_
            exact ih1 (v3 + (1 : Int32)) _ _ _ (lv_sub hl [1, 2, 3, 0] rfl) hP (znx_l hf hk1)
  refine lv_aload_n hx hb d_Re_rowFor_0 rfl (lv_at hl 0 rfl) ?_
  refine lv_iload_n hx hb d_Re_rowFor_1 rfl (lv_at hl 1 rfl) ?_
  obtain ⟨x6, h7, hf⟩ := bd_some hf
  refine w_callI (As := [.int v1]) (rest := []) C (c_Re_startOf l G S v1 x6 h7) cf_Re_startOf tb_163 (by decide) hP (obX_1 G S) rfl hl.1 rfl (Nat.le_of_ble_eq_true rfl) d_Re_rowFor_2 (fun H locs hP => ?_)
  refine lv_istore_n (lv' := [(3, .int x6), (0, .ref (G.2.1 1)), (1, .int v1), (2, .int v2)]) hx hb d_Re_rowFor_5 rfl hl (by decide) rfl (fun ls hl => ?_)
  exact LP_6 v1 v2 64 x6 _ _ _ (lv_sub hl [1, 2, 3, 0] rfl) hP hf
def L_Re_sizeOf_4 (S : XSt) (v1 : Int32) (v2 : Int32) (v3 : Int32) : Option ((Int32 × Int32) ⊕ Int32) := (if (S.1 0) ≤ v3 then zup (some v2) else zgd (zin v3 48) ((if (S.2 0 (Int32.toNatClampNeg v3)) = v1 then some (Sum.inl ((v2 + (1 : Int32)), (v3 + (1 : Int32)))) else some (Sum.inl (v2, (v3 + (1 : Int32)))))))
def LS_Re_sizeOf_4 (S : XSt) (v1 : Int32) (v : (Int32 × Int32)) : Option ((Int32 × Int32) ⊕ Int32) := L_Re_sizeOf_4 S v1 v.1 v.2
def f_Re_sizeOf (S : XSt) (v1 : Int32) : Option Int32 := zit (LS_Re_sizeOf_4 S v1) 64 ((0 : Int32), (0 : Int32))
set_option maxHeartbeats 4000000 in
set_option maxRecDepth 100000 in
theorem c_Re_sizeOf (l : Launch) (G : XG) (S : XSt) (v1 : Int32) (o0 : Int32) (hf : f_Re_sizeOf S v1 = some o0) : MetI l y_Re_sizeOf b_Re_sizeOf 4 (some .int) 0 [.ref (G.2.1 1), .int v1] G.1 (tyX G) (zAX G) (wX G S) o0 (wX G S) := by
  refine mkI (by decide) (Nat.le_of_ble_eq_true rfl) ?_
  intro p e R s m args below meth c ls Q C hl hP hret0
  replace C : Cw p m c b_Re_sizeOf 4 s args "TrustResolver$Records" R 0 := C
  have hx := C.1
  have hb := C.2.1
  replace hl : lv_has ls 4 [(0, .ref (G.2.1 1)), (1, .int v1)] := hl
  have hret := hret0
  clear hret0
  unfold f_Re_sizeOf at hf
  have LP_4 : ∀ (v1 : Int32) (n : Nat) (v2 : Int32) (v3 : Int32) (ls : Array Slot) (H : Heap) (locs : List Loc) , lv_has ls 4 [(0, .ref (G.2.1 1)), (1, .int v1), (2, .int v2), (3, .int v3)] → Pw G.1 (tyX G) (zAX G) s (wX G S) H locs → zit (LS_Re_sizeOf_4 S v1) n (v2, v3) = some o0 → W p l e R s m args below meth c H locs 0 0 Q (F0 m 4 ls []) := by
    intro v1 n
    induction n with
    | zero => intro v2 v3 ls H locs hl hP hf; exact zit_0 hf
    | succ n ih1 =>
      intro v2 v3 ls H locs hl hP hf
      obtain ⟨o1, hf, hk1⟩ := zit_s hf
      have hf : L_Re_sizeOf_4 S v1 v2 v3 = some o1 := hf
      unfold L_Re_sizeOf_4 at hf
      refine lv_iload_n hx hb d_Re_sizeOf_4 rfl (lv_at hl 3 rfl) ?_
      refine lv_aload_n hx hb d_Re_sizeOf_5 rfl (lv_at hl 0 rfl) ?_
      refine w_get C hP (fdX_1_count G S) tb_26 d_Re_sizeOf_6 ?_
      refine lv_icmp_ge hx hb d_Re_sizeOf_9 (tgt := 31) (by decide) (fun h1 => ?_) (fun h1 => ?_)
      · have hf := it_t h1 hf
        have hf := zup_k hf hk1
        refine lv_iload_n hx hb d_Re_sizeOf_31 rfl (lv_at hl 2 rfl) ?_
        exact hret _ _ _ _ _ d_Re_sizeOf_32 (Option.some.inj hf) hP
      · have hf := it_f h1 hf
        refine lv_aload_n hx hb d_Re_sizeOf_12 rfl (lv_at hl 0 rfl) ?_
        refine w_get C hP (fdX_1_sets G S) tb_24 d_Re_sizeOf_13 ?_
        refine lv_iload_n hx hb d_Re_sizeOf_16 rfl (lv_at hl 3 rfl) ?_
        obtain ⟨h2, hf⟩ := zgd_some hf
        refine w_iald (t0 := 0) C hP (arX_0 G S) rfl h2 d_Re_sizeOf_17 ?_
        refine lv_iload_n hx hb d_Re_sizeOf_18 rfl (lv_at hl 1 rfl) ?_
        refine lv_icmp_ne hx hb d_Re_sizeOf_19 (tgt := 25) (by decide) (fun h3 => ?_) (fun h3 => ?_)
        · have hf := it_f h3 hf
          refine lv_iinc (k := 3) (v := (v3 + (1 : Int32))) (lv' := [(3, .int (v3 + (1 : Int32))), (0, .ref (G.2.1 1)), (1, .int v1), (2, .int v2)]) hx hb d_Re_sizeOf_25 hl rfl (ii (by decide) _) (by decide) rfl (fun ls hl => ?_)
          refine lv_goto hx hb d_Re_sizeOf_28 (tgt := 4) (by decide) ?_
          exact ih1 v2 (v3 + (1 : Int32)) _ _ _ (lv_sub hl [1, 2, 3, 0] rfl) hP (znx_l hf hk1)
        · have hf := it_t h3 hf
          refine lv_iinc (k := 2) (v := (v2 + (1 : Int32))) (lv' := [(2, .int (v2 + (1 : Int32))), (0, .ref (G.2.1 1)), (1, .int v1), (3, .int v3)]) hx hb d_Re_sizeOf_22 hl rfl (ii (by decide) _) (by decide) rfl (fun ls hl => ?_)
          refine lv_iinc (k := 3) (v := (v3 + (1 : Int32))) (lv' := [(3, .int (v3 + (1 : Int32))), (2, .int (v2 + (1 : Int32))), (0, .ref (G.2.1 1)), (1, .int v1)]) hx hb d_Re_sizeOf_25 hl rfl (ii (by decide) _) (by decide) rfl (fun ls hl => ?_)
          refine lv_goto hx hb d_Re_sizeOf_28 (tgt := 4) (by decide) ?_
          exact ih1 (v2 + (1 : Int32)) (v3 + (1 : Int32)) _ _ _ (lv_sub hl [2, 3, 1, 0] rfl) hP (znx_l hf hk1)
  refine lv_iconst (v := (0 : Int32)) hx hb d_Re_sizeOf_0 (by decide) ?_
  refine lv_istore_n (lv' := [(2, .int (0 : Int32)), (0, .ref (G.2.1 1)), (1, .int v1)]) hx hb d_Re_sizeOf_1 rfl hl (by decide) rfl (fun ls hl => ?_)
  refine lv_iconst (v := (0 : Int32)) hx hb d_Re_sizeOf_2 (by decide) ?_
  refine lv_istore_n (lv' := [(3, .int (0 : Int32)), (2, .int (0 : Int32)), (0, .ref (G.2.1 1)), (1, .int v1)]) hx hb d_Re_sizeOf_3 rfl hl (by decide) rfl (fun ls hl => ?_)
  exact LP_4 v1 64 (0 : Int32) (0 : Int32) _ _ _ (lv_sub hl [2, 3, 1, 0] rfl) hP hf
def L_Re_put_59 (v1 : Int32) (v2 : Int32) (v3 : Int32) (v4 : Int32) (S : XSt) : Option ((Int32 × XSt) ⊕ (Int32 × XSt)) := (if v4 ≤ v3 then zup (zgd (zin v3 48) (znm (zpA S 0 v3 v1) (fun S3 => zgd (zin v3 48) (znm (zpA S3 1 v3 v2) (fun S6 => znm (zpS S6 0 ((S6.1 0) + (1 : Int32))) (fun S8 => Option.bind (f_Re_sizeOf S8 v1) (fun x10 => some (x10, S8)))))))) else zgd (zin (v4 - (1 : Int32)) 48) (zgd (zin v4 48) (znm (zpA S 0 v4 (S.2 0 (Int32.toNatClampNeg (v4 - (1 : Int32))))) (fun S14 => zgd (zin (v4 - (1 : Int32)) 48) (zgd (zin v4 48) (znm (zpA S14 1 v4 (S14.2 1 (Int32.toNatClampNeg (v4 - (1 : Int32))))) (fun S18 => some (Sum.inl ((v4 + (-1 : Int32)), S18)))))))))
def LS_Re_put_59 (v1 : Int32) (v2 : Int32) (v3 : Int32) (v : (Int32 × XSt)) : Option ((Int32 × XSt) ⊕ (Int32 × XSt)) := L_Re_put_59 v1 v2 v3 v.1 v.2
def f_Re_put (S : XSt) (v1 : Int32) (v2 : Int32) : Option (Int32 × XSt) := Option.bind (f_Re_rowFor S v1 v2) (fun x20 => (if (S.1 0) ≤ x20 then (if (S.1 0) < (48 : Int32) then zit (LS_Re_put_59 v1 v2 x20) 64 ((S.1 0), S) else some ((-2 : Int32), S)) else zgd (zin x20 48) ((if (S.2 0 (Int32.toNatClampNeg x20)) = v1 then zgd (zin x20 48) ((if (S.2 1 (Int32.toNatClampNeg x20)) = v2 then Option.bind (f_Re_sizeOf S v1) (fun x30 => some (x30, S)) else (if (S.1 0) < (48 : Int32) then zit (LS_Re_put_59 v1 v2 x20) 64 ((S.1 0), S) else some ((-2 : Int32), S)))) else (if (S.1 0) < (48 : Int32) then zit (LS_Re_put_59 v1 v2 x20) 64 ((S.1 0), S) else some ((-2 : Int32), S))))))
set_option maxHeartbeats 4000000 in
set_option maxRecDepth 100000 in
theorem c_Re_put (l : Launch) (G : XG) (S : XSt) (v1 : Int32) (v2 : Int32) (o0 : (Int32 × XSt)) (hf : f_Re_put S v1 v2 = some o0) : MetI l y_Re_put b_Re_put 5 (some .int) 2 [.ref (G.2.1 1), .int v1, .int v2] G.1 (tyX G) (zAX G) (wX G S) o0.1 (wX G o0.2) := by
  refine mkI (by decide) (Nat.le_of_ble_eq_true rfl) ?_
  intro p e R s m args below meth c ls Q C hl hP hret0
  replace C : Cw p m c b_Re_put 5 s args "TrustResolver$Records" R 2 := C
  have hx := C.1
  have hb := C.2.1
  replace hl : lv_has ls 5 [(0, .ref (G.2.1 1)), (1, .int v1), (2, .int v2)] := hl
  have hret : ∀ (pc : Nat) (ls : Array Slot) (H : Heap) (locs : List Loc) (v : Int32) (S' : XSt), decode b_Re_put pc = .ok (.ireturn, 1) → (v, S') = o0 → Pw G.1 (tyX G) (zAX G) s (wX G S') H locs → W p l e R s m args below meth c H locs 0 0 Q (F0 m pc ls [.int v]) := fun pc ls H locs v S' hd he hP => hret0 pc ls H locs v hd (by rw [← he]) (by rw [← he]; exact hP)
  clear hret0
  unfold f_Re_put at hf
  have LP_59 : ∀ (v1 : Int32) (v2 : Int32) (v3 : Int32) (n : Nat) (v4 : Int32) (S : XSt) (ls : Array Slot) (H : Heap) (locs : List Loc) , lv_has ls 5 [(0, .ref (G.2.1 1)), (1, .int v1), (2, .int v2), (3, .int v3), (4, .int v4)] → Pw G.1 (tyX G) (zAX G) s (wX G S) H locs → zit (LS_Re_put_59 v1 v2 v3) n (v4, S) = some o0 → W p l e R s m args below meth c H locs 0 0 Q (F0 m 59 ls []) := by
    intro v1 v2 v3 n
    induction n with
    | zero => intro v4 S ls H locs hl hP hf; exact zit_0 hf
    | succ n ih1 =>
      intro v4 S ls H locs hl hP hf
      obtain ⟨o1, hf, hk1⟩ := zit_s hf
      have hf : L_Re_put_59 v1 v2 v3 v4 S = some o1 := hf
      unfold L_Re_put_59 at hf
      refine lv_iload hx hb d_Re_put_59 (lv_at hl 4 rfl) ?_
      refine lv_iload_n hx hb d_Re_put_61 rfl (lv_at hl 3 rfl) ?_
      refine lv_icmp_le hx hb d_Re_put_62 (tgt := 103) (by decide) (fun h1 => ?_) (fun h1 => ?_)
      · have hf := it_t h1 hf
        have hf := zup_k hf hk1
        refine lv_aload_n hx hb d_Re_put_103 rfl (lv_at hl 0 rfl) ?_
        refine w_get C hP (fdX_1_sets G S) tb_24 d_Re_put_104 ?_
        refine lv_iload_n hx hb d_Re_put_107 rfl (lv_at hl 3 rfl) ?_
        refine lv_iload_n hx hb d_Re_put_108 rfl (lv_at hl 1 rfl) ?_
        obtain ⟨h2, hf⟩ := zgd_some hf
        refine w_iast (t0 := 0) C hP (stX_0 G S v3 v1) rfl h2 d_Re_put_109 (fun H locs hP => ?_)
        obtain ⟨S3, e4, hf⟩ := znm_some hf
        rw [← e4] at hP
        refine lv_aload_n hx hb d_Re_put_110 rfl (lv_at hl 0 rfl) ?_
        refine w_get C hP (fdX_1_datas G S3) tb_25 d_Re_put_111 ?_
        refine lv_iload_n hx hb d_Re_put_114 rfl (lv_at hl 3 rfl) ?_
        refine lv_iload_n hx hb d_Re_put_115 rfl (lv_at hl 2 rfl) ?_
        obtain ⟨h5, hf⟩ := zgd_some hf
        refine w_iast (t0 := 0) C hP (stX_1 G S3 v3 v2) rfl h5 d_Re_put_116 (fun H locs hP => ?_)
        obtain ⟨S6, e7, hf⟩ := znm_some hf
        rw [← e7] at hP
        refine lv_aload_n hx hb d_Re_put_117 rfl (lv_at hl 0 rfl) ?_
        refine lv_dup hx hb d_Re_put_118 rfl ?_
        refine w_get C hP (fdX_1_count G S6) tb_26 d_Re_put_119 ?_
        refine lv_iconst (v := (1 : Int32)) hx hb d_Re_put_122 (by decide) ?_
        refine lv_iadd hx hb d_Re_put_123 ?_
        refine w_put C hP (ptX_1_count G S6 ((S6.1 0) + (1 : Int32))) tb_26 d_Re_put_124 (fun H locs hP => ?_)
        obtain ⟨S8, e9, hf⟩ := znm_some hf
        rw [← e9] at hP
        refine lv_aload_n hx hb d_Re_put_127 rfl (lv_at hl 0 rfl) ?_
        refine lv_iload_n hx hb d_Re_put_128 rfl (lv_at hl 1 rfl) ?_
        obtain ⟨x10, h11, hf⟩ := bd_some hf
        refine w_callI (As := [.int v1]) (rest := []) C (c_Re_sizeOf l G S8 v1 x10 h11) cf_Re_sizeOf tb_167 (by decide) hP (obX_1 G S8) rfl hl.1 rfl (Nat.le_of_ble_eq_true rfl) d_Re_put_129 (fun H locs hP => ?_)
        exact hret _ _ _ _ _ _ d_Re_put_132 (Option.some.inj hf) hP
      · have hf := it_f h1 hf
        refine lv_aload_n hx hb d_Re_put_65 rfl (lv_at hl 0 rfl) ?_
        refine w_get C hP (fdX_1_sets G S) tb_24 d_Re_put_66 ?_
        refine lv_iload hx hb d_Re_put_69 (lv_at hl 4 rfl) ?_
        refine lv_aload_n hx hb d_Re_put_71 rfl (lv_at hl 0 rfl) ?_
        refine w_get C hP (fdX_1_sets G S) tb_24 d_Re_put_72 ?_
        refine lv_iload hx hb d_Re_put_75 (lv_at hl 4 rfl) ?_
        refine lv_iconst (v := (1 : Int32)) hx hb d_Re_put_77 (by decide) ?_
        refine lv_isub hx hb d_Re_put_78 ?_
        obtain ⟨h12, hf⟩ := zgd_some hf
        refine w_iald (t0 := 0) C hP (arX_0 G S) rfl h12 d_Re_put_79 ?_
        obtain ⟨h13, hf⟩ := zgd_some hf
        refine w_iast (t0 := 0) C hP (stX_0 G S v4 (S.2 0 (Int32.toNatClampNeg (v4 - (1 : Int32))))) rfl h13 d_Re_put_80 (fun H locs hP => ?_)
        obtain ⟨S14, e15, hf⟩ := znm_some hf
        rw [← e15] at hP
        refine lv_aload_n hx hb d_Re_put_81 rfl (lv_at hl 0 rfl) ?_
        refine w_get C hP (fdX_1_datas G S14) tb_25 d_Re_put_82 ?_
        refine lv_iload hx hb d_Re_put_85 (lv_at hl 4 rfl) ?_
        refine lv_aload_n hx hb d_Re_put_87 rfl (lv_at hl 0 rfl) ?_
        refine w_get C hP (fdX_1_datas G S14) tb_25 d_Re_put_88 ?_
        refine lv_iload hx hb d_Re_put_91 (lv_at hl 4 rfl) ?_
        refine lv_iconst (v := (1 : Int32)) hx hb d_Re_put_93 (by decide) ?_
        refine lv_isub hx hb d_Re_put_94 ?_
        obtain ⟨h16, hf⟩ := zgd_some hf
        refine w_iald (t0 := 0) C hP (arX_1 G S14) rfl h16 d_Re_put_95 ?_
        obtain ⟨h17, hf⟩ := zgd_some hf
        refine w_iast (t0 := 0) C hP (stX_1 G S14 v4 (S14.2 1 (Int32.toNatClampNeg (v4 - (1 : Int32))))) rfl h17 d_Re_put_96 (fun H locs hP => ?_)
        obtain ⟨S18, e19, hf⟩ := znm_some hf
        rw [← e19] at hP
        refine lv_iinc (k := 4) (v := (v4 + (-1 : Int32))) (lv' := [(4, .int (v4 + (-1 : Int32))), (0, .ref (G.2.1 1)), (1, .int v1), (2, .int v2), (3, .int v3)]) hx hb d_Re_put_97 hl rfl (ii (by decide) _) (by decide) rfl (fun ls hl => ?_)
        refine lv_goto hx hb d_Re_put_100 (tgt := 59) (by decide) ?_
        exact ih1 (v4 + (-1 : Int32)) S18 _ _ _ (lv_sub hl [1, 2, 3, 4, 0] rfl) hP (znx_l hf hk1)
  refine lv_aload_n hx hb d_Re_put_0 rfl (lv_at hl 0 rfl) ?_
  refine lv_iload_n hx hb d_Re_put_1 rfl (lv_at hl 1 rfl) ?_
  refine lv_iload_n hx hb d_Re_put_2 rfl (lv_at hl 2 rfl) ?_
  obtain ⟨x20, h21, hf⟩ := bd_some hf
  refine w_callI (As := [.int v1, .int v2]) (rest := []) C (c_Re_rowFor l G S v1 v2 x20 h21) cf_Re_rowFor tb_160 (by decide) hP (obX_1 G S) rfl hl.1 rfl (Nat.le_of_ble_eq_true rfl) d_Re_put_3 (fun H locs hP => ?_)
  refine lv_istore_n (lv' := [(3, .int x20), (0, .ref (G.2.1 1)), (1, .int v1), (2, .int v2)]) hx hb d_Re_put_6 rfl hl (by decide) rfl (fun ls hl => ?_)
  refine lv_iload_n hx hb d_Re_put_7 rfl (lv_at hl 0 rfl) ?_
  refine lv_aload_n hx hb d_Re_put_8 rfl (lv_at hl 1 rfl) ?_
  refine w_get C hP (fdX_1_count G S) tb_26 d_Re_put_9 ?_
  refine lv_icmp_ge hx hb d_Re_put_12 (tgt := 41) (by decide) (fun h22 => ?_) (fun h22 => ?_)
  · have hf := it_t h22 hf
    refine lv_aload_n hx hb d_Re_put_41 rfl (lv_at hl 1 rfl) ?_
    refine w_get C hP (fdX_1_count G S) tb_26 d_Re_put_42 ?_
    refine lv_bipush (v := (48 : Int32)) hx hb d_Re_put_45 (by decide) ?_
    refine lv_icmp_lt hx hb d_Re_put_47 (tgt := 53) (by decide) (fun h23 => ?_) (fun h23 => ?_)
    · have hf := it_t h23 hf
      refine lv_aload_n hx hb d_Re_put_53 rfl (lv_at hl 1 rfl) ?_
      refine w_get C hP (fdX_1_count G S) tb_26 d_Re_put_54 ?_
      refine lv_istore (lv' := [(4, .int (S.1 0)), (3, .int x20), (0, .ref (G.2.1 1)), (1, .int v1), (2, .int v2)]) hx hb d_Re_put_57 hl (by decide) rfl (fun ls hl => ?_)
      exact LP_59 v1 v2 x20 64 (S.1 0) S _ _ _ (lv_sub hl [2, 3, 4, 1, 0] rfl) hP hf
    · have hf := it_f h23 hf
      refine lv_bipush (v := (-2 : Int32)) hx hb d_Re_put_50 (by decide) ?_
      exact hret _ _ _ _ _ _ d_Re_put_52 (Option.some.inj hf) hP
  · have hf := it_f h22 hf
    refine lv_aload_n hx hb d_Re_put_15 rfl (lv_at hl 1 rfl) ?_
    refine w_get C hP (fdX_1_sets G S) tb_24 d_Re_put_16 ?_
    refine lv_iload_n hx hb d_Re_put_19 rfl (lv_at hl 0 rfl) ?_
    obtain ⟨h24, hf⟩ := zgd_some hf
    refine w_iald (t0 := 0) C hP (arX_0 G S) rfl h24 d_Re_put_20 ?_
    refine lv_iload_n hx hb d_Re_put_21 rfl (lv_at hl 2 rfl) ?_
    refine lv_icmp_ne hx hb d_Re_put_22 (tgt := 41) (by decide) (fun h25 => ?_) (fun h25 => ?_)
    · have hf := it_f h25 hf
      refine lv_aload_n hx hb d_Re_put_41 rfl (lv_at hl 1 rfl) ?_
      refine w_get C hP (fdX_1_count G S) tb_26 d_Re_put_42 ?_
      refine lv_bipush (v := (48 : Int32)) hx hb d_Re_put_45 (by decide) ?_
      refine lv_icmp_lt hx hb d_Re_put_47 (tgt := 53) (by decide) (fun h26 => ?_) (fun h26 => ?_)
      · have hf := it_t h26 hf
        refine lv_aload_n hx hb d_Re_put_53 rfl (lv_at hl 1 rfl) ?_
        refine w_get C hP (fdX_1_count G S) tb_26 d_Re_put_54 ?_
        refine lv_istore (lv' := [(4, .int (S.1 0)), (3, .int x20), (0, .ref (G.2.1 1)), (1, .int v1), (2, .int v2)]) hx hb d_Re_put_57 hl (by decide) rfl (fun ls hl => ?_)
        exact LP_59 v1 v2 x20 64 (S.1 0) S _ _ _ (lv_sub hl [2, 3, 4, 1, 0] rfl) hP hf
      · have hf := it_f h26 hf
        refine lv_bipush (v := (-2 : Int32)) hx hb d_Re_put_50 (by decide) ?_
        exact hret _ _ _ _ _ _ d_Re_put_52 (Option.some.inj hf) hP
    · have hf := it_t h25 hf
      refine lv_aload_n hx hb d_Re_put_25 rfl (lv_at hl 1 rfl) ?_
      refine w_get C hP (fdX_1_datas G S) tb_25 d_Re_put_26 ?_
      refine lv_iload_n hx hb d_Re_put_29 rfl (lv_at hl 0 rfl) ?_
      obtain ⟨h27, hf⟩ := zgd_some hf
      refine w_iald (t0 := 0) C hP (arX_1 G S) rfl h27 d_Re_put_30 ?_
      refine lv_iload_n hx hb d_Re_put_31 rfl (lv_at hl 3 rfl) ?_
      refine lv_icmp_ne hx hb d_Re_put_32 (tgt := 41) (by decide) (fun h28 => ?_) (fun h28 => ?_)
      · have hf := it_f h28 hf
        refine lv_aload_n hx hb d_Re_put_41 rfl (lv_at hl 1 rfl) ?_
        refine w_get C hP (fdX_1_count G S) tb_26 d_Re_put_42 ?_
        refine lv_bipush (v := (48 : Int32)) hx hb d_Re_put_45 (by decide) ?_
        refine lv_icmp_lt hx hb d_Re_put_47 (tgt := 53) (by decide) (fun h29 => ?_) (fun h29 => ?_)
        · have hf := it_t h29 hf
          refine lv_aload_n hx hb d_Re_put_53 rfl (lv_at hl 1 rfl) ?_
          refine w_get C hP (fdX_1_count G S) tb_26 d_Re_put_54 ?_
          refine lv_istore (lv' := [(4, .int (S.1 0)), (3, .int x20), (0, .ref (G.2.1 1)), (1, .int v1), (2, .int v2)]) hx hb d_Re_put_57 hl (by decide) rfl (fun ls hl => ?_)
          exact LP_59 v1 v2 x20 64 (S.1 0) S _ _ _ (lv_sub hl [2, 3, 4, 1, 0] rfl) hP hf
        · have hf := it_f h29 hf
          refine lv_bipush (v := (-2 : Int32)) hx hb d_Re_put_50 (by decide) ?_
          exact hret _ _ _ _ _ _ d_Re_put_52 (Option.some.inj hf) hP
      · have hf := it_t h28 hf
        refine lv_aload_n hx hb d_Re_put_35 rfl (lv_at hl 1 rfl) ?_
        refine lv_iload_n hx hb d_Re_put_36 rfl (lv_at hl 2 rfl) ?_
        obtain ⟨x30, h31, hf⟩ := bd_some hf
        refine w_callI (As := [.int v1]) (rest := []) C (c_Re_sizeOf l G S v1 x30 h31) cf_Re_sizeOf tb_167 (by decide) hP (obX_1 G S) rfl hl.1 rfl (Nat.le_of_ble_eq_true rfl) d_Re_put_37 (fun H locs hP => ?_)
        exact hret _ _ _ _ _ _ d_Re_put_40 (Option.some.inj hf) hP
def L_Re_empty_4 (v1 : Int32) (v2 : Int32) (v3 : Int32) (S : XSt) : Option ((Int32 × Int32 × XSt) ⊕ (Int32 × XSt)) := (if (S.1 0) ≤ v3 then zup (znm (zpS S 0 v2) (fun S2 => some (((S.1 0) - v2), S2))) else zgd (zin v3 48) ((if (S.2 0 (Int32.toNatClampNeg v3)) = v1 then some (Sum.inl (v2, (v3 + (1 : Int32)), S)) else zgd (zin v3 48) (zgd (zin v2 48) (znm (zpA S 0 v2 (S.2 0 (Int32.toNatClampNeg v3))) (fun S8 => zgd (zin v3 48) (zgd (zin v2 48) (znm (zpA S8 1 v2 (S8.2 1 (Int32.toNatClampNeg v3))) (fun S12 => some (Sum.inl ((v2 + (1 : Int32)), (v3 + (1 : Int32)), S12)))))))))))
def LS_Re_empty_4 (v1 : Int32) (v : (Int32 × Int32 × XSt)) : Option ((Int32 × Int32 × XSt) ⊕ (Int32 × XSt)) := L_Re_empty_4 v1 v.1 v.2.1 v.2.2
def f_Re_empty (S : XSt) (v1 : Int32) : Option (Int32 × XSt) := zit (LS_Re_empty_4 v1) 64 ((0 : Int32), (0 : Int32), S)
set_option maxHeartbeats 4000000 in
set_option maxRecDepth 100000 in
theorem c_Re_empty (l : Launch) (G : XG) (S : XSt) (v1 : Int32) (o0 : (Int32 × XSt)) (hf : f_Re_empty S v1 = some o0) : MetI l y_Re_empty b_Re_empty 4 (some .int) 0 [.ref (G.2.1 1), .int v1] G.1 (tyX G) (zAX G) (wX G S) o0.1 (wX G o0.2) := by
  refine mkI (by decide) (Nat.le_of_ble_eq_true rfl) ?_
  intro p e R s m args below meth c ls Q C hl hP hret0
  replace C : Cw p m c b_Re_empty 4 s args "TrustResolver$Records" R 0 := C
  have hx := C.1
  have hb := C.2.1
  replace hl : lv_has ls 4 [(0, .ref (G.2.1 1)), (1, .int v1)] := hl
  have hret : ∀ (pc : Nat) (ls : Array Slot) (H : Heap) (locs : List Loc) (v : Int32) (S' : XSt), decode b_Re_empty pc = .ok (.ireturn, 1) → (v, S') = o0 → Pw G.1 (tyX G) (zAX G) s (wX G S') H locs → W p l e R s m args below meth c H locs 0 0 Q (F0 m pc ls [.int v]) := fun pc ls H locs v S' hd he hP => hret0 pc ls H locs v hd (by rw [← he]) (by rw [← he]; exact hP)
  clear hret0
  unfold f_Re_empty at hf
  have LP_4 : ∀ (v1 : Int32) (n : Nat) (v2 : Int32) (v3 : Int32) (S : XSt) (ls : Array Slot) (H : Heap) (locs : List Loc) , lv_has ls 4 [(0, .ref (G.2.1 1)), (1, .int v1), (2, .int v2), (3, .int v3)] → Pw G.1 (tyX G) (zAX G) s (wX G S) H locs → zit (LS_Re_empty_4 v1) n (v2, v3, S) = some o0 → W p l e R s m args below meth c H locs 0 0 Q (F0 m 4 ls []) := by
    intro v1 n
    induction n with
    | zero => intro v2 v3 S ls H locs hl hP hf; exact zit_0 hf
    | succ n ih1 =>
      intro v2 v3 S ls H locs hl hP hf
      obtain ⟨o1, hf, hk1⟩ := zit_s hf
      have hf : L_Re_empty_4 v1 v2 v3 S = some o1 := hf
      unfold L_Re_empty_4 at hf
      refine lv_iload_n hx hb d_Re_empty_4 rfl (lv_at hl 3 rfl) ?_
      refine lv_aload_n hx hb d_Re_empty_5 rfl (lv_at hl 0 rfl) ?_
      refine w_get C hP (fdX_1_count G S) tb_26 d_Re_empty_6 ?_
      refine lv_icmp_ge hx hb d_Re_empty_9 (tgt := 55) (by decide) (fun h1 => ?_) (fun h1 => ?_)
      · have hf := it_t h1 hf
        have hf := zup_k hf hk1
        refine lv_aload_n hx hb d_Re_empty_55 rfl (lv_at hl 0 rfl) ?_
        refine w_get C hP (fdX_1_count G S) tb_26 d_Re_empty_56 ?_
        refine lv_iload_n hx hb d_Re_empty_59 rfl (lv_at hl 2 rfl) ?_
        refine lv_isub hx hb d_Re_empty_60 ?_
        refine lv_istore_n (lv' := [(3, .int ((S.1 0) - v2)), (0, .ref (G.2.1 1)), (1, .int v1), (2, .int v2)]) hx hb d_Re_empty_61 rfl hl (by decide) rfl (fun ls hl => ?_)
        refine lv_aload_n hx hb d_Re_empty_62 rfl (lv_at hl 1 rfl) ?_
        refine lv_iload_n hx hb d_Re_empty_63 rfl (lv_at hl 3 rfl) ?_
        refine w_put C hP (ptX_1_count G S v2) tb_26 d_Re_empty_64 (fun H locs hP => ?_)
        obtain ⟨S2, e3, hf⟩ := znm_some hf
        rw [← e3] at hP
        refine lv_iload_n hx hb d_Re_empty_67 rfl (lv_at hl 0 rfl) ?_
        exact hret _ _ _ _ _ _ d_Re_empty_68 (Option.some.inj hf) hP
      · have hf := it_f h1 hf
        refine lv_aload_n hx hb d_Re_empty_12 rfl (lv_at hl 0 rfl) ?_
        refine w_get C hP (fdX_1_sets G S) tb_24 d_Re_empty_13 ?_
        refine lv_iload_n hx hb d_Re_empty_16 rfl (lv_at hl 3 rfl) ?_
        obtain ⟨h4, hf⟩ := zgd_some hf
        refine w_iald (t0 := 0) C hP (arX_0 G S) rfl h4 d_Re_empty_17 ?_
        refine lv_iload_n hx hb d_Re_empty_18 rfl (lv_at hl 1 rfl) ?_
        refine lv_icmp_eq hx hb d_Re_empty_19 (tgt := 49) (by decide) (fun h5 => ?_) (fun h5 => ?_)
        · have hf := it_t h5 hf
          refine lv_iinc (k := 3) (v := (v3 + (1 : Int32))) (lv' := [(3, .int (v3 + (1 : Int32))), (0, .ref (G.2.1 1)), (1, .int v1), (2, .int v2)]) hx hb d_Re_empty_49 hl rfl (ii (by decide) _) (by decide) rfl (fun ls hl => ?_)
          refine lv_goto hx hb d_Re_empty_52 (tgt := 4) (by decide) ?_
          exact ih1 v2 (v3 + (1 : Int32)) S _ _ _ (lv_sub hl [1, 2, 3, 0] rfl) hP (znx_l hf hk1)
        · have hf := it_f h5 hf
          refine lv_aload_n hx hb d_Re_empty_22 rfl (lv_at hl 0 rfl) ?_
          refine w_get C hP (fdX_1_sets G S) tb_24 d_Re_empty_23 ?_
          refine lv_iload_n hx hb d_Re_empty_26 rfl (lv_at hl 2 rfl) ?_
          refine lv_aload_n hx hb d_Re_empty_27 rfl (lv_at hl 0 rfl) ?_
          refine w_get C hP (fdX_1_sets G S) tb_24 d_Re_empty_28 ?_
          refine lv_iload_n hx hb d_Re_empty_31 rfl (lv_at hl 3 rfl) ?_
          obtain ⟨h6, hf⟩ := zgd_some hf
          refine w_iald (t0 := 0) C hP (arX_0 G S) rfl h6 d_Re_empty_32 ?_
          obtain ⟨h7, hf⟩ := zgd_some hf
          refine w_iast (t0 := 0) C hP (stX_0 G S v2 (S.2 0 (Int32.toNatClampNeg v3))) rfl h7 d_Re_empty_33 (fun H locs hP => ?_)
          obtain ⟨S8, e9, hf⟩ := znm_some hf
          rw [← e9] at hP
          refine lv_aload_n hx hb d_Re_empty_34 rfl (lv_at hl 0 rfl) ?_
          refine w_get C hP (fdX_1_datas G S8) tb_25 d_Re_empty_35 ?_
          refine lv_iload_n hx hb d_Re_empty_38 rfl (lv_at hl 2 rfl) ?_
          refine lv_aload_n hx hb d_Re_empty_39 rfl (lv_at hl 0 rfl) ?_
          refine w_get C hP (fdX_1_datas G S8) tb_25 d_Re_empty_40 ?_
          refine lv_iload_n hx hb d_Re_empty_43 rfl (lv_at hl 3 rfl) ?_
          obtain ⟨h10, hf⟩ := zgd_some hf
          refine w_iald (t0 := 0) C hP (arX_1 G S8) rfl h10 d_Re_empty_44 ?_
          obtain ⟨h11, hf⟩ := zgd_some hf
          refine w_iast (t0 := 0) C hP (stX_1 G S8 v2 (S8.2 1 (Int32.toNatClampNeg v3))) rfl h11 d_Re_empty_45 (fun H locs hP => ?_)
          obtain ⟨S12, e13, hf⟩ := znm_some hf
          rw [← e13] at hP
          refine lv_iinc (k := 2) (v := (v2 + (1 : Int32))) (lv' := [(2, .int (v2 + (1 : Int32))), (0, .ref (G.2.1 1)), (1, .int v1), (3, .int v3)]) hx hb d_Re_empty_46 hl rfl (ii (by decide) _) (by decide) rfl (fun ls hl => ?_)
          refine lv_iinc (k := 3) (v := (v3 + (1 : Int32))) (lv' := [(3, .int (v3 + (1 : Int32))), (2, .int (v2 + (1 : Int32))), (0, .ref (G.2.1 1)), (1, .int v1)]) hx hb d_Re_empty_49 hl rfl (ii (by decide) _) (by decide) rfl (fun ls hl => ?_)
          refine lv_goto hx hb d_Re_empty_52 (tgt := 4) (by decide) ?_
          exact ih1 (v2 + (1 : Int32)) (v3 + (1 : Int32)) S12 _ _ _ (lv_sub hl [2, 3, 1, 0] rfl) hP (znx_l hf hk1)
  refine lv_iconst (v := (0 : Int32)) hx hb d_Re_empty_0 (by decide) ?_
  refine lv_istore_n (lv' := [(2, .int (0 : Int32)), (0, .ref (G.2.1 1)), (1, .int v1)]) hx hb d_Re_empty_1 rfl hl (by decide) rfl (fun ls hl => ?_)
  refine lv_iconst (v := (0 : Int32)) hx hb d_Re_empty_2 (by decide) ?_
  refine lv_istore_n (lv' := [(3, .int (0 : Int32)), (2, .int (0 : Int32)), (0, .ref (G.2.1 1)), (1, .int v1)]) hx hb d_Re_empty_3 rfl hl (by decide) rfl (fun ls hl => ?_)
  exact LP_4 v1 64 (0 : Int32) (0 : Int32) S _ _ _ (lv_sub hl [2, 3, 1, 0] rfl) hP hf
def f_Re_dataAt (S : XSt) (v1 : Int32) : Option Int32 := (if v1 < (0 : Int32) then some (0 : Int32) else (if (S.1 0) ≤ v1 then some (0 : Int32) else zgd (zin v1 48) (some (S.2 1 (Int32.toNatClampNeg v1)))))
set_option maxHeartbeats 4000000 in
set_option maxRecDepth 100000 in
theorem c_Re_dataAt (l : Launch) (G : XG) (S : XSt) (v1 : Int32) (o0 : Int32) (hf : f_Re_dataAt S v1 = some o0) : MetI l y_Re_dataAt b_Re_dataAt 2 (some .int) 0 [.ref (G.2.1 1), .int v1] G.1 (tyX G) (zAX G) (wX G S) o0 (wX G S) := by
  refine mkI (by decide) (Nat.le_of_ble_eq_true rfl) ?_
  intro p e R s m args below meth c ls Q C hl hP hret0
  replace C : Cw p m c b_Re_dataAt 2 s args "TrustResolver$Records" R 0 := C
  have hx := C.1
  have hb := C.2.1
  replace hl : lv_has ls 2 [(0, .ref (G.2.1 1)), (1, .int v1)] := hl
  have hret := hret0
  clear hret0
  unfold f_Re_dataAt at hf
  refine lv_iload_n hx hb d_Re_dataAt_0 rfl (lv_at hl 1 rfl) ?_
  refine lv_if_lt hx hb d_Re_dataAt_1 (tgt := 21) (by decide) (fun h1 => ?_) (fun h1 => ?_)
  · have hf := it_t h1 hf
    refine lv_iconst (v := (0 : Int32)) hx hb d_Re_dataAt_21 (by decide) ?_
    exact hret _ _ _ _ _ d_Re_dataAt_22 (Option.some.inj hf) hP
  · have hf := it_f h1 hf
    refine lv_iload_n hx hb d_Re_dataAt_4 rfl (lv_at hl 1 rfl) ?_
    refine lv_aload_n hx hb d_Re_dataAt_5 rfl (lv_at hl 0 rfl) ?_
    refine w_get C hP (fdX_1_count G S) tb_26 d_Re_dataAt_6 ?_
    refine lv_icmp_ge hx hb d_Re_dataAt_9 (tgt := 21) (by decide) (fun h2 => ?_) (fun h2 => ?_)
    · have hf := it_t h2 hf
      refine lv_iconst (v := (0 : Int32)) hx hb d_Re_dataAt_21 (by decide) ?_
      exact hret _ _ _ _ _ d_Re_dataAt_22 (Option.some.inj hf) hP
    · have hf := it_f h2 hf
      refine lv_aload_n hx hb d_Re_dataAt_12 rfl (lv_at hl 0 rfl) ?_
      refine w_get C hP (fdX_1_datas G S) tb_25 d_Re_dataAt_13 ?_
      refine lv_iload_n hx hb d_Re_dataAt_16 rfl (lv_at hl 1 rfl) ?_
      obtain ⟨h3, hf⟩ := zgd_some hf
      refine w_iald (t0 := 0) C hP (arX_1 G S) rfl h3 d_Re_dataAt_17 ?_
      refine lv_goto hx hb d_Re_dataAt_18 (tgt := 22) (by decide) ?_
      exact hret _ _ _ _ _ d_Re_dataAt_22 (Option.some.inj hf) hP
def J_An_put_26 (S : XSt) (v1 : Int32) (v2 : Int32) (v3 : Int32)  : Option (Int32 × XSt) := (if v3 < (4 : Int32) then zgd (zin v3 4) (znm (zpA S 12 v3 v1) (fun S3 => zgd (zin v3 4) (znm (zpA S3 13 v3 v2) (fun S6 => (if v3 = (S6.1 5) then znm (zpS S6 5 ((S6.1 5) + (1 : Int32))) (fun S9 => some ((S9.1 5), S9)) else some ((S6.1 5), S6)))))) else some ((-2 : Int32), S))
def L_An_put_2 (S : XSt) (v1 : Int32) (v2 : Int32) (v3 : Int32) : Option (Int32 ⊕ (Int32 × XSt)) := (if (S.1 5) ≤ v3 then zup (J_An_put_26 S v1 v2 v3) else zgd (zin v3 4) ((if (S.2 12 (Int32.toNatClampNeg v3)) = v1 then zup (J_An_put_26 S v1 v2 v3) else some (Sum.inl (v3 + (1 : Int32))))))
def LS_An_put_2 (S : XSt) (v1 : Int32) (v2 : Int32) (v : Int32) : Option (Int32 ⊕ (Int32 × XSt)) := L_An_put_2 S v1 v2 v
def f_An_put (S : XSt) (v1 : Int32) (v2 : Int32) : Option (Int32 × XSt) := zit (LS_An_put_2 S v1 v2) 64 (0 : Int32)
set_option maxHeartbeats 4000000 in
set_option maxRecDepth 100000 in
theorem c_An_put (l : Launch) (G : XG) (S : XSt) (v1 : Int32) (v2 : Int32) (o0 : (Int32 × XSt)) (hf : f_An_put S v1 v2 = some o0) : MetI l y_An_put b_An_put 4 (some .int) 0 [.ref (G.2.1 15), .int v1, .int v2] G.1 (tyX G) (zAX G) (wX G S) o0.1 (wX G o0.2) := by
  refine mkI (by decide) (Nat.le_of_ble_eq_true rfl) ?_
  intro p e R s m args below meth c ls Q C hl hP hret0
  replace C : Cw p m c b_An_put 4 s args "TrustResolver$Anchors" R 0 := C
  have hx := C.1
  have hb := C.2.1
  replace hl : lv_has ls 4 [(0, .ref (G.2.1 15)), (1, .int v1), (2, .int v2)] := hl
  have hret : ∀ (pc : Nat) (ls : Array Slot) (H : Heap) (locs : List Loc) (v : Int32) (S' : XSt), decode b_An_put pc = .ok (.ireturn, 1) → (v, S') = o0 → Pw G.1 (tyX G) (zAX G) s (wX G S') H locs → W p l e R s m args below meth c H locs 0 0 Q (F0 m pc ls [.int v]) := fun pc ls H locs v S' hd he hP => hret0 pc ls H locs v hd (by rw [← he]) (by rw [← he]; exact hP)
  clear hret0
  unfold f_An_put at hf
  have JP_26 : ∀ (S : XSt) (v1 : Int32) (v2 : Int32) (v3 : Int32)  (ls : Array Slot) (H : Heap) (locs : List Loc) , lv_has ls 4 [(0, .ref (G.2.1 15)), (1, .int v1), (2, .int v2), (3, .int v3)] → Pw G.1 (tyX G) (zAX G) s (wX G S) H locs → J_An_put_26 S v1 v2 v3 = some o0 → W p l e R s m args below meth c H locs 0 0 Q (F0 m 26 ls []) := by
    intro S v1 v2 v3 ls H locs hl hP hf
    unfold J_An_put_26 at hf
    refine lv_iload_n hx hb d_An_put_26 rfl (lv_at hl 3 rfl) ?_
    refine lv_iconst (v := (4 : Int32)) hx hb d_An_put_27 (by decide) ?_
    refine lv_icmp_lt hx hb d_An_put_28 (tgt := 34) (by decide) (fun h1 => ?_) (fun h1 => ?_)
    · have hf := it_t h1 hf
      refine lv_aload_n hx hb d_An_put_34 rfl (lv_at hl 0 rfl) ?_
      refine w_get C hP (fdX_15_zones G S) tb_73 d_An_put_35 ?_
      refine lv_iload_n hx hb d_An_put_38 rfl (lv_at hl 3 rfl) ?_
      refine lv_iload_n hx hb d_An_put_39 rfl (lv_at hl 1 rfl) ?_
      obtain ⟨h2, hf⟩ := zgd_some hf
      refine w_iast (t0 := 0) C hP (stX_12 G S v3 v1) rfl h2 d_An_put_40 (fun H locs hP => ?_)
      obtain ⟨S3, e4, hf⟩ := znm_some hf
      rw [← e4] at hP
      refine lv_aload_n hx hb d_An_put_41 rfl (lv_at hl 0 rfl) ?_
      refine w_get C hP (fdX_15_digests G S3) tb_74 d_An_put_42 ?_
      refine lv_iload_n hx hb d_An_put_45 rfl (lv_at hl 3 rfl) ?_
      refine lv_iload_n hx hb d_An_put_46 rfl (lv_at hl 2 rfl) ?_
      obtain ⟨h5, hf⟩ := zgd_some hf
      refine w_iast (t0 := 0) C hP (stX_13 G S3 v3 v2) rfl h5 d_An_put_47 (fun H locs hP => ?_)
      obtain ⟨S6, e7, hf⟩ := znm_some hf
      rw [← e7] at hP
      refine lv_iload_n hx hb d_An_put_48 rfl (lv_at hl 3 rfl) ?_
      refine lv_aload_n hx hb d_An_put_49 rfl (lv_at hl 0 rfl) ?_
      refine w_get C hP (fdX_15_count G S6) tb_75 d_An_put_50 ?_
      refine lv_icmp_ne hx hb d_An_put_53 (tgt := 66) (by decide) (fun h8 => ?_) (fun h8 => ?_)
      · have hf := it_f h8 hf
        refine lv_aload_n hx hb d_An_put_66 rfl (lv_at hl 0 rfl) ?_
        refine w_get C hP (fdX_15_count G S6) tb_75 d_An_put_67 ?_
        exact hret _ _ _ _ _ _ d_An_put_70 (Option.some.inj hf) hP
      · have hf := it_t h8 hf
        refine lv_aload_n hx hb d_An_put_56 rfl (lv_at hl 0 rfl) ?_
        refine lv_dup hx hb d_An_put_57 rfl ?_
        refine w_get C hP (fdX_15_count G S6) tb_75 d_An_put_58 ?_
        refine lv_iconst (v := (1 : Int32)) hx hb d_An_put_61 (by decide) ?_
        refine lv_iadd hx hb d_An_put_62 ?_
        refine w_put C hP (ptX_15_count G S6 ((S6.1 5) + (1 : Int32))) tb_75 d_An_put_63 (fun H locs hP => ?_)
        obtain ⟨S9, e10, hf⟩ := znm_some hf
        rw [← e10] at hP
        refine lv_aload_n hx hb d_An_put_66 rfl (lv_at hl 0 rfl) ?_
        refine w_get C hP (fdX_15_count G S9) tb_75 d_An_put_67 ?_
        exact hret _ _ _ _ _ _ d_An_put_70 (Option.some.inj hf) hP
    · have hf := it_f h1 hf
      refine lv_bipush (v := (-2 : Int32)) hx hb d_An_put_31 (by decide) ?_
      exact hret _ _ _ _ _ _ d_An_put_33 (Option.some.inj hf) hP
  have LP_2 : ∀ (S : XSt) (v1 : Int32) (v2 : Int32) (n : Nat) (v3 : Int32) (ls : Array Slot) (H : Heap) (locs : List Loc) , lv_has ls 4 [(0, .ref (G.2.1 15)), (1, .int v1), (2, .int v2), (3, .int v3)] → Pw G.1 (tyX G) (zAX G) s (wX G S) H locs → zit (LS_An_put_2 S v1 v2) n v3 = some o0 → W p l e R s m args below meth c H locs 0 0 Q (F0 m 2 ls []) := by
    intro S v1 v2 n
    induction n with
    | zero => intro v3 ls H locs hl hP hf; exact zit_0 hf
    | succ n ih1 =>
      intro v3 ls H locs hl hP hf
      obtain ⟨o1, hf, hk1⟩ := zit_s hf
      have hf : L_An_put_2 S v1 v2 v3 = some o1 := hf
      unfold L_An_put_2 at hf
      refine lv_iload_n hx hb d_An_put_2 rfl (lv_at hl 3 rfl) ?_
      refine lv_aload_n hx hb d_An_put_3 rfl (lv_at hl 0 rfl) ?_
      refine w_get C hP (fdX_15_count G S) tb_75 d_An_put_4 ?_
      refine lv_icmp_ge hx hb d_An_put_7 (tgt := 26) (by decide) (fun h11 => ?_) (fun h11 => ?_)
      · have hf := it_t h11 hf
        have hf := zup_k hf hk1
        exact JP_26 S v1 v2 v3 _ _ _ (lv_sub hl [0, 1, 2, 3] rfl) hP hf
      · have hf := it_f h11 hf
        refine lv_aload_n hx hb d_An_put_10 rfl (lv_at hl 0 rfl) ?_
        refine w_get C hP (fdX_15_zones G S) tb_73 d_An_put_11 ?_
        refine lv_iload_n hx hb d_An_put_14 rfl (lv_at hl 3 rfl) ?_
        obtain ⟨h12, hf⟩ := zgd_some hf
        refine w_iald (t0 := 0) C hP (arX_12 G S) rfl h12 d_An_put_15 ?_
        refine lv_iload_n hx hb d_An_put_16 rfl (lv_at hl 1 rfl) ?_
        refine lv_icmp_eq hx hb d_An_put_17 (tgt := 26) (by decide) (fun h13 => ?_) (fun h13 => ?_)
        · have hf := it_t h13 hf
          have hf := zup_k hf hk1
          exact JP_26 S v1 v2 v3 _ _ _ (lv_sub hl [0, 1, 2, 3] rfl) hP hf
        · have hf := it_f h13 hf
          refine lv_iinc (k := 3) (v := (v3 + (1 : Int32))) (lv' := [(3, .int (v3 + (1 : Int32))), (0, .ref (G.2.1 15)), (1, .int v1), (2, .int v2)]) hx hb d_An_put_20 hl rfl (ii (by decide) _) (by decide) rfl (fun ls hl => ?_)
          refine lv_goto hx hb d_An_put_23 (tgt := 2) (by decide) ?_
          exact ih1 (v3 + (1 : Int32)) _ _ _ (lv_sub hl [1, 2, 3, 0] rfl) hP (znx_l hf hk1)
  refine lv_iconst (v := (0 : Int32)) hx hb d_An_put_0 (by decide) ?_
  refine lv_istore_n (lv' := [(3, .int (0 : Int32)), (0, .ref (G.2.1 15)), (1, .int v1), (2, .int v2)]) hx hb d_An_put_1 rfl hl (by decide) rfl (fun ls hl => ?_)
  exact LP_2 S v1 v2 64 (0 : Int32) _ _ _ (lv_sub hl [1, 2, 3, 0] rfl) hP hf
def L_An_deepestFor_4 (S : XSt) (v1 : Int32) (v2 : Int32) (v3 : Int32) : Option ((Int32 × Int32) ⊕ Int32) := (if (S.1 5) ≤ v3 then zup (some v2) else zgd (zin v3 4) (Option.bind (f_Na_isOrAbove (S.2 12 (Int32.toNatClampNeg v3)) v1) (fun x3 => (if x3 = (0 : Int32) then some (Sum.inl (v2, (v3 + (1 : Int32)))) else zgd (zin v3 4) ((if (S.2 12 (Int32.toNatClampNeg v3)) ≤ v2 then some (Sum.inl (v2, (v3 + (1 : Int32)))) else zgd (zin v3 4) (some (Sum.inl ((S.2 12 (Int32.toNatClampNeg v3)), (v3 + (1 : Int32)))))))))))
def LS_An_deepestFor_4 (S : XSt) (v1 : Int32) (v : (Int32 × Int32)) : Option ((Int32 × Int32) ⊕ Int32) := L_An_deepestFor_4 S v1 v.1 v.2
def f_An_deepestFor (S : XSt) (v1 : Int32) : Option Int32 := zit (LS_An_deepestFor_4 S v1) 64 ((-1 : Int32), (0 : Int32))
set_option maxHeartbeats 4000000 in
set_option maxRecDepth 100000 in
theorem c_An_deepestFor (l : Launch) (G : XG) (S : XSt) (v1 : Int32) (o0 : Int32) (hf : f_An_deepestFor S v1 = some o0) : MetI l y_An_deepestFor b_An_deepestFor 4 (some .int) 2 [.ref (G.2.1 15), .int v1] G.1 (tyX G) (zAX G) (wX G S) o0 (wX G S) := by
  refine mkI (by decide) (Nat.le_of_ble_eq_true rfl) ?_
  intro p e R s m args below meth c ls Q C hl hP hret0
  replace C : Cw p m c b_An_deepestFor 4 s args "TrustResolver$Anchors" R 2 := C
  have hx := C.1
  have hb := C.2.1
  replace hl : lv_has ls 4 [(0, .ref (G.2.1 15)), (1, .int v1)] := hl
  have hret := hret0
  clear hret0
  unfold f_An_deepestFor at hf
  have LP_4 : ∀ (v1 : Int32) (n : Nat) (v2 : Int32) (v3 : Int32) (ls : Array Slot) (H : Heap) (locs : List Loc) , lv_has ls 4 [(0, .ref (G.2.1 15)), (1, .int v1), (2, .int v2), (3, .int v3)] → Pw G.1 (tyX G) (zAX G) s (wX G S) H locs → zit (LS_An_deepestFor_4 S v1) n (v2, v3) = some o0 → W p l e R s m args below meth c H locs 0 0 Q (F0 m 4 ls []) := by
    intro v1 n
    induction n with
    | zero => intro v2 v3 ls H locs hl hP hf; exact zit_0 hf
    | succ n ih1 =>
      intro v2 v3 ls H locs hl hP hf
      obtain ⟨o1, hf, hk1⟩ := zit_s hf
      have hf : L_An_deepestFor_4 S v1 v2 v3 = some o1 := hf
      unfold L_An_deepestFor_4 at hf
      refine lv_iload_n hx hb d_An_deepestFor_4 rfl (lv_at hl 3 rfl) ?_
      refine lv_aload_n hx hb d_An_deepestFor_5 rfl (lv_at hl 0 rfl) ?_
      refine w_get C hP (fdX_15_count G S) tb_75 d_An_deepestFor_6 ?_
      refine lv_icmp_ge hx hb d_An_deepestFor_9 (tgt := 48) (by decide) (fun h1 => ?_) (fun h1 => ?_)
      · have hf := it_t h1 hf
        have hf := zup_k hf hk1
        refine lv_iload_n hx hb d_An_deepestFor_48 rfl (lv_at hl 2 rfl) ?_
        exact hret _ _ _ _ _ d_An_deepestFor_49 (Option.some.inj hf) hP
      · have hf := it_f h1 hf
        refine lv_aload_n hx hb d_An_deepestFor_12 rfl (lv_at hl 0 rfl) ?_
        refine w_get C hP (fdX_15_zones G S) tb_73 d_An_deepestFor_13 ?_
        refine lv_iload_n hx hb d_An_deepestFor_16 rfl (lv_at hl 3 rfl) ?_
        obtain ⟨h2, hf⟩ := zgd_some hf
        refine w_iald (t0 := 0) C hP (arX_12 G S) rfl h2 d_An_deepestFor_17 ?_
        refine lv_iload_n hx hb d_An_deepestFor_18 rfl (lv_at hl 1 rfl) ?_
        obtain ⟨x3, h4, hf⟩ := bd_some hf
        refine w_callS (As := [.int (S.2 12 (Int32.toNatClampNeg v3)), .int v1]) (rest := []) C (c_Na_isOrAbove l (S.2 12 (Int32.toNatClampNeg v3)) v1 x3 h4) cf_Na_isOrAbove tb_278 (by decide) rfl hl.1 rfl (Nat.le_of_ble_eq_true rfl) d_An_deepestFor_19 ?_
        refine lv_if_eq hx hb d_An_deepestFor_22 (tgt := 42) (by decide) (fun h5 => ?_) (fun h5 => ?_)
        · have hf := it_t h5 hf
          refine lv_iinc (k := 3) (v := (v3 + (1 : Int32))) (lv' := [(3, .int (v3 + (1 : Int32))), (0, .ref (G.2.1 15)), (1, .int v1), (2, .int v2)]) hx hb d_An_deepestFor_42 hl rfl (ii (by decide) _) (by decide) rfl (fun ls hl => ?_)
          refine lv_goto hx hb d_An_deepestFor_45 (tgt := 4) (by decide) ?_
          exact ih1 v2 (v3 + (1 : Int32)) _ _ _ (lv_sub hl [1, 2, 3, 0] rfl) hP (znx_l hf hk1)
        · have hf := it_f h5 hf
          refine lv_aload_n hx hb d_An_deepestFor_25 rfl (lv_at hl 0 rfl) ?_
          refine w_get C hP (fdX_15_zones G S) tb_73 d_An_deepestFor_26 ?_
          refine lv_iload_n hx hb d_An_deepestFor_29 rfl (lv_at hl 3 rfl) ?_
          obtain ⟨h6, hf⟩ := zgd_some hf
          refine w_iald (t0 := 0) C hP (arX_12 G S) rfl h6 d_An_deepestFor_30 ?_
          refine lv_iload_n hx hb d_An_deepestFor_31 rfl (lv_at hl 2 rfl) ?_
          refine lv_icmp_le hx hb d_An_deepestFor_32 (tgt := 42) (by decide) (fun h7 => ?_) (fun h7 => ?_)
          · have hf := it_t h7 hf
            refine lv_iinc (k := 3) (v := (v3 + (1 : Int32))) (lv' := [(3, .int (v3 + (1 : Int32))), (0, .ref (G.2.1 15)), (1, .int v1), (2, .int v2)]) hx hb d_An_deepestFor_42 hl rfl (ii (by decide) _) (by decide) rfl (fun ls hl => ?_)
            refine lv_goto hx hb d_An_deepestFor_45 (tgt := 4) (by decide) ?_
            exact ih1 v2 (v3 + (1 : Int32)) _ _ _ (lv_sub hl [1, 2, 3, 0] rfl) hP (znx_l hf hk1)
          · have hf := it_f h7 hf
            refine lv_aload_n hx hb d_An_deepestFor_35 rfl (lv_at hl 0 rfl) ?_
            refine w_get C hP (fdX_15_zones G S) tb_73 d_An_deepestFor_36 ?_
            refine lv_iload_n hx hb d_An_deepestFor_39 rfl (lv_at hl 3 rfl) ?_
            obtain ⟨h8, hf⟩ := zgd_some hf
            refine w_iald (t0 := 0) C hP (arX_12 G S) rfl h8 d_An_deepestFor_40 ?_
            refine lv_istore_n (lv' := [(2, .int (S.2 12 (Int32.toNatClampNeg v3))), (0, .ref (G.2.1 15)), (1, .int v1), (3, .int v3)]) hx hb d_An_deepestFor_41 rfl hl (by decide) rfl (fun ls hl => ?_)
            refine lv_iinc (k := 3) (v := (v3 + (1 : Int32))) (lv' := [(3, .int (v3 + (1 : Int32))), (2, .int (S.2 12 (Int32.toNatClampNeg v3))), (0, .ref (G.2.1 15)), (1, .int v1)]) hx hb d_An_deepestFor_42 hl rfl (ii (by decide) _) (by decide) rfl (fun ls hl => ?_)
            refine lv_goto hx hb d_An_deepestFor_45 (tgt := 4) (by decide) ?_
            exact ih1 (S.2 12 (Int32.toNatClampNeg v3)) (v3 + (1 : Int32)) _ _ _ (lv_sub hl [2, 3, 1, 0] rfl) hP (znx_l hf hk1)
  refine lv_iconst (v := (-1 : Int32)) hx hb d_An_deepestFor_0 (by decide) ?_
  refine lv_istore_n (lv' := [(2, .int (-1 : Int32)), (0, .ref (G.2.1 15)), (1, .int v1)]) hx hb d_An_deepestFor_1 rfl hl (by decide) rfl (fun ls hl => ?_)
  refine lv_iconst (v := (0 : Int32)) hx hb d_An_deepestFor_2 (by decide) ?_
  refine lv_istore_n (lv' := [(3, .int (0 : Int32)), (2, .int (-1 : Int32)), (0, .ref (G.2.1 15)), (1, .int v1)]) hx hb d_An_deepestFor_3 rfl hl (by decide) rfl (fun ls hl => ?_)
  exact LP_4 v1 64 (-1 : Int32) (0 : Int32) _ _ _ (lv_sub hl [2, 3, 1, 0] rfl) hP hf
def f_Nu_clear_d (S : XSt)  : Option XSt := znm (zpS S 12 (0 : Int32)) (fun S1 => some S1)
set_option maxHeartbeats 4000000 in
set_option maxRecDepth 100000 in
theorem c_Nu_clear_d (l : Launch) (G : XG) (S : XSt)  (o0 : XSt) (hf : f_Nu_clear_d S = some o0) : MetV l y_Nu_clear b_Nu_clear 1 0 [.ref (G.2.1 19)] G.1 (tyX G) (zAX G) (wX G S) (wX G o0) := by
  refine mkV (by decide) (Nat.le_of_ble_eq_true rfl) ?_
  intro p e R s m args below meth c ls Q C hl hP hret0
  replace C : Cw p m c b_Nu_clear 1 s args "TrustResolver$Numbers" R 0 := C
  have hx := C.1
  have hb := C.2.1
  replace hl : lv_has ls 1 [(0, .ref (G.2.1 19))] := hl
  have hret : ∀ (pc : Nat) (ls : Array Slot) (H : Heap) (locs : List Loc) (S' : XSt), decode b_Nu_clear pc = .ok (.return_, 1) → S' = o0 → Pw G.1 (tyX G) (zAX G) s (wX G S') H locs → W p l e R s m args below meth c H locs 0 0 Q (F0 m pc ls []) := fun pc ls H locs S' hd he hP => hret0 pc ls H locs hd (by rw [← he]; exact hP)
  clear hret0
  unfold f_Nu_clear_d at hf
  refine lv_aload_n hx hb d_Nu_clear_0 rfl (lv_at hl 0 rfl) ?_
  refine lv_iconst (v := (0 : Int32)) hx hb d_Nu_clear_1 (by decide) ?_
  refine w_put C hP (ptX_19_count G S (0 : Int32)) tb_91 d_Nu_clear_2 (fun H locs hP => ?_)
  obtain ⟨S1, e2, hf⟩ := znm_some hf
  rw [← e2] at hP
  exact hret _ _ _ _ _ d_Nu_clear_5 (Option.some.inj hf) hP
def L_An_digestOf_2 (S : XSt) (v1 : Int32) (v2 : Int32) : Option (Int32 ⊕ Int32) := (if (S.1 5) ≤ v2 then zup (some (-1 : Int32)) else zgd (zin v2 4) ((if (S.2 12 (Int32.toNatClampNeg v2)) = v1 then zup (zgd (zin v2 4) (some (S.2 13 (Int32.toNatClampNeg v2)))) else some (Sum.inl (v2 + (1 : Int32))))))
def LS_An_digestOf_2 (S : XSt) (v1 : Int32) (v : Int32) : Option (Int32 ⊕ Int32) := L_An_digestOf_2 S v1 v
def f_An_digestOf (S : XSt) (v1 : Int32) : Option Int32 := zit (LS_An_digestOf_2 S v1) 64 (0 : Int32)
set_option maxHeartbeats 4000000 in
set_option maxRecDepth 100000 in
theorem c_An_digestOf (l : Launch) (G : XG) (S : XSt) (v1 : Int32) (o0 : Int32) (hf : f_An_digestOf S v1 = some o0) : MetI l y_An_digestOf b_An_digestOf 3 (some .int) 0 [.ref (G.2.1 15), .int v1] G.1 (tyX G) (zAX G) (wX G S) o0 (wX G S) := by
  refine mkI (by decide) (Nat.le_of_ble_eq_true rfl) ?_
  intro p e R s m args below meth c ls Q C hl hP hret0
  replace C : Cw p m c b_An_digestOf 3 s args "TrustResolver$Anchors" R 0 := C
  have hx := C.1
  have hb := C.2.1
  replace hl : lv_has ls 3 [(0, .ref (G.2.1 15)), (1, .int v1)] := hl
  have hret := hret0
  clear hret0
  unfold f_An_digestOf at hf
  have LP_2 : ∀ (v1 : Int32) (n : Nat) (v2 : Int32) (ls : Array Slot) (H : Heap) (locs : List Loc) , lv_has ls 3 [(0, .ref (G.2.1 15)), (1, .int v1), (2, .int v2)] → Pw G.1 (tyX G) (zAX G) s (wX G S) H locs → zit (LS_An_digestOf_2 S v1) n v2 = some o0 → W p l e R s m args below meth c H locs 0 0 Q (F0 m 2 ls []) := by
    intro v1 n
    induction n with
    | zero => intro v2 ls H locs hl hP hf; exact zit_0 hf
    | succ n ih1 =>
      intro v2 ls H locs hl hP hf
      obtain ⟨o1, hf, hk1⟩ := zit_s hf
      have hf : L_An_digestOf_2 S v1 v2 = some o1 := hf
      unfold L_An_digestOf_2 at hf
      refine lv_iload_n hx hb d_An_digestOf_2 rfl (lv_at hl 2 rfl) ?_
      refine lv_aload_n hx hb d_An_digestOf_3 rfl (lv_at hl 0 rfl) ?_
      refine w_get C hP (fdX_15_count G S) tb_75 d_An_digestOf_4 ?_
      refine lv_icmp_ge hx hb d_An_digestOf_7 (tgt := 33) (by decide) (fun h1 => ?_) (fun h1 => ?_)
      · have hf := it_t h1 hf
        have hf := zup_k hf hk1
        refine lv_iconst (v := (-1 : Int32)) hx hb d_An_digestOf_33 (by decide) ?_
        exact hret _ _ _ _ _ d_An_digestOf_34 (Option.some.inj hf) hP
      · have hf := it_f h1 hf
        refine lv_aload_n hx hb d_An_digestOf_10 rfl (lv_at hl 0 rfl) ?_
        refine w_get C hP (fdX_15_zones G S) tb_73 d_An_digestOf_11 ?_
        refine lv_iload_n hx hb d_An_digestOf_14 rfl (lv_at hl 2 rfl) ?_
        obtain ⟨h2, hf⟩ := zgd_some hf
        refine w_iald (t0 := 0) C hP (arX_12 G S) rfl h2 d_An_digestOf_15 ?_
        refine lv_iload_n hx hb d_An_digestOf_16 rfl (lv_at hl 1 rfl) ?_
        refine lv_icmp_ne hx hb d_An_digestOf_17 (tgt := 27) (by decide) (fun h3 => ?_) (fun h3 => ?_)
        · have hf := it_f h3 hf
          refine lv_iinc (k := 2) (v := (v2 + (1 : Int32))) (lv' := [(2, .int (v2 + (1 : Int32))), (0, .ref (G.2.1 15)), (1, .int v1)]) hx hb d_An_digestOf_27 hl rfl (ii (by decide) _) (by decide) rfl (fun ls hl => ?_)
          refine lv_goto hx hb d_An_digestOf_30 (tgt := 2) (by decide) ?_
          exact ih1 (v2 + (1 : Int32)) _ _ _ (lv_sub hl [1, 2, 0] rfl) hP (znx_l hf hk1)
        · have hf := it_t h3 hf
          have hf := zup_k hf hk1
          refine lv_aload_n hx hb d_An_digestOf_20 rfl (lv_at hl 0 rfl) ?_
          refine w_get C hP (fdX_15_digests G S) tb_74 d_An_digestOf_21 ?_
          refine lv_iload_n hx hb d_An_digestOf_24 rfl (lv_at hl 2 rfl) ?_
          obtain ⟨h4, hf⟩ := zgd_some hf
          refine w_iald (t0 := 0) C hP (arX_13 G S) rfl h4 d_An_digestOf_25 ?_
          exact hret _ _ _ _ _ d_An_digestOf_26 (Option.some.inj hf) hP
  refine lv_iconst (v := (0 : Int32)) hx hb d_An_digestOf_0 (by decide) ?_
  refine lv_istore_n (lv' := [(2, .int (0 : Int32)), (0, .ref (G.2.1 15)), (1, .int v1)]) hx hb d_An_digestOf_1 rfl hl (by decide) rfl (fun ls hl => ?_)
  exact LP_2 v1 64 (0 : Int32) _ _ _ (lv_sub hl [1, 2, 0] rfl) hP hf
def f_Nu_put_d (S : XSt) (v1 : Int32) : Option XSt := (if (48 : Int32) ≤ (S.1 12) then some S else zgd (zin (S.1 12) 48) (znm (zpA S 14 (S.1 12) v1) (fun S3 => znm (zpS S3 12 ((S3.1 12) + (1 : Int32))) (fun S5 => some S5))))
set_option maxHeartbeats 4000000 in
set_option maxRecDepth 100000 in
theorem c_Nu_put_d (l : Launch) (G : XG) (S : XSt) (v1 : Int32) (o0 : XSt) (hf : f_Nu_put_d S v1 = some o0) : MetV l y_Nu_put b_Nu_put 2 0 [.ref (G.2.1 19), .int v1] G.1 (tyX G) (zAX G) (wX G S) (wX G o0) := by
  refine mkV (by decide) (Nat.le_of_ble_eq_true rfl) ?_
  intro p e R s m args below meth c ls Q C hl hP hret0
  replace C : Cw p m c b_Nu_put 2 s args "TrustResolver$Numbers" R 0 := C
  have hx := C.1
  have hb := C.2.1
  replace hl : lv_has ls 2 [(0, .ref (G.2.1 19)), (1, .int v1)] := hl
  have hret : ∀ (pc : Nat) (ls : Array Slot) (H : Heap) (locs : List Loc) (S' : XSt), decode b_Nu_put pc = .ok (.return_, 1) → S' = o0 → Pw G.1 (tyX G) (zAX G) s (wX G S') H locs → W p l e R s m args below meth c H locs 0 0 Q (F0 m pc ls []) := fun pc ls H locs S' hd he hP => hret0 pc ls H locs hd (by rw [← he]; exact hP)
  clear hret0
  unfold f_Nu_put_d at hf
  refine lv_aload_n hx hb d_Nu_put_0 rfl (lv_at hl 0 rfl) ?_
  refine w_get C hP (fdX_19_count G S) tb_91 d_Nu_put_1 ?_
  refine lv_bipush (v := (48 : Int32)) hx hb d_Nu_put_4 (by decide) ?_
  refine lv_icmp_ge hx hb d_Nu_put_6 (tgt := 29) (by decide) (fun h1 => ?_) (fun h1 => ?_)
  · have hf := it_t h1 hf
    exact hret _ _ _ _ _ d_Nu_put_29 (Option.some.inj hf) hP
  · have hf := it_f h1 hf
    refine lv_aload_n hx hb d_Nu_put_9 rfl (lv_at hl 0 rfl) ?_
    refine w_get C hP (fdX_19_numbers G S) tb_90 d_Nu_put_10 ?_
    refine lv_aload_n hx hb d_Nu_put_13 rfl (lv_at hl 0 rfl) ?_
    refine w_get C hP (fdX_19_count G S) tb_91 d_Nu_put_14 ?_
    refine lv_iload_n hx hb d_Nu_put_17 rfl (lv_at hl 1 rfl) ?_
    obtain ⟨h2, hf⟩ := zgd_some hf
    refine w_iast (t0 := 0) C hP (stX_14 G S (S.1 12) v1) rfl h2 d_Nu_put_18 (fun H locs hP => ?_)
    obtain ⟨S3, e4, hf⟩ := znm_some hf
    rw [← e4] at hP
    refine lv_aload_n hx hb d_Nu_put_19 rfl (lv_at hl 0 rfl) ?_
    refine lv_dup hx hb d_Nu_put_20 rfl ?_
    refine w_get C hP (fdX_19_count G S3) tb_91 d_Nu_put_21 ?_
    refine lv_iconst (v := (1 : Int32)) hx hb d_Nu_put_24 (by decide) ?_
    refine lv_iadd hx hb d_Nu_put_25 ?_
    refine w_put C hP (ptX_19_count G S3 ((S3.1 12) + (1 : Int32))) tb_91 d_Nu_put_26 (fun H locs hP => ?_)
    obtain ⟨S5, e6, hf⟩ := znm_some hf
    rw [← e6] at hP
    exact hret _ _ _ _ _ d_Nu_put_29 (Option.some.inj hf) hP
def f_Nu_clear_k (S : XSt)  : Option XSt := znm (zpS S 13 (0 : Int32)) (fun S1 => some S1)
set_option maxHeartbeats 4000000 in
set_option maxRecDepth 100000 in
theorem c_Nu_clear_k (l : Launch) (G : XG) (S : XSt)  (o0 : XSt) (hf : f_Nu_clear_k S = some o0) : MetV l y_Nu_clear b_Nu_clear 1 0 [.ref (G.2.1 21)] G.1 (tyX G) (zAX G) (wX G S) (wX G o0) := by
  refine mkV (by decide) (Nat.le_of_ble_eq_true rfl) ?_
  intro p e R s m args below meth c ls Q C hl hP hret0
  replace C : Cw p m c b_Nu_clear 1 s args "TrustResolver$Numbers" R 0 := C
  have hx := C.1
  have hb := C.2.1
  replace hl : lv_has ls 1 [(0, .ref (G.2.1 21))] := hl
  have hret : ∀ (pc : Nat) (ls : Array Slot) (H : Heap) (locs : List Loc) (S' : XSt), decode b_Nu_clear pc = .ok (.return_, 1) → S' = o0 → Pw G.1 (tyX G) (zAX G) s (wX G S') H locs → W p l e R s m args below meth c H locs 0 0 Q (F0 m pc ls []) := fun pc ls H locs S' hd he hP => hret0 pc ls H locs hd (by rw [← he]; exact hP)
  clear hret0
  unfold f_Nu_clear_k at hf
  refine lv_aload_n hx hb d_Nu_clear_0 rfl (lv_at hl 0 rfl) ?_
  refine lv_iconst (v := (0 : Int32)) hx hb d_Nu_clear_1 (by decide) ?_
  refine w_put C hP (ptX_21_count G S (0 : Int32)) tb_91 d_Nu_clear_2 (fun H locs hP => ?_)
  obtain ⟨S1, e2, hf⟩ := znm_some hf
  rw [← e2] at hP
  exact hret _ _ _ _ _ d_Nu_clear_5 (Option.some.inj hf) hP
def L_Nu_has_d_2 (S : XSt) (v1 : Int32) (v2 : Int32) : Option (Int32 ⊕ Int32) := (if (S.1 12) ≤ v2 then zup (some (0 : Int32)) else zgd (zin v2 48) ((if (S.2 14 (Int32.toNatClampNeg v2)) = v1 then zup (some (1 : Int32)) else some (Sum.inl (v2 + (1 : Int32))))))
def LS_Nu_has_d_2 (S : XSt) (v1 : Int32) (v : Int32) : Option (Int32 ⊕ Int32) := L_Nu_has_d_2 S v1 v
def f_Nu_has_d (S : XSt) (v1 : Int32) : Option Int32 := zit (LS_Nu_has_d_2 S v1) 64 (0 : Int32)
set_option maxHeartbeats 4000000 in
set_option maxRecDepth 100000 in
theorem c_Nu_has_d (l : Launch) (G : XG) (S : XSt) (v1 : Int32) (o0 : Int32) (hf : f_Nu_has_d S v1 = some o0) : MetI l y_Nu_has b_Nu_has 3 (some .boolean) 0 [.ref (G.2.1 19), .int v1] G.1 (tyX G) (zAX G) (wX G S) o0 (wX G S) := by
  refine mkZ (by decide) (Nat.le_of_ble_eq_true rfl) ?_
  intro p e R s m args below meth c ls Q C hl hP hret0
  replace C : Cw p m c b_Nu_has 3 s args "TrustResolver$Numbers" R 0 := C
  have hx := C.1
  have hb := C.2.1
  replace hl : lv_has ls 3 [(0, .ref (G.2.1 19)), (1, .int v1)] := hl
  have hret := hret0
  clear hret0
  unfold f_Nu_has_d at hf
  have LP_2 : ∀ (v1 : Int32) (n : Nat) (v2 : Int32) (ls : Array Slot) (H : Heap) (locs : List Loc) , lv_has ls 3 [(0, .ref (G.2.1 19)), (1, .int v1), (2, .int v2)] → Pw G.1 (tyX G) (zAX G) s (wX G S) H locs → zit (LS_Nu_has_d_2 S v1) n v2 = some o0 → W p l e R s m args below meth c H locs 0 0 Q (F0 m 2 ls []) := by
    intro v1 n
    induction n with
    | zero => intro v2 ls H locs hl hP hf; exact zit_0 hf
    | succ n ih1 =>
      intro v2 ls H locs hl hP hf
      obtain ⟨o1, hf, hk1⟩ := zit_s hf
      have hf : L_Nu_has_d_2 S v1 v2 = some o1 := hf
      unfold L_Nu_has_d_2 at hf
      refine lv_iload_n hx hb d_Nu_has_2 rfl (lv_at hl 2 rfl) ?_
      refine lv_aload_n hx hb d_Nu_has_3 rfl (lv_at hl 0 rfl) ?_
      refine w_get C hP (fdX_19_count G S) tb_91 d_Nu_has_4 ?_
      refine lv_icmp_ge hx hb d_Nu_has_7 (tgt := 28) (by decide) (fun h1 => ?_) (fun h1 => ?_)
      · have hf := it_t h1 hf
        have hf := zup_k hf hk1
        refine lv_iconst (v := (0 : Int32)) hx hb d_Nu_has_28 (by decide) ?_
        exact hret _ _ _ _ _ d_Nu_has_29 (by decide) (Option.some.inj hf) hP
      · have hf := it_f h1 hf
        refine lv_aload_n hx hb d_Nu_has_10 rfl (lv_at hl 0 rfl) ?_
        refine w_get C hP (fdX_19_numbers G S) tb_90 d_Nu_has_11 ?_
        refine lv_iload_n hx hb d_Nu_has_14 rfl (lv_at hl 2 rfl) ?_
        obtain ⟨h2, hf⟩ := zgd_some hf
        refine w_iald (t0 := 0) C hP (arX_14 G S) rfl h2 d_Nu_has_15 ?_
        refine lv_iload_n hx hb d_Nu_has_16 rfl (lv_at hl 1 rfl) ?_
        refine lv_icmp_ne hx hb d_Nu_has_17 (tgt := 22) (by decide) (fun h3 => ?_) (fun h3 => ?_)
        · have hf := it_f h3 hf
          refine lv_iinc (k := 2) (v := (v2 + (1 : Int32))) (lv' := [(2, .int (v2 + (1 : Int32))), (0, .ref (G.2.1 19)), (1, .int v1)]) hx hb d_Nu_has_22 hl rfl (ii (by decide) _) (by decide) rfl (fun ls hl => ?_)
          refine lv_goto hx hb d_Nu_has_25 (tgt := 2) (by decide) ?_
          exact ih1 (v2 + (1 : Int32)) _ _ _ (lv_sub hl [1, 2, 0] rfl) hP (znx_l hf hk1)
        · have hf := it_t h3 hf
          have hf := zup_k hf hk1
          refine lv_iconst (v := (1 : Int32)) hx hb d_Nu_has_20 (by decide) ?_
          exact hret _ _ _ _ _ d_Nu_has_21 (by decide) (Option.some.inj hf) hP
  refine lv_iconst (v := (0 : Int32)) hx hb d_Nu_has_0 (by decide) ?_
  refine lv_istore_n (lv' := [(2, .int (0 : Int32)), (0, .ref (G.2.1 19)), (1, .int v1)]) hx hb d_Nu_has_1 rfl hl (by decide) rfl (fun ls hl => ?_)
  exact LP_2 v1 64 (0 : Int32) _ _ _ (lv_sub hl [1, 2, 0] rfl) hP hf
def f_Nu_put_k (S : XSt) (v1 : Int32) : Option XSt := (if (48 : Int32) ≤ (S.1 13) then some S else zgd (zin (S.1 13) 48) (znm (zpA S 15 (S.1 13) v1) (fun S3 => znm (zpS S3 13 ((S3.1 13) + (1 : Int32))) (fun S5 => some S5))))
set_option maxHeartbeats 4000000 in
set_option maxRecDepth 100000 in
theorem c_Nu_put_k (l : Launch) (G : XG) (S : XSt) (v1 : Int32) (o0 : XSt) (hf : f_Nu_put_k S v1 = some o0) : MetV l y_Nu_put b_Nu_put 2 0 [.ref (G.2.1 21), .int v1] G.1 (tyX G) (zAX G) (wX G S) (wX G o0) := by
  refine mkV (by decide) (Nat.le_of_ble_eq_true rfl) ?_
  intro p e R s m args below meth c ls Q C hl hP hret0
  replace C : Cw p m c b_Nu_put 2 s args "TrustResolver$Numbers" R 0 := C
  have hx := C.1
  have hb := C.2.1
  replace hl : lv_has ls 2 [(0, .ref (G.2.1 21)), (1, .int v1)] := hl
  have hret : ∀ (pc : Nat) (ls : Array Slot) (H : Heap) (locs : List Loc) (S' : XSt), decode b_Nu_put pc = .ok (.return_, 1) → S' = o0 → Pw G.1 (tyX G) (zAX G) s (wX G S') H locs → W p l e R s m args below meth c H locs 0 0 Q (F0 m pc ls []) := fun pc ls H locs S' hd he hP => hret0 pc ls H locs hd (by rw [← he]; exact hP)
  clear hret0
  unfold f_Nu_put_k at hf
  refine lv_aload_n hx hb d_Nu_put_0 rfl (lv_at hl 0 rfl) ?_
  refine w_get C hP (fdX_21_count G S) tb_91 d_Nu_put_1 ?_
  refine lv_bipush (v := (48 : Int32)) hx hb d_Nu_put_4 (by decide) ?_
  refine lv_icmp_ge hx hb d_Nu_put_6 (tgt := 29) (by decide) (fun h1 => ?_) (fun h1 => ?_)
  · have hf := it_t h1 hf
    exact hret _ _ _ _ _ d_Nu_put_29 (Option.some.inj hf) hP
  · have hf := it_f h1 hf
    refine lv_aload_n hx hb d_Nu_put_9 rfl (lv_at hl 0 rfl) ?_
    refine w_get C hP (fdX_21_numbers G S) tb_90 d_Nu_put_10 ?_
    refine lv_aload_n hx hb d_Nu_put_13 rfl (lv_at hl 0 rfl) ?_
    refine w_get C hP (fdX_21_count G S) tb_91 d_Nu_put_14 ?_
    refine lv_iload_n hx hb d_Nu_put_17 rfl (lv_at hl 1 rfl) ?_
    obtain ⟨h2, hf⟩ := zgd_some hf
    refine w_iast (t0 := 0) C hP (stX_15 G S (S.1 13) v1) rfl h2 d_Nu_put_18 (fun H locs hP => ?_)
    obtain ⟨S3, e4, hf⟩ := znm_some hf
    rw [← e4] at hP
    refine lv_aload_n hx hb d_Nu_put_19 rfl (lv_at hl 0 rfl) ?_
    refine lv_dup hx hb d_Nu_put_20 rfl ?_
    refine w_get C hP (fdX_21_count G S3) tb_91 d_Nu_put_21 ?_
    refine lv_iconst (v := (1 : Int32)) hx hb d_Nu_put_24 (by decide) ?_
    refine lv_iadd hx hb d_Nu_put_25 ?_
    refine w_put C hP (ptX_21_count G S3 ((S3.1 13) + (1 : Int32))) tb_91 d_Nu_put_26 (fun H locs hP => ?_)
    obtain ⟨S5, e6, hf⟩ := znm_some hf
    rw [← e6] at hP
    exact hret _ _ _ _ _ d_Nu_put_29 (Option.some.inj hf) hP
def L_Nu_has_k_2 (S : XSt) (v1 : Int32) (v2 : Int32) : Option (Int32 ⊕ Int32) := (if (S.1 13) ≤ v2 then zup (some (0 : Int32)) else zgd (zin v2 48) ((if (S.2 15 (Int32.toNatClampNeg v2)) = v1 then zup (some (1 : Int32)) else some (Sum.inl (v2 + (1 : Int32))))))
def LS_Nu_has_k_2 (S : XSt) (v1 : Int32) (v : Int32) : Option (Int32 ⊕ Int32) := L_Nu_has_k_2 S v1 v
def f_Nu_has_k (S : XSt) (v1 : Int32) : Option Int32 := zit (LS_Nu_has_k_2 S v1) 64 (0 : Int32)
set_option maxHeartbeats 4000000 in
set_option maxRecDepth 100000 in
theorem c_Nu_has_k (l : Launch) (G : XG) (S : XSt) (v1 : Int32) (o0 : Int32) (hf : f_Nu_has_k S v1 = some o0) : MetI l y_Nu_has b_Nu_has 3 (some .boolean) 0 [.ref (G.2.1 21), .int v1] G.1 (tyX G) (zAX G) (wX G S) o0 (wX G S) := by
  refine mkZ (by decide) (Nat.le_of_ble_eq_true rfl) ?_
  intro p e R s m args below meth c ls Q C hl hP hret0
  replace C : Cw p m c b_Nu_has 3 s args "TrustResolver$Numbers" R 0 := C
  have hx := C.1
  have hb := C.2.1
  replace hl : lv_has ls 3 [(0, .ref (G.2.1 21)), (1, .int v1)] := hl
  have hret := hret0
  clear hret0
  unfold f_Nu_has_k at hf
  have LP_2 : ∀ (v1 : Int32) (n : Nat) (v2 : Int32) (ls : Array Slot) (H : Heap) (locs : List Loc) , lv_has ls 3 [(0, .ref (G.2.1 21)), (1, .int v1), (2, .int v2)] → Pw G.1 (tyX G) (zAX G) s (wX G S) H locs → zit (LS_Nu_has_k_2 S v1) n v2 = some o0 → W p l e R s m args below meth c H locs 0 0 Q (F0 m 2 ls []) := by
    intro v1 n
    induction n with
    | zero => intro v2 ls H locs hl hP hf; exact zit_0 hf
    | succ n ih1 =>
      intro v2 ls H locs hl hP hf
      obtain ⟨o1, hf, hk1⟩ := zit_s hf
      have hf : L_Nu_has_k_2 S v1 v2 = some o1 := hf
      unfold L_Nu_has_k_2 at hf
      refine lv_iload_n hx hb d_Nu_has_2 rfl (lv_at hl 2 rfl) ?_
      refine lv_aload_n hx hb d_Nu_has_3 rfl (lv_at hl 0 rfl) ?_
      refine w_get C hP (fdX_21_count G S) tb_91 d_Nu_has_4 ?_
      refine lv_icmp_ge hx hb d_Nu_has_7 (tgt := 28) (by decide) (fun h1 => ?_) (fun h1 => ?_)
      · have hf := it_t h1 hf
        have hf := zup_k hf hk1
        refine lv_iconst (v := (0 : Int32)) hx hb d_Nu_has_28 (by decide) ?_
        exact hret _ _ _ _ _ d_Nu_has_29 (by decide) (Option.some.inj hf) hP
      · have hf := it_f h1 hf
        refine lv_aload_n hx hb d_Nu_has_10 rfl (lv_at hl 0 rfl) ?_
        refine w_get C hP (fdX_21_numbers G S) tb_90 d_Nu_has_11 ?_
        refine lv_iload_n hx hb d_Nu_has_14 rfl (lv_at hl 2 rfl) ?_
        obtain ⟨h2, hf⟩ := zgd_some hf
        refine w_iald (t0 := 0) C hP (arX_15 G S) rfl h2 d_Nu_has_15 ?_
        refine lv_iload_n hx hb d_Nu_has_16 rfl (lv_at hl 1 rfl) ?_
        refine lv_icmp_ne hx hb d_Nu_has_17 (tgt := 22) (by decide) (fun h3 => ?_) (fun h3 => ?_)
        · have hf := it_f h3 hf
          refine lv_iinc (k := 2) (v := (v2 + (1 : Int32))) (lv' := [(2, .int (v2 + (1 : Int32))), (0, .ref (G.2.1 21)), (1, .int v1)]) hx hb d_Nu_has_22 hl rfl (ii (by decide) _) (by decide) rfl (fun ls hl => ?_)
          refine lv_goto hx hb d_Nu_has_25 (tgt := 2) (by decide) ?_
          exact ih1 (v2 + (1 : Int32)) _ _ _ (lv_sub hl [1, 2, 0] rfl) hP (znx_l hf hk1)
        · have hf := it_t h3 hf
          have hf := zup_k hf hk1
          refine lv_iconst (v := (1 : Int32)) hx hb d_Nu_has_20 (by decide) ?_
          exact hret _ _ _ _ _ d_Nu_has_21 (by decide) (Option.some.inj hf) hP
  refine lv_iconst (v := (0 : Int32)) hx hb d_Nu_has_0 (by decide) ?_
  refine lv_istore_n (lv' := [(2, .int (0 : Int32)), (0, .ref (G.2.1 21)), (1, .int v1)]) hx hb d_Nu_has_1 rfl hl (by decide) rfl (fun ls hl => ?_)
  exact LP_2 v1 64 (0 : Int32) _ _ _ (lv_sub hl [1, 2, 0] rfl) hP hf
def f_Re_setAt (S : XSt) (v1 : Int32) : Option Int32 := (if v1 < (0 : Int32) then some (-1 : Int32) else (if (S.1 0) ≤ v1 then some (-1 : Int32) else zgd (zin v1 48) (some (S.2 0 (Int32.toNatClampNeg v1)))))
set_option maxHeartbeats 4000000 in
set_option maxRecDepth 100000 in
theorem c_Re_setAt (l : Launch) (G : XG) (S : XSt) (v1 : Int32) (o0 : Int32) (hf : f_Re_setAt S v1 = some o0) : MetI l y_Re_setAt b_Re_setAt 2 (some .int) 0 [.ref (G.2.1 1), .int v1] G.1 (tyX G) (zAX G) (wX G S) o0 (wX G S) := by
  refine mkI (by decide) (Nat.le_of_ble_eq_true rfl) ?_
  intro p e R s m args below meth c ls Q C hl hP hret0
  replace C : Cw p m c b_Re_setAt 2 s args "TrustResolver$Records" R 0 := C
  have hx := C.1
  have hb := C.2.1
  replace hl : lv_has ls 2 [(0, .ref (G.2.1 1)), (1, .int v1)] := hl
  have hret := hret0
  clear hret0
  unfold f_Re_setAt at hf
  refine lv_iload_n hx hb d_Re_setAt_0 rfl (lv_at hl 1 rfl) ?_
  refine lv_if_lt hx hb d_Re_setAt_1 (tgt := 21) (by decide) (fun h1 => ?_) (fun h1 => ?_)
  · have hf := it_t h1 hf
    refine lv_iconst (v := (-1 : Int32)) hx hb d_Re_setAt_21 (by decide) ?_
    exact hret _ _ _ _ _ d_Re_setAt_22 (Option.some.inj hf) hP
  · have hf := it_f h1 hf
    refine lv_iload_n hx hb d_Re_setAt_4 rfl (lv_at hl 1 rfl) ?_
    refine lv_aload_n hx hb d_Re_setAt_5 rfl (lv_at hl 0 rfl) ?_
    refine w_get C hP (fdX_1_count G S) tb_26 d_Re_setAt_6 ?_
    refine lv_icmp_ge hx hb d_Re_setAt_9 (tgt := 21) (by decide) (fun h2 => ?_) (fun h2 => ?_)
    · have hf := it_t h2 hf
      refine lv_iconst (v := (-1 : Int32)) hx hb d_Re_setAt_21 (by decide) ?_
      exact hret _ _ _ _ _ d_Re_setAt_22 (Option.some.inj hf) hP
    · have hf := it_f h2 hf
      refine lv_aload_n hx hb d_Re_setAt_12 rfl (lv_at hl 0 rfl) ?_
      refine w_get C hP (fdX_1_sets G S) tb_24 d_Re_setAt_13 ?_
      refine lv_iload_n hx hb d_Re_setAt_16 rfl (lv_at hl 1 rfl) ?_
      obtain ⟨h3, hf⟩ := zgd_some hf
      refine w_iald (t0 := 0) C hP (arX_0 G S) rfl h3 d_Re_setAt_17 ?_
      refine lv_goto hx hb d_Re_setAt_18 (tgt := 22) (by decide) ?_
      exact hret _ _ _ _ _ d_Re_setAt_22 (Option.some.inj hf) hP
def f_Re_leastOf (S : XSt) (v1 : Int32) : Option Int32 := Option.bind (f_Re_startOf S v1) (fun x1 => Option.bind (f_Re_dataAt S x1) (fun x3 => some x3))
set_option maxHeartbeats 4000000 in
set_option maxRecDepth 100000 in
theorem c_Re_leastOf (l : Launch) (G : XG) (S : XSt) (v1 : Int32) (o0 : Int32) (hf : f_Re_leastOf S v1 = some o0) : MetI l y_Re_leastOf b_Re_leastOf 2 (some .int) 1 [.ref (G.2.1 1), .int v1] G.1 (tyX G) (zAX G) (wX G S) o0 (wX G S) := by
  refine mkI (by decide) (Nat.le_of_ble_eq_true rfl) ?_
  intro p e R s m args below meth c ls Q C hl hP hret0
  replace C : Cw p m c b_Re_leastOf 2 s args "TrustResolver$Records" R 1 := C
  have hx := C.1
  have hb := C.2.1
  replace hl : lv_has ls 2 [(0, .ref (G.2.1 1)), (1, .int v1)] := hl
  have hret := hret0
  clear hret0
  unfold f_Re_leastOf at hf
  refine lv_aload_n hx hb d_Re_leastOf_0 rfl (lv_at hl 0 rfl) ?_
  refine lv_aload_n hx hb d_Re_leastOf_1 rfl (lv_at hl 0 rfl) ?_
  refine lv_iload_n hx hb d_Re_leastOf_2 rfl (lv_at hl 1 rfl) ?_
  obtain ⟨x1, h2, hf⟩ := bd_some hf
  refine w_callI (As := [.int v1]) (rest := [.ref (G.2.1 1)]) C (c_Re_startOf l G S v1 x1 h2) cf_Re_startOf tb_163 (by decide) hP (obX_1 G S) rfl hl.1 rfl (Nat.le_of_ble_eq_true rfl) d_Re_leastOf_3 (fun H locs hP => ?_)
  obtain ⟨x3, h4, hf⟩ := bd_some hf
  refine w_callI (As := [.int x1]) (rest := []) C (c_Re_dataAt l G S x1 x3 h4) cf_Re_dataAt tb_343 (by decide) hP (obX_1 G S) rfl hl.1 rfl (Nat.le_of_ble_eq_true rfl) d_Re_leastOf_6 (fun H locs hP => ?_)
  exact hret _ _ _ _ _ d_Re_leastOf_9 (Option.some.inj hf) hP
