def f_Si_useTimes (S : XSt) (v1 : Int32) (v2 : Int32) : Option XSt := znm (zpS S 2 v1) (fun S1 => znm (zpS S1 3 v2) (fun S3 => some S3))
set_option maxHeartbeats 4000000 in
set_option maxRecDepth 100000 in
theorem c_Si_useTimes (l : Launch) (G : XG) (S : XSt) (v1 : Int32) (v2 : Int32) (o0 : XSt) (hf : f_Si_useTimes S v1 v2 = some o0) : MetV l y_Si_useTimes b_Si_useTimes 3 0 [.ref (G.2.1 4), .int v1, .int v2] G.1 (tyX G) (zAX G) (wX G S) (wX G o0) := by
  refine mkV (by decide) (Nat.le_of_ble_eq_true rfl) ?_
  intro p e R s m args below meth c ls Q C hl hP hret0
  replace C : Cw p m c b_Si_useTimes 3 s args "TrustResolver$Signatures" R 0 := C
  have hx := C.1
  have hb := C.2.1
  replace hl : lv_has ls 3 [(0, .ref (G.2.1 4)), (1, .int v1), (2, .int v2)] := hl
  have hret : ∀ (pc : Nat) (ls : Array Slot) (H : Heap) (locs : List Loc) (S' : XSt), decode b_Si_useTimes pc = .ok (.return_, 1) → S' = o0 → Pw G.1 (tyX G) (zAX G) s (wX G S') H locs → W p l e R s m args below meth c H locs 0 0 Q (F0 m pc ls []) := fun pc ls H locs S' hd he hP => hret0 pc ls H locs hd (by rw [← he]; exact hP)
  clear hret0
  unfold f_Si_useTimes at hf
  refine lv_aload_n hx hb d_Si_useTimes_0 rfl (lv_at hl 0 rfl) ?_
  refine lv_iload_n hx hb d_Si_useTimes_1 rfl (lv_at hl 1 rfl) ?_
  refine w_put C hP (ptX_4_newFirst G S v1) tb_49 d_Si_useTimes_2 (fun H locs hP => ?_)
  obtain ⟨S1, e2, hf⟩ := znm_some hf
  rw [← e2] at hP
  refine lv_aload_n hx hb d_Si_useTimes_5 rfl (lv_at hl 0 rfl) ?_
  refine lv_iload_n hx hb d_Si_useTimes_6 rfl (lv_at hl 2 rfl) ?_
  refine w_put C hP (ptX_4_newLast G S1 v2) tb_50 d_Si_useTimes_7 (fun H locs hP => ?_)
  obtain ⟨S3, e4, hf⟩ := znm_some hf
  rw [← e4] at hP
  exact hret _ _ _ _ _ d_Si_useTimes_10 (Option.some.inj hf) hP
def L_Si_markNow_113 (S : XSt) (v4 : Int32) (v5 : Int32) (v2 : Int64) (v6 : Int32) : Option ((Int64 × Int32) ⊕ Int32) := (if v5 ≤ v6 then zup (Option.bind (f_Di_end v2) (fun x2 => some x2)) else Option.bind (f_Re_dataAt S (v4 + v6)) (fun x4 => Option.bind (f_Di_mix v2 x4) (fun x6 => some (Sum.inl (x6, (v6 + (1 : Int32)))))))
def LS_Si_markNow_113 (S : XSt) (v4 : Int32) (v5 : Int32) (v : (Int64 × Int32)) : Option ((Int64 × Int32) ⊕ Int32) := L_Si_markNow_113 S v4 v5 v.1 v.2
def f_Si_markNow (S : XSt) (v1 : Int32) : Option Int32 := zgd (zin v1 32) (Option.bind (f_Di_mix (0 : Int64) (S.2 4 (Int32.toNatClampNeg v1))) (fun x9 => zgd (zin v1 32) (Option.bind (f_Di_mix x9 (S.2 3 (Int32.toNatClampNeg v1))) (fun x12 => zgd (zin v1 32) (Option.bind (f_Na_typeOf (S.2 2 (Int32.toNatClampNeg v1))) (fun x15 => Option.bind (f_Di_mix x12 x15) (fun x17 => zgd (zin v1 32) (Option.bind (f_Di_mix x17 (S.2 5 (Int32.toNatClampNeg v1))) (fun x20 => zgd (zin v1 32) (Option.bind (f_Di_mix x20 (S.2 6 (Int32.toNatClampNeg v1))) (fun x23 => zgd (zin v1 32) (Option.bind (f_Di_mix x23 (S.2 7 (Int32.toNatClampNeg v1))) (fun x26 => zgd (zin v1 32) (Option.bind (f_Di_mix x26 (S.2 8 (Int32.toNatClampNeg v1))) (fun x29 => zgd (zin v1 32) (Option.bind (f_Re_startOf S (S.2 2 (Int32.toNatClampNeg v1))) (fun x32 => zgd (zin v1 32) (Option.bind (f_Re_sizeOf S (S.2 2 (Int32.toNatClampNeg v1))) (fun x35 => zit (LS_Si_markNow_113 S x32 x35) 64 (x29, (0 : Int32)))))))))))))))))))))
set_option maxHeartbeats 4000000 in
set_option maxRecDepth 100000 in
theorem c_Si_markNow (l : Launch) (G : XG) (S : XSt) (v1 : Int32) (o0 : Int32) (hf : f_Si_markNow S v1 = some o0) : MetI l y_Si_markNow b_Si_markNow 7 (some .int) 1 [.ref (G.2.1 4), .int v1] G.1 (tyX G) (zAX G) (wX G S) o0 (wX G S) := by
  refine mkI (by decide) (Nat.le_of_ble_eq_true rfl) ?_
  intro p e R s m args below meth c ls Q C hl hP hret0
  replace C : Cw p m c b_Si_markNow 7 s args "TrustResolver$Signatures" R 1 := C
  have hx := C.1
  have hb := C.2.1
  replace hl : lv_has ls 7 [(0, .ref (G.2.1 4)), (1, .int v1)] := hl
  have hret := hret0
  clear hret0
  unfold f_Si_markNow at hf
  have LP_113 : ∀ (v4 : Int32) (v5 : Int32) (n : Nat) (v2 : Int64) (v6 : Int32) (ls : Array Slot) (H : Heap) (locs : List Loc) , lv_has ls 7 [(0, .ref (G.2.1 4)), (2, .long v2), (4, .int v4), (5, .int v5), (6, .int v6)] → Pw G.1 (tyX G) (zAX G) s (wX G S) H locs → zit (LS_Si_markNow_113 S v4 v5) n (v2, v6) = some o0 → W p l e R s m args below meth c H locs 0 0 Q (F0 m 113 ls []) := by
    intro v4 v5 n
    induction n with
    | zero => intro v2 v6 ls H locs hl hP hf; exact zit_0 hf
    | succ n ih1 =>
      intro v2 v6 ls H locs hl hP hf
      obtain ⟨o1, hf, hk1⟩ := zit_s hf
      have hf : L_Si_markNow_113 S v4 v5 v2 v6 = some o1 := hf
      unfold L_Si_markNow_113 at hf
      refine lv_iload hx hb d_Si_markNow_113 (lv_at hl 4 rfl) ?_
      refine lv_iload hx hb d_Si_markNow_115 (lv_at hl 3 rfl) ?_
      refine lv_icmp_ge hx hb d_Si_markNow_117 (tgt := 143) (by decide) (fun h1 => ?_) (fun h1 => ?_)
      · have hf := it_t h1 hf
        have hf := zup_k hf hk1
        refine lv_lload_n hx hb d_Si_markNow_143 rfl (lv_at hl 1 rfl) ?_
        obtain ⟨x2, h3, hf⟩ := bd_some hf
        refine w_callS (As := [.long v2]) (rest := []) C (c_Di_end l v2 x2 h3) cf_Di_end tb_229 (by decide) rfl hl.1 rfl (Nat.le_of_ble_eq_true rfl) d_Si_markNow_144 ?_
        exact hret _ _ _ _ _ d_Si_markNow_147 (Option.some.inj hf) hP
      · have hf := it_f h1 hf
        refine lv_lload_n hx hb d_Si_markNow_120 rfl (lv_at hl 1 rfl) ?_
        refine lv_aload_n hx hb d_Si_markNow_121 rfl (lv_at hl 0 rfl) ?_
        refine w_get C hP (fdX_4_records G S) tb_37 d_Si_markNow_122 ?_
        refine lv_iload hx hb d_Si_markNow_125 (lv_at hl 2 rfl) ?_
        refine lv_iload hx hb d_Si_markNow_127 (lv_at hl 4 rfl) ?_
        refine lv_iadd hx hb d_Si_markNow_129 ?_
        obtain ⟨x4, h5, hf⟩ := bd_some hf
        refine w_callI (As := [.int (v4 + v6)]) (rest := [.long v2]) C (c_Re_dataAt l G S (v4 + v6) x4 h5) cf_Re_dataAt tb_225 (by decide) hP (obX_1 G S) rfl hl.1 rfl (Nat.le_of_ble_eq_true rfl) d_Si_markNow_130 (fun H locs hP => ?_)
        obtain ⟨x6, h7, hf⟩ := bd_some hf
        refine w_callSL (As := [.long v2, .int x4]) (rest := []) C (c_Di_mix l v2 x4 x6 h7) cf_Di_mix tb_216 (by decide) rfl hl.1 rfl (Nat.le_of_ble_eq_true rfl) d_Si_markNow_133 ?_
        refine lv_lstore_n (lv' := [(2, .long x6), (0, .ref (G.2.1 4)), (4, .int v4), (5, .int v5), (6, .int v6)]) hx hb d_Si_markNow_136 rfl hl (by decide) rfl (fun ls hl => ?_)
        refine lv_iinc (k := 4) (v := (v6 + (1 : Int32))) (lv' := [(6, .int (v6 + (1 : Int32))), (2, .long x6), (0, .ref (G.2.1 4)), (4, .int v4), (5, .int v5)]) hx hb d_Si_markNow_137 hl rfl (ii (by decide) _) (by decide) rfl (fun ls hl => ?_)
        refine lv_goto hx hb d_Si_markNow_140 (tgt := 113) (by decide) ?_
        exact ih1 x6 (v6 + (1 : Int32)) _ _ _ (lv_sub hl [2, 1, 3, 4, 0] rfl) hP (znx_l hf hk1)
  refine lv_lconst (v := (0 : Int64)) hx hb d_Si_markNow_0 (by decide) ?_
  refine lv_aload_n hx hb d_Si_markNow_1 rfl (lv_at hl 0 rfl) ?_
  refine w_get C hP (fdX_4_keys G S) tb_40 d_Si_markNow_2 ?_
  refine lv_iload_n hx hb d_Si_markNow_5 rfl (lv_at hl 1 rfl) ?_
  obtain ⟨h8, hf⟩ := zgd_some hf
  refine w_iald (t0 := 0) C hP (arX_4 G S) rfl h8 d_Si_markNow_6 ?_
  obtain ⟨x9, h10, hf⟩ := bd_some hf
  refine w_callSL (As := [.long (0 : Int64), .int (S.2 4 (Int32.toNatClampNeg v1))]) (rest := []) C (c_Di_mix l (0 : Int64) (S.2 4 (Int32.toNatClampNeg v1)) x9 h10) cf_Di_mix tb_216 (by decide) rfl hl.1 rfl (Nat.le_of_ble_eq_true rfl) d_Si_markNow_7 ?_
  refine lv_lstore_n (lv' := [(2, .long x9), (0, .ref (G.2.1 4)), (1, .int v1)]) hx hb d_Si_markNow_10 rfl hl (by decide) rfl (fun ls hl => ?_)
  refine lv_lload_n hx hb d_Si_markNow_11 rfl (lv_at hl 0 rfl) ?_
  refine lv_aload_n hx hb d_Si_markNow_12 rfl (lv_at hl 1 rfl) ?_
  refine w_get C hP (fdX_4_signers G S) tb_39 d_Si_markNow_13 ?_
  refine lv_iload_n hx hb d_Si_markNow_16 rfl (lv_at hl 2 rfl) ?_
  obtain ⟨h11, hf⟩ := zgd_some hf
  refine w_iald (t0 := 0) C hP (arX_3 G S) rfl h11 d_Si_markNow_17 ?_
  obtain ⟨x12, h13, hf⟩ := bd_some hf
  refine w_callSL (As := [.long x9, .int (S.2 3 (Int32.toNatClampNeg v1))]) (rest := []) C (c_Di_mix l x9 (S.2 3 (Int32.toNatClampNeg v1)) x12 h13) cf_Di_mix tb_216 (by decide) rfl hl.1 rfl (Nat.le_of_ble_eq_true rfl) d_Si_markNow_18 ?_
  refine lv_lstore_n (lv' := [(2, .long x12), (0, .ref (G.2.1 4)), (1, .int v1)]) hx hb d_Si_markNow_21 rfl hl (by decide) rfl (fun ls hl => ?_)
  refine lv_lload_n hx hb d_Si_markNow_22 rfl (lv_at hl 0 rfl) ?_
  refine lv_aload_n hx hb d_Si_markNow_23 rfl (lv_at hl 1 rfl) ?_
  refine w_get C hP (fdX_4_sets G S) tb_38 d_Si_markNow_24 ?_
  refine lv_iload_n hx hb d_Si_markNow_27 rfl (lv_at hl 2 rfl) ?_
  obtain ⟨h14, hf⟩ := zgd_some hf
  refine w_iald (t0 := 0) C hP (arX_2 G S) rfl h14 d_Si_markNow_28 ?_
  obtain ⟨x15, h16, hf⟩ := bd_some hf
  refine w_callS (As := [.int (S.2 2 (Int32.toNatClampNeg v1))]) (rest := [.long x12]) C (c_Na_typeOf l (S.2 2 (Int32.toNatClampNeg v1)) x15 h16) cf_Na_typeOf tb_220 (by decide) rfl hl.1 rfl (Nat.le_of_ble_eq_true rfl) d_Si_markNow_29 ?_
  obtain ⟨x17, h18, hf⟩ := bd_some hf
  refine w_callSL (As := [.long x12, .int x15]) (rest := []) C (c_Di_mix l x12 x15 x17 h18) cf_Di_mix tb_216 (by decide) rfl hl.1 rfl (Nat.le_of_ble_eq_true rfl) d_Si_markNow_32 ?_
  refine lv_lstore_n (lv' := [(2, .long x17), (0, .ref (G.2.1 4)), (1, .int v1)]) hx hb d_Si_markNow_35 rfl hl (by decide) rfl (fun ls hl => ?_)
  refine lv_lload_n hx hb d_Si_markNow_36 rfl (lv_at hl 0 rfl) ?_
  refine lv_aload_n hx hb d_Si_markNow_37 rfl (lv_at hl 1 rfl) ?_
  refine w_get C hP (fdX_4_labels G S) tb_41 d_Si_markNow_38 ?_
  refine lv_iload_n hx hb d_Si_markNow_41 rfl (lv_at hl 2 rfl) ?_
  obtain ⟨h19, hf⟩ := zgd_some hf
  refine w_iald (t0 := 0) C hP (arX_5 G S) rfl h19 d_Si_markNow_42 ?_
  obtain ⟨x20, h21, hf⟩ := bd_some hf
  refine w_callSL (As := [.long x17, .int (S.2 5 (Int32.toNatClampNeg v1))]) (rest := []) C (c_Di_mix l x17 (S.2 5 (Int32.toNatClampNeg v1)) x20 h21) cf_Di_mix tb_216 (by decide) rfl hl.1 rfl (Nat.le_of_ble_eq_true rfl) d_Si_markNow_43 ?_
  refine lv_lstore_n (lv' := [(2, .long x20), (0, .ref (G.2.1 4)), (1, .int v1)]) hx hb d_Si_markNow_46 rfl hl (by decide) rfl (fun ls hl => ?_)
  refine lv_lload_n hx hb d_Si_markNow_47 rfl (lv_at hl 0 rfl) ?_
  refine lv_aload_n hx hb d_Si_markNow_48 rfl (lv_at hl 1 rfl) ?_
  refine w_get C hP (fdX_4_firsts G S) tb_42 d_Si_markNow_49 ?_
  refine lv_iload_n hx hb d_Si_markNow_52 rfl (lv_at hl 2 rfl) ?_
  obtain ⟨h22, hf⟩ := zgd_some hf
  refine w_iald (t0 := 0) C hP (arX_6 G S) rfl h22 d_Si_markNow_53 ?_
  obtain ⟨x23, h24, hf⟩ := bd_some hf
  refine w_callSL (As := [.long x20, .int (S.2 6 (Int32.toNatClampNeg v1))]) (rest := []) C (c_Di_mix l x20 (S.2 6 (Int32.toNatClampNeg v1)) x23 h24) cf_Di_mix tb_216 (by decide) rfl hl.1 rfl (Nat.le_of_ble_eq_true rfl) d_Si_markNow_54 ?_
  refine lv_lstore_n (lv' := [(2, .long x23), (0, .ref (G.2.1 4)), (1, .int v1)]) hx hb d_Si_markNow_57 rfl hl (by decide) rfl (fun ls hl => ?_)
  refine lv_lload_n hx hb d_Si_markNow_58 rfl (lv_at hl 0 rfl) ?_
  refine lv_aload_n hx hb d_Si_markNow_59 rfl (lv_at hl 1 rfl) ?_
  refine w_get C hP (fdX_4_lasts G S) tb_43 d_Si_markNow_60 ?_
  refine lv_iload_n hx hb d_Si_markNow_63 rfl (lv_at hl 2 rfl) ?_
  obtain ⟨h25, hf⟩ := zgd_some hf
  refine w_iald (t0 := 0) C hP (arX_7 G S) rfl h25 d_Si_markNow_64 ?_
  obtain ⟨x26, h27, hf⟩ := bd_some hf
  refine w_callSL (As := [.long x23, .int (S.2 7 (Int32.toNatClampNeg v1))]) (rest := []) C (c_Di_mix l x23 (S.2 7 (Int32.toNatClampNeg v1)) x26 h27) cf_Di_mix tb_216 (by decide) rfl hl.1 rfl (Nat.le_of_ble_eq_true rfl) d_Si_markNow_65 ?_
  refine lv_lstore_n (lv' := [(2, .long x26), (0, .ref (G.2.1 4)), (1, .int v1)]) hx hb d_Si_markNow_68 rfl hl (by decide) rfl (fun ls hl => ?_)
  refine lv_lload_n hx hb d_Si_markNow_69 rfl (lv_at hl 0 rfl) ?_
  refine lv_aload_n hx hb d_Si_markNow_70 rfl (lv_at hl 1 rfl) ?_
  refine w_get C hP (fdX_4_signedNames G S) tb_44 d_Si_markNow_71 ?_
  refine lv_iload_n hx hb d_Si_markNow_74 rfl (lv_at hl 2 rfl) ?_
  obtain ⟨h28, hf⟩ := zgd_some hf
  refine w_iald (t0 := 0) C hP (arX_8 G S) rfl h28 d_Si_markNow_75 ?_
  obtain ⟨x29, h30, hf⟩ := bd_some hf
  refine w_callSL (As := [.long x26, .int (S.2 8 (Int32.toNatClampNeg v1))]) (rest := []) C (c_Di_mix l x26 (S.2 8 (Int32.toNatClampNeg v1)) x29 h30) cf_Di_mix tb_216 (by decide) rfl hl.1 rfl (Nat.le_of_ble_eq_true rfl) d_Si_markNow_76 ?_
  refine lv_lstore_n (lv' := [(2, .long x29), (0, .ref (G.2.1 4)), (1, .int v1)]) hx hb d_Si_markNow_79 rfl hl (by decide) rfl (fun ls hl => ?_)
  refine lv_aload_n hx hb d_Si_markNow_80 rfl (lv_at hl 1 rfl) ?_
  refine w_get C hP (fdX_4_records G S) tb_37 d_Si_markNow_81 ?_
  refine lv_aload_n hx hb d_Si_markNow_84 rfl (lv_at hl 1 rfl) ?_
  refine w_get C hP (fdX_4_sets G S) tb_38 d_Si_markNow_85 ?_
  refine lv_iload_n hx hb d_Si_markNow_88 rfl (lv_at hl 2 rfl) ?_
  obtain ⟨h31, hf⟩ := zgd_some hf
  refine w_iald (t0 := 0) C hP (arX_2 G S) rfl h31 d_Si_markNow_89 ?_
  obtain ⟨x32, h33, hf⟩ := bd_some hf
  refine w_callI (As := [.int (S.2 2 (Int32.toNatClampNeg v1))]) (rest := []) C (c_Re_startOf l G S (S.2 2 (Int32.toNatClampNeg v1)) x32 h33) cf_Re_startOf tb_223 (by decide) hP (obX_1 G S) rfl hl.1 rfl (Nat.le_of_ble_eq_true rfl) d_Si_markNow_90 (fun H locs hP => ?_)
  refine lv_istore (lv' := [(4, .int x32), (2, .long x29), (0, .ref (G.2.1 4)), (1, .int v1)]) hx hb d_Si_markNow_93 hl (by decide) rfl (fun ls hl => ?_)
  refine lv_aload_n hx hb d_Si_markNow_95 rfl (lv_at hl 2 rfl) ?_
  refine w_get C hP (fdX_4_records G S) tb_37 d_Si_markNow_96 ?_
  refine lv_aload_n hx hb d_Si_markNow_99 rfl (lv_at hl 2 rfl) ?_
  refine w_get C hP (fdX_4_sets G S) tb_38 d_Si_markNow_100 ?_
  refine lv_iload_n hx hb d_Si_markNow_103 rfl (lv_at hl 3 rfl) ?_
  obtain ⟨h34, hf⟩ := zgd_some hf
  refine w_iald (t0 := 0) C hP (arX_2 G S) rfl h34 d_Si_markNow_104 ?_
  obtain ⟨x35, h36, hf⟩ := bd_some hf
  refine w_callI (As := [.int (S.2 2 (Int32.toNatClampNeg v1))]) (rest := []) C (c_Re_sizeOf l G S (S.2 2 (Int32.toNatClampNeg v1)) x35 h36) cf_Re_sizeOf tb_224 (by decide) hP (obX_1 G S) rfl hl.1 rfl (Nat.le_of_ble_eq_true rfl) d_Si_markNow_105 (fun H locs hP => ?_)
  refine lv_istore (lv' := [(5, .int x35), (4, .int x32), (2, .long x29), (0, .ref (G.2.1 4)), (1, .int v1)]) hx hb d_Si_markNow_108 hl (by decide) rfl (fun ls hl => ?_)
  refine lv_iconst (v := (0 : Int32)) hx hb d_Si_markNow_110 (by decide) ?_
  refine lv_istore (lv' := [(6, .int (0 : Int32)), (5, .int x35), (4, .int x32), (2, .long x29), (0, .ref (G.2.1 4)), (1, .int v1)]) hx hb d_Si_markNow_111 hl (by decide) rfl (fun ls hl => ?_)
  exact LP_113 x32 x35 64 x29 (0 : Int32) _ _ _ (lv_sub hl [4, 3, 2, 1, 0] rfl) hP hf
def f_Si_make (S : XSt) (v1 : Int32) (v2 : Int32) (v3 : Int32) (v4 : Int32) : Option (Int32 × XSt) := (if (S.1 1) < (32 : Int32) then znm (zpS S 1 ((S.1 1) + (1 : Int32))) (fun S2 => zgd (zin (S.1 1) 32) (znm (zpA S2 2 (S.1 1) v1) (fun S5 => zgd (zin (S.1 1) 32) (znm (zpA S5 3 (S.1 1) v2) (fun S8 => zgd (zin (S.1 1) 32) (znm (zpA S8 4 (S.1 1) v3) (fun S11 => zgd (zin (S.1 1) 32) (znm (zpA S11 5 (S.1 1) v4) (fun S14 => zgd (zin (S.1 1) 32) (znm (zpA S14 6 (S.1 1) (S14.1 2)) (fun S17 => zgd (zin (S.1 1) 32) (znm (zpA S17 7 (S.1 1) (S17.1 3)) (fun S20 => Option.bind (f_Na_ownerOf v1) (fun x22 => Option.bind (f_Si_signedName x22 v4) (fun x24 => zgd (zin (S.1 1) 32) (znm (zpA S20 8 (S.1 1) x24) (fun S27 => Option.bind (f_Si_markNow S27 (S.1 1)) (fun x29 => zgd (zin (S.1 1) 32) (znm (zpA S27 9 (S.1 1) x29) (fun S32 => some ((S.1 1), S32))))))))))))))))))))) else some ((-2 : Int32), S))
set_option maxHeartbeats 4000000 in
set_option maxRecDepth 100000 in
theorem c_Si_make (l : Launch) (G : XG) (S : XSt) (v1 : Int32) (v2 : Int32) (v3 : Int32) (v4 : Int32) (o0 : (Int32 × XSt)) (hf : f_Si_make S v1 v2 v3 v4 = some o0) : MetI l y_Si_make b_Si_make 6 (some .int) 3 [.ref (G.2.1 4), .int v1, .int v2, .int v3, .int v4] G.1 (tyX G) (zAX G) (wX G S) o0.1 (wX G o0.2) := by
  refine mkI (by decide) (Nat.le_of_ble_eq_true rfl) ?_
  intro p e R s m args below meth c ls Q C hl hP hret0
  replace C : Cw p m c b_Si_make 6 s args "TrustResolver$Signatures" R 3 := C
  have hx := C.1
  have hb := C.2.1
  replace hl : lv_has ls 6 [(0, .ref (G.2.1 4)), (1, .int v1), (2, .int v2), (3, .int v3), (4, .int v4)] := hl
  have hret : ∀ (pc : Nat) (ls : Array Slot) (H : Heap) (locs : List Loc) (v : Int32) (S' : XSt), decode b_Si_make pc = .ok (.ireturn, 1) → (v, S') = o0 → Pw G.1 (tyX G) (zAX G) s (wX G S') H locs → W p l e R s m args below meth c H locs 0 0 Q (F0 m pc ls [.int v]) := fun pc ls H locs v S' hd he hP => hret0 pc ls H locs v hd (by rw [← he]) (by rw [← he]; exact hP)
  clear hret0
  unfold f_Si_make at hf
  refine lv_aload_n hx hb d_Si_make_0 rfl (lv_at hl 0 rfl) ?_
  refine w_get C hP (fdX_4_count G S) tb_48 d_Si_make_1 ?_
  refine lv_bipush (v := (32 : Int32)) hx hb d_Si_make_4 (by decide) ?_
  refine lv_icmp_lt hx hb d_Si_make_6 (tgt := 12) (by decide) (fun h1 => ?_) (fun h1 => ?_)
  · have hf := it_t h1 hf
    refine lv_aload_n hx hb d_Si_make_12 rfl (lv_at hl 0 rfl) ?_
    refine w_get C hP (fdX_4_count G S) tb_48 d_Si_make_13 ?_
    refine lv_istore (lv' := [(5, .int (S.1 1)), (0, .ref (G.2.1 4)), (1, .int v1), (2, .int v2), (3, .int v3), (4, .int v4)]) hx hb d_Si_make_16 hl (by decide) rfl (fun ls hl => ?_)
    refine lv_aload_n hx hb d_Si_make_18 rfl (lv_at hl 1 rfl) ?_
    refine lv_dup hx hb d_Si_make_19 rfl ?_
    refine w_get C hP (fdX_4_count G S) tb_48 d_Si_make_20 ?_
    refine lv_iconst (v := (1 : Int32)) hx hb d_Si_make_23 (by decide) ?_
    refine lv_iadd hx hb d_Si_make_24 ?_
    refine w_put C hP (ptX_4_count G S ((S.1 1) + (1 : Int32))) tb_48 d_Si_make_25 (fun H locs hP => ?_)
    obtain ⟨S2, e3, hf⟩ := znm_some hf
    rw [← e3] at hP
    refine lv_aload_n hx hb d_Si_make_28 rfl (lv_at hl 1 rfl) ?_
    refine w_get C hP (fdX_4_sets G S2) tb_38 d_Si_make_29 ?_
    refine lv_iload hx hb d_Si_make_32 (lv_at hl 0 rfl) ?_
    refine lv_iload_n hx hb d_Si_make_34 rfl (lv_at hl 2 rfl) ?_
    obtain ⟨h4, hf⟩ := zgd_some hf
    refine w_iast (t0 := 0) C hP (stX_2 G S2 (S.1 1) v1) rfl h4 d_Si_make_35 (fun H locs hP => ?_)
    obtain ⟨S5, e6, hf⟩ := znm_some hf
    rw [← e6] at hP
    refine lv_aload_n hx hb d_Si_make_36 rfl (lv_at hl 1 rfl) ?_
    refine w_get C hP (fdX_4_signers G S5) tb_39 d_Si_make_37 ?_
    refine lv_iload hx hb d_Si_make_40 (lv_at hl 0 rfl) ?_
    refine lv_iload_n hx hb d_Si_make_42 rfl (lv_at hl 3 rfl) ?_
    obtain ⟨h7, hf⟩ := zgd_some hf
    refine w_iast (t0 := 0) C hP (stX_3 G S5 (S.1 1) v2) rfl h7 d_Si_make_43 (fun H locs hP => ?_)
    obtain ⟨S8, e9, hf⟩ := znm_some hf
    rw [← e9] at hP
    refine lv_aload_n hx hb d_Si_make_44 rfl (lv_at hl 1 rfl) ?_
    refine w_get C hP (fdX_4_keys G S8) tb_40 d_Si_make_45 ?_
    refine lv_iload hx hb d_Si_make_48 (lv_at hl 0 rfl) ?_
    refine lv_iload_n hx hb d_Si_make_50 rfl (lv_at hl 4 rfl) ?_
    obtain ⟨h10, hf⟩ := zgd_some hf
    refine w_iast (t0 := 0) C hP (stX_4 G S8 (S.1 1) v3) rfl h10 d_Si_make_51 (fun H locs hP => ?_)
    obtain ⟨S11, e12, hf⟩ := znm_some hf
    rw [← e12] at hP
    refine lv_aload_n hx hb d_Si_make_52 rfl (lv_at hl 1 rfl) ?_
    refine w_get C hP (fdX_4_labels G S11) tb_41 d_Si_make_53 ?_
    refine lv_iload hx hb d_Si_make_56 (lv_at hl 0 rfl) ?_
    refine lv_iload hx hb d_Si_make_58 (lv_at hl 5 rfl) ?_
    obtain ⟨h13, hf⟩ := zgd_some hf
    refine w_iast (t0 := 0) C hP (stX_5 G S11 (S.1 1) v4) rfl h13 d_Si_make_60 (fun H locs hP => ?_)
    obtain ⟨S14, e15, hf⟩ := znm_some hf
    rw [← e15] at hP
    refine lv_aload_n hx hb d_Si_make_61 rfl (lv_at hl 1 rfl) ?_
    refine w_get C hP (fdX_4_firsts G S14) tb_42 d_Si_make_62 ?_
    refine lv_iload hx hb d_Si_make_65 (lv_at hl 0 rfl) ?_
    refine lv_aload_n hx hb d_Si_make_67 rfl (lv_at hl 1 rfl) ?_
    refine w_get C hP (fdX_4_newFirst G S14) tb_49 d_Si_make_68 ?_
    obtain ⟨h16, hf⟩ := zgd_some hf
    refine w_iast (t0 := 0) C hP (stX_6 G S14 (S.1 1) (S14.1 2)) rfl h16 d_Si_make_71 (fun H locs hP => ?_)
    obtain ⟨S17, e18, hf⟩ := znm_some hf
    rw [← e18] at hP
    refine lv_aload_n hx hb d_Si_make_72 rfl (lv_at hl 1 rfl) ?_
    refine w_get C hP (fdX_4_lasts G S17) tb_43 d_Si_make_73 ?_
    refine lv_iload hx hb d_Si_make_76 (lv_at hl 0 rfl) ?_
    refine lv_aload_n hx hb d_Si_make_78 rfl (lv_at hl 1 rfl) ?_
    refine w_get C hP (fdX_4_newLast G S17) tb_50 d_Si_make_79 ?_
    obtain ⟨h19, hf⟩ := zgd_some hf
    refine w_iast (t0 := 0) C hP (stX_7 G S17 (S.1 1) (S17.1 3)) rfl h19 d_Si_make_82 (fun H locs hP => ?_)
    obtain ⟨S20, e21, hf⟩ := znm_some hf
    rw [← e21] at hP
    refine lv_aload_n hx hb d_Si_make_83 rfl (lv_at hl 1 rfl) ?_
    refine w_get C hP (fdX_4_signedNames G S20) tb_44 d_Si_make_84 ?_
    refine lv_iload hx hb d_Si_make_87 (lv_at hl 0 rfl) ?_
    refine lv_iload_n hx hb d_Si_make_89 rfl (lv_at hl 2 rfl) ?_
    obtain ⟨x22, h23, hf⟩ := bd_some hf
    refine w_callS (As := [.int v1]) (rest := [.int (S.1 1), .ref (G.2.1 11)]) C (c_Na_ownerOf l v1 x22 h23) cf_Na_ownerOf tb_199 (by decide) rfl hl.1 rfl (Nat.le_of_ble_eq_true rfl) d_Si_make_90 ?_
    refine lv_iload hx hb d_Si_make_93 (lv_at hl 5 rfl) ?_
    obtain ⟨x24, h25, hf⟩ := bd_some hf
    refine w_callS (As := [.int x22, .int v4]) (rest := [.int (S.1 1), .ref (G.2.1 11)]) C (c_Si_signedName l x22 v4 x24 h25) cf_Si_signedName tb_202 (by decide) rfl hl.1 rfl (Nat.le_of_ble_eq_true rfl) d_Si_make_95 ?_
    obtain ⟨h26, hf⟩ := zgd_some hf
    refine w_iast (t0 := 0) C hP (stX_8 G S20 (S.1 1) x24) rfl h26 d_Si_make_98 (fun H locs hP => ?_)
    obtain ⟨S27, e28, hf⟩ := znm_some hf
    rw [← e28] at hP
    refine lv_aload_n hx hb d_Si_make_99 rfl (lv_at hl 1 rfl) ?_
    refine w_get C hP (fdX_4_marks G S27) tb_45 d_Si_make_100 ?_
    refine lv_iload hx hb d_Si_make_103 (lv_at hl 0 rfl) ?_
    refine lv_aload_n hx hb d_Si_make_105 rfl (lv_at hl 1 rfl) ?_
    refine lv_iload hx hb d_Si_make_106 (lv_at hl 0 rfl) ?_
    obtain ⟨x29, h30, hf⟩ := bd_some hf
    refine w_callI (As := [.int (S.1 1)]) (rest := [.int (S.1 1), .ref (G.2.1 12)]) C (c_Si_markNow l G S27 (S.1 1) x29 h30) cf_Si_markNow tb_213 (by decide) hP (obX_4 G S27) rfl hl.1 rfl (Nat.le_of_ble_eq_true rfl) d_Si_make_108 (fun H locs hP => ?_)
    obtain ⟨h31, hf⟩ := zgd_some hf
    refine w_iast (t0 := 0) C hP (stX_9 G S27 (S.1 1) x29) rfl h31 d_Si_make_111 (fun H locs hP => ?_)
    obtain ⟨S32, e33, hf⟩ := znm_some hf
    rw [← e33] at hP
    refine lv_iload hx hb d_Si_make_112 (lv_at hl 0 rfl) ?_
    exact hret _ _ _ _ _ _ d_Si_make_114 (Option.some.inj hf) hP
  · have hf := it_f h1 hf
    refine lv_bipush (v := (-2 : Int32)) hx hb d_Si_make_9 (by decide) ?_
    exact hret _ _ _ _ _ _ d_Si_make_11 (Option.some.inj hf) hP
def f_Si_shiftMark (S : XSt) (v1 : Int32) (v2 : Int32) : Option (Int32 × XSt) := (if v1 < (0 : Int32) then some ((0 : Int32), S) else (if v1 < (S.1 1) then zgd (zin v1 32) (zgd (zin v1 32) (znm (zpA S 9 v1 ((S.2 9 (Int32.toNatClampNeg v1)) + v2)) (fun S5 => some ((1 : Int32), S5)))) else some ((0 : Int32), S)))
set_option maxHeartbeats 4000000 in
set_option maxRecDepth 100000 in
theorem c_Si_shiftMark (l : Launch) (G : XG) (S : XSt) (v1 : Int32) (v2 : Int32) (o0 : (Int32 × XSt)) (hf : f_Si_shiftMark S v1 v2 = some o0) : MetI l y_Si_shiftMark b_Si_shiftMark 3 (some .boolean) 0 [.ref (G.2.1 4), .int v1, .int v2] G.1 (tyX G) (zAX G) (wX G S) o0.1 (wX G o0.2) := by
  refine mkZ (by decide) (Nat.le_of_ble_eq_true rfl) ?_
  intro p e R s m args below meth c ls Q C hl hP hret0
  replace C : Cw p m c b_Si_shiftMark 3 s args "TrustResolver$Signatures" R 0 := C
  have hx := C.1
  have hb := C.2.1
  replace hl : lv_has ls 3 [(0, .ref (G.2.1 4)), (1, .int v1), (2, .int v2)] := hl
  have hret : ∀ (pc : Nat) (ls : Array Slot) (H : Heap) (locs : List Loc) (v : Int32) (S' : XSt), decode b_Si_shiftMark pc = .ok (.ireturn, 1) → zib v = true → (v, S') = o0 → Pw G.1 (tyX G) (zAX G) s (wX G S') H locs → W p l e R s m args below meth c H locs 0 0 Q (F0 m pc ls [.int v]) := fun pc ls H locs v S' hd hz he hP => hret0 pc ls H locs v hd hz (by rw [← he]) (by rw [← he]; exact hP)
  clear hret0
  unfold f_Si_shiftMark at hf
  refine lv_iload_n hx hb d_Si_shiftMark_0 rfl (lv_at hl 1 rfl) ?_
  refine lv_if_lt hx hb d_Si_shiftMark_1 (tgt := 12) (by decide) (fun h1 => ?_) (fun h1 => ?_)
  · have hf := it_t h1 hf
    refine lv_iconst (v := (0 : Int32)) hx hb d_Si_shiftMark_12 (by decide) ?_
    exact hret _ _ _ _ _ _ d_Si_shiftMark_13 (by decide) (Option.some.inj hf) hP
  · have hf := it_f h1 hf
    refine lv_iload_n hx hb d_Si_shiftMark_4 rfl (lv_at hl 1 rfl) ?_
    refine lv_aload_n hx hb d_Si_shiftMark_5 rfl (lv_at hl 0 rfl) ?_
    refine w_get C hP (fdX_4_count G S) tb_48 d_Si_shiftMark_6 ?_
    refine lv_icmp_lt hx hb d_Si_shiftMark_9 (tgt := 14) (by decide) (fun h2 => ?_) (fun h2 => ?_)
    · have hf := it_t h2 hf
      refine lv_aload_n hx hb d_Si_shiftMark_14 rfl (lv_at hl 0 rfl) ?_
      refine w_get C hP (fdX_4_marks G S) tb_45 d_Si_shiftMark_15 ?_
      refine lv_iload_n hx hb d_Si_shiftMark_18 rfl (lv_at hl 1 rfl) ?_
      refine lv_dup2_11 hx hb d_Si_shiftMark_19 rfl rfl ?_
      obtain ⟨h3, hf⟩ := zgd_some hf
      refine w_iald (t0 := 0) C hP (arX_9 G S) rfl h3 d_Si_shiftMark_20 ?_
      refine lv_iload_n hx hb d_Si_shiftMark_21 rfl (lv_at hl 2 rfl) ?_
      refine lv_iadd hx hb d_Si_shiftMark_22 ?_
      obtain ⟨h4, hf⟩ := zgd_some hf
      refine w_iast (t0 := 0) C hP (stX_9 G S v1 ((S.2 9 (Int32.toNatClampNeg v1)) + v2)) rfl h4 d_Si_shiftMark_23 (fun H locs hP => ?_)
      obtain ⟨S5, e6, hf⟩ := znm_some hf
      rw [← e6] at hP
      refine lv_iconst (v := (1 : Int32)) hx hb d_Si_shiftMark_24 (by decide) ?_
      exact hret _ _ _ _ _ _ d_Si_shiftMark_25 (by decide) (Option.some.inj hf) hP
    · have hf := it_f h2 hf
      refine lv_iconst (v := (0 : Int32)) hx hb d_Si_shiftMark_12 (by decide) ?_
      exact hret _ _ _ _ _ _ d_Si_shiftMark_13 (by decide) (Option.some.inj hf) hP
def f_Si_passTime (S : XSt) (v1 : Int32) : Option (Int32 × XSt) := znm (zpS S 4 ((S.1 4) + v1)) (fun S1 => some ((S1.1 4), S1))
set_option maxHeartbeats 4000000 in
set_option maxRecDepth 100000 in
theorem c_Si_passTime (l : Launch) (G : XG) (S : XSt) (v1 : Int32) (o0 : (Int32 × XSt)) (hf : f_Si_passTime S v1 = some o0) : MetI l y_Si_passTime b_Si_passTime 2 (some .int) 0 [.ref (G.2.1 4), .int v1] G.1 (tyX G) (zAX G) (wX G S) o0.1 (wX G o0.2) := by
  refine mkI (by decide) (Nat.le_of_ble_eq_true rfl) ?_
  intro p e R s m args below meth c ls Q C hl hP hret0
  replace C : Cw p m c b_Si_passTime 2 s args "TrustResolver$Signatures" R 0 := C
  have hx := C.1
  have hb := C.2.1
  replace hl : lv_has ls 2 [(0, .ref (G.2.1 4)), (1, .int v1)] := hl
  have hret : ∀ (pc : Nat) (ls : Array Slot) (H : Heap) (locs : List Loc) (v : Int32) (S' : XSt), decode b_Si_passTime pc = .ok (.ireturn, 1) → (v, S') = o0 → Pw G.1 (tyX G) (zAX G) s (wX G S') H locs → W p l e R s m args below meth c H locs 0 0 Q (F0 m pc ls [.int v]) := fun pc ls H locs v S' hd he hP => hret0 pc ls H locs v hd (by rw [← he]) (by rw [← he]; exact hP)
  clear hret0
  unfold f_Si_passTime at hf
  refine lv_aload_n hx hb d_Si_passTime_0 rfl (lv_at hl 0 rfl) ?_
  refine lv_dup hx hb d_Si_passTime_1 rfl ?_
  refine w_get C hP (fdX_4_now G S) tb_51 d_Si_passTime_2 ?_
  refine lv_iload_n hx hb d_Si_passTime_5 rfl (lv_at hl 1 rfl) ?_
  refine lv_iadd hx hb d_Si_passTime_6 ?_
  refine w_put C hP (ptX_4_now G S ((S.1 4) + v1)) tb_51 d_Si_passTime_7 (fun H locs hP => ?_)
  obtain ⟨S1, e2, hf⟩ := znm_some hf
  rw [← e2] at hP
  refine lv_aload_n hx hb d_Si_passTime_10 rfl (lv_at hl 0 rfl) ?_
  refine w_get C hP (fdX_4_now G S1) tb_51 d_Si_passTime_11 ?_
  exact hret _ _ _ _ _ _ d_Si_passTime_14 (Option.some.inj hf) hP
def f_Si_isGood (S : XSt) (v1 : Int32) (v2 : Int32) : Option Int32 := zgd (zin v1 32) ((if (S.2 3 (Int32.toNatClampNeg v1)) = v2 then zgd (zin v1 32) (Option.bind (f_Na_ownerOf (S.2 2 (Int32.toNatClampNeg v1))) (fun x4 => Option.bind (f_Na_isOrAbove v2 x4) (fun x6 => (if x6 = (0 : Int32) then some (0 : Int32) else zgd (zin v1 32) (Option.bind (f_Nu_has_k S (S.2 4 (Int32.toNatClampNeg v1))) (fun x10 => (if x10 = (0 : Int32) then some (0 : Int32) else zgd (zin v1 32) ((if (S.1 4) < (S.2 6 (Int32.toNatClampNeg v1)) then some (0 : Int32) else zgd (zin v1 32) ((if (S.2 7 (Int32.toNatClampNeg v1)) < (S.1 4) then some (0 : Int32) else zgd (zin v1 32) (Option.bind (f_Re_sizeOf S (S.2 2 (Int32.toNatClampNeg v1))) (fun x18 => (if x18 ≤ (0 : Int32) then some (0 : Int32) else zgd (zin v1 32) (Option.bind (f_Si_markNow S v1) (fun x22 => (if (S.2 9 (Int32.toNatClampNeg v1)) = x22 then some (1 : Int32) else some (0 : Int32)))))))))))))))))) else some (0 : Int32)))
set_option maxHeartbeats 4000000 in
set_option maxRecDepth 100000 in
theorem c_Si_isGood (l : Launch) (G : XG) (S : XSt) (v1 : Int32) (v2 : Int32) (o0 : Int32) (hf : f_Si_isGood S v1 v2 = some o0) : MetI l y_Si_isGood b_Si_isGood 4 (some .boolean) 2 [.ref (G.2.1 4), .int v1, .int v2, .ref (G.2.1 21)] G.1 (tyX G) (zAX G) (wX G S) o0 (wX G S) := by
  refine mkZ (by decide) (Nat.le_of_ble_eq_true rfl) ?_
  intro p e R s m args below meth c ls Q C hl hP hret0
  replace C : Cw p m c b_Si_isGood 4 s args "TrustResolver$Signatures" R 2 := C
  have hx := C.1
  have hb := C.2.1
  replace hl : lv_has ls 4 [(0, .ref (G.2.1 4)), (1, .int v1), (2, .int v2), (3, .ref (G.2.1 21))] := hl
  have hret := hret0
  clear hret0
  unfold f_Si_isGood at hf
  refine lv_aload_n hx hb d_Si_isGood_0 rfl (lv_at hl 0 rfl) ?_
  refine w_get C hP (fdX_4_signers G S) tb_39 d_Si_isGood_1 ?_
  refine lv_iload_n hx hb d_Si_isGood_4 rfl (lv_at hl 1 rfl) ?_
  obtain ⟨h1, hf⟩ := zgd_some hf
  refine w_iald (t0 := 0) C hP (arX_3 G S) rfl h1 d_Si_isGood_5 ?_
  refine lv_iload_n hx hb d_Si_isGood_6 rfl (lv_at hl 2 rfl) ?_
  refine lv_icmp_ne hx hb d_Si_isGood_7 (tgt := 99) (by decide) (fun h2 => ?_) (fun h2 => ?_)
  · have hf := it_f h2 hf
    refine lv_iconst (v := (0 : Int32)) hx hb d_Si_isGood_99 (by decide) ?_
    exact hret _ _ _ _ _ d_Si_isGood_100 (by decide) (Option.some.inj hf) hP
  · have hf := it_t h2 hf
    refine lv_iload_n hx hb d_Si_isGood_10 rfl (lv_at hl 2 rfl) ?_
    refine lv_aload_n hx hb d_Si_isGood_11 rfl (lv_at hl 0 rfl) ?_
    refine w_get C hP (fdX_4_sets G S) tb_38 d_Si_isGood_12 ?_
    refine lv_iload_n hx hb d_Si_isGood_15 rfl (lv_at hl 1 rfl) ?_
    obtain ⟨h3, hf⟩ := zgd_some hf
    refine w_iald (t0 := 0) C hP (arX_2 G S) rfl h3 d_Si_isGood_16 ?_
    obtain ⟨x4, h5, hf⟩ := bd_some hf
    refine w_callS (As := [.int (S.2 2 (Int32.toNatClampNeg v1))]) (rest := [.int v2]) C (c_Na_ownerOf l (S.2 2 (Int32.toNatClampNeg v1)) x4 h5) cf_Na_ownerOf tb_199 (by decide) rfl hl.1 rfl (Nat.le_of_ble_eq_true rfl) d_Si_isGood_17 ?_
    obtain ⟨x6, h7, hf⟩ := bd_some hf
    refine w_callS (As := [.int v2, .int x4]) (rest := []) C (c_Na_isOrAbove l v2 x4 x6 h7) cf_Na_isOrAbove tb_319 (by decide) rfl hl.1 rfl (Nat.le_of_ble_eq_true rfl) d_Si_isGood_20 ?_
    refine lv_if_eq hx hb d_Si_isGood_23 (tgt := 99) (by decide) (fun h8 => ?_) (fun h8 => ?_)
    · have hf := it_t h8 hf
      refine lv_iconst (v := (0 : Int32)) hx hb d_Si_isGood_99 (by decide) ?_
      exact hret _ _ _ _ _ d_Si_isGood_100 (by decide) (Option.some.inj hf) hP
    · have hf := it_f h8 hf
      refine lv_aload_n hx hb d_Si_isGood_26 rfl (lv_at hl 3 rfl) ?_
      refine lv_aload_n hx hb d_Si_isGood_27 rfl (lv_at hl 0 rfl) ?_
      refine w_get C hP (fdX_4_keys G S) tb_40 d_Si_isGood_28 ?_
      refine lv_iload_n hx hb d_Si_isGood_31 rfl (lv_at hl 1 rfl) ?_
      obtain ⟨h9, hf⟩ := zgd_some hf
      refine w_iald (t0 := 0) C hP (arX_4 G S) rfl h9 d_Si_isGood_32 ?_
      obtain ⟨x10, h11, hf⟩ := bd_some hf
      refine w_callI (As := [.int (S.2 4 (Int32.toNatClampNeg v1))]) (rest := []) C (c_Nu_has_k l G S (S.2 4 (Int32.toNatClampNeg v1)) x10 h11) cf_Nu_has tb_320 (by decide) hP (obX_21 G S) rfl hl.1 rfl (Nat.le_of_ble_eq_true rfl) d_Si_isGood_33 (fun H locs hP => ?_)
      refine lv_if_eq hx hb d_Si_isGood_36 (tgt := 99) (by decide) (fun h12 => ?_) (fun h12 => ?_)
      · have hf := it_t h12 hf
        refine lv_iconst (v := (0 : Int32)) hx hb d_Si_isGood_99 (by decide) ?_
        exact hret _ _ _ _ _ d_Si_isGood_100 (by decide) (Option.some.inj hf) hP
      · have hf := it_f h12 hf
        refine lv_aload_n hx hb d_Si_isGood_39 rfl (lv_at hl 0 rfl) ?_
        refine w_get C hP (fdX_4_now G S) tb_51 d_Si_isGood_40 ?_
        refine lv_aload_n hx hb d_Si_isGood_43 rfl (lv_at hl 0 rfl) ?_
        refine w_get C hP (fdX_4_firsts G S) tb_42 d_Si_isGood_44 ?_
        refine lv_iload_n hx hb d_Si_isGood_47 rfl (lv_at hl 1 rfl) ?_
        obtain ⟨h13, hf⟩ := zgd_some hf
        refine w_iald (t0 := 0) C hP (arX_6 G S) rfl h13 d_Si_isGood_48 ?_
        refine lv_icmp_lt hx hb d_Si_isGood_49 (tgt := 99) (by decide) (fun h14 => ?_) (fun h14 => ?_)
        · have hf := it_t h14 hf
          refine lv_iconst (v := (0 : Int32)) hx hb d_Si_isGood_99 (by decide) ?_
          exact hret _ _ _ _ _ d_Si_isGood_100 (by decide) (Option.some.inj hf) hP
        · have hf := it_f h14 hf
          refine lv_aload_n hx hb d_Si_isGood_52 rfl (lv_at hl 0 rfl) ?_
          refine w_get C hP (fdX_4_now G S) tb_51 d_Si_isGood_53 ?_
          refine lv_aload_n hx hb d_Si_isGood_56 rfl (lv_at hl 0 rfl) ?_
          refine w_get C hP (fdX_4_lasts G S) tb_43 d_Si_isGood_57 ?_
          refine lv_iload_n hx hb d_Si_isGood_60 rfl (lv_at hl 1 rfl) ?_
          obtain ⟨h15, hf⟩ := zgd_some hf
          refine w_iald (t0 := 0) C hP (arX_7 G S) rfl h15 d_Si_isGood_61 ?_
          refine lv_icmp_gt hx hb d_Si_isGood_62 (tgt := 99) (by decide) (fun h16 => ?_) (fun h16 => ?_)
          · have hf := it_t h16 hf
            refine lv_iconst (v := (0 : Int32)) hx hb d_Si_isGood_99 (by decide) ?_
            exact hret _ _ _ _ _ d_Si_isGood_100 (by decide) (Option.some.inj hf) hP
          · have hf := it_f h16 hf
            refine lv_aload_n hx hb d_Si_isGood_65 rfl (lv_at hl 0 rfl) ?_
            refine w_get C hP (fdX_4_records G S) tb_37 d_Si_isGood_66 ?_
            refine lv_aload_n hx hb d_Si_isGood_69 rfl (lv_at hl 0 rfl) ?_
            refine w_get C hP (fdX_4_sets G S) tb_38 d_Si_isGood_70 ?_
            refine lv_iload_n hx hb d_Si_isGood_73 rfl (lv_at hl 1 rfl) ?_
            obtain ⟨h17, hf⟩ := zgd_some hf
            refine w_iald (t0 := 0) C hP (arX_2 G S) rfl h17 d_Si_isGood_74 ?_
            obtain ⟨x18, h19, hf⟩ := bd_some hf
            refine w_callI (As := [.int (S.2 2 (Int32.toNatClampNeg v1))]) (rest := []) C (c_Re_sizeOf l G S (S.2 2 (Int32.toNatClampNeg v1)) x18 h19) cf_Re_sizeOf tb_224 (by decide) hP (obX_1 G S) rfl hl.1 rfl (Nat.le_of_ble_eq_true rfl) d_Si_isGood_75 (fun H locs hP => ?_)
            refine lv_if_le hx hb d_Si_isGood_78 (tgt := 99) (by decide) (fun h20 => ?_) (fun h20 => ?_)
            · have hf := it_t h20 hf
              refine lv_iconst (v := (0 : Int32)) hx hb d_Si_isGood_99 (by decide) ?_
              exact hret _ _ _ _ _ d_Si_isGood_100 (by decide) (Option.some.inj hf) hP
            · have hf := it_f h20 hf
              refine lv_aload_n hx hb d_Si_isGood_81 rfl (lv_at hl 0 rfl) ?_
              refine w_get C hP (fdX_4_marks G S) tb_45 d_Si_isGood_82 ?_
              refine lv_iload_n hx hb d_Si_isGood_85 rfl (lv_at hl 1 rfl) ?_
              obtain ⟨h21, hf⟩ := zgd_some hf
              refine w_iald (t0 := 0) C hP (arX_9 G S) rfl h21 d_Si_isGood_86 ?_
              refine lv_aload_n hx hb d_Si_isGood_87 rfl (lv_at hl 0 rfl) ?_
              refine lv_iload_n hx hb d_Si_isGood_88 rfl (lv_at hl 1 rfl) ?_
              obtain ⟨x22, h23, hf⟩ := bd_some hf
              refine w_callI (As := [.int v1]) (rest := [.int (S.2 9 (Int32.toNatClampNeg v1))]) C (c_Si_markNow l G S v1 x22 h23) cf_Si_markNow tb_213 (by decide) hP (obX_4 G S) rfl hl.1 rfl (Nat.le_of_ble_eq_true rfl) d_Si_isGood_89 (fun H locs hP => ?_)
              refine lv_icmp_ne hx hb d_Si_isGood_92 (tgt := 99) (by decide) (fun h24 => ?_) (fun h24 => ?_)
              · have hf := it_f h24 hf
                refine lv_iconst (v := (0 : Int32)) hx hb d_Si_isGood_99 (by decide) ?_
                exact hret _ _ _ _ _ d_Si_isGood_100 (by decide) (Option.some.inj hf) hP
              · have hf := it_t h24 hf
                refine lv_iconst (v := (1 : Int32)) hx hb d_Si_isGood_95 (by decide) ?_
                refine lv_goto hx hb d_Si_isGood_96 (tgt := 100) (by decide) ?_
                exact hret _ _ _ _ _ d_Si_isGood_100 (by decide) (Option.some.inj hf) hP
def L_Si_judge_2 (v1 : Int32) (v3 : Int32) (S : XSt) : Option ((Int32 × XSt) ⊕ XSt) := (if (S.1 1) ≤ v3 then zup (some S) else Option.bind (f_Si_isGood S v3 v1) (fun x2 => zgd (zin v3 32) (znm (zpA S 10 v3 (vp_nar .boolean x2)) (fun S5 => zgd (zin v3 32) ((if (S5.2 10 (Int32.toNatClampNeg v3)) = (0 : Int32) then zgd (zin v3 32) (znm (zpA S5 11 v3 (vp_nar .boolean (0 : Int32))) (fun S10 => some (Sum.inl ((v3 + (1 : Int32)), S10)))) else zgd (zin v3 32) (zgd (zin v3 32) (Option.bind (f_Na_ownerOf (S5.2 2 (Int32.toNatClampNeg v3))) (fun x14 => Option.bind (f_Na_depth x14) (fun x16 => (if (S5.2 5 (Int32.toNatClampNeg v3)) = x16 then zgd (zin v3 32) (znm (zpA S5 11 v3 (vp_nar .boolean (1 : Int32))) (fun S23 => some (Sum.inl ((v3 + (1 : Int32)), S23)))) else zgd (zin v3 32) (znm (zpA S5 11 v3 (vp_nar .boolean (0 : Int32))) (fun S20 => some (Sum.inl ((v3 + (1 : Int32)), S20)))))))))))))))
def LS_Si_judge_2 (v1 : Int32) (v : (Int32 × XSt)) : Option ((Int32 × XSt) ⊕ XSt) := L_Si_judge_2 v1 v.1 v.2
def f_Si_judge (S : XSt) (v1 : Int32) : Option XSt := zit (LS_Si_judge_2 v1) 64 ((0 : Int32), S)
set_option maxHeartbeats 4000000 in
set_option maxRecDepth 100000 in
theorem c_Si_judge (l : Launch) (G : XG) (S : XSt) (v1 : Int32) (o0 : XSt) (hf : f_Si_judge S v1 = some o0) : MetV l y_Si_judge b_Si_judge 4 3 [.ref (G.2.1 4), .int v1, .ref (G.2.1 21)] G.1 (tyX G) (zAX G) (wX G S) (wX G o0) := by
  refine mkV (by decide) (Nat.le_of_ble_eq_true rfl) ?_
  intro p e R s m args below meth c ls Q C hl hP hret0
  replace C : Cw p m c b_Si_judge 4 s args "TrustResolver$Signatures" R 3 := C
  have hx := C.1
  have hb := C.2.1
  replace hl : lv_has ls 4 [(0, .ref (G.2.1 4)), (1, .int v1), (2, .ref (G.2.1 21))] := hl
  have hret : ∀ (pc : Nat) (ls : Array Slot) (H : Heap) (locs : List Loc) (S' : XSt), decode b_Si_judge pc = .ok (.return_, 1) → S' = o0 → Pw G.1 (tyX G) (zAX G) s (wX G S') H locs → W p l e R s m args below meth c H locs 0 0 Q (F0 m pc ls []) := fun pc ls H locs S' hd he hP => hret0 pc ls H locs hd (by rw [← he]; exact hP)
  clear hret0
  unfold f_Si_judge at hf
  have LP_2 : ∀ (v1 : Int32) (n : Nat) (v3 : Int32) (S : XSt) (ls : Array Slot) (H : Heap) (locs : List Loc) , lv_has ls 4 [(0, .ref (G.2.1 4)), (1, .int v1), (2, .ref (G.2.1 21)), (3, .int v3)] → Pw G.1 (tyX G) (zAX G) s (wX G S) H locs → zit (LS_Si_judge_2 v1) n (v3, S) = some o0 → W p l e R s m args below meth c H locs 0 0 Q (F0 m 2 ls []) := by
    intro v1 n
    induction n with
    | zero => intro v3 S ls H locs hl hP hf; exact zit_0 hf
    | succ n ih1 =>
      intro v3 S ls H locs hl hP hf
      obtain ⟨o1, hf, hk1⟩ := zit_s hf
      have hf : L_Si_judge_2 v1 v3 S = some o1 := hf
      unfold L_Si_judge_2 at hf
      refine lv_iload_n hx hb d_Si_judge_2 rfl (lv_at hl 3 rfl) ?_
      refine lv_aload_n hx hb d_Si_judge_3 rfl (lv_at hl 0 rfl) ?_
      refine w_get C hP (fdX_4_count G S) tb_48 d_Si_judge_4 ?_
      refine lv_icmp_ge hx hb d_Si_judge_7 (tgt := 70) (by decide) (fun h1 => ?_) (fun h1 => ?_)
      · have hf := it_t h1 hf
        have hf := zup_k hf hk1
        exact hret _ _ _ _ _ d_Si_judge_70 (Option.some.inj hf) hP
      · have hf := it_f h1 hf
        refine lv_aload_n hx hb d_Si_judge_10 rfl (lv_at hl 0 rfl) ?_
        refine w_get C hP (fdX_4_good G S) tb_46 d_Si_judge_11 ?_
        refine lv_iload_n hx hb d_Si_judge_14 rfl (lv_at hl 3 rfl) ?_
        refine lv_aload_n hx hb d_Si_judge_15 rfl (lv_at hl 0 rfl) ?_
        refine lv_iload_n hx hb d_Si_judge_16 rfl (lv_at hl 3 rfl) ?_
        refine lv_iload_n hx hb d_Si_judge_17 rfl (lv_at hl 1 rfl) ?_
        refine lv_aload_n hx hb d_Si_judge_18 rfl (lv_at hl 2 rfl) ?_
        obtain ⟨x2, h3, hf⟩ := bd_some hf
        refine w_callI (As := [.int v3, .int v1, .ref (G.2.1 21)]) (rest := [.int v3, .ref (G.2.1 13)]) C (c_Si_isGood l G S v3 v1 x2 h3) cf_Si_isGood tb_316 (by decide) hP (obX_4 G S) rfl hl.1 rfl (Nat.le_of_ble_eq_true rfl) d_Si_judge_19 (fun H locs hP => ?_)
        obtain ⟨h4, hf⟩ := zgd_some hf
        refine w_zast (t0 := 1) C hP (stX_10 G S v3 (vp_nar .boolean x2)) rfl h4 d_Si_judge_22 (fun H locs hP => ?_)
        obtain ⟨S5, e6, hf⟩ := znm_some hf
        rw [← e6] at hP
        refine lv_aload_n hx hb d_Si_judge_23 rfl (lv_at hl 0 rfl) ?_
        refine w_get C hP (fdX_4_plain G S5) tb_47 d_Si_judge_24 ?_
        refine lv_iload_n hx hb d_Si_judge_27 rfl (lv_at hl 3 rfl) ?_
        refine lv_aload_n hx hb d_Si_judge_28 rfl (lv_at hl 0 rfl) ?_
        refine w_get C hP (fdX_4_good G S5) tb_46 d_Si_judge_29 ?_
        refine lv_iload_n hx hb d_Si_judge_32 rfl (lv_at hl 3 rfl) ?_
        obtain ⟨h7, hf⟩ := zgd_some hf
        refine w_zald (t0 := 1) C hP (arX_10 G S5) rfl h7 d_Si_judge_33 ?_
        refine lv_if_eq hx hb d_Si_judge_34 (tgt := 62) (by decide) (fun h8 => ?_) (fun h8 => ?_)
        · have hf := it_t h8 hf
          refine lv_iconst (v := (0 : Int32)) hx hb d_Si_judge_62 (by decide) ?_
          obtain ⟨h9, hf⟩ := zgd_some hf
          refine w_zast (t0 := 1) C hP (stX_11 G S5 v3 (vp_nar .boolean (0 : Int32))) rfl h9 d_Si_judge_63 (fun H locs hP => ?_)
          obtain ⟨S10, e11, hf⟩ := znm_some hf
          rw [← e11] at hP
          refine lv_iinc (k := 3) (v := (v3 + (1 : Int32))) (lv' := [(3, .int (v3 + (1 : Int32))), (0, .ref (G.2.1 4)), (1, .int v1), (2, .ref (G.2.1 21))]) hx hb d_Si_judge_64 hl rfl (ii (by decide) _) (by decide) rfl (fun ls hl => ?_)
          refine lv_goto hx hb d_Si_judge_67 (tgt := 2) (by decide) ?_
          exact ih1 (v3 + (1 : Int32)) S10 _ _ _ (lv_sub hl [1, 2, 3, 0] rfl) hP (znx_l hf hk1)
        · have hf := it_f h8 hf
          refine lv_aload_n hx hb d_Si_judge_37 rfl (lv_at hl 0 rfl) ?_
          refine w_get C hP (fdX_4_labels G S5) tb_41 d_Si_judge_38 ?_
          refine lv_iload_n hx hb d_Si_judge_41 rfl (lv_at hl 3 rfl) ?_
          obtain ⟨h12, hf⟩ := zgd_some hf
          refine w_iald (t0 := 0) C hP (arX_5 G S5) rfl h12 d_Si_judge_42 ?_
          refine lv_aload_n hx hb d_Si_judge_43 rfl (lv_at hl 0 rfl) ?_
          refine w_get C hP (fdX_4_sets G S5) tb_38 d_Si_judge_44 ?_
          refine lv_iload_n hx hb d_Si_judge_47 rfl (lv_at hl 3 rfl) ?_
          obtain ⟨h13, hf⟩ := zgd_some hf
          refine w_iald (t0 := 0) C hP (arX_2 G S5) rfl h13 d_Si_judge_48 ?_
          obtain ⟨x14, h15, hf⟩ := bd_some hf
          refine w_callS (As := [.int (S5.2 2 (Int32.toNatClampNeg v3))]) (rest := [.int (S5.2 5 (Int32.toNatClampNeg v3)), .int v3, .ref (G.2.1 14)]) C (c_Na_ownerOf l (S5.2 2 (Int32.toNatClampNeg v3)) x14 h15) cf_Na_ownerOf tb_199 (by decide) rfl hl.1 rfl (Nat.le_of_ble_eq_true rfl) d_Si_judge_49 ?_
          obtain ⟨x16, h17, hf⟩ := bd_some hf
          refine w_callS (As := [.int x14]) (rest := [.int (S5.2 5 (Int32.toNatClampNeg v3)), .int v3, .ref (G.2.1 14)]) C (c_Na_depth l x14 x16 h17) cf_Na_depth tb_205 (by decide) rfl hl.1 rfl (Nat.le_of_ble_eq_true rfl) d_Si_judge_52 ?_
          refine lv_icmp_ne hx hb d_Si_judge_55 (tgt := 62) (by decide) (fun h18 => ?_) (fun h18 => ?_)
          · have hf := it_f h18 hf
            refine lv_iconst (v := (0 : Int32)) hx hb d_Si_judge_62 (by decide) ?_
            obtain ⟨h19, hf⟩ := zgd_some hf
            refine w_zast (t0 := 1) C hP (stX_11 G S5 v3 (vp_nar .boolean (0 : Int32))) rfl h19 d_Si_judge_63 (fun H locs hP => ?_)
            obtain ⟨S20, e21, hf⟩ := znm_some hf
            rw [← e21] at hP
            refine lv_iinc (k := 3) (v := (v3 + (1 : Int32))) (lv' := [(3, .int (v3 + (1 : Int32))), (0, .ref (G.2.1 4)), (1, .int v1), (2, .ref (G.2.1 21))]) hx hb d_Si_judge_64 hl rfl (ii (by decide) _) (by decide) rfl (fun ls hl => ?_)
            refine lv_goto hx hb d_Si_judge_67 (tgt := 2) (by decide) ?_
            exact ih1 (v3 + (1 : Int32)) S20 _ _ _ (lv_sub hl [1, 2, 3, 0] rfl) hP (znx_l hf hk1)
          · have hf := it_t h18 hf
            refine lv_iconst (v := (1 : Int32)) hx hb d_Si_judge_58 (by decide) ?_
            refine lv_goto hx hb d_Si_judge_59 (tgt := 63) (by decide) ?_
            obtain ⟨h22, hf⟩ := zgd_some hf
            refine w_zast (t0 := 1) C hP (stX_11 G S5 v3 (vp_nar .boolean (1 : Int32))) rfl h22 d_Si_judge_63 (fun H locs hP => ?_)
            obtain ⟨S23, e24, hf⟩ := znm_some hf
            rw [← e24] at hP
            refine lv_iinc (k := 3) (v := (v3 + (1 : Int32))) (lv' := [(3, .int (v3 + (1 : Int32))), (0, .ref (G.2.1 4)), (1, .int v1), (2, .ref (G.2.1 21))]) hx hb d_Si_judge_64 hl rfl (ii (by decide) _) (by decide) rfl (fun ls hl => ?_)
            refine lv_goto hx hb d_Si_judge_67 (tgt := 2) (by decide) ?_
            exact ih1 (v3 + (1 : Int32)) S23 _ _ _ (lv_sub hl [1, 2, 3, 0] rfl) hP (znx_l hf hk1)
  refine lv_iconst (v := (0 : Int32)) hx hb d_Si_judge_0 (by decide) ?_
  refine lv_istore_n (lv' := [(3, .int (0 : Int32)), (0, .ref (G.2.1 4)), (1, .int v1), (2, .ref (G.2.1 21))]) hx hb d_Si_judge_1 rfl hl (by decide) rfl (fun ls hl => ?_)
  exact LP_2 v1 64 (0 : Int32) S _ _ _ (lv_sub hl [1, 2, 3, 0] rfl) hP hf
def L_Si_isPlain_2 (S : XSt) (v1 : Int32) (v2 : Int32) : Option (Int32 ⊕ Int32) := (if (S.1 1) ≤ v2 then zup (some (0 : Int32)) else zgd (zin v2 32) ((if (S.2 11 (Int32.toNatClampNeg v2)) = (0 : Int32) then some (Sum.inl (v2 + (1 : Int32))) else zgd (zin v2 32) ((if (S.2 2 (Int32.toNatClampNeg v2)) = v1 then zup (some (1 : Int32)) else some (Sum.inl (v2 + (1 : Int32))))))))
def LS_Si_isPlain_2 (S : XSt) (v1 : Int32) (v : Int32) : Option (Int32 ⊕ Int32) := L_Si_isPlain_2 S v1 v
def f_Si_isPlain (S : XSt) (v1 : Int32) : Option Int32 := zit (LS_Si_isPlain_2 S v1) 64 (0 : Int32)
set_option maxHeartbeats 4000000 in
set_option maxRecDepth 100000 in
theorem c_Si_isPlain (l : Launch) (G : XG) (S : XSt) (v1 : Int32) (o0 : Int32) (hf : f_Si_isPlain S v1 = some o0) : MetI l y_Si_isPlain b_Si_isPlain 3 (some .boolean) 0 [.ref (G.2.1 4), .int v1] G.1 (tyX G) (zAX G) (wX G S) o0 (wX G S) := by
  refine mkZ (by decide) (Nat.le_of_ble_eq_true rfl) ?_
  intro p e R s m args below meth c ls Q C hl hP hret0
  replace C : Cw p m c b_Si_isPlain 3 s args "TrustResolver$Signatures" R 0 := C
  have hx := C.1
  have hb := C.2.1
  replace hl : lv_has ls 3 [(0, .ref (G.2.1 4)), (1, .int v1)] := hl
  have hret := hret0
  clear hret0
  unfold f_Si_isPlain at hf
  have LP_2 : ∀ (v1 : Int32) (n : Nat) (v2 : Int32) (ls : Array Slot) (H : Heap) (locs : List Loc) , lv_has ls 3 [(0, .ref (G.2.1 4)), (1, .int v1), (2, .int v2)] → Pw G.1 (tyX G) (zAX G) s (wX G S) H locs → zit (LS_Si_isPlain_2 S v1) n v2 = some o0 → W p l e R s m args below meth c H locs 0 0 Q (F0 m 2 ls []) := by
    intro v1 n
    induction n with
    | zero => intro v2 ls H locs hl hP hf; exact zit_0 hf
    | succ n ih1 =>
      intro v2 ls H locs hl hP hf
      obtain ⟨o1, hf, hk1⟩ := zit_s hf
      have hf : L_Si_isPlain_2 S v1 v2 = some o1 := hf
      unfold L_Si_isPlain_2 at hf
      refine lv_iload_n hx hb d_Si_isPlain_2 rfl (lv_at hl 2 rfl) ?_
      refine lv_aload_n hx hb d_Si_isPlain_3 rfl (lv_at hl 0 rfl) ?_
      refine w_get C hP (fdX_4_count G S) tb_48 d_Si_isPlain_4 ?_
      refine lv_icmp_ge hx hb d_Si_isPlain_7 (tgt := 37) (by decide) (fun h1 => ?_) (fun h1 => ?_)
      · have hf := it_t h1 hf
        have hf := zup_k hf hk1
        refine lv_iconst (v := (0 : Int32)) hx hb d_Si_isPlain_37 (by decide) ?_
        exact hret _ _ _ _ _ d_Si_isPlain_38 (by decide) (Option.some.inj hf) hP
      · have hf := it_f h1 hf
        refine lv_aload_n hx hb d_Si_isPlain_10 rfl (lv_at hl 0 rfl) ?_
        refine w_get C hP (fdX_4_plain G S) tb_47 d_Si_isPlain_11 ?_
        refine lv_iload_n hx hb d_Si_isPlain_14 rfl (lv_at hl 2 rfl) ?_
        obtain ⟨h2, hf⟩ := zgd_some hf
        refine w_zald (t0 := 1) C hP (arX_11 G S) rfl h2 d_Si_isPlain_15 ?_
        refine lv_if_eq hx hb d_Si_isPlain_16 (tgt := 31) (by decide) (fun h3 => ?_) (fun h3 => ?_)
        · have hf := it_t h3 hf
          refine lv_iinc (k := 2) (v := (v2 + (1 : Int32))) (lv' := [(2, .int (v2 + (1 : Int32))), (0, .ref (G.2.1 4)), (1, .int v1)]) hx hb d_Si_isPlain_31 hl rfl (ii (by decide) _) (by decide) rfl (fun ls hl => ?_)
          refine lv_goto hx hb d_Si_isPlain_34 (tgt := 2) (by decide) ?_
          exact ih1 (v2 + (1 : Int32)) _ _ _ (lv_sub hl [1, 2, 0] rfl) hP (znx_l hf hk1)
        · have hf := it_f h3 hf
          refine lv_aload_n hx hb d_Si_isPlain_19 rfl (lv_at hl 0 rfl) ?_
          refine w_get C hP (fdX_4_sets G S) tb_38 d_Si_isPlain_20 ?_
          refine lv_iload_n hx hb d_Si_isPlain_23 rfl (lv_at hl 2 rfl) ?_
          obtain ⟨h4, hf⟩ := zgd_some hf
          refine w_iald (t0 := 0) C hP (arX_2 G S) rfl h4 d_Si_isPlain_24 ?_
          refine lv_iload_n hx hb d_Si_isPlain_25 rfl (lv_at hl 1 rfl) ?_
          refine lv_icmp_ne hx hb d_Si_isPlain_26 (tgt := 31) (by decide) (fun h5 => ?_) (fun h5 => ?_)
          · have hf := it_f h5 hf
            refine lv_iinc (k := 2) (v := (v2 + (1 : Int32))) (lv' := [(2, .int (v2 + (1 : Int32))), (0, .ref (G.2.1 4)), (1, .int v1)]) hx hb d_Si_isPlain_31 hl rfl (ii (by decide) _) (by decide) rfl (fun ls hl => ?_)
            refine lv_goto hx hb d_Si_isPlain_34 (tgt := 2) (by decide) ?_
            exact ih1 (v2 + (1 : Int32)) _ _ _ (lv_sub hl [1, 2, 0] rfl) hP (znx_l hf hk1)
          · have hf := it_t h5 hf
            have hf := zup_k hf hk1
            refine lv_iconst (v := (1 : Int32)) hx hb d_Si_isPlain_29 (by decide) ?_
            exact hret _ _ _ _ _ d_Si_isPlain_30 (by decide) (Option.some.inj hf) hP
  refine lv_iconst (v := (0 : Int32)) hx hb d_Si_isPlain_0 (by decide) ?_
  refine lv_istore_n (lv' := [(2, .int (0 : Int32)), (0, .ref (G.2.1 4)), (1, .int v1)]) hx hb d_Si_isPlain_1 rfl hl (by decide) rfl (fun ls hl => ?_)
  exact LP_2 v1 64 (0 : Int32) _ _ _ (lv_sub hl [1, 2, 0] rfl) hP hf
def L_Si_labelsOfFirstGood_2 (S : XSt) (v1 : Int32) (v2 : Int32) : Option (Int32 ⊕ Int32) := (if (S.1 1) ≤ v2 then zup (some (-1 : Int32)) else zgd (zin v2 32) ((if (S.2 10 (Int32.toNatClampNeg v2)) = (0 : Int32) then some (Sum.inl (v2 + (1 : Int32))) else zgd (zin v2 32) ((if (S.2 2 (Int32.toNatClampNeg v2)) = v1 then zup (zgd (zin v2 32) (some (S.2 5 (Int32.toNatClampNeg v2)))) else some (Sum.inl (v2 + (1 : Int32))))))))
def LS_Si_labelsOfFirstGood_2 (S : XSt) (v1 : Int32) (v : Int32) : Option (Int32 ⊕ Int32) := L_Si_labelsOfFirstGood_2 S v1 v
def f_Si_labelsOfFirstGood (S : XSt) (v1 : Int32) : Option Int32 := zit (LS_Si_labelsOfFirstGood_2 S v1) 64 (0 : Int32)
set_option maxHeartbeats 4000000 in
set_option maxRecDepth 100000 in
theorem c_Si_labelsOfFirstGood (l : Launch) (G : XG) (S : XSt) (v1 : Int32) (o0 : Int32) (hf : f_Si_labelsOfFirstGood S v1 = some o0) : MetI l y_Si_labelsOfFirstGood b_Si_labelsOfFirstGood 3 (some .int) 0 [.ref (G.2.1 4), .int v1] G.1 (tyX G) (zAX G) (wX G S) o0 (wX G S) := by
  refine mkI (by decide) (Nat.le_of_ble_eq_true rfl) ?_
  intro p e R s m args below meth c ls Q C hl hP hret0
  replace C : Cw p m c b_Si_labelsOfFirstGood 3 s args "TrustResolver$Signatures" R 0 := C
  have hx := C.1
  have hb := C.2.1
  replace hl : lv_has ls 3 [(0, .ref (G.2.1 4)), (1, .int v1)] := hl
  have hret := hret0
  clear hret0
  unfold f_Si_labelsOfFirstGood at hf
  have LP_2 : ∀ (v1 : Int32) (n : Nat) (v2 : Int32) (ls : Array Slot) (H : Heap) (locs : List Loc) , lv_has ls 3 [(0, .ref (G.2.1 4)), (1, .int v1), (2, .int v2)] → Pw G.1 (tyX G) (zAX G) s (wX G S) H locs → zit (LS_Si_labelsOfFirstGood_2 S v1) n v2 = some o0 → W p l e R s m args below meth c H locs 0 0 Q (F0 m 2 ls []) := by
    intro v1 n
    induction n with
    | zero => intro v2 ls H locs hl hP hf; exact zit_0 hf
    | succ n ih1 =>
      intro v2 ls H locs hl hP hf
      obtain ⟨o1, hf, hk1⟩ := zit_s hf
      have hf : L_Si_labelsOfFirstGood_2 S v1 v2 = some o1 := hf
      unfold L_Si_labelsOfFirstGood_2 at hf
      refine lv_iload_n hx hb d_Si_labelsOfFirstGood_2 rfl (lv_at hl 2 rfl) ?_
      refine lv_aload_n hx hb d_Si_labelsOfFirstGood_3 rfl (lv_at hl 0 rfl) ?_
      refine w_get C hP (fdX_4_count G S) tb_48 d_Si_labelsOfFirstGood_4 ?_
      refine lv_icmp_ge hx hb d_Si_labelsOfFirstGood_7 (tgt := 42) (by decide) (fun h1 => ?_) (fun h1 => ?_)
      · have hf := it_t h1 hf
        have hf := zup_k hf hk1
        refine lv_iconst (v := (-1 : Int32)) hx hb d_Si_labelsOfFirstGood_42 (by decide) ?_
        exact hret _ _ _ _ _ d_Si_labelsOfFirstGood_43 (Option.some.inj hf) hP
      · have hf := it_f h1 hf
        refine lv_aload_n hx hb d_Si_labelsOfFirstGood_10 rfl (lv_at hl 0 rfl) ?_
        refine w_get C hP (fdX_4_good G S) tb_46 d_Si_labelsOfFirstGood_11 ?_
        refine lv_iload_n hx hb d_Si_labelsOfFirstGood_14 rfl (lv_at hl 2 rfl) ?_
        obtain ⟨h2, hf⟩ := zgd_some hf
        refine w_zald (t0 := 1) C hP (arX_10 G S) rfl h2 d_Si_labelsOfFirstGood_15 ?_
        refine lv_if_eq hx hb d_Si_labelsOfFirstGood_16 (tgt := 36) (by decide) (fun h3 => ?_) (fun h3 => ?_)
        · have hf := it_t h3 hf
          refine lv_iinc (k := 2) (v := (v2 + (1 : Int32))) (lv' := [(2, .int (v2 + (1 : Int32))), (0, .ref (G.2.1 4)), (1, .int v1)]) hx hb d_Si_labelsOfFirstGood_36 hl rfl (ii (by decide) _) (by decide) rfl (fun ls hl => ?_)
          refine lv_goto hx hb d_Si_labelsOfFirstGood_39 (tgt := 2) (by decide) ?_
          exact ih1 (v2 + (1 : Int32)) _ _ _ (lv_sub hl [1, 2, 0] rfl) hP (znx_l hf hk1)
        · have hf := it_f h3 hf
          refine lv_aload_n hx hb d_Si_labelsOfFirstGood_19 rfl (lv_at hl 0 rfl) ?_
          refine w_get C hP (fdX_4_sets G S) tb_38 d_Si_labelsOfFirstGood_20 ?_
          refine lv_iload_n hx hb d_Si_labelsOfFirstGood_23 rfl (lv_at hl 2 rfl) ?_
          obtain ⟨h4, hf⟩ := zgd_some hf
          refine w_iald (t0 := 0) C hP (arX_2 G S) rfl h4 d_Si_labelsOfFirstGood_24 ?_
          refine lv_iload_n hx hb d_Si_labelsOfFirstGood_25 rfl (lv_at hl 1 rfl) ?_
          refine lv_icmp_ne hx hb d_Si_labelsOfFirstGood_26 (tgt := 36) (by decide) (fun h5 => ?_) (fun h5 => ?_)
          · have hf := it_f h5 hf
            refine lv_iinc (k := 2) (v := (v2 + (1 : Int32))) (lv' := [(2, .int (v2 + (1 : Int32))), (0, .ref (G.2.1 4)), (1, .int v1)]) hx hb d_Si_labelsOfFirstGood_36 hl rfl (ii (by decide) _) (by decide) rfl (fun ls hl => ?_)
            refine lv_goto hx hb d_Si_labelsOfFirstGood_39 (tgt := 2) (by decide) ?_
            exact ih1 (v2 + (1 : Int32)) _ _ _ (lv_sub hl [1, 2, 0] rfl) hP (znx_l hf hk1)
          · have hf := it_t h5 hf
            have hf := zup_k hf hk1
            refine lv_aload_n hx hb d_Si_labelsOfFirstGood_29 rfl (lv_at hl 0 rfl) ?_
            refine w_get C hP (fdX_4_labels G S) tb_41 d_Si_labelsOfFirstGood_30 ?_
            refine lv_iload_n hx hb d_Si_labelsOfFirstGood_33 rfl (lv_at hl 2 rfl) ?_
            obtain ⟨h6, hf⟩ := zgd_some hf
            refine w_iald (t0 := 0) C hP (arX_5 G S) rfl h6 d_Si_labelsOfFirstGood_34 ?_
            exact hret _ _ _ _ _ d_Si_labelsOfFirstGood_35 (Option.some.inj hf) hP
  refine lv_iconst (v := (0 : Int32)) hx hb d_Si_labelsOfFirstGood_0 (by decide) ?_
  refine lv_istore_n (lv' := [(2, .int (0 : Int32)), (0, .ref (G.2.1 4)), (1, .int v1)]) hx hb d_Si_labelsOfFirstGood_1 rfl hl (by decide) rfl (fun ls hl => ?_)
  exact LP_2 v1 64 (0 : Int32) _ _ _ (lv_sub hl [1, 2, 0] rfl) hP hf
