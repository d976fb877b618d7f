def L_M_size_5 (S : MSt) (v1 : Int32) (v2 : Int32) (v3 : Int32) (v4 : Int32) : Option ((Int32 × Int32) ⊕ Int32) := (if (S.1 0) ≤ v4 then zup (some v3) else zgd (zin v4 48) ((if (S.2.1 0 (Int32.toNatClampNeg v4)) = v1 then zgd (zin v4 48) ((if (S.2.1 1 (Int32.toNatClampNeg v4)) = v2 then some (Sum.inl ((v3 + (1 : Int32)), (v4 + (1 : Int32)))) else some (Sum.inl (v3, (v4 + (1 : Int32)))))) else some (Sum.inl (v3, (v4 + (1 : Int32)))))))
def LS_M_size_5 (S : MSt) (v1 : Int32) (v2 : Int32) (v : (Int32 × Int32)) : Option ((Int32 × Int32) ⊕ Int32) := L_M_size_5 S v1 v2 v.1 v.2
def f_M_size (S : MSt) (v1 : Int32) (v2 : Int32) : Option Int32 := zit (LS_M_size_5 S v1 v2) 64 ((0 : Int32), (0 : Int32))
set_option maxHeartbeats 4000000 in
set_option maxRecDepth 100000 in
theorem c_M_size (l : Launch) (G : XG) (S : MSt) (v1 : Int32) (v2 : Int32) (o0 : Int32) (hf : f_M_size S v1 v2 = some o0) : MetI l y_M_size b_M_size 5 (some .int) 0 [.ref (G.2.1 0), .int v1, .int v2] G.1 (tyX G) (zAM G) (wM G S) o0 (wM G S) := by
  refine mkI (by decide) (Nat.le_of_ble_eq_true rfl) ?_
  intro p e R s m args below meth c ls Q C hl hP hret0
  replace C : Cw p m c b_M_size 5 s args "TrustResolverModel" R 0 := C
  have hx := C.1
  have hb := C.2.1
  replace hl : lv_has ls 5 [(0, .ref (G.2.1 0)), (1, .int v1), (2, .int v2)] := hl
  have hret := hret0
  clear hret0
  unfold f_M_size at hf
  have LP_5 : ∀ (v1 : Int32) (v2 : Int32) (n : Nat) (v3 : Int32) (v4 : Int32) (ls : Array Slot) (H : Heap) (locs : List Loc) , lv_has ls 5 [(0, .ref (G.2.1 0)), (1, .int v1), (2, .int v2), (3, .int v3), (4, .int v4)] → Pw G.1 (tyX G) (zAM G) s (wM G S) H locs → zit (LS_M_size_5 S v1 v2) n (v3, v4) = some o0 → W p l e R s m args below meth c H locs 0 0 Q (F0 m 5 ls []) := by
    intro v1 v2 n
    induction n with
    | zero => intro v3 v4 ls H locs hl hP hf; exact zit_0 hf
    | succ n ih1 =>
      intro v3 v4 ls H locs hl hP hf
      obtain ⟨o1, hf, hk1⟩ := zit_s hf
      have hf : L_M_size_5 S v1 v2 v3 v4 = some o1 := hf
      unfold L_M_size_5 at hf
      refine lv_iload hx hb d_M_size_5 (lv_at hl 4 rfl) ?_
      refine lv_aload_n hx hb d_M_size_7 rfl (lv_at hl 0 rfl) ?_
      refine w_get C hP (fdM_0_records G S) tb_416 d_M_size_8 ?_
      refine lv_icmp_ge hx hb d_M_size_11 (tgt := 50) (by decide) (fun h1 => ?_) (fun h1 => ?_)
      · have hf := it_t h1 hf
        have hf := zup_k hf hk1
        refine lv_iload_n hx hb d_M_size_50 rfl (lv_at hl 3 rfl) ?_
        exact hret _ _ _ _ _ d_M_size_51 (Option.some.inj hf) hP
      · have hf := it_f h1 hf
        refine lv_aload_n hx hb d_M_size_14 rfl (lv_at hl 0 rfl) ?_
        refine w_get C hP (fdM_0_owners G S) tb_417 d_M_size_15 ?_
        refine lv_iload hx hb d_M_size_18 (lv_at hl 4 rfl) ?_
        obtain ⟨h2, hf⟩ := zgd_some hf
        refine w_iald (t0 := 0) C hP (arM_0 G S) rfl h2 d_M_size_20 ?_
        refine lv_iload_n hx hb d_M_size_21 rfl (lv_at hl 1 rfl) ?_
        refine lv_icmp_ne hx hb d_M_size_22 (tgt := 42) (by decide) (fun h3 => ?_) (fun h3 => ?_)
        · have hf := it_f h3 hf
          refine lv_iload_n hx hb d_M_size_42 rfl (lv_at hl 3 rfl) ?_
          refine lv_istore_n (lv' := [(3, .int v3), (0, .ref (G.2.1 0)), (1, .int v1), (2, .int v2), (4, .int v4)]) hx hb d_M_size_43 rfl hl (by decide) rfl (fun ls hl => ?_)
          refine lv_iinc (k := 4) (v := (v4 + (1 : Int32))) (lv' := [(4, .int (v4 + (1 : Int32))), (3, .int v3), (0, .ref (G.2.1 0)), (1, .int v1), (2, .int v2)]) hx hb d_M_size_44 hl rfl (ii (by decide) _) (by decide) rfl (fun ls hl => ?_)
          refine lv_goto hx hb d_M_size_47 (tgt := 5) (by decide) ?_
          exact ih1 v3 (v4 + (1 : Int32)) _ _ _ (lv_sub hl [2, 3, 4, 1, 0] rfl) hP (znx_l hf hk1)
        · have hf := it_t h3 hf
          refine lv_aload_n hx hb d_M_size_25 rfl (lv_at hl 0 rfl) ?_
          refine w_get C hP (fdM_0_types G S) tb_418 d_M_size_26 ?_
          refine lv_iload hx hb d_M_size_29 (lv_at hl 4 rfl) ?_
          obtain ⟨h4, hf⟩ := zgd_some hf
          refine w_iald (t0 := 0) C hP (arM_1 G S) rfl h4 d_M_size_31 ?_
          refine lv_iload_n hx hb d_M_size_32 rfl (lv_at hl 2 rfl) ?_
          refine lv_icmp_ne hx hb d_M_size_33 (tgt := 42) (by decide) (fun h5 => ?_) (fun h5 => ?_)
          · have hf := it_f h5 hf
            refine lv_iload_n hx hb d_M_size_42 rfl (lv_at hl 3 rfl) ?_
            refine lv_istore_n (lv' := [(3, .int v3), (0, .ref (G.2.1 0)), (1, .int v1), (2, .int v2), (4, .int v4)]) hx hb d_M_size_43 rfl hl (by decide) rfl (fun ls hl => ?_)
            refine lv_iinc (k := 4) (v := (v4 + (1 : Int32))) (lv' := [(4, .int (v4 + (1 : Int32))), (3, .int v3), (0, .ref (G.2.1 0)), (1, .int v1), (2, .int v2)]) hx hb d_M_size_44 hl rfl (ii (by decide) _) (by decide) rfl (fun ls hl => ?_)
            refine lv_goto hx hb d_M_size_47 (tgt := 5) (by decide) ?_
            exact ih1 v3 (v4 + (1 : Int32)) _ _ _ (lv_sub hl [2, 3, 4, 1, 0] rfl) hP (znx_l hf hk1)
          · have hf := it_t h5 hf
            refine lv_iload_n hx hb d_M_size_36 rfl (lv_at hl 3 rfl) ?_
            refine lv_iconst (v := (1 : Int32)) hx hb d_M_size_37 (by decide) ?_
            refine lv_iadd hx hb d_M_size_38 ?_
            refine lv_goto hx hb d_M_size_39 (tgt := 43) (by decide) ?_
            refine lv_istore_n (lv' := [(3, .int (v3 + (1 : Int32))), (0, .ref (G.2.1 0)), (1, .int v1), (2, .int v2), (4, .int v4)]) hx hb d_M_size_43 rfl hl (by decide) rfl (fun ls hl => ?_)
            refine lv_iinc (k := 4) (v := (v4 + (1 : Int32))) (lv' := [(4, .int (v4 + (1 : Int32))), (3, .int (v3 + (1 : Int32))), (0, .ref (G.2.1 0)), (1, .int v1), (2, .int v2)]) hx hb d_M_size_44 hl rfl (ii (by decide) _) (by decide) rfl (fun ls hl => ?_)
            refine lv_goto hx hb d_M_size_47 (tgt := 5) (by decide) ?_
            exact ih1 (v3 + (1 : Int32)) (v4 + (1 : Int32)) _ _ _ (lv_sub hl [2, 3, 4, 1, 0] rfl) hP (znx_l hf hk1)
  refine lv_iconst (v := (0 : Int32)) hx hb d_M_size_0 (by decide) ?_
  refine lv_istore_n (lv' := [(3, .int (0 : Int32)), (0, .ref (G.2.1 0)), (1, .int v1), (2, .int v2)]) hx hb d_M_size_1 rfl hl (by decide) rfl (fun ls hl => ?_)
  refine lv_iconst (v := (0 : Int32)) hx hb d_M_size_2 (by decide) ?_
  refine lv_istore (lv' := [(4, .int (0 : Int32)), (3, .int (0 : Int32)), (0, .ref (G.2.1 0)), (1, .int v1), (2, .int v2)]) hx hb d_M_size_3 hl (by decide) rfl (fun ls hl => ?_)
  exact LP_5 v1 v2 64 (0 : Int32) (0 : Int32) _ _ _ (lv_sub hl [2, 3, 4, 1, 0] rfl) hP hf
def L_M_dataAt_21 (S : MSt) (v1 : Int32) (v2 : Int32) (v3 : Int32) (v4 : Int32) (v5 : Int32) (v6 : Int32) (v7 : Int32) : Option ((Int32 × Int32) ⊕ ((Int32 × Int32) ⊕ Int32)) := (if (S.1 0) ≤ v7 then zup (zgd (zin v5 48) ((if (S.2.1 0 (Int32.toNatClampNeg v5)) = v1 then zgd (zin v5 48) ((if (S.2.1 1 (Int32.toNatClampNeg v5)) = v2 then (if v6 = v3 then zgd (zin v5 48) (some (Sum.inl ((S.2.1 2 (Int32.toNatClampNeg v5)), (v5 + (1 : Int32))))) else some (Sum.inl (v4, (v5 + (1 : Int32))))) else some (Sum.inl (v4, (v5 + (1 : Int32)))))) else some (Sum.inl (v4, (v5 + (1 : Int32))))))) else zgd (zin v7 48) ((if (S.2.1 0 (Int32.toNatClampNeg v7)) = v1 then zgd (zin v7 48) ((if (S.2.1 1 (Int32.toNatClampNeg v7)) = v2 then zgd (zin v7 48) (zgd (zin v5 48) ((if (S.2.1 2 (Int32.toNatClampNeg v5)) ≤ (S.2.1 2 (Int32.toNatClampNeg v7)) then some (Sum.inl (v6, (v7 + (1 : Int32)))) else some (Sum.inl ((v6 + (1 : Int32)), (v7 + (1 : Int32))))))) else some (Sum.inl (v6, (v7 + (1 : Int32)))))) else some (Sum.inl (v6, (v7 + (1 : Int32)))))))
def LS_M_dataAt_21 (S : MSt) (v1 : Int32) (v2 : Int32) (v3 : Int32) (v4 : Int32) (v5 : Int32) (v : (Int32 × Int32)) : Option ((Int32 × Int32) ⊕ ((Int32 × Int32) ⊕ Int32)) := L_M_dataAt_21 S v1 v2 v3 v4 v5 v.1 v.2
def L_M_dataAt_6 (S : MSt) (v1 : Int32) (v2 : Int32) (v3 : Int32) (v4 : Int32) (v5 : Int32) : Option ((Int32 × Int32) ⊕ Int32) := (if (S.1 0) ≤ v5 then zup (some v4) else zit (LS_M_dataAt_21 S v1 v2 v3 v4 v5) 64 ((0 : Int32), (0 : Int32)))
def LS_M_dataAt_6 (S : MSt) (v1 : Int32) (v2 : Int32) (v3 : Int32) (v : (Int32 × Int32)) : Option ((Int32 × Int32) ⊕ Int32) := L_M_dataAt_6 S v1 v2 v3 v.1 v.2
def f_M_dataAt (S : MSt) (v1 : Int32) (v2 : Int32) (v3 : Int32) : Option Int32 := zit (LS_M_dataAt_6 S v1 v2 v3) 64 ((0 : Int32), (0 : Int32))
set_option maxHeartbeats 4000000 in
set_option maxRecDepth 100000 in
theorem c_M_dataAt (l : Launch) (G : XG) (S : MSt) (v1 : Int32) (v2 : Int32) (v3 : Int32) (o0 : Int32) (hf : f_M_dataAt S v1 v2 v3 = some o0) : MetI l y_M_dataAt b_M_dataAt 8 (some .int) 0 [.ref (G.2.1 0), .int v1, .int v2, .int v3] G.1 (tyX G) (zAM G) (wM G S) o0 (wM G S) := by
  refine mkI (by decide) (Nat.le_of_ble_eq_true rfl) ?_
  intro p e R s m args below meth c ls Q C hl hP hret0
  replace C : Cw p m c b_M_dataAt 8 s args "TrustResolverModel" R 0 := C
  have hx := C.1
  have hb := C.2.1
  replace hl : lv_has ls 8 [(0, .ref (G.2.1 0)), (1, .int v1), (2, .int v2), (3, .int v3)] := hl
  have hret := hret0
  clear hret0
  unfold f_M_dataAt at hf
  have LP_6 : ∀ (v1 : Int32) (v2 : Int32) (v3 : Int32) (n : Nat) (v4 : Int32) (v5 : Int32) (ls : Array Slot) (H : Heap) (locs : List Loc) , lv_has ls 8 [(0, .ref (G.2.1 0)), (1, .int v1), (2, .int v2), (3, .int v3), (4, .int v4), (5, .int v5)] → Pw G.1 (tyX G) (zAM G) s (wM G S) H locs → zit (LS_M_dataAt_6 S v1 v2 v3) n (v4, v5) = some o0 → W p l e R s m args below meth c H locs 0 0 Q (F0 m 6 ls []) := by
    intro v1 v2 v3 n
    induction n with
    | zero => intro v4 v5 ls H locs hl hP hf; exact zit_0 hf
    | succ n ih1 =>
      intro v4 v5 ls H locs hl hP hf
      obtain ⟨o1, hf, hk1⟩ := zit_s hf
      have hf : L_M_dataAt_6 S v1 v2 v3 v4 v5 = some o1 := hf
      unfold L_M_dataAt_6 at hf
      have LP_21 : ∀ (v4 : Int32) (v5 : Int32) (n : Nat) (v6 : Int32) (v7 : Int32) (ls : Array Slot) (H : Heap) (locs : List Loc) , lv_has ls 8 [(0, .ref (G.2.1 0)), (1, .int v1), (2, .int v2), (3, .int v3), (4, .int v4), (5, .int v5), (6, .int v6), (7, .int v7)] → Pw G.1 (tyX G) (zAM G) s (wM G S) H locs → zit (LS_M_dataAt_21 S v1 v2 v3 v4 v5) n (v6, v7) = some o1 → W p l e R s m args below meth c H locs 0 0 Q (F0 m 21 ls []) := by
        intro v4 v5 n
        induction n with
        | zero => intro v6 v7 ls H locs hl hP hf; exact zit_0 hf
        | succ n ih2 =>
          intro v6 v7 ls H locs hl hP hf
          obtain ⟨o2, hf, hk2⟩ := zit_s hf
          have hf : L_M_dataAt_21 S v1 v2 v3 v4 v5 v6 v7 = some o2 := hf
          unfold L_M_dataAt_21 at hf
          refine lv_iload hx hb d_M_dataAt_21 (lv_at hl 7 rfl) ?_
          refine lv_aload_n hx hb d_M_dataAt_23 rfl (lv_at hl 0 rfl) ?_
          refine w_get C hP (fdM_0_records G S) tb_416 d_M_dataAt_24 ?_
          refine lv_icmp_ge hx hb d_M_dataAt_27 (tgt := 86) (by decide) (fun h1 => ?_) (fun h1 => ?_)
          · have hf := it_t h1 hf
            have hf := zup_k hf hk2
            refine lv_aload_n hx hb d_M_dataAt_86 rfl (lv_at hl 0 rfl) ?_
            refine w_get C hP (fdM_0_owners G S) tb_417 d_M_dataAt_87 ?_
            refine lv_iload hx hb d_M_dataAt_90 (lv_at hl 5 rfl) ?_
            obtain ⟨h2, hf⟩ := zgd_some hf
            refine w_iald (t0 := 0) C hP (arM_0 G S) rfl h2 d_M_dataAt_92 ?_
            refine lv_iload_n hx hb d_M_dataAt_93 rfl (lv_at hl 1 rfl) ?_
            refine lv_icmp_ne hx hb d_M_dataAt_94 (tgt := 124) (by decide) (fun h3 => ?_) (fun h3 => ?_)
            · have hf := it_f h3 hf
              refine lv_iload hx hb d_M_dataAt_124 (lv_at hl 4 rfl) ?_
              refine lv_istore (lv' := [(4, .int v4), (0, .ref (G.2.1 0)), (1, .int v1), (2, .int v2), (3, .int v3), (5, .int v5), (6, .int v6), (7, .int v7)]) hx hb d_M_dataAt_126 hl (by decide) rfl (fun ls hl => ?_)
              refine lv_iinc (k := 5) (v := (v5 + (1 : Int32))) (lv' := [(5, .int (v5 + (1 : Int32))), (4, .int v4), (0, .ref (G.2.1 0)), (1, .int v1), (2, .int v2), (3, .int v3), (6, .int v6), (7, .int v7)]) hx hb d_M_dataAt_128 hl rfl (ii (by decide) _) (by decide) rfl (fun ls hl => ?_)
              refine lv_goto hx hb d_M_dataAt_131 (tgt := 6) (by decide) ?_
              exact ih1 v4 (v5 + (1 : Int32)) _ _ _ (lv_sub hl [2, 3, 4, 5, 1, 0] rfl) hP (znx_l hf hk1)
            · have hf := it_t h3 hf
              refine lv_aload_n hx hb d_M_dataAt_97 rfl (lv_at hl 0 rfl) ?_
              refine w_get C hP (fdM_0_types G S) tb_418 d_M_dataAt_98 ?_
              refine lv_iload hx hb d_M_dataAt_101 (lv_at hl 5 rfl) ?_
              obtain ⟨h4, hf⟩ := zgd_some hf
              refine w_iald (t0 := 0) C hP (arM_1 G S) rfl h4 d_M_dataAt_103 ?_
              refine lv_iload_n hx hb d_M_dataAt_104 rfl (lv_at hl 2 rfl) ?_
              refine lv_icmp_ne hx hb d_M_dataAt_105 (tgt := 124) (by decide) (fun h5 => ?_) (fun h5 => ?_)
              · have hf := it_f h5 hf
                refine lv_iload hx hb d_M_dataAt_124 (lv_at hl 4 rfl) ?_
                refine lv_istore (lv' := [(4, .int v4), (0, .ref (G.2.1 0)), (1, .int v1), (2, .int v2), (3, .int v3), (5, .int v5), (6, .int v6), (7, .int v7)]) hx hb d_M_dataAt_126 hl (by decide) rfl (fun ls hl => ?_)
                refine lv_iinc (k := 5) (v := (v5 + (1 : Int32))) (lv' := [(5, .int (v5 + (1 : Int32))), (4, .int v4), (0, .ref (G.2.1 0)), (1, .int v1), (2, .int v2), (3, .int v3), (6, .int v6), (7, .int v7)]) hx hb d_M_dataAt_128 hl rfl (ii (by decide) _) (by decide) rfl (fun ls hl => ?_)
                refine lv_goto hx hb d_M_dataAt_131 (tgt := 6) (by decide) ?_
                exact ih1 v4 (v5 + (1 : Int32)) _ _ _ (lv_sub hl [2, 3, 4, 5, 1, 0] rfl) hP (znx_l hf hk1)
              · have hf := it_t h5 hf
                refine lv_iload hx hb d_M_dataAt_108 (lv_at hl 6 rfl) ?_
                refine lv_iload_n hx hb d_M_dataAt_110 rfl (lv_at hl 3 rfl) ?_
                refine lv_icmp_ne hx hb d_M_dataAt_111 (tgt := 124) (by decide) (fun h6 => ?_) (fun h6 => ?_)
                · have hf := it_f h6 hf
                  refine lv_iload hx hb d_M_dataAt_124 (lv_at hl 4 rfl) ?_
                  refine lv_istore (lv' := [(4, .int v4), (0, .ref (G.2.1 0)), (1, .int v1), (2, .int v2), (3, .int v3), (5, .int v5), (6, .int v6), (7, .int v7)]) hx hb d_M_dataAt_126 hl (by decide) rfl (fun ls hl => ?_)
                  refine lv_iinc (k := 5) (v := (v5 + (1 : Int32))) (lv' := [(5, .int (v5 + (1 : Int32))), (4, .int v4), (0, .ref (G.2.1 0)), (1, .int v1), (2, .int v2), (3, .int v3), (6, .int v6), (7, .int v7)]) hx hb d_M_dataAt_128 hl rfl (ii (by decide) _) (by decide) rfl (fun ls hl => ?_)
                  refine lv_goto hx hb d_M_dataAt_131 (tgt := 6) (by decide) ?_
                  exact ih1 v4 (v5 + (1 : Int32)) _ _ _ (lv_sub hl [2, 3, 4, 5, 1, 0] rfl) hP (znx_l hf hk1)
                · have hf := it_t h6 hf
                  refine lv_aload_n hx hb d_M_dataAt_114 rfl (lv_at hl 0 rfl) ?_
                  refine w_get C hP (fdM_0_datas G S) tb_419 d_M_dataAt_115 ?_
                  refine lv_iload hx hb d_M_dataAt_118 (lv_at hl 5 rfl) ?_
                  obtain ⟨h7, hf⟩ := zgd_some hf
                  refine w_iald (t0 := 0) C hP (arM_2 G S) rfl h7 d_M_dataAt_120 ?_
                  refine lv_goto hx hb d_M_dataAt_121 (tgt := 126) (by decide) ?_
                  refine lv_istore (lv' := [(4, .int (S.2.1 2 (Int32.toNatClampNeg v5))), (0, .ref (G.2.1 0)), (1, .int v1), (2, .int v2), (3, .int v3), (5, .int v5), (6, .int v6), (7, .int v7)]) hx hb d_M_dataAt_126 hl (by decide) rfl (fun ls hl => ?_)
                  refine lv_iinc (k := 5) (v := (v5 + (1 : Int32))) (lv' := [(5, .int (v5 + (1 : Int32))), (4, .int (S.2.1 2 (Int32.toNatClampNeg v5))), (0, .ref (G.2.1 0)), (1, .int v1), (2, .int v2), (3, .int v3), (6, .int v6), (7, .int v7)]) hx hb d_M_dataAt_128 hl rfl (ii (by decide) _) (by decide) rfl (fun ls hl => ?_)
                  refine lv_goto hx hb d_M_dataAt_131 (tgt := 6) (by decide) ?_
                  exact ih1 (S.2.1 2 (Int32.toNatClampNeg v5)) (v5 + (1 : Int32)) _ _ _ (lv_sub hl [2, 3, 4, 5, 1, 0] rfl) hP (znx_l hf hk1)
          · have hf := it_f h1 hf
            refine lv_aload_n hx hb d_M_dataAt_30 rfl (lv_at hl 0 rfl) ?_
            refine w_get C hP (fdM_0_owners G S) tb_417 d_M_dataAt_31 ?_
            refine lv_iload hx hb d_M_dataAt_34 (lv_at hl 7 rfl) ?_
            obtain ⟨h8, hf⟩ := zgd_some hf
            refine w_iald (t0 := 0) C hP (arM_0 G S) rfl h8 d_M_dataAt_36 ?_
            refine lv_iload_n hx hb d_M_dataAt_37 rfl (lv_at hl 1 rfl) ?_
            refine lv_icmp_ne hx hb d_M_dataAt_38 (tgt := 76) (by decide) (fun h9 => ?_) (fun h9 => ?_)
            · have hf := it_f h9 hf
              refine lv_iload hx hb d_M_dataAt_76 (lv_at hl 6 rfl) ?_
              refine lv_istore (lv' := [(6, .int v6), (0, .ref (G.2.1 0)), (1, .int v1), (2, .int v2), (3, .int v3), (4, .int v4), (5, .int v5), (7, .int v7)]) hx hb d_M_dataAt_78 hl (by decide) rfl (fun ls hl => ?_)
              refine lv_iinc (k := 7) (v := (v7 + (1 : Int32))) (lv' := [(7, .int (v7 + (1 : Int32))), (6, .int v6), (0, .ref (G.2.1 0)), (1, .int v1), (2, .int v2), (3, .int v3), (4, .int v4), (5, .int v5)]) hx hb d_M_dataAt_80 hl rfl (ii (by decide) _) (by decide) rfl (fun ls hl => ?_)
              refine lv_goto hx hb d_M_dataAt_83 (tgt := 21) (by decide) ?_
              exact ih2 v6 (v7 + (1 : Int32)) _ _ _ (lv_sub hl [2, 3, 4, 5, 6, 7, 1, 0] rfl) hP (znx_l hf hk2)
            · have hf := it_t h9 hf
              refine lv_aload_n hx hb d_M_dataAt_41 rfl (lv_at hl 0 rfl) ?_
              refine w_get C hP (fdM_0_types G S) tb_418 d_M_dataAt_42 ?_
              refine lv_iload hx hb d_M_dataAt_45 (lv_at hl 7 rfl) ?_
              obtain ⟨h10, hf⟩ := zgd_some hf
              refine w_iald (t0 := 0) C hP (arM_1 G S) rfl h10 d_M_dataAt_47 ?_
              refine lv_iload_n hx hb d_M_dataAt_48 rfl (lv_at hl 2 rfl) ?_
              refine lv_icmp_ne hx hb d_M_dataAt_49 (tgt := 76) (by decide) (fun h11 => ?_) (fun h11 => ?_)
              · have hf := it_f h11 hf
                refine lv_iload hx hb d_M_dataAt_76 (lv_at hl 6 rfl) ?_
                refine lv_istore (lv' := [(6, .int v6), (0, .ref (G.2.1 0)), (1, .int v1), (2, .int v2), (3, .int v3), (4, .int v4), (5, .int v5), (7, .int v7)]) hx hb d_M_dataAt_78 hl (by decide) rfl (fun ls hl => ?_)
                refine lv_iinc (k := 7) (v := (v7 + (1 : Int32))) (lv' := [(7, .int (v7 + (1 : Int32))), (6, .int v6), (0, .ref (G.2.1 0)), (1, .int v1), (2, .int v2), (3, .int v3), (4, .int v4), (5, .int v5)]) hx hb d_M_dataAt_80 hl rfl (ii (by decide) _) (by decide) rfl (fun ls hl => ?_)
                refine lv_goto hx hb d_M_dataAt_83 (tgt := 21) (by decide) ?_
                exact ih2 v6 (v7 + (1 : Int32)) _ _ _ (lv_sub hl [2, 3, 4, 5, 6, 7, 1, 0] rfl) hP (znx_l hf hk2)
              · have hf := it_t h11 hf
                refine lv_aload_n hx hb d_M_dataAt_52 rfl (lv_at hl 0 rfl) ?_
                refine w_get C hP (fdM_0_datas G S) tb_419 d_M_dataAt_53 ?_
                refine lv_iload hx hb d_M_dataAt_56 (lv_at hl 7 rfl) ?_
                obtain ⟨h12, hf⟩ := zgd_some hf
                refine w_iald (t0 := 0) C hP (arM_2 G S) rfl h12 d_M_dataAt_58 ?_
                refine lv_aload_n hx hb d_M_dataAt_59 rfl (lv_at hl 0 rfl) ?_
                refine w_get C hP (fdM_0_datas G S) tb_419 d_M_dataAt_60 ?_
                refine lv_iload hx hb d_M_dataAt_63 (lv_at hl 5 rfl) ?_
                obtain ⟨h13, hf⟩ := zgd_some hf
                refine w_iald (t0 := 0) C hP (arM_2 G S) rfl h13 d_M_dataAt_65 ?_
                refine lv_icmp_ge hx hb d_M_dataAt_66 (tgt := 76) (by decide) (fun h14 => ?_) (fun h14 => ?_)
                · have hf := it_t h14 hf
                  refine lv_iload hx hb d_M_dataAt_76 (lv_at hl 6 rfl) ?_
                  refine lv_istore (lv' := [(6, .int v6), (0, .ref (G.2.1 0)), (1, .int v1), (2, .int v2), (3, .int v3), (4, .int v4), (5, .int v5), (7, .int v7)]) hx hb d_M_dataAt_78 hl (by decide) rfl (fun ls hl => ?_)
                  refine lv_iinc (k := 7) (v := (v7 + (1 : Int32))) (lv' := [(7, .int (v7 + (1 : Int32))), (6, .int v6), (0, .ref (G.2.1 0)), (1, .int v1), (2, .int v2), (3, .int v3), (4, .int v4), (5, .int v5)]) hx hb d_M_dataAt_80 hl rfl (ii (by decide) _) (by decide) rfl (fun ls hl => ?_)
                  refine lv_goto hx hb d_M_dataAt_83 (tgt := 21) (by decide) ?_
                  exact ih2 v6 (v7 + (1 : Int32)) _ _ _ (lv_sub hl [2, 3, 4, 5, 6, 7, 1, 0] rfl) hP (znx_l hf hk2)
                · have hf := it_f h14 hf
                  refine lv_iload hx hb d_M_dataAt_69 (lv_at hl 6 rfl) ?_
                  refine lv_iconst (v := (1 : Int32)) hx hb d_M_dataAt_71 (by decide) ?_
                  refine lv_iadd hx hb d_M_dataAt_72 ?_
                  refine lv_goto hx hb d_M_dataAt_73 (tgt := 78) (by decide) ?_
                  refine lv_istore (lv' := [(6, .int (v6 + (1 : Int32))), (0, .ref (G.2.1 0)), (1, .int v1), (2, .int v2), (3, .int v3), (4, .int v4), (5, .int v5), (7, .int v7)]) hx hb d_M_dataAt_78 hl (by decide) rfl (fun ls hl => ?_)
                  refine lv_iinc (k := 7) (v := (v7 + (1 : Int32))) (lv' := [(7, .int (v7 + (1 : Int32))), (6, .int (v6 + (1 : Int32))), (0, .ref (G.2.1 0)), (1, .int v1), (2, .int v2), (3, .int v3), (4, .int v4), (5, .int v5)]) hx hb d_M_dataAt_80 hl rfl (ii (by decide) _) (by decide) rfl (fun ls hl => ?_)
                  refine lv_goto hx hb d_M_dataAt_83 (tgt := 21) (by decide) ?_
                  exact ih2 (v6 + (1 : Int32)) (v7 + (1 : Int32)) _ _ _ (lv_sub hl [2, 3, 4, 5, 6, 7, 1, 0] rfl) hP (znx_l hf hk2)
      refine lv_iload hx hb d_M_dataAt_6 (lv_at hl 5 rfl) ?_
      refine lv_aload_n hx hb d_M_dataAt_8 rfl (lv_at hl 0 rfl) ?_
      refine w_get C hP (fdM_0_records G S) tb_416 d_M_dataAt_9 ?_
      refine lv_icmp_ge hx hb d_M_dataAt_12 (tgt := 134) (by decide) (fun h15 => ?_) (fun h15 => ?_)
      · have hf := it_t h15 hf
        have hf := zup_k hf hk1
        refine lv_iload hx hb d_M_dataAt_134 (lv_at hl 4 rfl) ?_
        exact hret _ _ _ _ _ d_M_dataAt_136 (Option.some.inj hf) hP
      · have hf := it_f h15 hf
        refine lv_iconst (v := (0 : Int32)) hx hb d_M_dataAt_15 (by decide) ?_
        refine lv_istore (lv' := [(6, .int (0 : Int32)), (0, .ref (G.2.1 0)), (1, .int v1), (2, .int v2), (3, .int v3), (4, .int v4), (5, .int v5)]) hx hb d_M_dataAt_16 hl (by decide) rfl (fun ls hl => ?_)
        refine lv_iconst (v := (0 : Int32)) hx hb d_M_dataAt_18 (by decide) ?_
        refine lv_istore (lv' := [(7, .int (0 : Int32)), (6, .int (0 : Int32)), (0, .ref (G.2.1 0)), (1, .int v1), (2, .int v2), (3, .int v3), (4, .int v4), (5, .int v5)]) hx hb d_M_dataAt_19 hl (by decide) rfl (fun ls hl => ?_)
        exact LP_21 v4 v5 64 (0 : Int32) (0 : Int32) _ _ _ (lv_sub hl [2, 3, 4, 5, 6, 7, 1, 0] rfl) hP hf
  refine lv_iconst (v := (0 : Int32)) hx hb d_M_dataAt_0 (by decide) ?_
  refine lv_istore (lv' := [(4, .int (0 : Int32)), (0, .ref (G.2.1 0)), (1, .int v1), (2, .int v2), (3, .int v3)]) hx hb d_M_dataAt_1 hl (by decide) rfl (fun ls hl => ?_)
  refine lv_iconst (v := (0 : Int32)) hx hb d_M_dataAt_3 (by decide) ?_
  refine lv_istore (lv' := [(5, .int (0 : Int32)), (4, .int (0 : Int32)), (0, .ref (G.2.1 0)), (1, .int v1), (2, .int v2), (3, .int v3)]) hx hb d_M_dataAt_4 hl (by decide) rfl (fun ls hl => ?_)
  exact LP_6 v1 v2 v3 64 (0 : Int32) (0 : Int32) _ _ _ (lv_sub hl [2, 3, 4, 5, 1, 0] rfl) hP hf
def L_M_has_6 (S : MSt) (v1 : Int32) (v2 : Int32) (v3 : Int32) (v4 : Int32) (v5 : Int32) : Option ((Int32 × Int32) ⊕ Int32) := (if (S.1 0) ≤ v5 then zup (zgd (zib v4) (some v4)) else (if v4 = (0 : Int32) then zgd (zin v5 48) ((if (S.2.1 0 (Int32.toNatClampNeg v5)) = v1 then zgd (zin v5 48) ((if (S.2.1 1 (Int32.toNatClampNeg v5)) = v2 then zgd (zin v5 48) ((if (S.2.1 2 (Int32.toNatClampNeg v5)) = v3 then some (Sum.inl ((1 : Int32), (v5 + (1 : Int32)))) else some (Sum.inl ((0 : Int32), (v5 + (1 : Int32)))))) else some (Sum.inl ((0 : Int32), (v5 + (1 : Int32)))))) else some (Sum.inl ((0 : Int32), (v5 + (1 : Int32)))))) else some (Sum.inl ((1 : Int32), (v5 + (1 : Int32))))))
def LS_M_has_6 (S : MSt) (v1 : Int32) (v2 : Int32) (v3 : Int32) (v : (Int32 × Int32)) : Option ((Int32 × Int32) ⊕ Int32) := L_M_has_6 S v1 v2 v3 v.1 v.2
def f_M_has (S : MSt) (v1 : Int32) (v2 : Int32) (v3 : Int32) : Option Int32 := zit (LS_M_has_6 S v1 v2 v3) 64 ((0 : Int32), (0 : Int32))
set_option maxHeartbeats 4000000 in
set_option maxRecDepth 100000 in
theorem c_M_has (l : Launch) (G : XG) (S : MSt) (v1 : Int32) (v2 : Int32) (v3 : Int32) (o0 : Int32) (hf : f_M_has S v1 v2 v3 = some o0) : MetI l y_M_has b_M_has 6 (some .boolean) 0 [.ref (G.2.1 0), .int v1, .int v2, .int v3] G.1 (tyX G) (zAM G) (wM G S) o0 (wM G S) := by
  refine mkZ (by decide) (Nat.le_of_ble_eq_true rfl) ?_
  intro p e R s m args below meth c ls Q C hl hP hret0
  replace C : Cw p m c b_M_has 6 s args "TrustResolverModel" R 0 := C
  have hx := C.1
  have hb := C.2.1
  replace hl : lv_has ls 6 [(0, .ref (G.2.1 0)), (1, .int v1), (2, .int v2), (3, .int v3)] := hl
  have hret := hret0
  clear hret0
  unfold f_M_has at hf
  have LP_6 : ∀ (v1 : Int32) (v2 : Int32) (v3 : Int32) (n : Nat) (v4 : Int32) (v5 : Int32) (ls : Array Slot) (H : Heap) (locs : List Loc) , lv_has ls 6 [(0, .ref (G.2.1 0)), (1, .int v1), (2, .int v2), (3, .int v3), (4, .int v4), (5, .int v5)] → Pw G.1 (tyX G) (zAM G) s (wM G S) H locs → zit (LS_M_has_6 S v1 v2 v3) n (v4, v5) = some o0 → W p l e R s m args below meth c H locs 0 0 Q (F0 m 6 ls []) := by
    intro v1 v2 v3 n
    induction n with
    | zero => intro v4 v5 ls H locs hl hP hf; exact zit_0 hf
    | succ n ih1 =>
      intro v4 v5 ls H locs hl hP hf
      obtain ⟨o1, hf, hk1⟩ := zit_s hf
      have hf : L_M_has_6 S v1 v2 v3 v4 v5 = some o1 := hf
      unfold L_M_has_6 at hf
      refine lv_iload hx hb d_M_has_6 (lv_at hl 5 rfl) ?_
      refine lv_aload_n hx hb d_M_has_8 rfl (lv_at hl 0 rfl) ?_
      refine w_get C hP (fdM_0_records G S) tb_416 d_M_has_9 ?_
      refine lv_icmp_ge hx hb d_M_has_12 (tgt := 66) (by decide) (fun h1 => ?_) (fun h1 => ?_)
      · have hf := it_t h1 hf
        have hf := zup_k hf hk1
        refine lv_iload hx hb d_M_has_66 (lv_at hl 4 rfl) ?_
        obtain ⟨h2, hf⟩ := zgd_some hf
        exact hret _ _ _ _ _ d_M_has_68 h2 (Option.some.inj hf) hP
      · have hf := it_f h1 hf
        refine lv_iload hx hb d_M_has_15 (lv_at hl 4 rfl) ?_
        refine lv_if_ne hx hb d_M_has_17 (tgt := 53) (by decide) (fun h3 => ?_) (fun h3 => ?_)
        · have hf := it_f h3 hf
          refine lv_iconst (v := (1 : Int32)) hx hb d_M_has_53 (by decide) ?_
          refine lv_goto hx hb d_M_has_54 (tgt := 58) (by decide) ?_
          refine lv_istore (lv' := [(4, .int (1 : Int32)), (0, .ref (G.2.1 0)), (1, .int v1), (2, .int v2), (3, .int v3), (5, .int v5)]) hx hb d_M_has_58 hl (by decide) rfl (fun ls hl => ?_)
          refine lv_iinc (k := 5) (v := (v5 + (1 : Int32))) (lv' := [(5, .int (v5 + (1 : Int32))), (4, .int (1 : Int32)), (0, .ref (G.2.1 0)), (1, .int v1), (2, .int v2), (3, .int v3)]) hx hb d_M_has_60 hl rfl (ii (by decide) _) (by decide) rfl (fun ls hl => ?_)
          refine lv_goto hx hb d_M_has_63 (tgt := 6) (by decide) ?_
          exact ih1 (1 : Int32) (v5 + (1 : Int32)) _ _ _ (lv_sub hl [2, 3, 4, 5, 1, 0] rfl) hP (znx_l hf hk1)
        · have hf := it_t h3 hf
          refine lv_aload_n hx hb d_M_has_20 rfl (lv_at hl 0 rfl) ?_
          refine w_get C hP (fdM_0_owners G S) tb_417 d_M_has_21 ?_
          refine lv_iload hx hb d_M_has_24 (lv_at hl 5 rfl) ?_
          obtain ⟨h4, hf⟩ := zgd_some hf
          refine w_iald (t0 := 0) C hP (arM_0 G S) rfl h4 d_M_has_26 ?_
          refine lv_iload_n hx hb d_M_has_27 rfl (lv_at hl 1 rfl) ?_
          refine lv_icmp_ne hx hb d_M_has_28 (tgt := 57) (by decide) (fun h5 => ?_) (fun h5 => ?_)
          · have hf := it_f h5 hf
            refine lv_iconst (v := (0 : Int32)) hx hb d_M_has_57 (by decide) ?_
            refine lv_istore (lv' := [(4, .int (0 : Int32)), (0, .ref (G.2.1 0)), (1, .int v1), (2, .int v2), (3, .int v3), (5, .int v5)]) hx hb d_M_has_58 hl (by decide) rfl (fun ls hl => ?_)
            refine lv_iinc (k := 5) (v := (v5 + (1 : Int32))) (lv' := [(5, .int (v5 + (1 : Int32))), (4, .int (0 : Int32)), (0, .ref (G.2.1 0)), (1, .int v1), (2, .int v2), (3, .int v3)]) hx hb d_M_has_60 hl rfl (ii (by decide) _) (by decide) rfl (fun ls hl => ?_)
            refine lv_goto hx hb d_M_has_63 (tgt := 6) (by decide) ?_
            exact ih1 (0 : Int32) (v5 + (1 : Int32)) _ _ _ (lv_sub hl [2, 3, 4, 5, 1, 0] rfl) hP (znx_l hf hk1)
          · have hf := it_t h5 hf
            refine lv_aload_n hx hb d_M_has_31 rfl (lv_at hl 0 rfl) ?_
            refine w_get C hP (fdM_0_types G S) tb_418 d_M_has_32 ?_
            refine lv_iload hx hb d_M_has_35 (lv_at hl 5 rfl) ?_
            obtain ⟨h6, hf⟩ := zgd_some hf
            refine w_iald (t0 := 0) C hP (arM_1 G S) rfl h6 d_M_has_37 ?_
            refine lv_iload_n hx hb d_M_has_38 rfl (lv_at hl 2 rfl) ?_
            refine lv_icmp_ne hx hb d_M_has_39 (tgt := 57) (by decide) (fun h7 => ?_) (fun h7 => ?_)
            · have hf := it_f h7 hf
              refine lv_iconst (v := (0 : Int32)) hx hb d_M_has_57 (by decide) ?_
              refine lv_istore (lv' := [(4, .int (0 : Int32)), (0, .ref (G.2.1 0)), (1, .int v1), (2, .int v2), (3, .int v3), (5, .int v5)]) hx hb d_M_has_58 hl (by decide) rfl (fun ls hl => ?_)
              refine lv_iinc (k := 5) (v := (v5 + (1 : Int32))) (lv' := [(5, .int (v5 + (1 : Int32))), (4, .int (0 : Int32)), (0, .ref (G.2.1 0)), (1, .int v1), (2, .int v2), (3, .int v3)]) hx hb d_M_has_60 hl rfl (ii (by decide) _) (by decide) rfl (fun ls hl => ?_)
              refine lv_goto hx hb d_M_has_63 (tgt := 6) (by decide) ?_
              exact ih1 (0 : Int32) (v5 + (1 : Int32)) _ _ _ (lv_sub hl [2, 3, 4, 5, 1, 0] rfl) hP (znx_l hf hk1)
            · have hf := it_t h7 hf
              refine lv_aload_n hx hb d_M_has_42 rfl (lv_at hl 0 rfl) ?_
              refine w_get C hP (fdM_0_datas G S) tb_419 d_M_has_43 ?_
              refine lv_iload hx hb d_M_has_46 (lv_at hl 5 rfl) ?_
              obtain ⟨h8, hf⟩ := zgd_some hf
              refine w_iald (t0 := 0) C hP (arM_2 G S) rfl h8 d_M_has_48 ?_
              refine lv_iload_n hx hb d_M_has_49 rfl (lv_at hl 3 rfl) ?_
              refine lv_icmp_ne hx hb d_M_has_50 (tgt := 57) (by decide) (fun h9 => ?_) (fun h9 => ?_)
              · have hf := it_f h9 hf
                refine lv_iconst (v := (0 : Int32)) hx hb d_M_has_57 (by decide) ?_
                refine lv_istore (lv' := [(4, .int (0 : Int32)), (0, .ref (G.2.1 0)), (1, .int v1), (2, .int v2), (3, .int v3), (5, .int v5)]) hx hb d_M_has_58 hl (by decide) rfl (fun ls hl => ?_)
                refine lv_iinc (k := 5) (v := (v5 + (1 : Int32))) (lv' := [(5, .int (v5 + (1 : Int32))), (4, .int (0 : Int32)), (0, .ref (G.2.1 0)), (1, .int v1), (2, .int v2), (3, .int v3)]) hx hb d_M_has_60 hl rfl (ii (by decide) _) (by decide) rfl (fun ls hl => ?_)
                refine lv_goto hx hb d_M_has_63 (tgt := 6) (by decide) ?_
                exact ih1 (0 : Int32) (v5 + (1 : Int32)) _ _ _ (lv_sub hl [2, 3, 4, 5, 1, 0] rfl) hP (znx_l hf hk1)
              · have hf := it_t h9 hf
                refine lv_iconst (v := (1 : Int32)) hx hb d_M_has_53 (by decide) ?_
                refine lv_goto hx hb d_M_has_54 (tgt := 58) (by decide) ?_
                refine lv_istore (lv' := [(4, .int (1 : Int32)), (0, .ref (G.2.1 0)), (1, .int v1), (2, .int v2), (3, .int v3), (5, .int v5)]) hx hb d_M_has_58 hl (by decide) rfl (fun ls hl => ?_)
                refine lv_iinc (k := 5) (v := (v5 + (1 : Int32))) (lv' := [(5, .int (v5 + (1 : Int32))), (4, .int (1 : Int32)), (0, .ref (G.2.1 0)), (1, .int v1), (2, .int v2), (3, .int v3)]) hx hb d_M_has_60 hl rfl (ii (by decide) _) (by decide) rfl (fun ls hl => ?_)
                refine lv_goto hx hb d_M_has_63 (tgt := 6) (by decide) ?_
                exact ih1 (1 : Int32) (v5 + (1 : Int32)) _ _ _ (lv_sub hl [2, 3, 4, 5, 1, 0] rfl) hP (znx_l hf hk1)
  refine lv_iconst (v := (0 : Int32)) hx hb d_M_has_0 (by decide) ?_
  refine lv_istore (lv' := [(4, .int (0 : Int32)), (0, .ref (G.2.1 0)), (1, .int v1), (2, .int v2), (3, .int v3)]) hx hb d_M_has_1 hl (by decide) rfl (fun ls hl => ?_)
  refine lv_iconst (v := (0 : Int32)) hx hb d_M_has_3 (by decide) ?_
  refine lv_istore (lv' := [(5, .int (0 : Int32)), (4, .int (0 : Int32)), (0, .ref (G.2.1 0)), (1, .int v1), (2, .int v2), (3, .int v3)]) hx hb d_M_has_4 hl (by decide) rfl (fun ls hl => ?_)
  exact LP_6 v1 v2 v3 64 (0 : Int32) (0 : Int32) _ _ _ (lv_sub hl [2, 3, 4, 5, 1, 0] rfl) hP hf
def J_M_drop_52 (S : MSt) (v1 : Int32) (v2 : Int32) (v3 : Int32) (v4 : Int32)  : Option ((Int32 × Int32 × MSt) ⊕ (Int32 × MSt)) := zgd (zin v4 48) (zgd (zin v3 48) (znm (zmA S 0 v3 (S.2.1 0 (Int32.toNatClampNeg v4))) (fun S3 => zgd (zin v4 48) (zgd (zin v3 48) (znm (zmA S3 1 v3 (S3.2.1 1 (Int32.toNatClampNeg v4))) (fun S7 => zgd (zin v4 48) (zgd (zin v3 48) (znm (zmA S7 2 v3 (S7.2.1 2 (Int32.toNatClampNeg v4))) (fun S11 => some (Sum.inl ((v3 + (1 : Int32)), (v4 + (1 : Int32)), S11)))))))))))
def L_M_drop_21 (v1 : Int32) (v2 : Int32) (v3 : Int32) (v4 : Int32) (S : MSt) : Option ((Int32 × Int32 × MSt) ⊕ (Int32 × MSt)) := (if (S.1 0) ≤ v4 then zup (znm (zmS S 0 v3) (fun S14 => some (((S.1 0) - v3), S14))) else zgd (zin v4 48) ((if (S.2.1 0 (Int32.toNatClampNeg v4)) = v1 then zgd (zin v4 48) ((if (S.2.1 1 (Int32.toNatClampNeg v4)) = v2 then some (Sum.inl (v3, (v4 + (1 : Int32)), S)) else J_M_drop_52 S v1 v2 v3 v4)) else J_M_drop_52 S v1 v2 v3 v4)))
def LS_M_drop_21 (v1 : Int32) (v2 : Int32) (v : (Int32 × Int32 × MSt)) : Option ((Int32 × Int32 × MSt) ⊕ (Int32 × MSt)) := L_M_drop_21 v1 v2 v.1 v.2.1 v.2.2
def f_M_drop (S : MSt) (v1 : Int32) (v2 : Int32) : Option (Int32 × MSt) := Option.bind (f_M_isName v1) (fun x20 => (if x20 = (0 : Int32) then some ((-1 : Int32), S) else Option.bind (f_M_isType v2) (fun x23 => (if x23 = (0 : Int32) then some ((-1 : Int32), S) else zit (LS_M_drop_21 v1 v2) 64 ((0 : Int32), (0 : Int32), S)))))
set_option maxHeartbeats 4000000 in
set_option maxRecDepth 100000 in
theorem c_M_drop (l : Launch) (G : XG) (S : MSt) (v1 : Int32) (v2 : Int32) (o0 : (Int32 × MSt)) (hf : f_M_drop S v1 v2 = some o0) : MetI l y_M_drop b_M_drop 5 (some .int) 2 [.ref (G.2.1 0), .int v1, .int v2] G.1 (tyX G) (zAM G) (wM G S) o0.1 (wM G o0.2) := by
  refine mkI (by decide) (Nat.le_of_ble_eq_true rfl) ?_
  intro p e R s m args below meth c ls Q C hl hP hret0
  replace C : Cw p m c b_M_drop 5 s args "TrustResolverModel" R 2 := C
  have hx := C.1
  have hb := C.2.1
  replace hl : lv_has ls 5 [(0, .ref (G.2.1 0)), (1, .int v1), (2, .int v2)] := hl
  have hret : ∀ (pc : Nat) (ls : Array Slot) (H : Heap) (locs : List Loc) (v : Int32) (S' : MSt), decode b_M_drop pc = .ok (.ireturn, 1) → (v, S') = o0 → Pw G.1 (tyX G) (zAM G) s (wM G S') H locs → W p l e R s m args below meth c H locs 0 0 Q (F0 m pc ls [.int v]) := fun pc ls H locs v S' hd he hP => hret0 pc ls H locs v hd (by rw [← he]) (by rw [← he]; exact hP)
  clear hret0
  unfold f_M_drop at hf
  have LP_21 : ∀ (v1 : Int32) (v2 : Int32) (n : Nat) (v3 : Int32) (v4 : Int32) (S : MSt) (ls : Array Slot) (H : Heap) (locs : List Loc) , lv_has ls 5 [(0, .ref (G.2.1 0)), (1, .int v1), (2, .int v2), (3, .int v3), (4, .int v4)] → Pw G.1 (tyX G) (zAM G) s (wM G S) H locs → zit (LS_M_drop_21 v1 v2) n (v3, v4, S) = some o0 → W p l e R s m args below meth c H locs 0 0 Q (F0 m 21 ls []) := by
    intro v1 v2 n
    induction n with
    | zero => intro v3 v4 S ls H locs hl hP hf; exact zit_0 hf
    | succ n ih1 =>
      intro v3 v4 S ls H locs hl hP hf
      obtain ⟨o1, hf, hk1⟩ := zit_s hf
      have hf : L_M_drop_21 v1 v2 v3 v4 S = some o1 := hf
      unfold L_M_drop_21 at hf
      have JP_52 : ∀ (S : MSt) (v3 : Int32) (v4 : Int32)  (ls : Array Slot) (H : Heap) (locs : List Loc) , lv_has ls 5 [(0, .ref (G.2.1 0)), (1, .int v1), (2, .int v2), (3, .int v3), (4, .int v4)] → Pw G.1 (tyX G) (zAM G) s (wM G S) H locs → J_M_drop_52 S v1 v2 v3 v4 = some o1 → W p l e R s m args below meth c H locs 0 0 Q (F0 m 52 ls []) := by
        intro S v3 v4 ls H locs hl hP hf
        unfold J_M_drop_52 at hf
        refine lv_aload_n hx hb d_M_drop_52 rfl (lv_at hl 0 rfl) ?_
        refine w_get C hP (fdM_0_owners G S) tb_417 d_M_drop_53 ?_
        refine lv_iload_n hx hb d_M_drop_56 rfl (lv_at hl 3 rfl) ?_
        refine lv_aload_n hx hb d_M_drop_57 rfl (lv_at hl 0 rfl) ?_
        refine w_get C hP (fdM_0_owners G S) tb_417 d_M_drop_58 ?_
        refine lv_iload hx hb d_M_drop_61 (lv_at hl 4 rfl) ?_
        obtain ⟨h1, hf⟩ := zgd_some hf
        refine w_iald (t0 := 0) C hP (arM_0 G S) rfl h1 d_M_drop_63 ?_
        obtain ⟨h2, hf⟩ := zgd_some hf
        refine w_iast (t0 := 0) C hP (stM_0 G S v3 (S.2.1 0 (Int32.toNatClampNeg v4))) rfl h2 d_M_drop_64 (fun H locs hP => ?_)
        obtain ⟨S3, e4, hf⟩ := znm_some hf
        rw [← e4] at hP
        refine lv_aload_n hx hb d_M_drop_65 rfl (lv_at hl 0 rfl) ?_
        refine w_get C hP (fdM_0_types G S3) tb_418 d_M_drop_66 ?_
        refine lv_iload_n hx hb d_M_drop_69 rfl (lv_at hl 3 rfl) ?_
        refine lv_aload_n hx hb d_M_drop_70 rfl (lv_at hl 0 rfl) ?_
        refine w_get C hP (fdM_0_types G S3) tb_418 d_M_drop_71 ?_
        refine lv_iload hx hb d_M_drop_74 (lv_at hl 4 rfl) ?_
        obtain ⟨h5, hf⟩ := zgd_some hf
        refine w_iald (t0 := 0) C hP (arM_1 G S3) rfl h5 d_M_drop_76 ?_
        obtain ⟨h6, hf⟩ := zgd_some hf
        refine w_iast (t0 := 0) C hP (stM_1 G S3 v3 (S3.2.1 1 (Int32.toNatClampNeg v4))) rfl h6 d_M_drop_77 (fun H locs hP => ?_)
        obtain ⟨S7, e8, hf⟩ := znm_some hf
        rw [← e8] at hP
        refine lv_aload_n hx hb d_M_drop_78 rfl (lv_at hl 0 rfl) ?_
        refine w_get C hP (fdM_0_datas G S7) tb_419 d_M_drop_79 ?_
        refine lv_iload_n hx hb d_M_drop_82 rfl (lv_at hl 3 rfl) ?_
        refine lv_aload_n hx hb d_M_drop_83 rfl (lv_at hl 0 rfl) ?_
        refine w_get C hP (fdM_0_datas G S7) tb_419 d_M_drop_84 ?_
        refine lv_iload hx hb d_M_drop_87 (lv_at hl 4 rfl) ?_
        obtain ⟨h9, hf⟩ := zgd_some hf
        refine w_iald (t0 := 0) C hP (arM_2 G S7) rfl h9 d_M_drop_89 ?_
        obtain ⟨h10, hf⟩ := zgd_some hf
        refine w_iast (t0 := 0) C hP (stM_2 G S7 v3 (S7.2.1 2 (Int32.toNatClampNeg v4))) rfl h10 d_M_drop_90 (fun H locs hP => ?_)
        obtain ⟨S11, e12, hf⟩ := znm_some hf
        rw [← e12] at hP
        refine lv_iinc (k := 3) (v := (v3 + (1 : Int32))) (lv' := [(3, .int (v3 + (1 : Int32))), (0, .ref (G.2.1 0)), (1, .int v1), (2, .int v2), (4, .int v4)]) hx hb d_M_drop_91 hl rfl (ii (by decide) _) (by decide) rfl (fun ls hl => ?_)
        refine lv_iinc (k := 4) (v := (v4 + (1 : Int32))) (lv' := [(4, .int (v4 + (1 : Int32))), (3, .int (v3 + (1 : Int32))), (0, .ref (G.2.1 0)), (1, .int v1), (2, .int v2)]) hx hb d_M_drop_94 hl rfl (ii (by decide) _) (by decide) rfl (fun ls hl => ?_)
        refine lv_goto hx hb d_M_drop_97 (tgt := 21) (by decide) ?_
        exact ih1 (v3 + (1 : Int32)) (v4 + (1 : Int32)) S11 _ _ _ (lv_sub hl [2, 3, 4, 1, 0] rfl) hP (znx_l hf hk1)
      refine lv_iload hx hb d_M_drop_21 (lv_at hl 4 rfl) ?_
      refine lv_aload_n hx hb d_M_drop_23 rfl (lv_at hl 0 rfl) ?_
      refine w_get C hP (fdM_0_records G S) tb_416 d_M_drop_24 ?_
      refine lv_icmp_ge hx hb d_M_drop_27 (tgt := 100) (by decide) (fun h13 => ?_) (fun h13 => ?_)
      · have hf := it_t h13 hf
        have hf := zup_k hf hk1
        refine lv_aload_n hx hb d_M_drop_100 rfl (lv_at hl 0 rfl) ?_
        refine w_get C hP (fdM_0_records G S) tb_416 d_M_drop_101 ?_
        refine lv_iload_n hx hb d_M_drop_104 rfl (lv_at hl 3 rfl) ?_
        refine lv_isub hx hb d_M_drop_105 ?_
        refine lv_istore (lv' := [(4, .int ((S.1 0) - v3)), (0, .ref (G.2.1 0)), (1, .int v1), (2, .int v2), (3, .int v3)]) hx hb d_M_drop_106 hl (by decide) rfl (fun ls hl => ?_)
        refine lv_aload_n hx hb d_M_drop_108 rfl (lv_at hl 1 rfl) ?_
        refine lv_iload_n hx hb d_M_drop_109 rfl (lv_at hl 4 rfl) ?_
        refine w_put C hP (ptM_0_records G S v3) tb_416 d_M_drop_110 (fun H locs hP => ?_)
        obtain ⟨S14, e15, hf⟩ := znm_some hf
        rw [← e15] at hP
        refine lv_iload hx hb d_M_drop_113 (lv_at hl 0 rfl) ?_
        exact hret _ _ _ _ _ _ d_M_drop_115 (Option.some.inj hf) hP
      · have hf := it_f h13 hf
        refine lv_aload_n hx hb d_M_drop_30 rfl (lv_at hl 0 rfl) ?_
        refine w_get C hP (fdM_0_owners G S) tb_417 d_M_drop_31 ?_
        refine lv_iload hx hb d_M_drop_34 (lv_at hl 4 rfl) ?_
        obtain ⟨h16, hf⟩ := zgd_some hf
        refine w_iald (t0 := 0) C hP (arM_0 G S) rfl h16 d_M_drop_36 ?_
        refine lv_iload_n hx hb d_M_drop_37 rfl (lv_at hl 1 rfl) ?_
        refine lv_icmp_ne hx hb d_M_drop_38 (tgt := 52) (by decide) (fun h17 => ?_) (fun h17 => ?_)
        · have hf := it_f h17 hf
          exact JP_52 S v3 v4 _ _ _ (lv_sub hl [0, 1, 2, 3, 4] rfl) hP hf
        · have hf := it_t h17 hf
          refine lv_aload_n hx hb d_M_drop_41 rfl (lv_at hl 0 rfl) ?_
          refine w_get C hP (fdM_0_types G S) tb_418 d_M_drop_42 ?_
          refine lv_iload hx hb d_M_drop_45 (lv_at hl 4 rfl) ?_
          obtain ⟨h18, hf⟩ := zgd_some hf
          refine w_iald (t0 := 0) C hP (arM_1 G S) rfl h18 d_M_drop_47 ?_
          refine lv_iload_n hx hb d_M_drop_48 rfl (lv_at hl 2 rfl) ?_
          refine lv_icmp_eq hx hb d_M_drop_49 (tgt := 94) (by decide) (fun h19 => ?_) (fun h19 => ?_)
          · have hf := it_t h19 hf
            refine lv_iinc (k := 4) (v := (v4 + (1 : Int32))) (lv' := [(4, .int (v4 + (1 : Int32))), (0, .ref (G.2.1 0)), (1, .int v1), (2, .int v2), (3, .int v3)]) hx hb d_M_drop_94 hl rfl (ii (by decide) _) (by decide) rfl (fun ls hl => ?_)
            refine lv_goto hx hb d_M_drop_97 (tgt := 21) (by decide) ?_
            exact ih1 v3 (v4 + (1 : Int32)) S _ _ _ (lv_sub hl [1, 2, 3, 4, 0] rfl) hP (znx_l hf hk1)
          · have hf := it_f h19 hf
            exact JP_52 S v3 v4 _ _ _ (lv_sub hl [0, 1, 2, 3, 4] rfl) hP hf
  refine lv_iload_n hx hb d_M_drop_0 rfl (lv_at hl 1 rfl) ?_
  obtain ⟨x20, h21, hf⟩ := bd_some hf
  refine w_callS (As := [.int v1]) (rest := []) C (c_M_isName l v1 x20 h21) cf_M_isName tb_476 (by decide) rfl hl.1 rfl (Nat.le_of_ble_eq_true rfl) d_M_drop_1 ?_
  refine lv_if_eq hx hb d_M_drop_4 (tgt := 14) (by decide) (fun h22 => ?_) (fun h22 => ?_)
  · have hf := it_t h22 hf
    refine lv_iconst (v := (-1 : Int32)) hx hb d_M_drop_14 (by decide) ?_
    exact hret _ _ _ _ _ _ d_M_drop_15 (Option.some.inj hf) hP
  · have hf := it_f h22 hf
    refine lv_iload_n hx hb d_M_drop_7 rfl (lv_at hl 2 rfl) ?_
    obtain ⟨x23, h24, hf⟩ := bd_some hf
    refine w_callS (As := [.int v2]) (rest := []) C (c_M_isType l v2 x23 h24) cf_M_isType tb_483 (by decide) rfl hl.1 rfl (Nat.le_of_ble_eq_true rfl) d_M_drop_8 ?_
    refine lv_if_ne hx hb d_M_drop_11 (tgt := 16) (by decide) (fun h25 => ?_) (fun h25 => ?_)
    · have hf := it_f h25 hf
      refine lv_iconst (v := (0 : Int32)) hx hb d_M_drop_16 (by decide) ?_
      refine lv_istore_n (lv' := [(3, .int (0 : Int32)), (0, .ref (G.2.1 0)), (1, .int v1), (2, .int v2)]) hx hb d_M_drop_17 rfl hl (by decide) rfl (fun ls hl => ?_)
      refine lv_iconst (v := (0 : Int32)) hx hb d_M_drop_18 (by decide) ?_
      refine lv_istore (lv' := [(4, .int (0 : Int32)), (3, .int (0 : Int32)), (0, .ref (G.2.1 0)), (1, .int v1), (2, .int v2)]) hx hb d_M_drop_19 hl (by decide) rfl (fun ls hl => ?_)
      exact LP_21 v1 v2 64 (0 : Int32) (0 : Int32) S _ _ _ (lv_sub hl [2, 3, 4, 1, 0] rfl) hP hf
    · have hf := it_t h25 hf
      refine lv_iconst (v := (-1 : Int32)) hx hb d_M_drop_14 (by decide) ?_
      exact hret _ _ _ _ _ _ d_M_drop_15 (Option.some.inj hf) hP
def f_M_mix (S : MSt) (v1 : Int32) : Option MSt := znm (((S.2.2) ^^^ (Int32.toInt64 v1)) * (-7046029254386353131 : Int64)) (fun y1 => znm (zmL S (y1 ^^^ (((y1).toUInt64 >>> (((30 : Int32)).toInt64.toUInt64 &&& Int64.toUInt64 63)).toInt64))) (fun S3 => some S3))
set_option maxHeartbeats 4000000 in
set_option maxRecDepth 100000 in
theorem c_M_mix (l : Launch) (G : XG) (S : MSt) (v1 : Int32) (o0 : MSt) (hf : f_M_mix S v1 = some o0) : MetV l y_M_mix b_M_mix 4 0 [.ref (G.2.1 0), .int v1] G.1 (tyX G) (zAM G) (wM G S) (wM G o0) := by
  refine mkV (by decide) (Nat.le_of_ble_eq_true rfl) ?_
  intro p e R s m args below meth c ls Q C hl hP hret0
  replace C : Cw p m c b_M_mix 4 s args "TrustResolverModel" R 0 := C
  have hx := C.1
  have hb := C.2.1
  replace hl : lv_has ls 4 [(0, .ref (G.2.1 0)), (1, .int v1)] := hl
  have hret : ∀ (pc : Nat) (ls : Array Slot) (H : Heap) (locs : List Loc) (S' : MSt), decode b_M_mix pc = .ok (.return_, 1) → S' = o0 → Pw G.1 (tyX G) (zAM G) s (wM G S') H locs → W p l e R s m args below meth c H locs 0 0 Q (F0 m pc ls []) := fun pc ls H locs S' hd he hP => hret0 pc ls H locs hd (by rw [← he]; exact hP)
  clear hret0
  unfold f_M_mix at hf
  refine lv_aload_n hx hb d_M_mix_0 rfl (lv_at hl 0 rfl) ?_
  refine w_get C hP (fdM_0_mixed G S) tb_443 d_M_mix_1 ?_
  refine lv_iload_n hx hb d_M_mix_4 rfl (lv_at hl 1 rfl) ?_
  refine lv_i2l (v := (Int32.toInt64 v1)) hx hb d_M_mix_5 rfl ?_
  refine lv_lxor hx hb d_M_mix_6 ?_
  refine lv_ldc2 (v := (-7046029254386353131 : Int64)) hx hb C.2.2.2.1 (C.2.2.2.2.1 _ tb_515) d_M_mix_7 ?_
  refine lv_lmul hx hb d_M_mix_10 ?_
  refine lv_topl (fun y1 e2 => ?_)
  have hf := znm_to e2 hf
  refine lv_lstore_n (lv' := [(2, .long y1), (0, .ref (G.2.1 0)), (1, .int v1)]) hx hb d_M_mix_11 rfl hl (by decide) rfl (fun ls hl => ?_)
  refine lv_aload_n hx hb d_M_mix_12 rfl (lv_at hl 1 rfl) ?_
  refine lv_lload_n hx hb d_M_mix_13 rfl (lv_at hl 0 rfl) ?_
  refine lv_lload_n hx hb d_M_mix_14 rfl (lv_at hl 0 rfl) ?_
  refine lv_bipush (v := (30 : Int32)) hx hb d_M_mix_15 (by decide) ?_
  refine lv_lushr (v := (((y1).toUInt64 >>> (((30 : Int32)).toInt64.toUInt64 &&& Int64.toUInt64 63)).toInt64)) hx hb d_M_mix_17 rfl ?_
  refine lv_lxor hx hb d_M_mix_18 ?_
  refine w_put C hP (ptM_0_mixed G S (y1 ^^^ (((y1).toUInt64 >>> (((30 : Int32)).toInt64.toUInt64 &&& Int64.toUInt64 63)).toInt64))) tb_443 d_M_mix_19 (fun H locs hP => ?_)
  obtain ⟨S3, e4, hf⟩ := znm_some hf
  rw [← e4] at hP
  exact hret _ _ _ _ _ d_M_mix_22 (Option.some.inj hf) hP
def f_M_digest (S : MSt)  : Option Int32 := some (Int64.toInt32 ((((S.2.2)).toUInt64 >>> (((33 : Int32)).toInt64.toUInt64 &&& Int64.toUInt64 63)).toInt64))
set_option maxHeartbeats 4000000 in
set_option maxRecDepth 100000 in
theorem c_M_digest (l : Launch) (G : XG) (S : MSt)  (o0 : Int32) (hf : f_M_digest S = some o0) : MetI l y_M_digest b_M_digest 1 (some .int) 0 [.ref (G.2.1 0)] G.1 (tyX G) (zAM G) (wM G S) o0 (wM G S) := by
  refine mkI (by decide) (Nat.le_of_ble_eq_true rfl) ?_
  intro p e R s m args below meth c ls Q C hl hP hret0
  replace C : Cw p m c b_M_digest 1 s args "TrustResolverModel" R 0 := C
  have hx := C.1
  have hb := C.2.1
  replace hl : lv_has ls 1 [(0, .ref (G.2.1 0))] := hl
  have hret := hret0
  clear hret0
  unfold f_M_digest at hf
  refine lv_aload_n hx hb d_M_digest_0 rfl (lv_at hl 0 rfl) ?_
  refine w_get C hP (fdM_0_mixed G S) tb_443 d_M_digest_1 ?_
  refine lv_bipush (v := (33 : Int32)) hx hb d_M_digest_4 (by decide) ?_
  refine lv_lushr (v := ((((S.2.2)).toUInt64 >>> (((33 : Int32)).toInt64.toUInt64 &&& Int64.toUInt64 63)).toInt64)) hx hb d_M_digest_6 rfl ?_
  refine lv_l2i (v := (Int64.toInt32 ((((S.2.2)).toUInt64 >>> (((33 : Int32)).toInt64.toUInt64 &&& Int64.toUInt64 63)).toInt64))) hx hb d_M_digest_7 rfl ?_
  exact hret _ _ _ _ _ d_M_digest_8 (Option.some.inj hf) hP
def f_M_sealOf (S : MSt) (v1 : Int32) (v2 : Int32) : Option (Int32 × MSt) := znm (zmL S (0 : Int64)) (fun S1 => Option.bind (f_M_mix S1 (77 : Int32)) (fun x3 => Option.bind (f_M_mix x3 v1) (fun x5 => Option.bind (f_M_mix x5 v2) (fun x7 => Option.bind (f_M_digest x7) (fun x9 => some (x9, x7))))))
set_option maxHeartbeats 4000000 in
set_option maxRecDepth 100000 in
theorem c_M_sealOf (l : Launch) (G : XG) (S : MSt) (v1 : Int32) (v2 : Int32) (o0 : (Int32 × MSt)) (hf : f_M_sealOf S v1 v2 = some o0) : MetI l y_M_sealOf b_M_sealOf 3 (some .int) 1 [.ref (G.2.1 0), .int v1, .int v2] G.1 (tyX G) (zAM G) (wM G S) o0.1 (wM G o0.2) := by
  refine mkI (by decide) (Nat.le_of_ble_eq_true rfl) ?_
  intro p e R s m args below meth c ls Q C hl hP hret0
  replace C : Cw p m c b_M_sealOf 3 s args "TrustResolverModel" R 1 := C
  have hx := C.1
  have hb := C.2.1
  replace hl : lv_has ls 3 [(0, .ref (G.2.1 0)), (1, .int v1), (2, .int v2)] := hl
  have hret : ∀ (pc : Nat) (ls : Array Slot) (H : Heap) (locs : List Loc) (v : Int32) (S' : MSt), decode b_M_sealOf pc = .ok (.ireturn, 1) → (v, S') = o0 → Pw G.1 (tyX G) (zAM G) s (wM G S') H locs → W p l e R s m args below meth c H locs 0 0 Q (F0 m pc ls [.int v]) := fun pc ls H locs v S' hd he hP => hret0 pc ls H locs v hd (by rw [← he]) (by rw [← he]; exact hP)
  clear hret0
  unfold f_M_sealOf at hf
  refine lv_aload_n hx hb d_M_sealOf_0 rfl (lv_at hl 0 rfl) ?_
  refine lv_lconst (v := (0 : Int64)) hx hb d_M_sealOf_1 (by decide) ?_
  refine w_put C hP (ptM_0_mixed G S (0 : Int64)) tb_443 d_M_sealOf_2 (fun H locs hP => ?_)
  obtain ⟨S1, e2, hf⟩ := znm_some hf
  rw [← e2] at hP
  refine lv_aload_n hx hb d_M_sealOf_5 rfl (lv_at hl 0 rfl) ?_
  refine lv_bipush (v := (77 : Int32)) hx hb d_M_sealOf_6 (by decide) ?_
  obtain ⟨x3, h4, hf⟩ := bd_some hf
  refine w_callV (As := [.int (77 : Int32)]) (rest := []) C (c_M_mix l G S1 (77 : Int32) x3 h4) cf_M_mix tb_512 (by decide) hP (obM_0 G S1) rfl hl.1 rfl (Nat.le_of_ble_eq_true rfl) d_M_sealOf_8 (fun H locs hP => ?_)
  refine lv_aload_n hx hb d_M_sealOf_11 rfl (lv_at hl 0 rfl) ?_
  refine lv_iload_n hx hb d_M_sealOf_12 rfl (lv_at hl 1 rfl) ?_
  obtain ⟨x5, h6, hf⟩ := bd_some hf
  refine w_callV (As := [.int v1]) (rest := []) C (c_M_mix l G x3 v1 x5 h6) cf_M_mix tb_512 (by decide) hP (obM_0 G x3) rfl hl.1 rfl (Nat.le_of_ble_eq_true rfl) d_M_sealOf_13 (fun H locs hP => ?_)
  refine lv_aload_n hx hb d_M_sealOf_16 rfl (lv_at hl 0 rfl) ?_
  refine lv_iload_n hx hb d_M_sealOf_17 rfl (lv_at hl 2 rfl) ?_
  obtain ⟨x7, h8, hf⟩ := bd_some hf
  refine w_callV (As := [.int v2]) (rest := []) C (c_M_mix l G x5 v2 x7 h8) cf_M_mix tb_512 (by decide) hP (obM_0 G x5) rfl hl.1 rfl (Nat.le_of_ble_eq_true rfl) d_M_sealOf_18 (fun H locs hP => ?_)
  refine lv_aload_n hx hb d_M_sealOf_21 rfl (lv_at hl 0 rfl) ?_
  obtain ⟨x9, h10, hf⟩ := bd_some hf
  refine w_callI (As := []) (rest := []) C (c_M_digest l G x7 x9 h10) cf_M_digest tb_516 (by decide) hP (obM_0 G x7) rfl hl.1 rfl (Nat.le_of_ble_eq_true rfl) d_M_sealOf_22 (fun H locs hP => ?_)
  exact hret _ _ _ _ _ _ d_M_sealOf_25 (Option.some.inj hf) hP
def f_M_seal (S : MSt) (v1 : Int32) (v2 : Int32) : Option (Int32 × MSt) := Option.bind (f_M_isName v1) (fun x1 => (if x1 = (0 : Int32) then some ((-1 : Int32), S) else Option.bind (f_M_isKey v2) (fun x4 => (if x4 = (0 : Int32) then some ((-1 : Int32), S) else Option.bind (f_M_sealOf S v1 v2) (fun x7 => some (x7.1, x7.2))))))
set_option maxHeartbeats 4000000 in
set_option maxRecDepth 100000 in
theorem c_M_seal (l : Launch) (G : XG) (S : MSt) (v1 : Int32) (v2 : Int32) (o0 : (Int32 × MSt)) (hf : f_M_seal S v1 v2 = some o0) : MetI l y_M_seal b_M_seal 3 (some .int) 2 [.ref (G.2.1 0), .int v1, .int v2] G.1 (tyX G) (zAM G) (wM G S) o0.1 (wM G o0.2) := by
  refine mkI (by decide) (Nat.le_of_ble_eq_true rfl) ?_
  intro p e R s m args below meth c ls Q C hl hP hret0
  replace C : Cw p m c b_M_seal 3 s args "TrustResolverModel" R 2 := C
  have hx := C.1
  have hb := C.2.1
  replace hl : lv_has ls 3 [(0, .ref (G.2.1 0)), (1, .int v1), (2, .int v2)] := hl
  have hret : ∀ (pc : Nat) (ls : Array Slot) (H : Heap) (locs : List Loc) (v : Int32) (S' : MSt), decode b_M_seal pc = .ok (.ireturn, 1) → (v, S') = o0 → Pw G.1 (tyX G) (zAM G) s (wM G S') H locs → W p l e R s m args below meth c H locs 0 0 Q (F0 m pc ls [.int v]) := fun pc ls H locs v S' hd he hP => hret0 pc ls H locs v hd (by rw [← he]) (by rw [← he]; exact hP)
  clear hret0
  unfold f_M_seal at hf
  refine lv_iload_n hx hb d_M_seal_0 rfl (lv_at hl 1 rfl) ?_
  obtain ⟨x1, h2, hf⟩ := bd_some hf
  refine w_callS (As := [.int v1]) (rest := []) C (c_M_isName l v1 x1 h2) cf_M_isName tb_476 (by decide) rfl hl.1 rfl (Nat.le_of_ble_eq_true rfl) d_M_seal_1 ?_
  refine lv_if_eq hx hb d_M_seal_4 (tgt := 23) (by decide) (fun h3 => ?_) (fun h3 => ?_)
  · have hf := it_t h3 hf
    refine lv_iconst (v := (-1 : Int32)) hx hb d_M_seal_23 (by decide) ?_
    exact hret _ _ _ _ _ _ d_M_seal_24 (Option.some.inj hf) hP
  · have hf := it_f h3 hf
    refine lv_iload_n hx hb d_M_seal_7 rfl (lv_at hl 2 rfl) ?_
    obtain ⟨x4, h5, hf⟩ := bd_some hf
    refine w_callS (As := [.int v2]) (rest := []) C (c_M_isKey l v2 x4 h5) cf_M_isKey tb_489 (by decide) rfl hl.1 rfl (Nat.le_of_ble_eq_true rfl) d_M_seal_8 ?_
    refine lv_if_eq hx hb d_M_seal_11 (tgt := 23) (by decide) (fun h6 => ?_) (fun h6 => ?_)
    · have hf := it_t h6 hf
      refine lv_iconst (v := (-1 : Int32)) hx hb d_M_seal_23 (by decide) ?_
      exact hret _ _ _ _ _ _ d_M_seal_24 (Option.some.inj hf) hP
    · have hf := it_f h6 hf
      refine lv_aload_n hx hb d_M_seal_14 rfl (lv_at hl 0 rfl) ?_
      refine lv_iload_n hx hb d_M_seal_15 rfl (lv_at hl 1 rfl) ?_
      refine lv_iload_n hx hb d_M_seal_16 rfl (lv_at hl 2 rfl) ?_
      obtain ⟨x7, h8, hf⟩ := bd_some hf
      refine w_callI (As := [.int v1, .int v2]) (rest := []) C (c_M_sealOf l G S v1 v2 x7 h8) cf_M_sealOf tb_509 (by decide) hP (obM_0 G S) rfl hl.1 rfl (Nat.le_of_ble_eq_true rfl) d_M_seal_17 (fun H locs hP => ?_)
      refine lv_goto hx hb d_M_seal_20 (tgt := 24) (by decide) ?_
      exact hret _ _ _ _ _ _ d_M_seal_24 (Option.some.inj hf) hP
def L_M_markOf_121 (v1 : Int32) (v2 : Int32) (v3 : Int32) (v4 : Int32) (S : MSt) : Option ((Int32 × MSt) ⊕ (Int32 × MSt)) := (if v3 ≤ v4 then zup (Option.bind (f_M_digest S) (fun x2 => some (x2, S))) else zgd (zin v1 32) (Option.bind (f_M_dataAt S v2 (S.2.1 4 (Int32.toNatClampNeg v1)) v4) (fun x5 => Option.bind (f_M_mix S x5) (fun x7 => some (Sum.inl ((v4 + (1 : Int32)), x7))))))
def LS_M_markOf_121 (v1 : Int32) (v2 : Int32) (v3 : Int32) (v : (Int32 × MSt)) : Option ((Int32 × MSt) ⊕ (Int32 × MSt)) := L_M_markOf_121 v1 v2 v3 v.1 v.2
def f_M_markOf (S : MSt) (v1 : Int32) : Option (Int32 × MSt) := zgd (zin v1 32) (zgd (zin v1 32) (Option.bind (f_M_size S (S.2.1 3 (Int32.toNatClampNeg v1)) (S.2.1 4 (Int32.toNatClampNeg v1))) (fun x11 => znm (zmL S (0 : Int64)) (fun S13 => zgd (zin v1 32) (Option.bind (f_M_mix S13 (S13.2.1 6 (Int32.toNatClampNeg v1))) (fun x16 => zgd (zin v1 32) (Option.bind (f_M_mix x16 (x16.2.1 5 (Int32.toNatClampNeg v1))) (fun x19 => zgd (zin v1 32) (Option.bind (f_M_mix x19 (x19.2.1 4 (Int32.toNatClampNeg v1))) (fun x22 => zgd (zin v1 32) (Option.bind (f_M_mix x22 (x22.2.1 7 (Int32.toNatClampNeg v1))) (fun x25 => zgd (zin v1 32) (Option.bind (f_M_mix x25 (x25.2.1 8 (Int32.toNatClampNeg v1))) (fun x28 => zgd (zin v1 32) (Option.bind (f_M_mix x28 (x28.2.1 9 (Int32.toNatClampNeg v1))) (fun x31 => zgd (zin v1 32) (Option.bind (f_M_depth (S.2.1 3 (Int32.toNatClampNeg v1))) (fun x34 => (if x34 ≤ (x31.2.1 7 (Int32.toNatClampNeg v1)) then Option.bind (f_M_mix x31 (S.2.1 3 (Int32.toNatClampNeg v1))) (fun x37 => zit (LS_M_markOf_121 v1 (S.2.1 3 (Int32.toNatClampNeg v1)) x11) 64 ((0 : Int32), x37)) else zgd (zin v1 32) (Option.bind (f_M_cut (S.2.1 3 (Int32.toNatClampNeg v1)) (x31.2.1 7 (Int32.toNatClampNeg v1))) (fun x40 => Option.bind (f_M_star x40) (fun x42 => Option.bind (f_M_mix x31 x42) (fun x44 => zit (LS_M_markOf_121 v1 (S.2.1 3 (Int32.toNatClampNeg v1)) x11) 64 ((0 : Int32), x44))))))))))))))))))))))))
set_option maxHeartbeats 4000000 in
set_option maxRecDepth 100000 in
theorem c_M_markOf (l : Launch) (G : XG) (S : MSt) (v1 : Int32) (o0 : (Int32 × MSt)) (hf : f_M_markOf S v1 = some o0) : MetI l y_M_markOf b_M_markOf 5 (some .int) 3 [.ref (G.2.1 0), .int v1] G.1 (tyX G) (zAM G) (wM G S) o0.1 (wM G o0.2) := by
  refine mkI (by decide) (Nat.le_of_ble_eq_true rfl) ?_
  intro p e R s m args below meth c ls Q C hl hP hret0
  replace C : Cw p m c b_M_markOf 5 s args "TrustResolverModel" R 3 := C
  have hx := C.1
  have hb := C.2.1
  replace hl : lv_has ls 5 [(0, .ref (G.2.1 0)), (1, .int v1)] := hl
  have hret : ∀ (pc : Nat) (ls : Array Slot) (H : Heap) (locs : List Loc) (v : Int32) (S' : MSt), decode b_M_markOf pc = .ok (.ireturn, 1) → (v, S') = o0 → Pw G.1 (tyX G) (zAM G) s (wM G S') H locs → W p l e R s m args below meth c H locs 0 0 Q (F0 m pc ls [.int v]) := fun pc ls H locs v S' hd he hP => hret0 pc ls H locs v hd (by rw [← he]) (by rw [← he]; exact hP)
  clear hret0
  unfold f_M_markOf at hf
  have LP_121 : ∀ (v1 : Int32) (v2 : Int32) (v3 : Int32) (n : Nat) (v4 : Int32) (S : MSt) (ls : Array Slot) (H : Heap) (locs : List Loc) , lv_has ls 5 [(0, .ref (G.2.1 0)), (1, .int v1), (2, .int v2), (3, .int v3), (4, .int v4)] → Pw G.1 (tyX G) (zAM G) s (wM G S) H locs → zit (LS_M_markOf_121 v1 v2 v3) n (v4, S) = some o0 → W p l e R s m args below meth c H locs 0 0 Q (F0 m 121 ls []) := by
    intro v1 v2 v3 n
    induction n with
    | zero => intro v4 S ls H locs hl hP hf; exact zit_0 hf
    | succ n ih1 =>
      intro v4 S ls H locs hl hP hf
      obtain ⟨o1, hf, hk1⟩ := zit_s hf
      have hf : L_M_markOf_121 v1 v2 v3 v4 S = some o1 := hf
      unfold L_M_markOf_121 at hf
      refine lv_iload hx hb d_M_markOf_121 (lv_at hl 4 rfl) ?_
      refine lv_iload_n hx hb d_M_markOf_123 rfl (lv_at hl 3 rfl) ?_
      refine lv_icmp_ge hx hb d_M_markOf_124 (tgt := 150) (by decide) (fun h1 => ?_) (fun h1 => ?_)
      · have hf := it_t h1 hf
        have hf := zup_k hf hk1
        refine lv_aload_n hx hb d_M_markOf_150 rfl (lv_at hl 0 rfl) ?_
        obtain ⟨x2, h3, hf⟩ := bd_some hf
        refine w_callI (As := []) (rest := []) C (c_M_digest l G S x2 h3) cf_M_digest tb_516 (by decide) hP (obM_0 G S) rfl hl.1 rfl (Nat.le_of_ble_eq_true rfl) d_M_markOf_151 (fun H locs hP => ?_)
        exact hret _ _ _ _ _ _ d_M_markOf_154 (Option.some.inj hf) hP
      · have hf := it_f h1 hf
        refine lv_aload_n hx hb d_M_markOf_127 rfl (lv_at hl 0 rfl) ?_
        refine lv_aload_n hx hb d_M_markOf_128 rfl (lv_at hl 0 rfl) ?_
        refine lv_iload_n hx hb d_M_markOf_129 rfl (lv_at hl 2 rfl) ?_
        refine lv_aload_n hx hb d_M_markOf_130 rfl (lv_at hl 0 rfl) ?_
        refine w_get C hP (fdM_0_signedTypes G S) tb_424 d_M_markOf_131 ?_
        refine lv_iload_n hx hb d_M_markOf_134 rfl (lv_at hl 1 rfl) ?_
        obtain ⟨h4, hf⟩ := zgd_some hf
        refine w_iald (t0 := 0) C hP (arM_4 G S) rfl h4 d_M_markOf_135 ?_
        refine lv_iload hx hb d_M_markOf_136 (lv_at hl 4 rfl) ?_
        obtain ⟨x5, h6, hf⟩ := bd_some hf
        refine w_callI (As := [.int v2, .int (S.2.1 4 (Int32.toNatClampNeg v1)), .int v4]) (rest := [.ref (G.2.1 0)]) C (c_M_dataAt l G S v2 (S.2.1 4 (Int32.toNatClampNeg v1)) v4 x5 h6) cf_M_dataAt tb_539 (by decide) hP (obM_0 G S) rfl hl.1 rfl (Nat.le_of_ble_eq_true rfl) d_M_markOf_138 (fun H locs hP => ?_)
        obtain ⟨x7, h8, hf⟩ := bd_some hf
        refine w_callV (As := [.int x5]) (rest := []) C (c_M_mix l G S x5 x7 h8) cf_M_mix tb_512 (by decide) hP (obM_0 G S) rfl hl.1 rfl (Nat.le_of_ble_eq_true rfl) d_M_markOf_141 (fun H locs hP => ?_)
        refine lv_iinc (k := 4) (v := (v4 + (1 : Int32))) (lv' := [(4, .int (v4 + (1 : Int32))), (0, .ref (G.2.1 0)), (1, .int v1), (2, .int v2), (3, .int v3)]) hx hb d_M_markOf_144 hl rfl (ii (by decide) _) (by decide) rfl (fun ls hl => ?_)
        refine lv_goto hx hb d_M_markOf_147 (tgt := 121) (by decide) ?_
        exact ih1 (v4 + (1 : Int32)) x7 _ _ _ (lv_sub hl [1, 2, 3, 4, 0] rfl) hP (znx_l hf hk1)
  refine lv_aload_n hx hb d_M_markOf_0 rfl (lv_at hl 0 rfl) ?_
  refine w_get C hP (fdM_0_signed G S) tb_423 d_M_markOf_1 ?_
  refine lv_iload_n hx hb d_M_markOf_4 rfl (lv_at hl 1 rfl) ?_
  obtain ⟨h9, hf⟩ := zgd_some hf
  refine w_iald (t0 := 0) C hP (arM_3 G S) rfl h9 d_M_markOf_5 ?_
  refine lv_istore_n (lv' := [(2, .int (S.2.1 3 (Int32.toNatClampNeg v1))), (0, .ref (G.2.1 0)), (1, .int v1)]) hx hb d_M_markOf_6 rfl hl (by decide) rfl (fun ls hl => ?_)
  refine lv_aload_n hx hb d_M_markOf_7 rfl (lv_at hl 1 rfl) ?_
  refine lv_iload_n hx hb d_M_markOf_8 rfl (lv_at hl 0 rfl) ?_
  refine lv_aload_n hx hb d_M_markOf_9 rfl (lv_at hl 1 rfl) ?_
  refine w_get C hP (fdM_0_signedTypes G S) tb_424 d_M_markOf_10 ?_
  refine lv_iload_n hx hb d_M_markOf_13 rfl (lv_at hl 2 rfl) ?_
  obtain ⟨h10, hf⟩ := zgd_some hf
  refine w_iald (t0 := 0) C hP (arM_4 G S) rfl h10 d_M_markOf_14 ?_
  obtain ⟨x11, h12, hf⟩ := bd_some hf
  refine w_callI (As := [.int (S.2.1 3 (Int32.toNatClampNeg v1)), .int (S.2.1 4 (Int32.toNatClampNeg v1))]) (rest := []) C (c_M_size l G S (S.2.1 3 (Int32.toNatClampNeg v1)) (S.2.1 4 (Int32.toNatClampNeg v1)) x11 h12) cf_M_size tb_498 (by decide) hP (obM_0 G S) rfl hl.1 rfl (Nat.le_of_ble_eq_true rfl) d_M_markOf_15 (fun H locs hP => ?_)
  refine lv_istore_n (lv' := [(3, .int x11), (2, .int (S.2.1 3 (Int32.toNatClampNeg v1))), (0, .ref (G.2.1 0)), (1, .int v1)]) hx hb d_M_markOf_18 rfl hl (by decide) rfl (fun ls hl => ?_)
  refine lv_aload_n hx hb d_M_markOf_19 rfl (lv_at hl 2 rfl) ?_
  refine lv_lconst (v := (0 : Int64)) hx hb d_M_markOf_20 (by decide) ?_
  refine w_put C hP (ptM_0_mixed G S (0 : Int64)) tb_443 d_M_markOf_21 (fun H locs hP => ?_)
  obtain ⟨S13, e14, hf⟩ := znm_some hf
  rw [← e14] at hP
  refine lv_aload_n hx hb d_M_markOf_24 rfl (lv_at hl 2 rfl) ?_
  refine lv_aload_n hx hb d_M_markOf_25 rfl (lv_at hl 2 rfl) ?_
  refine w_get C hP (fdM_0_keys G S13) tb_426 d_M_markOf_26 ?_
  refine lv_iload_n hx hb d_M_markOf_29 rfl (lv_at hl 3 rfl) ?_
  obtain ⟨h15, hf⟩ := zgd_some hf
  refine w_iald (t0 := 0) C hP (arM_6 G S13) rfl h15 d_M_markOf_30 ?_
  obtain ⟨x16, h17, hf⟩ := bd_some hf
  refine w_callV (As := [.int (S13.2.1 6 (Int32.toNatClampNeg v1))]) (rest := []) C (c_M_mix l G S13 (S13.2.1 6 (Int32.toNatClampNeg v1)) x16 h17) cf_M_mix tb_512 (by decide) hP (obM_0 G S13) rfl hl.1 rfl (Nat.le_of_ble_eq_true rfl) d_M_markOf_31 (fun H locs hP => ?_)
  refine lv_aload_n hx hb d_M_markOf_34 rfl (lv_at hl 2 rfl) ?_
  refine lv_aload_n hx hb d_M_markOf_35 rfl (lv_at hl 2 rfl) ?_
  refine w_get C hP (fdM_0_signers G x16) tb_425 d_M_markOf_36 ?_
  refine lv_iload_n hx hb d_M_markOf_39 rfl (lv_at hl 3 rfl) ?_
  obtain ⟨h18, hf⟩ := zgd_some hf
  refine w_iald (t0 := 0) C hP (arM_5 G x16) rfl h18 d_M_markOf_40 ?_
  obtain ⟨x19, h20, hf⟩ := bd_some hf
  refine w_callV (As := [.int (x16.2.1 5 (Int32.toNatClampNeg v1))]) (rest := []) C (c_M_mix l G x16 (x16.2.1 5 (Int32.toNatClampNeg v1)) x19 h20) cf_M_mix tb_512 (by decide) hP (obM_0 G x16) rfl hl.1 rfl (Nat.le_of_ble_eq_true rfl) d_M_markOf_41 (fun H locs hP => ?_)
  refine lv_aload_n hx hb d_M_markOf_44 rfl (lv_at hl 2 rfl) ?_
  refine lv_aload_n hx hb d_M_markOf_45 rfl (lv_at hl 2 rfl) ?_
  refine w_get C hP (fdM_0_signedTypes G x19) tb_424 d_M_markOf_46 ?_
  refine lv_iload_n hx hb d_M_markOf_49 rfl (lv_at hl 3 rfl) ?_
  obtain ⟨h21, hf⟩ := zgd_some hf
  refine w_iald (t0 := 0) C hP (arM_4 G x19) rfl h21 d_M_markOf_50 ?_
  obtain ⟨x22, h23, hf⟩ := bd_some hf
  refine w_callV (As := [.int (x19.2.1 4 (Int32.toNatClampNeg v1))]) (rest := []) C (c_M_mix l G x19 (x19.2.1 4 (Int32.toNatClampNeg v1)) x22 h23) cf_M_mix tb_512 (by decide) hP (obM_0 G x19) rfl hl.1 rfl (Nat.le_of_ble_eq_true rfl) d_M_markOf_51 (fun H locs hP => ?_)
  refine lv_aload_n hx hb d_M_markOf_54 rfl (lv_at hl 2 rfl) ?_
  refine lv_aload_n hx hb d_M_markOf_55 rfl (lv_at hl 2 rfl) ?_
  refine w_get C hP (fdM_0_labels G x22) tb_427 d_M_markOf_56 ?_
  refine lv_iload_n hx hb d_M_markOf_59 rfl (lv_at hl 3 rfl) ?_
  obtain ⟨h24, hf⟩ := zgd_some hf
  refine w_iald (t0 := 0) C hP (arM_7 G x22) rfl h24 d_M_markOf_60 ?_
  obtain ⟨x25, h26, hf⟩ := bd_some hf
  refine w_callV (As := [.int (x22.2.1 7 (Int32.toNatClampNeg v1))]) (rest := []) C (c_M_mix l G x22 (x22.2.1 7 (Int32.toNatClampNeg v1)) x25 h26) cf_M_mix tb_512 (by decide) hP (obM_0 G x22) rfl hl.1 rfl (Nat.le_of_ble_eq_true rfl) d_M_markOf_61 (fun H locs hP => ?_)
  refine lv_aload_n hx hb d_M_markOf_64 rfl (lv_at hl 2 rfl) ?_
  refine lv_aload_n hx hb d_M_markOf_65 rfl (lv_at hl 2 rfl) ?_
  refine w_get C hP (fdM_0_froms G x25) tb_428 d_M_markOf_66 ?_
  refine lv_iload_n hx hb d_M_markOf_69 rfl (lv_at hl 3 rfl) ?_
  obtain ⟨h27, hf⟩ := zgd_some hf
  refine w_iald (t0 := 0) C hP (arM_8 G x25) rfl h27 d_M_markOf_70 ?_
  obtain ⟨x28, h29, hf⟩ := bd_some hf
  refine w_callV (As := [.int (x25.2.1 8 (Int32.toNatClampNeg v1))]) (rest := []) C (c_M_mix l G x25 (x25.2.1 8 (Int32.toNatClampNeg v1)) x28 h29) cf_M_mix tb_512 (by decide) hP (obM_0 G x25) rfl hl.1 rfl (Nat.le_of_ble_eq_true rfl) d_M_markOf_71 (fun H locs hP => ?_)
  refine lv_aload_n hx hb d_M_markOf_74 rfl (lv_at hl 2 rfl) ?_
  refine lv_aload_n hx hb d_M_markOf_75 rfl (lv_at hl 2 rfl) ?_
  refine w_get C hP (fdM_0_tos G x28) tb_429 d_M_markOf_76 ?_
  refine lv_iload_n hx hb d_M_markOf_79 rfl (lv_at hl 3 rfl) ?_
  obtain ⟨h30, hf⟩ := zgd_some hf
  refine w_iald (t0 := 0) C hP (arM_9 G x28) rfl h30 d_M_markOf_80 ?_
  obtain ⟨x31, h32, hf⟩ := bd_some hf
  refine w_callV (As := [.int (x28.2.1 9 (Int32.toNatClampNeg v1))]) (rest := []) C (c_M_mix l G x28 (x28.2.1 9 (Int32.toNatClampNeg v1)) x31 h32) cf_M_mix tb_512 (by decide) hP (obM_0 G x28) rfl hl.1 rfl (Nat.le_of_ble_eq_true rfl) d_M_markOf_81 (fun H locs hP => ?_)
  refine lv_aload_n hx hb d_M_markOf_84 rfl (lv_at hl 2 rfl) ?_
  refine lv_aload_n hx hb d_M_markOf_85 rfl (lv_at hl 2 rfl) ?_
  refine w_get C hP (fdM_0_labels G x31) tb_427 d_M_markOf_86 ?_
  refine lv_iload_n hx hb d_M_markOf_89 rfl (lv_at hl 3 rfl) ?_
  obtain ⟨h33, hf⟩ := zgd_some hf
  refine w_iald (t0 := 0) C hP (arM_7 G x31) rfl h33 d_M_markOf_90 ?_
  refine lv_iload_n hx hb d_M_markOf_91 rfl (lv_at hl 1 rfl) ?_
  obtain ⟨x34, h35, hf⟩ := bd_some hf
  refine w_callS (As := [.int (S.2.1 3 (Int32.toNatClampNeg v1))]) (rest := [.int (x31.2.1 7 (Int32.toNatClampNeg v1)), .ref (G.2.1 0)]) C (c_M_depth l (S.2.1 3 (Int32.toNatClampNeg v1)) x34 h35) cf_M_depth tb_527 (by decide) rfl hl.1 rfl (Nat.le_of_ble_eq_true rfl) d_M_markOf_92 ?_
  refine lv_icmp_ge hx hb d_M_markOf_95 (tgt := 114) (by decide) (fun h36 => ?_) (fun h36 => ?_)
  · have hf := it_t h36 hf
    refine lv_iload_n hx hb d_M_markOf_114 rfl (lv_at hl 1 rfl) ?_
    obtain ⟨x37, h38, hf⟩ := bd_some hf
    refine w_callV (As := [.int (S.2.1 3 (Int32.toNatClampNeg v1))]) (rest := []) C (c_M_mix l G x31 (S.2.1 3 (Int32.toNatClampNeg v1)) x37 h38) cf_M_mix tb_512 (by decide) hP (obM_0 G x31) rfl hl.1 rfl (Nat.le_of_ble_eq_true rfl) d_M_markOf_115 (fun H locs hP => ?_)
    refine lv_iconst (v := (0 : Int32)) hx hb d_M_markOf_118 (by decide) ?_
    refine lv_istore (lv' := [(4, .int (0 : Int32)), (3, .int x11), (2, .int (S.2.1 3 (Int32.toNatClampNeg v1))), (0, .ref (G.2.1 0)), (1, .int v1)]) hx hb d_M_markOf_119 hl (by decide) rfl (fun ls hl => ?_)
    exact LP_121 v1 (S.2.1 3 (Int32.toNatClampNeg v1)) x11 64 (0 : Int32) x37 _ _ _ (lv_sub hl [3, 4, 2, 1, 0] rfl) hP hf
  · have hf := it_f h36 hf
    refine lv_iload_n hx hb d_M_markOf_98 rfl (lv_at hl 1 rfl) ?_
    refine lv_aload_n hx hb d_M_markOf_99 rfl (lv_at hl 2 rfl) ?_
    refine w_get C hP (fdM_0_labels G x31) tb_427 d_M_markOf_100 ?_
    refine lv_iload_n hx hb d_M_markOf_103 rfl (lv_at hl 3 rfl) ?_
    obtain ⟨h39, hf⟩ := zgd_some hf
    refine w_iald (t0 := 0) C hP (arM_7 G x31) rfl h39 d_M_markOf_104 ?_
    obtain ⟨x40, h41, hf⟩ := bd_some hf
    refine w_callS (As := [.int (S.2.1 3 (Int32.toNatClampNeg v1)), .int (x31.2.1 7 (Int32.toNatClampNeg v1))]) (rest := [.ref (G.2.1 0)]) C (c_M_cut l (S.2.1 3 (Int32.toNatClampNeg v1)) (x31.2.1 7 (Int32.toNatClampNeg v1)) x40 h41) cf_M_cut tb_533 (by decide) rfl hl.1 rfl (Nat.le_of_ble_eq_true rfl) d_M_markOf_105 ?_
    obtain ⟨x42, h43, hf⟩ := bd_some hf
    refine w_callS (As := [.int x40]) (rest := [.ref (G.2.1 0)]) C (c_M_star l x40 x42 h43) cf_M_star tb_536 (by decide) rfl hl.1 rfl (Nat.le_of_ble_eq_true rfl) d_M_markOf_108 ?_
    refine lv_goto hx hb d_M_markOf_111 (tgt := 115) (by decide) ?_
    obtain ⟨x44, h45, hf⟩ := bd_some hf
    refine w_callV (As := [.int x42]) (rest := []) C (c_M_mix l G x31 x42 x44 h45) cf_M_mix tb_512 (by decide) hP (obM_0 G x31) rfl hl.1 rfl (Nat.le_of_ble_eq_true rfl) d_M_markOf_115 (fun H locs hP => ?_)
    refine lv_iconst (v := (0 : Int32)) hx hb d_M_markOf_118 (by decide) ?_
    refine lv_istore (lv' := [(4, .int (0 : Int32)), (3, .int x11), (2, .int (S.2.1 3 (Int32.toNatClampNeg v1))), (0, .ref (G.2.1 0)), (1, .int v1)]) hx hb d_M_markOf_119 hl (by decide) rfl (fun ls hl => ?_)
    exact LP_121 v1 (S.2.1 3 (Int32.toNatClampNeg v1)) x11 64 (0 : Int32) x44 _ _ _ (lv_sub hl [3, 4, 2, 1, 0] rfl) hP hf
def f_M_window (S : MSt) (v1 : Int32) (v2 : Int32) : Option (Int32 × MSt) := (if v1 < (0 : Int32) then some ((0 : Int32), S) else (if v1 ≤ v2 then znm (zmS S 1 v1) (fun S3 => znm (zmS S3 2 v2) (fun S5 => some ((1 : Int32), S5))) else some ((0 : Int32), S)))
set_option maxHeartbeats 4000000 in
set_option maxRecDepth 100000 in
theorem c_M_window (l : Launch) (G : XG) (S : MSt) (v1 : Int32) (v2 : Int32) (o0 : (Int32 × MSt)) (hf : f_M_window S v1 v2 = some o0) : MetI l y_M_window b_M_window 3 (some .boolean) 0 [.ref (G.2.1 0), .int v1, .int v2] G.1 (tyX G) (zAM G) (wM G S) o0.1 (wM G o0.2) := by
  refine mkZ (by decide) (Nat.le_of_ble_eq_true rfl) ?_
  intro p e R s m args below meth c ls Q C hl hP hret0
  replace C : Cw p m c b_M_window 3 s args "TrustResolverModel" R 0 := C
  have hx := C.1
  have hb := C.2.1
  replace hl : lv_has ls 3 [(0, .ref (G.2.1 0)), (1, .int v1), (2, .int v2)] := hl
  have hret : ∀ (pc : Nat) (ls : Array Slot) (H : Heap) (locs : List Loc) (v : Int32) (S' : MSt), decode b_M_window pc = .ok (.ireturn, 1) → zib v = true → (v, S') = o0 → Pw G.1 (tyX G) (zAM G) s (wM G S') H locs → W p l e R s m args below meth c H locs 0 0 Q (F0 m pc ls [.int v]) := fun pc ls H locs v S' hd hz he hP => hret0 pc ls H locs v hd hz (by rw [← he]) (by rw [← he]; exact hP)
  clear hret0
  unfold f_M_window at hf
  refine lv_iload_n hx hb d_M_window_0 rfl (lv_at hl 1 rfl) ?_
  refine lv_if_lt hx hb d_M_window_1 (tgt := 9) (by decide) (fun h1 => ?_) (fun h1 => ?_)
  · have hf := it_t h1 hf
    refine lv_iconst (v := (0 : Int32)) hx hb d_M_window_9 (by decide) ?_
    exact hret _ _ _ _ _ _ d_M_window_10 (by decide) (Option.some.inj hf) hP
  · have hf := it_f h1 hf
    refine lv_iload_n hx hb d_M_window_4 rfl (lv_at hl 2 rfl) ?_
    refine lv_iload_n hx hb d_M_window_5 rfl (lv_at hl 1 rfl) ?_
    refine lv_icmp_ge hx hb d_M_window_6 (tgt := 11) (by decide) (fun h2 => ?_) (fun h2 => ?_)
    · have hf := it_t h2 hf
      refine lv_aload_n hx hb d_M_window_11 rfl (lv_at hl 0 rfl) ?_
      refine lv_iload_n hx hb d_M_window_12 rfl (lv_at hl 1 rfl) ?_
      refine w_put C hP (ptM_0_firstTime G S v1) tb_420 d_M_window_13 (fun H locs hP => ?_)
      obtain ⟨S3, e4, hf⟩ := znm_some hf
      rw [← e4] at hP
      refine lv_aload_n hx hb d_M_window_16 rfl (lv_at hl 0 rfl) ?_
      refine lv_iload_n hx hb d_M_window_17 rfl (lv_at hl 2 rfl) ?_
      refine w_put C hP (ptM_0_lastTime G S3 v2) tb_421 d_M_window_18 (fun H locs hP => ?_)
      obtain ⟨S5, e6, hf⟩ := znm_some hf
      rw [← e6] at hP
      refine lv_iconst (v := (1 : Int32)) hx hb d_M_window_21 (by decide) ?_
      exact hret _ _ _ _ _ _ d_M_window_22 (by decide) (Option.some.inj hf) hP
    · have hf := it_f h2 hf
      refine lv_iconst (v := (0 : Int32)) hx hb d_M_window_9 (by decide) ?_
      exact hret _ _ _ _ _ _ d_M_window_10 (by decide) (Option.some.inj hf) hP
def f_M_spoil (S : MSt) (v1 : Int32) (v2 : Int32) : Option (Int32 × MSt) := (if v1 < (0 : Int32) then some ((0 : Int32), S) else (if v1 < (S.1 3) then zgd (zin v1 32) (zgd (zin v1 32) (znm (zmA S 10 v1 ((S.2.1 10 (Int32.toNatClampNeg v1)) + v2)) (fun S5 => some ((1 : Int32), S5)))) else some ((0 : Int32), S)))
set_option maxHeartbeats 4000000 in
set_option maxRecDepth 100000 in
theorem c_M_spoil (l : Launch) (G : XG) (S : MSt) (v1 : Int32) (v2 : Int32) (o0 : (Int32 × MSt)) (hf : f_M_spoil S v1 v2 = some o0) : MetI l y_M_spoil b_M_spoil 3 (some .boolean) 0 [.ref (G.2.1 0), .int v1, .int v2] G.1 (tyX G) (zAM G) (wM G S) o0.1 (wM G o0.2) := by
  refine mkZ (by decide) (Nat.le_of_ble_eq_true rfl) ?_
  intro p e R s m args below meth c ls Q C hl hP hret0
  replace C : Cw p m c b_M_spoil 3 s args "TrustResolverModel" R 0 := C
  have hx := C.1
  have hb := C.2.1
  replace hl : lv_has ls 3 [(0, .ref (G.2.1 0)), (1, .int v1), (2, .int v2)] := hl
  have hret : ∀ (pc : Nat) (ls : Array Slot) (H : Heap) (locs : List Loc) (v : Int32) (S' : MSt), decode b_M_spoil pc = .ok (.ireturn, 1) → zib v = true → (v, S') = o0 → Pw G.1 (tyX G) (zAM G) s (wM G S') H locs → W p l e R s m args below meth c H locs 0 0 Q (F0 m pc ls [.int v]) := fun pc ls H locs v S' hd hz he hP => hret0 pc ls H locs v hd hz (by rw [← he]) (by rw [← he]; exact hP)
  clear hret0
  unfold f_M_spoil at hf
  refine lv_iload_n hx hb d_M_spoil_0 rfl (lv_at hl 1 rfl) ?_
  refine lv_if_lt hx hb d_M_spoil_1 (tgt := 12) (by decide) (fun h1 => ?_) (fun h1 => ?_)
  · have hf := it_t h1 hf
    refine lv_iconst (v := (0 : Int32)) hx hb d_M_spoil_12 (by decide) ?_
    exact hret _ _ _ _ _ _ d_M_spoil_13 (by decide) (Option.some.inj hf) hP
  · have hf := it_f h1 hf
    refine lv_iload_n hx hb d_M_spoil_4 rfl (lv_at hl 1 rfl) ?_
    refine lv_aload_n hx hb d_M_spoil_5 rfl (lv_at hl 0 rfl) ?_
    refine w_get C hP (fdM_0_signatures G S) tb_422 d_M_spoil_6 ?_
    refine lv_icmp_lt hx hb d_M_spoil_9 (tgt := 14) (by decide) (fun h2 => ?_) (fun h2 => ?_)
    · have hf := it_t h2 hf
      refine lv_aload_n hx hb d_M_spoil_14 rfl (lv_at hl 0 rfl) ?_
      refine w_get C hP (fdM_0_marks G S) tb_430 d_M_spoil_15 ?_
      refine lv_iload_n hx hb d_M_spoil_18 rfl (lv_at hl 1 rfl) ?_
      refine lv_aload_n hx hb d_M_spoil_19 rfl (lv_at hl 0 rfl) ?_
      refine w_get C hP (fdM_0_marks G S) tb_430 d_M_spoil_20 ?_
      refine lv_iload_n hx hb d_M_spoil_23 rfl (lv_at hl 1 rfl) ?_
      obtain ⟨h3, hf⟩ := zgd_some hf
      refine w_iald (t0 := 0) C hP (arM_10 G S) rfl h3 d_M_spoil_24 ?_
      refine lv_iload_n hx hb d_M_spoil_25 rfl (lv_at hl 2 rfl) ?_
      refine lv_iadd hx hb d_M_spoil_26 ?_
      obtain ⟨h4, hf⟩ := zgd_some hf
      refine w_iast (t0 := 0) C hP (stM_10 G S v1 ((S.2.1 10 (Int32.toNatClampNeg v1)) + v2)) rfl h4 d_M_spoil_27 (fun H locs hP => ?_)
      obtain ⟨S5, e6, hf⟩ := znm_some hf
      rw [← e6] at hP
      refine lv_iconst (v := (1 : Int32)) hx hb d_M_spoil_28 (by decide) ?_
      exact hret _ _ _ _ _ _ d_M_spoil_29 (by decide) (Option.some.inj hf) hP
    · have hf := it_f h2 hf
      refine lv_iconst (v := (0 : Int32)) hx hb d_M_spoil_12 (by decide) ?_
      exact hret _ _ _ _ _ _ d_M_spoil_13 (by decide) (Option.some.inj hf) hP
def J_M_anchor_69 (S : MSt) (v1 : Int32) (v2 : Int32) (v3 : Int32) (s1 : Int32) : Option (Int32 × MSt) := znm (zmS S 4 s1) (fun S1 => zgd (zin v3 4) (znm (zmA S1 11 v3 v1) (fun S4 => zgd (zin v3 4) (znm (zmA S4 12 v3 v2) (fun S7 => some ((S7.1 4), S7))))))
def J_M_anchor_39 (S : MSt) (v1 : Int32) (v2 : Int32) (v3 : Int32)  : Option (Int32 × MSt) := (if v3 = (4 : Int32) then some ((-2 : Int32), S) else (if v3 = (S.1 4) then J_M_anchor_69 S v1 v2 v3 ((S.1 4) + (1 : Int32)) else J_M_anchor_69 S v1 v2 v3 (S.1 4)))
def L_M_anchor_15 (S : MSt) (v1 : Int32) (v2 : Int32) (v3 : Int32) : Option (Int32 ⊕ (Int32 × MSt)) := (if (S.1 4) ≤ v3 then zup (J_M_anchor_39 S v1 v2 v3) else zgd (zin v3 4) ((if (S.2.1 11 (Int32.toNatClampNeg v3)) = v1 then zup (J_M_anchor_39 S v1 v2 v3) else some (Sum.inl (v3 + (1 : Int32))))))
def LS_M_anchor_15 (S : MSt) (v1 : Int32) (v2 : Int32) (v : Int32) : Option (Int32 ⊕ (Int32 × MSt)) := L_M_anchor_15 S v1 v2 v
def f_M_anchor (S : MSt) (v1 : Int32) (v2 : Int32) : Option (Int32 × MSt) := Option.bind (f_M_isName v1) (fun x14 => (if x14 = (0 : Int32) then some ((-1 : Int32), S) else (if (0 : Int32) ≤ v2 then zit (LS_M_anchor_15 S v1 v2) 64 (0 : Int32) else some ((-1 : Int32), S))))
set_option maxHeartbeats 4000000 in
set_option maxRecDepth 100000 in
theorem c_M_anchor (l : Launch) (G : XG) (S : MSt) (v1 : Int32) (v2 : Int32) (o0 : (Int32 × MSt)) (hf : f_M_anchor S v1 v2 = some o0) : MetI l y_M_anchor b_M_anchor 4 (some .int) 2 [.ref (G.2.1 0), .int v1, .int v2] G.1 (tyX G) (zAM G) (wM G S) o0.1 (wM G o0.2) := by
  refine mkI (by decide) (Nat.le_of_ble_eq_true rfl) ?_
  intro p e R s m args below meth c ls Q C hl hP hret0
  replace C : Cw p m c b_M_anchor 4 s args "TrustResolverModel" R 2 := C
  have hx := C.1
  have hb := C.2.1
  replace hl : lv_has ls 4 [(0, .ref (G.2.1 0)), (1, .int v1), (2, .int v2)] := hl
  have hret : ∀ (pc : Nat) (ls : Array Slot) (H : Heap) (locs : List Loc) (v : Int32) (S' : MSt), decode b_M_anchor pc = .ok (.ireturn, 1) → (v, S') = o0 → Pw G.1 (tyX G) (zAM G) s (wM G S') H locs → W p l e R s m args below meth c H locs 0 0 Q (F0 m pc ls [.int v]) := fun pc ls H locs v S' hd he hP => hret0 pc ls H locs v hd (by rw [← he]) (by rw [← he]; exact hP)
  clear hret0
  unfold f_M_anchor at hf
  have JP_69 : ∀ (S : MSt) (v1 : Int32) (v2 : Int32) (v3 : Int32) (s1 : Int32) (ls : Array Slot) (H : Heap) (locs : List Loc) , lv_has ls 4 [(0, .ref (G.2.1 0)), (1, .int v1), (2, .int v2), (3, .int v3)] → Pw G.1 (tyX G) (zAM G) s (wM G S) H locs → J_M_anchor_69 S v1 v2 v3 s1 = some o0 → W p l e R s m args below meth c H locs 0 0 Q (F0 m 69 ls [.int s1, .ref (G.2.1 0)]) := by
    intro S v1 v2 v3 s1 ls H locs hl hP hf
    unfold J_M_anchor_69 at hf
    refine w_put C hP (ptM_0_anchors G S s1) tb_431 d_M_anchor_69 (fun H locs hP => ?_)
    obtain ⟨S1, e2, hf⟩ := znm_some hf
    rw [← e2] at hP
    refine lv_aload_n hx hb d_M_anchor_72 rfl (lv_at hl 0 rfl) ?_
    refine w_get C hP (fdM_0_anchorZones G S1) tb_432 d_M_anchor_73 ?_
    refine lv_iload_n hx hb d_M_anchor_76 rfl (lv_at hl 3 rfl) ?_
    refine lv_iload_n hx hb d_M_anchor_77 rfl (lv_at hl 1 rfl) ?_
    obtain ⟨h3, hf⟩ := zgd_some hf
    refine w_iast (t0 := 0) C hP (stM_11 G S1 v3 v1) rfl h3 d_M_anchor_78 (fun H locs hP => ?_)
    obtain ⟨S4, e5, hf⟩ := znm_some hf
    rw [← e5] at hP
    refine lv_aload_n hx hb d_M_anchor_79 rfl (lv_at hl 0 rfl) ?_
    refine w_get C hP (fdM_0_anchorDigests G S4) tb_433 d_M_anchor_80 ?_
    refine lv_iload_n hx hb d_M_anchor_83 rfl (lv_at hl 3 rfl) ?_
    refine lv_iload_n hx hb d_M_anchor_84 rfl (lv_at hl 2 rfl) ?_
    obtain ⟨h6, hf⟩ := zgd_some hf
    refine w_iast (t0 := 0) C hP (stM_12 G S4 v3 v2) rfl h6 d_M_anchor_85 (fun H locs hP => ?_)
    obtain ⟨S7, e8, hf⟩ := znm_some hf
    rw [← e8] at hP
    refine lv_aload_n hx hb d_M_anchor_86 rfl (lv_at hl 0 rfl) ?_
    refine w_get C hP (fdM_0_anchors G S7) tb_431 d_M_anchor_87 ?_
    exact hret _ _ _ _ _ _ d_M_anchor_90 (Option.some.inj hf) hP
  have JP_39 : ∀ (S : MSt) (v1 : Int32) (v2 : Int32) (v3 : Int32)  (ls : Array Slot) (H : Heap) (locs : List Loc) , lv_has ls 4 [(0, .ref (G.2.1 0)), (1, .int v1), (2, .int v2), (3, .int v3)] → Pw G.1 (tyX G) (zAM G) s (wM G S) H locs → J_M_anchor_39 S v1 v2 v3 = some o0 → W p l e R s m args below meth c H locs 0 0 Q (F0 m 39 ls []) := by
    intro S v1 v2 v3 ls H locs hl hP hf
    unfold J_M_anchor_39 at hf
    refine lv_iload_n hx hb d_M_anchor_39 rfl (lv_at hl 3 rfl) ?_
    refine lv_iconst (v := (4 : Int32)) hx hb d_M_anchor_40 (by decide) ?_
    refine lv_icmp_ne hx hb d_M_anchor_41 (tgt := 47) (by decide) (fun h9 => ?_) (fun h9 => ?_)
    · have hf := it_f h9 hf
      refine lv_aload_n hx hb d_M_anchor_47 rfl (lv_at hl 0 rfl) ?_
      refine lv_iload_n hx hb d_M_anchor_48 rfl (lv_at hl 3 rfl) ?_
      refine lv_aload_n hx hb d_M_anchor_49 rfl (lv_at hl 0 rfl) ?_
      refine w_get C hP (fdM_0_anchors G S) tb_431 d_M_anchor_50 ?_
      refine lv_icmp_ne hx hb d_M_anchor_53 (tgt := 65) (by decide) (fun h10 => ?_) (fun h10 => ?_)
      · have hf := it_f h10 hf
        refine lv_aload_n hx hb d_M_anchor_65 rfl (lv_at hl 0 rfl) ?_
        refine w_get C hP (fdM_0_anchors G S) tb_431 d_M_anchor_66 ?_
        exact JP_69 S v1 v2 v3 (S.1 4) _ _ _ (lv_sub hl [0, 1, 2, 3] rfl) hP hf
      · have hf := it_t h10 hf
        refine lv_aload_n hx hb d_M_anchor_56 rfl (lv_at hl 0 rfl) ?_
        refine w_get C hP (fdM_0_anchors G S) tb_431 d_M_anchor_57 ?_
        refine lv_iconst (v := (1 : Int32)) hx hb d_M_anchor_60 (by decide) ?_
        refine lv_iadd hx hb d_M_anchor_61 ?_
        refine lv_goto hx hb d_M_anchor_62 (tgt := 69) (by decide) ?_
        exact JP_69 S v1 v2 v3 ((S.1 4) + (1 : Int32)) _ _ _ (lv_sub hl [0, 1, 2, 3] rfl) hP hf
    · have hf := it_t h9 hf
      refine lv_bipush (v := (-2 : Int32)) hx hb d_M_anchor_44 (by decide) ?_
      exact hret _ _ _ _ _ _ d_M_anchor_46 (Option.some.inj hf) hP
  have LP_15 : ∀ (S : MSt) (v1 : Int32) (v2 : Int32) (n : Nat) (v3 : Int32) (ls : Array Slot) (H : Heap) (locs : List Loc) , lv_has ls 4 [(0, .ref (G.2.1 0)), (1, .int v1), (2, .int v2), (3, .int v3)] → Pw G.1 (tyX G) (zAM G) s (wM G S) H locs → zit (LS_M_anchor_15 S v1 v2) n v3 = some o0 → W p l e R s m args below meth c H locs 0 0 Q (F0 m 15 ls []) := by
    intro S v1 v2 n
    induction n with
    | zero => intro v3 ls H locs hl hP hf; exact zit_0 hf
    | succ n ih1 =>
      intro v3 ls H locs hl hP hf
      obtain ⟨o1, hf, hk1⟩ := zit_s hf
      have hf : L_M_anchor_15 S v1 v2 v3 = some o1 := hf
      unfold L_M_anchor_15 at hf
      refine lv_iload_n hx hb d_M_anchor_15 rfl (lv_at hl 3 rfl) ?_
      refine lv_aload_n hx hb d_M_anchor_16 rfl (lv_at hl 0 rfl) ?_
      refine w_get C hP (fdM_0_anchors G S) tb_431 d_M_anchor_17 ?_
      refine lv_icmp_ge hx hb d_M_anchor_20 (tgt := 39) (by decide) (fun h11 => ?_) (fun h11 => ?_)
      · have hf := it_t h11 hf
        have hf := zup_k hf hk1
        exact JP_39 S v1 v2 v3 _ _ _ (lv_sub hl [0, 1, 2, 3] rfl) hP hf
      · have hf := it_f h11 hf
        refine lv_aload_n hx hb d_M_anchor_23 rfl (lv_at hl 0 rfl) ?_
        refine w_get C hP (fdM_0_anchorZones G S) tb_432 d_M_anchor_24 ?_
        refine lv_iload_n hx hb d_M_anchor_27 rfl (lv_at hl 3 rfl) ?_
        obtain ⟨h12, hf⟩ := zgd_some hf
        refine w_iald (t0 := 0) C hP (arM_11 G S) rfl h12 d_M_anchor_28 ?_
        refine lv_iload_n hx hb d_M_anchor_29 rfl (lv_at hl 1 rfl) ?_
        refine lv_icmp_eq hx hb d_M_anchor_30 (tgt := 39) (by decide) (fun h13 => ?_) (fun h13 => ?_)
        · have hf := it_t h13 hf
          have hf := zup_k hf hk1
          exact JP_39 S v1 v2 v3 _ _ _ (lv_sub hl [0, 1, 2, 3] rfl) hP hf
        · have hf := it_f h13 hf
          refine lv_iinc (k := 3) (v := (v3 + (1 : Int32))) (lv' := [(3, .int (v3 + (1 : Int32))), (0, .ref (G.2.1 0)), (1, .int v1), (2, .int v2)]) hx hb d_M_anchor_33 hl rfl (ii (by decide) _) (by decide) rfl (fun ls hl => ?_)
          refine lv_goto hx hb d_M_anchor_36 (tgt := 15) (by decide) ?_
          exact ih1 (v3 + (1 : Int32)) _ _ _ (lv_sub hl [1, 2, 3, 0] rfl) hP (znx_l hf hk1)
  refine lv_iload_n hx hb d_M_anchor_0 rfl (lv_at hl 1 rfl) ?_
  obtain ⟨x14, h15, hf⟩ := bd_some hf
  refine w_callS (As := [.int v1]) (rest := []) C (c_M_isName l v1 x14 h15) cf_M_isName tb_476 (by decide) rfl hl.1 rfl (Nat.le_of_ble_eq_true rfl) d_M_anchor_1 ?_
  refine lv_if_eq hx hb d_M_anchor_4 (tgt := 11) (by decide) (fun h16 => ?_) (fun h16 => ?_)
  · have hf := it_t h16 hf
    refine lv_iconst (v := (-1 : Int32)) hx hb d_M_anchor_11 (by decide) ?_
    exact hret _ _ _ _ _ _ d_M_anchor_12 (Option.some.inj hf) hP
  · have hf := it_f h16 hf
    refine lv_iload_n hx hb d_M_anchor_7 rfl (lv_at hl 2 rfl) ?_
    refine lv_if_ge hx hb d_M_anchor_8 (tgt := 13) (by decide) (fun h17 => ?_) (fun h17 => ?_)
    · have hf := it_t h17 hf
      refine lv_iconst (v := (0 : Int32)) hx hb d_M_anchor_13 (by decide) ?_
      refine lv_istore_n (lv' := [(3, .int (0 : Int32)), (0, .ref (G.2.1 0)), (1, .int v1), (2, .int v2)]) hx hb d_M_anchor_14 rfl hl (by decide) rfl (fun ls hl => ?_)
      exact LP_15 S v1 v2 64 (0 : Int32) _ _ _ (lv_sub hl [1, 2, 3, 0] rfl) hP hf
    · have hf := it_f h17 hf
      refine lv_iconst (v := (-1 : Int32)) hx hb d_M_anchor_11 (by decide) ?_
      exact hret _ _ _ _ _ _ d_M_anchor_12 (Option.some.inj hf) hP
def f_M_tick (S : MSt) (v1 : Int32) : Option (Int32 × MSt) := (if v1 < (0 : Int32) then some ((-1 : Int32), S) else (if v1 ≤ (100000 : Int32) then znm (zmS S 5 ((S.1 5) + v1)) (fun S3 => some ((S3.1 5), S3)) else some ((-1 : Int32), S)))
set_option maxHeartbeats 4000000 in
set_option maxRecDepth 100000 in
theorem c_M_tick (l : Launch) (G : XG) (S : MSt) (v1 : Int32) (o0 : (Int32 × MSt)) (hf : f_M_tick S v1 = some o0) : MetI l y_M_tick b_M_tick 2 (some .int) 0 [.ref (G.2.1 0), .int v1] G.1 (tyX G) (zAM G) (wM G S) o0.1 (wM G o0.2) := by
  refine mkI (by decide) (Nat.le_of_ble_eq_true rfl) ?_
  intro p e R s m args below meth c ls Q C hl hP hret0
  replace C : Cw p m c b_M_tick 2 s args "TrustResolverModel" R 0 := C
  have hx := C.1
  have hb := C.2.1
  replace hl : lv_has ls 2 [(0, .ref (G.2.1 0)), (1, .int v1)] := hl
  have hret : ∀ (pc : Nat) (ls : Array Slot) (H : Heap) (locs : List Loc) (v : Int32) (S' : MSt), decode b_M_tick pc = .ok (.ireturn, 1) → (v, S') = o0 → Pw G.1 (tyX G) (zAM G) s (wM G S') H locs → W p l e R s m args below meth c H locs 0 0 Q (F0 m pc ls [.int v]) := fun pc ls H locs v S' hd he hP => hret0 pc ls H locs v hd (by rw [← he]) (by rw [← he]; exact hP)
  clear hret0
  unfold f_M_tick at hf
  refine lv_iload_n hx hb d_M_tick_0 rfl (lv_at hl 1 rfl) ?_
  refine lv_if_lt hx hb d_M_tick_1 (tgt := 10) (by decide) (fun h1 => ?_) (fun h1 => ?_)
  · have hf := it_t h1 hf
    refine lv_iconst (v := (-1 : Int32)) hx hb d_M_tick_10 (by decide) ?_
    exact hret _ _ _ _ _ _ d_M_tick_11 (Option.some.inj hf) hP
  · have hf := it_f h1 hf
    refine lv_iload_n hx hb d_M_tick_4 rfl (lv_at hl 1 rfl) ?_
    refine lv_ldc (v := (100000 : Int32)) hx hb C.2.2.2.1 (C.2.2.2.2.1 _ tb_554) d_M_tick_5 ?_
    refine lv_icmp_le hx hb d_M_tick_7 (tgt := 12) (by decide) (fun h2 => ?_) (fun h2 => ?_)
    · have hf := it_t h2 hf
      refine lv_aload_n hx hb d_M_tick_12 rfl (lv_at hl 0 rfl) ?_
      refine lv_aload_n hx hb d_M_tick_13 rfl (lv_at hl 0 rfl) ?_
      refine w_get C hP (fdM_0_time G S) tb_434 d_M_tick_14 ?_
      refine lv_iload_n hx hb d_M_tick_17 rfl (lv_at hl 1 rfl) ?_
      refine lv_iadd hx hb d_M_tick_18 ?_
      refine w_put C hP (ptM_0_time G S ((S.1 5) + v1)) tb_434 d_M_tick_19 (fun H locs hP => ?_)
      obtain ⟨S3, e4, hf⟩ := znm_some hf
      rw [← e4] at hP
      refine lv_aload_n hx hb d_M_tick_22 rfl (lv_at hl 0 rfl) ?_
      refine w_get C hP (fdM_0_time G S3) tb_434 d_M_tick_23 ?_
      exact hret _ _ _ _ _ _ d_M_tick_26 (Option.some.inj hf) hP
    · have hf := it_f h2 hf
      refine lv_iconst (v := (-1 : Int32)) hx hb d_M_tick_10 (by decide) ?_
      exact hret _ _ _ _ _ _ d_M_tick_11 (Option.some.inj hf) hP
def f_M_here (S : MSt)  : Option Int32 := zgd (zin ((S.1 9) - (1 : Int32)) 5) (some (S.2.1 13 (Int32.toNatClampNeg ((S.1 9) - (1 : Int32)))))
set_option maxHeartbeats 4000000 in
set_option maxRecDepth 100000 in
theorem c_M_here (l : Launch) (G : XG) (S : MSt)  (o0 : Int32) (hf : f_M_here S = some o0) : MetI l y_M_here b_M_here 1 (some .int) 0 [.ref (G.2.1 0)] G.1 (tyX G) (zAM G) (wM G S) o0 (wM G S) := by
  refine mkI (by decide) (Nat.le_of_ble_eq_true rfl) ?_
  intro p e R s m args below meth c ls Q C hl hP hret0
  replace C : Cw p m c b_M_here 1 s args "TrustResolverModel" R 0 := C
  have hx := C.1
  have hb := C.2.1
  replace hl : lv_has ls 1 [(0, .ref (G.2.1 0))] := hl
  have hret := hret0
  clear hret0
  unfold f_M_here at hf
  refine lv_aload_n hx hb d_M_here_0 rfl (lv_at hl 0 rfl) ?_
  refine w_get C hP (fdM_0_zone G S) tb_439 d_M_here_1 ?_
  refine lv_aload_n hx hb d_M_here_4 rfl (lv_at hl 0 rfl) ?_
  refine w_get C hP (fdM_0_zones G S) tb_438 d_M_here_5 ?_
  refine lv_iconst (v := (1 : Int32)) hx hb d_M_here_8 (by decide) ?_
  refine lv_isub hx hb d_M_here_9 ?_
  obtain ⟨h1, hf⟩ := zgd_some hf
  refine w_iald (t0 := 0) C hP (arM_13 G S) rfl h1 d_M_here_10 ?_
  exact hret _ _ _ _ _ d_M_here_11 (Option.some.inj hf) hP
def f_M_isTrusted (S : MSt) (v1 : Int32) : Option (Int32 × MSt) := Option.bind (f_M_here S) (fun x1 => Option.bind (f_M_sealOf S x1 v1) (fun x3 => (if (x3.2.1 12) < (0 : Int32) then Option.bind (f_M_here x3.2) (fun x6 => Option.bind (f_M_has x3.2 x6 (3 : Int32) x3.1) (fun x8 => zgd (zib x8) (some (x8, x3.2)))) else (if x3.1 = (x3.2.1 12) then some ((1 : Int32), x3.2) else some ((0 : Int32), x3.2)))))
set_option maxHeartbeats 4000000 in
set_option maxRecDepth 100000 in
theorem c_M_isTrusted (l : Launch) (G : XG) (S : MSt) (v1 : Int32) (o0 : (Int32 × MSt)) (hf : f_M_isTrusted S v1 = some o0) : MetI l y_M_isTrusted b_M_isTrusted 3 (some .boolean) 2 [.ref (G.2.1 0), .int v1] G.1 (tyX G) (zAM G) (wM G S) o0.1 (wM G o0.2) := by
  refine mkZ (by decide) (Nat.le_of_ble_eq_true rfl) ?_
  intro p e R s m args below meth c ls Q C hl hP hret0
  replace C : Cw p m c b_M_isTrusted 3 s args "TrustResolverModel" R 2 := C
  have hx := C.1
  have hb := C.2.1
  replace hl : lv_has ls 3 [(0, .ref (G.2.1 0)), (1, .int v1)] := hl
  have hret : ∀ (pc : Nat) (ls : Array Slot) (H : Heap) (locs : List Loc) (v : Int32) (S' : MSt), decode b_M_isTrusted pc = .ok (.ireturn, 1) → zib v = true → (v, S') = o0 → Pw G.1 (tyX G) (zAM G) s (wM G S') H locs → W p l e R s m args below meth c H locs 0 0 Q (F0 m pc ls [.int v]) := fun pc ls H locs v S' hd hz he hP => hret0 pc ls H locs v hd hz (by rw [← he]) (by rw [← he]; exact hP)
  clear hret0
  unfold f_M_isTrusted at hf
  refine lv_aload_n hx hb d_M_isTrusted_0 rfl (lv_at hl 0 rfl) ?_
  refine lv_aload_n hx hb d_M_isTrusted_1 rfl (lv_at hl 0 rfl) ?_
  obtain ⟨x1, h2, hf⟩ := bd_some hf
  refine w_callI (As := []) (rest := [.ref (G.2.1 0)]) C (c_M_here l G S x1 h2) cf_M_here tb_568 (by decide) hP (obM_0 G S) rfl hl.1 rfl (Nat.le_of_ble_eq_true rfl) d_M_isTrusted_2 (fun H locs hP => ?_)
  refine lv_iload_n hx hb d_M_isTrusted_5 rfl (lv_at hl 1 rfl) ?_
  obtain ⟨x3, h4, hf⟩ := bd_some hf
  refine w_callI (As := [.int x1, .int v1]) (rest := []) C (c_M_sealOf l G S x1 v1 x3 h4) cf_M_sealOf tb_509 (by decide) hP (obM_0 G S) rfl hl.1 rfl (Nat.le_of_ble_eq_true rfl) d_M_isTrusted_6 (fun H locs hP => ?_)
  refine lv_istore_n (lv' := [(2, .int x3.1), (0, .ref (G.2.1 0)), (1, .int v1)]) hx hb d_M_isTrusted_9 rfl hl (by decide) rfl (fun ls hl => ?_)
  refine lv_aload_n hx hb d_M_isTrusted_10 rfl (lv_at hl 1 rfl) ?_
  refine w_get C hP (fdM_0_trusted G x3.2) tb_442 d_M_isTrusted_11 ?_
  refine lv_if_lt hx hb d_M_isTrusted_14 (tgt := 33) (by decide) (fun h5 => ?_) (fun h5 => ?_)
  · have hf := it_t h5 hf
    refine lv_aload_n hx hb d_M_isTrusted_33 rfl (lv_at hl 1 rfl) ?_
    refine lv_aload_n hx hb d_M_isTrusted_34 rfl (lv_at hl 1 rfl) ?_
    obtain ⟨x6, h7, hf⟩ := bd_some hf
    refine w_callI (As := []) (rest := [.ref (G.2.1 0)]) C (c_M_here l G x3.2 x6 h7) cf_M_here tb_568 (by decide) hP (obM_0 G x3.2) rfl hl.1 rfl (Nat.le_of_ble_eq_true rfl) d_M_isTrusted_35 (fun H locs hP => ?_)
    refine lv_iconst (v := (3 : Int32)) hx hb d_M_isTrusted_38 (by decide) ?_
    refine lv_iload_n hx hb d_M_isTrusted_39 rfl (lv_at hl 0 rfl) ?_
    obtain ⟨x8, h9, hf⟩ := bd_some hf
    refine w_callI (As := [.int x6, .int (3 : Int32), .int x3.1]) (rest := []) C (c_M_has l G x3.2 x6 (3 : Int32) x3.1 x8 h9) cf_M_has tb_495 (by decide) hP (obM_0 G x3.2) rfl hl.1 rfl (Nat.le_of_ble_eq_true rfl) d_M_isTrusted_40 (fun H locs hP => ?_)
    obtain ⟨h10, hf⟩ := zgd_some hf
    exact hret _ _ _ _ _ _ d_M_isTrusted_43 h10 (Option.some.inj hf) hP
  · have hf := it_f h5 hf
    refine lv_iload_n hx hb d_M_isTrusted_17 rfl (lv_at hl 0 rfl) ?_
    refine lv_aload_n hx hb d_M_isTrusted_18 rfl (lv_at hl 1 rfl) ?_
    refine w_get C hP (fdM_0_trusted G x3.2) tb_442 d_M_isTrusted_19 ?_
    refine lv_icmp_ne hx hb d_M_isTrusted_22 (tgt := 29) (by decide) (fun h11 => ?_) (fun h11 => ?_)
    · have hf := it_f h11 hf
      refine lv_iconst (v := (0 : Int32)) hx hb d_M_isTrusted_29 (by decide) ?_
      refine lv_goto hx hb d_M_isTrusted_30 (tgt := 43) (by decide) ?_
      exact hret _ _ _ _ _ _ d_M_isTrusted_43 (by decide) (Option.some.inj hf) hP
    · have hf := it_t h11 hf
      refine lv_iconst (v := (1 : Int32)) hx hb d_M_isTrusted_25 (by decide) ?_
      refine lv_goto hx hb d_M_isTrusted_26 (tgt := 43) (by decide) ?_
      exact hret _ _ _ _ _ _ d_M_isTrusted_43 (by decide) (Option.some.inj hf) hP
def f_M_counts (S : MSt) (v1 : Int32) : Option (Int32 × MSt) := Option.bind (f_M_here S) (fun x1 => Option.bind (f_M_has S x1 (4 : Int32) v1) (fun x3 => (if x3 = (0 : Int32) then some ((0 : Int32), S) else (if (S.1 11) = (0 : Int32) then Option.bind (f_M_isTrusted S v1) (fun x7 => (if x7.1 = (0 : Int32) then some ((0 : Int32), x7.2) else some ((1 : Int32), x7.2))) else some ((1 : Int32), S)))))
set_option maxHeartbeats 4000000 in
set_option maxRecDepth 100000 in
theorem c_M_counts (l : Launch) (G : XG) (S : MSt) (v1 : Int32) (o0 : (Int32 × MSt)) (hf : f_M_counts S v1 = some o0) : MetI l y_M_counts b_M_counts 2 (some .boolean) 3 [.ref (G.2.1 0), .int v1] G.1 (tyX G) (zAM G) (wM G S) o0.1 (wM G o0.2) := by
  refine mkZ (by decide) (Nat.le_of_ble_eq_true rfl) ?_
  intro p e R s m args below meth c ls Q C hl hP hret0
  replace C : Cw p m c b_M_counts 2 s args "TrustResolverModel" R 3 := C
  have hx := C.1
  have hb := C.2.1
  replace hl : lv_has ls 2 [(0, .ref (G.2.1 0)), (1, .int v1)] := hl
  have hret : ∀ (pc : Nat) (ls : Array Slot) (H : Heap) (locs : List Loc) (v : Int32) (S' : MSt), decode b_M_counts pc = .ok (.ireturn, 1) → zib v = true → (v, S') = o0 → Pw G.1 (tyX G) (zAM G) s (wM G S') H locs → W p l e R s m args below meth c H locs 0 0 Q (F0 m pc ls [.int v]) := fun pc ls H locs v S' hd hz he hP => hret0 pc ls H locs v hd hz (by rw [← he]) (by rw [← he]; exact hP)
  clear hret0
  unfold f_M_counts at hf
  refine lv_aload_n hx hb d_M_counts_0 rfl (lv_at hl 0 rfl) ?_
  refine lv_aload_n hx hb d_M_counts_1 rfl (lv_at hl 0 rfl) ?_
  obtain ⟨x1, h2, hf⟩ := bd_some hf
  refine w_callI (As := []) (rest := [.ref (G.2.1 0)]) C (c_M_here l G S x1 h2) cf_M_here tb_568 (by decide) hP (obM_0 G S) rfl hl.1 rfl (Nat.le_of_ble_eq_true rfl) d_M_counts_2 (fun H locs hP => ?_)
  refine lv_iconst (v := (4 : Int32)) hx hb d_M_counts_5 (by decide) ?_
  refine lv_iload_n hx hb d_M_counts_6 rfl (lv_at hl 1 rfl) ?_
  obtain ⟨x3, h4, hf⟩ := bd_some hf
  refine w_callI (As := [.int x1, .int (4 : Int32), .int v1]) (rest := []) C (c_M_has l G S x1 (4 : Int32) v1 x3 h4) cf_M_has tb_495 (by decide) hP (obM_0 G S) rfl hl.1 rfl (Nat.le_of_ble_eq_true rfl) d_M_counts_7 (fun H locs hP => ?_)
  refine lv_if_eq hx hb d_M_counts_10 (tgt := 32) (by decide) (fun h5 => ?_) (fun h5 => ?_)
  · have hf := it_t h5 hf
    refine lv_iconst (v := (0 : Int32)) hx hb d_M_counts_32 (by decide) ?_
    exact hret _ _ _ _ _ _ d_M_counts_33 (by decide) (Option.some.inj hf) hP
  · have hf := it_f h5 hf
    refine lv_aload_n hx hb d_M_counts_13 rfl (lv_at hl 0 rfl) ?_
    refine w_get C hP (fdM_0_all G S) tb_441 d_M_counts_14 ?_
    refine lv_if_ne hx hb d_M_counts_17 (tgt := 28) (by decide) (fun h6 => ?_) (fun h6 => ?_)
    · have hf := it_f h6 hf
      refine lv_iconst (v := (1 : Int32)) hx hb d_M_counts_28 (by decide) ?_
      refine lv_goto hx hb d_M_counts_29 (tgt := 33) (by decide) ?_
      exact hret _ _ _ _ _ _ d_M_counts_33 (by decide) (Option.some.inj hf) hP
    · have hf := it_t h6 hf
      refine lv_aload_n hx hb d_M_counts_20 rfl (lv_at hl 0 rfl) ?_
      refine lv_iload_n hx hb d_M_counts_21 rfl (lv_at hl 1 rfl) ?_
      obtain ⟨x7, h8, hf⟩ := bd_some hf
      refine w_callI (As := [.int v1]) (rest := []) C (c_M_isTrusted l G S v1 x7 h8) cf_M_isTrusted tb_571 (by decide) hP (obM_0 G S) rfl hl.1 rfl (Nat.le_of_ble_eq_true rfl) d_M_counts_22 (fun H locs hP => ?_)
      refine lv_if_eq hx hb d_M_counts_25 (tgt := 32) (by decide) (fun h9 => ?_) (fun h9 => ?_)
      · have hf := it_t h9 hf
        refine lv_iconst (v := (0 : Int32)) hx hb d_M_counts_32 (by decide) ?_
        exact hret _ _ _ _ _ _ d_M_counts_33 (by decide) (Option.some.inj hf) hP
      · have hf := it_f h9 hf
        refine lv_iconst (v := (1 : Int32)) hx hb d_M_counts_28 (by decide) ?_
        refine lv_goto hx hb d_M_counts_29 (tgt := 33) (by decide) ?_
        exact hret _ _ _ _ _ _ d_M_counts_33 (by decide) (Option.some.inj hf) hP
def f_M_tells (S : MSt) (v1 : Int32) (v2 : Int32) : Option Int32 := Option.bind (f_M_dataAt S v1 (5 : Int32) (0 : Int32)) (fun x1 => (if ((x1 >>> (((19 : Int32) + v2) &&& (31 : Int32))) &&& (1 : Int32)) = (1 : Int32) then some (1 : Int32) else some (0 : Int32)))
set_option maxHeartbeats 4000000 in
set_option maxRecDepth 100000 in
theorem c_M_tells (l : Launch) (G : XG) (S : MSt) (v1 : Int32) (v2 : Int32) (o0 : Int32) (hf : f_M_tells S v1 v2 = some o0) : MetI l y_M_tells b_M_tells 3 (some .boolean) 1 [.ref (G.2.1 0), .int v1, .int v2] G.1 (tyX G) (zAM G) (wM G S) o0 (wM G S) := by
  refine mkZ (by decide) (Nat.le_of_ble_eq_true rfl) ?_
  intro p e R s m args below meth c ls Q C hl hP hret0
  replace C : Cw p m c b_M_tells 3 s args "TrustResolverModel" R 1 := C
  have hx := C.1
  have hb := C.2.1
  replace hl : lv_has ls 3 [(0, .ref (G.2.1 0)), (1, .int v1), (2, .int v2)] := hl
  have hret := hret0
  clear hret0
  unfold f_M_tells at hf
  refine lv_aload_n hx hb d_M_tells_0 rfl (lv_at hl 0 rfl) ?_
  refine lv_iload_n hx hb d_M_tells_1 rfl (lv_at hl 1 rfl) ?_
  refine lv_iconst (v := (5 : Int32)) hx hb d_M_tells_2 (by decide) ?_
  refine lv_iconst (v := (0 : Int32)) hx hb d_M_tells_3 (by decide) ?_
  obtain ⟨x1, h2, hf⟩ := bd_some hf
  refine w_callI (As := [.int v1, .int (5 : Int32), .int (0 : Int32)]) (rest := []) C (c_M_dataAt l G S v1 (5 : Int32) (0 : Int32) x1 h2) cf_M_dataAt tb_539 (by decide) hP (obM_0 G S) rfl hl.1 rfl (Nat.le_of_ble_eq_true rfl) d_M_tells_4 (fun H locs hP => ?_)
  refine lv_bipush (v := (19 : Int32)) hx hb d_M_tells_7 (by decide) ?_
  refine lv_iload_n hx hb d_M_tells_9 rfl (lv_at hl 2 rfl) ?_
  refine lv_iadd hx hb d_M_tells_10 ?_
  refine lv_ishr hx hb d_M_tells_11 ?_
  refine lv_iconst (v := (1 : Int32)) hx hb d_M_tells_12 (by decide) ?_
  refine lv_iand hx hb d_M_tells_13 ?_
  refine lv_iconst (v := (1 : Int32)) hx hb d_M_tells_14 (by decide) ?_
  refine lv_icmp_ne hx hb d_M_tells_15 (tgt := 22) (by decide) (fun h3 => ?_) (fun h3 => ?_)
  · have hf := it_f h3 hf
    refine lv_iconst (v := (0 : Int32)) hx hb d_M_tells_22 (by decide) ?_
    exact hret _ _ _ _ _ d_M_tells_23 (by decide) (Option.some.inj hf) hP
  · have hf := it_t h3 hf
    refine lv_iconst (v := (1 : Int32)) hx hb d_M_tells_18 (by decide) ?_
    refine lv_goto hx hb d_M_tells_19 (tgt := 23) (by decide) ?_
    exact hret _ _ _ _ _ d_M_tells_23 (by decide) (Option.some.inj hf) hP
def L_M_nextCut_30 (S : MSt) (v1 : Int32) (v3 : Int32) (v4 : Int32) : Option (Int32 ⊕ Int32) := (if v3 < v4 then zup (some (-1 : Int32)) else Option.bind (f_M_cut v1 v4) (fun x2 => Option.bind (f_M_size S x2 (2 : Int32)) (fun x4 => (if x4 ≤ (0 : Int32) then some (Sum.inl (v4 + (1 : Int32))) else zup (Option.bind (f_M_cut v1 v4) (fun x7 => some x7))))))
def LS_M_nextCut_30 (S : MSt) (v1 : Int32) (v3 : Int32) (v : Int32) : Option (Int32 ⊕ Int32) := L_M_nextCut_30 S v1 v3 v
def f_M_nextCut (S : MSt) (v1 : Int32) (v2 : Int32) : Option Int32 := (if v2 = (3 : Int32) then Option.bind (f_M_depth v1) (fun x16 => Option.bind (f_M_here S) (fun x18 => Option.bind (f_M_depth x18) (fun x20 => zit (LS_M_nextCut_30 S v1 (x16 - (1 : Int32))) 64 (x20 + (1 : Int32))))) else Option.bind (f_M_depth v1) (fun x10 => Option.bind (f_M_here S) (fun x12 => Option.bind (f_M_depth x12) (fun x14 => zit (LS_M_nextCut_30 S v1 x10) 64 (x14 + (1 : Int32))))))
set_option maxHeartbeats 4000000 in
set_option maxRecDepth 100000 in
theorem c_M_nextCut (l : Launch) (G : XG) (S : MSt) (v1 : Int32) (v2 : Int32) (o0 : Int32) (hf : f_M_nextCut S v1 v2 = some o0) : MetI l y_M_nextCut b_M_nextCut 5 (some .int) 2 [.ref (G.2.1 0), .int v1, .int v2] G.1 (tyX G) (zAM G) (wM G S) o0 (wM G S) := by
  refine mkI (by decide) (Nat.le_of_ble_eq_true rfl) ?_
  intro p e R s m args below meth c ls Q C hl hP hret0
  replace C : Cw p m c b_M_nextCut 5 s args "TrustResolverModel" R 2 := C
  have hx := C.1
  have hb := C.2.1
  replace hl : lv_has ls 5 [(0, .ref (G.2.1 0)), (1, .int v1), (2, .int v2)] := hl
  have hret := hret0
  clear hret0
  unfold f_M_nextCut at hf
  have LP_30 : ∀ (v1 : Int32) (v3 : Int32) (n : Nat) (v4 : Int32) (ls : Array Slot) (H : Heap) (locs : List Loc) , lv_has ls 5 [(0, .ref (G.2.1 0)), (1, .int v1), (3, .int v3), (4, .int v4)] → Pw G.1 (tyX G) (zAM G) s (wM G S) H locs → zit (LS_M_nextCut_30 S v1 v3) n v4 = some o0 → W p l e R s m args below meth c H locs 0 0 Q (F0 m 30 ls []) := by
    intro v1 v3 n
    induction n with
    | zero => intro v4 ls H locs hl hP hf; exact zit_0 hf
    | succ n ih1 =>
      intro v4 ls H locs hl hP hf
      obtain ⟨o1, hf, hk1⟩ := zit_s hf
      have hf : L_M_nextCut_30 S v1 v3 v4 = some o1 := hf
      unfold L_M_nextCut_30 at hf
      refine lv_iload hx hb d_M_nextCut_30 (lv_at hl 3 rfl) ?_
      refine lv_iload_n hx hb d_M_nextCut_32 rfl (lv_at hl 2 rfl) ?_
      refine lv_icmp_gt hx hb d_M_nextCut_33 (tgt := 63) (by decide) (fun h1 => ?_) (fun h1 => ?_)
      · have hf := it_t h1 hf
        have hf := zup_k hf hk1
        refine lv_iconst (v := (-1 : Int32)) hx hb d_M_nextCut_63 (by decide) ?_
        exact hret _ _ _ _ _ d_M_nextCut_64 (Option.some.inj hf) hP
      · have hf := it_f h1 hf
        refine lv_aload_n hx hb d_M_nextCut_36 rfl (lv_at hl 0 rfl) ?_
        refine lv_iload_n hx hb d_M_nextCut_37 rfl (lv_at hl 1 rfl) ?_
        refine lv_iload hx hb d_M_nextCut_38 (lv_at hl 3 rfl) ?_
        obtain ⟨x2, h3, hf⟩ := bd_some hf
        refine w_callS (As := [.int v1, .int v4]) (rest := [.ref (G.2.1 0)]) C (c_M_cut l v1 v4 x2 h3) cf_M_cut tb_533 (by decide) rfl hl.1 rfl (Nat.le_of_ble_eq_true rfl) d_M_nextCut_40 ?_
        refine lv_iconst (v := (2 : Int32)) hx hb d_M_nextCut_43 (by decide) ?_
        obtain ⟨x4, h5, hf⟩ := bd_some hf
        refine w_callI (As := [.int x2, .int (2 : Int32)]) (rest := []) C (c_M_size l G S x2 (2 : Int32) x4 h5) cf_M_size tb_498 (by decide) hP (obM_0 G S) rfl hl.1 rfl (Nat.le_of_ble_eq_true rfl) d_M_nextCut_44 (fun H locs hP => ?_)
        refine lv_if_le hx hb d_M_nextCut_47 (tgt := 57) (by decide) (fun h6 => ?_) (fun h6 => ?_)
        · have hf := it_t h6 hf
          refine lv_iinc (k := 3) (v := (v4 + (1 : Int32))) (lv' := [(4, .int (v4 + (1 : Int32))), (0, .ref (G.2.1 0)), (1, .int v1), (3, .int v3)]) hx hb d_M_nextCut_57 hl rfl (ii (by decide) _) (by decide) rfl (fun ls hl => ?_)
          refine lv_goto hx hb d_M_nextCut_60 (tgt := 30) (by decide) ?_
          exact ih1 (v4 + (1 : Int32)) _ _ _ (lv_sub hl [1, 2, 3, 0] rfl) hP (znx_l hf hk1)
        · have hf := it_f h6 hf
          have hf := zup_k hf hk1
          refine lv_iload_n hx hb d_M_nextCut_50 rfl (lv_at hl 1 rfl) ?_
          refine lv_iload hx hb d_M_nextCut_51 (lv_at hl 3 rfl) ?_
          obtain ⟨x7, h8, hf⟩ := bd_some hf
          refine w_callS (As := [.int v1, .int v4]) (rest := []) C (c_M_cut l v1 v4 x7 h8) cf_M_cut tb_533 (by decide) rfl hl.1 rfl (Nat.le_of_ble_eq_true rfl) d_M_nextCut_53 ?_
          exact hret _ _ _ _ _ d_M_nextCut_56 (Option.some.inj hf) hP
  refine lv_iload_n hx hb d_M_nextCut_0 rfl (lv_at hl 2 rfl) ?_
  refine lv_iconst (v := (3 : Int32)) hx hb d_M_nextCut_1 (by decide) ?_
  refine lv_icmp_ne hx hb d_M_nextCut_2 (tgt := 14) (by decide) (fun h9 => ?_) (fun h9 => ?_)
  · have hf := it_f h9 hf
    refine lv_iload_n hx hb d_M_nextCut_14 rfl (lv_at hl 1 rfl) ?_
    obtain ⟨x10, h11, hf⟩ := bd_some hf
    refine w_callS (As := [.int v1]) (rest := []) C (c_M_depth l v1 x10 h11) cf_M_depth tb_527 (by decide) rfl hl.1 rfl (Nat.le_of_ble_eq_true rfl) d_M_nextCut_15 ?_
    refine lv_istore_n (lv' := [(3, .int x10), (0, .ref (G.2.1 0)), (1, .int v1), (2, .int v2)]) hx hb d_M_nextCut_18 rfl hl (by decide) rfl (fun ls hl => ?_)
    refine lv_aload_n hx hb d_M_nextCut_19 rfl (lv_at hl 1 rfl) ?_
    obtain ⟨x12, h13, hf⟩ := bd_some hf
    refine w_callI (As := []) (rest := []) C (c_M_here l G S x12 h13) cf_M_here tb_568 (by decide) hP (obM_0 G S) rfl hl.1 rfl (Nat.le_of_ble_eq_true rfl) d_M_nextCut_20 (fun H locs hP => ?_)
    obtain ⟨x14, h15, hf⟩ := bd_some hf
    refine w_callS (As := [.int x12]) (rest := []) C (c_M_depth l x12 x14 h15) cf_M_depth tb_527 (by decide) rfl hl.1 rfl (Nat.le_of_ble_eq_true rfl) d_M_nextCut_23 ?_
    refine lv_iconst (v := (1 : Int32)) hx hb d_M_nextCut_26 (by decide) ?_
    refine lv_iadd hx hb d_M_nextCut_27 ?_
    refine lv_istore (lv' := [(4, .int (x14 + (1 : Int32))), (3, .int x10), (0, .ref (G.2.1 0)), (1, .int v1), (2, .int v2)]) hx hb d_M_nextCut_28 hl (by decide) rfl (fun ls hl => ?_)
    exact LP_30 v1 x10 64 (x14 + (1 : Int32)) _ _ _ (lv_sub hl [2, 3, 1, 0] rfl) hP hf
  · have hf := it_t h9 hf
    refine lv_iload_n hx hb d_M_nextCut_5 rfl (lv_at hl 1 rfl) ?_
    obtain ⟨x16, h17, hf⟩ := bd_some hf
    refine w_callS (As := [.int v1]) (rest := []) C (c_M_depth l v1 x16 h17) cf_M_depth tb_527 (by decide) rfl hl.1 rfl (Nat.le_of_ble_eq_true rfl) d_M_nextCut_6 ?_
    refine lv_iconst (v := (1 : Int32)) hx hb d_M_nextCut_9 (by decide) ?_
    refine lv_isub hx hb d_M_nextCut_10 ?_
    refine lv_goto hx hb d_M_nextCut_11 (tgt := 18) (by decide) ?_
    refine lv_istore_n (lv' := [(3, .int (x16 - (1 : Int32))), (0, .ref (G.2.1 0)), (1, .int v1), (2, .int v2)]) hx hb d_M_nextCut_18 rfl hl (by decide) rfl (fun ls hl => ?_)
    refine lv_aload_n hx hb d_M_nextCut_19 rfl (lv_at hl 1 rfl) ?_
    obtain ⟨x18, h19, hf⟩ := bd_some hf
    refine w_callI (As := []) (rest := []) C (c_M_here l G S x18 h19) cf_M_here tb_568 (by decide) hP (obM_0 G S) rfl hl.1 rfl (Nat.le_of_ble_eq_true rfl) d_M_nextCut_20 (fun H locs hP => ?_)
    obtain ⟨x20, h21, hf⟩ := bd_some hf
    refine w_callS (As := [.int x18]) (rest := []) C (c_M_depth l x18 x20 h21) cf_M_depth tb_527 (by decide) rfl hl.1 rfl (Nat.le_of_ble_eq_true rfl) d_M_nextCut_23 ?_
    refine lv_iconst (v := (1 : Int32)) hx hb d_M_nextCut_26 (by decide) ?_
    refine lv_iadd hx hb d_M_nextCut_27 ?_
    refine lv_istore (lv' := [(4, .int (x20 + (1 : Int32))), (3, .int (x16 - (1 : Int32))), (0, .ref (G.2.1 0)), (1, .int v1), (2, .int v2)]) hx hb d_M_nextCut_28 hl (by decide) rfl (fun ls hl => ?_)
    exact LP_30 v1 (x16 - (1 : Int32)) 64 (x20 + (1 : Int32)) _ _ _ (lv_sub hl [2, 3, 1, 0] rfl) hP hf
def f_M_reason (S : MSt)  : Option Int32 := some (S.1 6)
set_option maxHeartbeats 4000000 in
set_option maxRecDepth 100000 in
theorem c_M_reason (l : Launch) (G : XG) (S : MSt)  (o0 : Int32) (hf : f_M_reason S = some o0) : MetI l y_M_reason b_M_reason 1 (some .int) 0 [.ref (G.2.1 0)] G.1 (tyX G) (zAM G) (wM G S) o0 (wM G S) := by
  refine mkI (by decide) (Nat.le_of_ble_eq_true rfl) ?_
  intro p e R s m args below meth c ls Q C hl hP hret0
  replace C : Cw p m c b_M_reason 1 s args "TrustResolverModel" R 0 := C
  have hx := C.1
  have hb := C.2.1
  replace hl : lv_has ls 1 [(0, .ref (G.2.1 0))] := hl
  have hret := hret0
  clear hret0
  unfold f_M_reason at hf
  refine lv_aload_n hx hb d_M_reason_0 rfl (lv_at hl 0 rfl) ?_
  refine w_get C hP (fdM_0_reason G S) tb_435 d_M_reason_1 ?_
  exact hret _ _ _ _ _ d_M_reason_4 (Option.some.inj hf) hP
def J_M_answer_43 (S : MSt) (v1 : Int32) (s0 : Int32) : Option Int32 := (if s0 = (0 : Int32) then some (0 : Int32) else Option.bind (f_M_dataAt S (S.1 7) (S.1 8) v1) (fun x2 => some x2))
def J_M_answer_18 (S : MSt) (v1 : Int32)  : Option Int32 := (if v1 < (0 : Int32) then J_M_answer_43 S v1 (0 : Int32) else Option.bind (f_M_size S (S.1 7) (S.1 8)) (fun x5 => (if x5 ≤ v1 then J_M_answer_43 S v1 (0 : Int32) else J_M_answer_43 S v1 (1 : Int32))))
def f_M_answer (S : MSt) (v1 : Int32) : Option Int32 := (if (S.1 6) = (8 : Int32) then J_M_answer_18 S v1 else (if (S.1 6) = (9 : Int32) then J_M_answer_18 S v1 else J_M_answer_43 S v1 (0 : Int32)))
set_option maxHeartbeats 4000000 in
set_option maxRecDepth 100000 in
theorem c_M_answer (l : Launch) (G : XG) (S : MSt) (v1 : Int32) (o0 : Int32) (hf : f_M_answer S v1 = some o0) : MetI l y_M_answer b_M_answer 3 (some .int) 1 [.ref (G.2.1 0), .int v1] G.1 (tyX G) (zAM G) (wM G S) o0 (wM G S) := by
  refine mkI (by decide) (Nat.le_of_ble_eq_true rfl) ?_
  intro p e R s m args below meth c ls Q C hl hP hret0
  replace C : Cw p m c b_M_answer 3 s args "TrustResolverModel" R 1 := C
  have hx := C.1
  have hb := C.2.1
  replace hl : lv_has ls 3 [(0, .ref (G.2.1 0)), (1, .int v1)] := hl
  have hret := hret0
  clear hret0
  unfold f_M_answer at hf
  have JP_43 : ∀ (v1 : Int32) (s0 : Int32) (ls : Array Slot) (H : Heap) (locs : List Loc) , lv_has ls 3 [(0, .ref (G.2.1 0)), (1, .int v1)] → Pw G.1 (tyX G) (zAM G) s (wM G S) H locs → J_M_answer_43 S v1 s0 = some o0 → W p l e R s m args below meth c H locs 0 0 Q (F0 m 43 ls [.int s0]) := by
    intro v1 s0 ls H locs hl hP hf
    unfold J_M_answer_43 at hf
    refine lv_istore_n (lv' := [(2, .int s0), (0, .ref (G.2.1 0)), (1, .int v1)]) hx hb d_M_answer_43 rfl hl (by decide) rfl (fun ls hl => ?_)
    refine lv_iload_n hx hb d_M_answer_44 rfl (lv_at hl 0 rfl) ?_
    refine lv_if_eq hx hb d_M_answer_45 (tgt := 64) (by decide) (fun h1 => ?_) (fun h1 => ?_)
    · have hf := it_t h1 hf
      refine lv_iconst (v := (0 : Int32)) hx hb d_M_answer_64 (by decide) ?_
      exact hret _ _ _ _ _ d_M_answer_65 (Option.some.inj hf) hP
    · have hf := it_f h1 hf
      refine lv_aload_n hx hb d_M_answer_48 rfl (lv_at hl 1 rfl) ?_
      refine lv_aload_n hx hb d_M_answer_49 rfl (lv_at hl 1 rfl) ?_
      refine w_get C hP (fdM_0_askedName G S) tb_436 d_M_answer_50 ?_
      refine lv_aload_n hx hb d_M_answer_53 rfl (lv_at hl 1 rfl) ?_
      refine w_get C hP (fdM_0_askedType G S) tb_437 d_M_answer_54 ?_
      refine lv_iload_n hx hb d_M_answer_57 rfl (lv_at hl 2 rfl) ?_
      obtain ⟨x2, h3, hf⟩ := bd_some hf
      refine w_callI (As := [.int (S.1 7), .int (S.1 8), .int v1]) (rest := []) C (c_M_dataAt l G S (S.1 7) (S.1 8) v1 x2 h3) cf_M_dataAt tb_539 (by decide) hP (obM_0 G S) rfl hl.1 rfl (Nat.le_of_ble_eq_true rfl) d_M_answer_58 (fun H locs hP => ?_)
      refine lv_goto hx hb d_M_answer_61 (tgt := 65) (by decide) ?_
      exact hret _ _ _ _ _ d_M_answer_65 (Option.some.inj hf) hP
  have JP_18 : ∀ (v1 : Int32)  (ls : Array Slot) (H : Heap) (locs : List Loc) , lv_has ls 3 [(0, .ref (G.2.1 0)), (1, .int v1)] → Pw G.1 (tyX G) (zAM G) s (wM G S) H locs → J_M_answer_18 S v1 = some o0 → W p l e R s m args below meth c H locs 0 0 Q (F0 m 18 ls []) := by
    intro v1 ls H locs hl hP hf
    unfold J_M_answer_18 at hf
    refine lv_iload_n hx hb d_M_answer_18 rfl (lv_at hl 1 rfl) ?_
    refine lv_if_lt hx hb d_M_answer_19 (tgt := 42) (by decide) (fun h4 => ?_) (fun h4 => ?_)
    · have hf := it_t h4 hf
      refine lv_iconst (v := (0 : Int32)) hx hb d_M_answer_42 (by decide) ?_
      exact JP_43 v1 (0 : Int32) _ _ _ (lv_sub hl [0, 1] rfl) hP hf
    · have hf := it_f h4 hf
      refine lv_iload_n hx hb d_M_answer_22 rfl (lv_at hl 1 rfl) ?_
      refine lv_aload_n hx hb d_M_answer_23 rfl (lv_at hl 0 rfl) ?_
      refine lv_aload_n hx hb d_M_answer_24 rfl (lv_at hl 0 rfl) ?_
      refine w_get C hP (fdM_0_askedName G S) tb_436 d_M_answer_25 ?_
      refine lv_aload_n hx hb d_M_answer_28 rfl (lv_at hl 0 rfl) ?_
      refine w_get C hP (fdM_0_askedType G S) tb_437 d_M_answer_29 ?_
      obtain ⟨x5, h6, hf⟩ := bd_some hf
      refine w_callI (As := [.int (S.1 7), .int (S.1 8)]) (rest := [.int v1]) C (c_M_size l G S (S.1 7) (S.1 8) x5 h6) cf_M_size tb_498 (by decide) hP (obM_0 G S) rfl hl.1 rfl (Nat.le_of_ble_eq_true rfl) d_M_answer_32 (fun H locs hP => ?_)
      refine lv_icmp_ge hx hb d_M_answer_35 (tgt := 42) (by decide) (fun h7 => ?_) (fun h7 => ?_)
      · have hf := it_t h7 hf
        refine lv_iconst (v := (0 : Int32)) hx hb d_M_answer_42 (by decide) ?_
        exact JP_43 v1 (0 : Int32) _ _ _ (lv_sub hl [0, 1] rfl) hP hf
      · have hf := it_f h7 hf
        refine lv_iconst (v := (1 : Int32)) hx hb d_M_answer_38 (by decide) ?_
        refine lv_goto hx hb d_M_answer_39 (tgt := 43) (by decide) ?_
        exact JP_43 v1 (1 : Int32) _ _ _ (lv_sub hl [0, 1] rfl) hP hf
  refine lv_aload_n hx hb d_M_answer_0 rfl (lv_at hl 0 rfl) ?_
  refine w_get C hP (fdM_0_reason G S) tb_435 d_M_answer_1 ?_
  refine lv_bipush (v := (8 : Int32)) hx hb d_M_answer_4 (by decide) ?_
  refine lv_icmp_eq hx hb d_M_answer_6 (tgt := 18) (by decide) (fun h8 => ?_) (fun h8 => ?_)
  · have hf := it_t h8 hf
    exact JP_18 v1 _ _ _ (lv_sub hl [0, 1] rfl) hP hf
  · have hf := it_f h8 hf
    refine lv_aload_n hx hb d_M_answer_9 rfl (lv_at hl 0 rfl) ?_
    refine w_get C hP (fdM_0_reason G S) tb_435 d_M_answer_10 ?_
    refine lv_bipush (v := (9 : Int32)) hx hb d_M_answer_13 (by decide) ?_
    refine lv_icmp_ne hx hb d_M_answer_15 (tgt := 42) (by decide) (fun h9 => ?_) (fun h9 => ?_)
    · have hf := it_f h9 hf
      refine lv_iconst (v := (0 : Int32)) hx hb d_M_answer_42 (by decide) ?_
      exact JP_43 v1 (0 : Int32) _ _ _ (lv_sub hl [0, 1] rfl) hP hf
    · have hf := it_t h9 hf
      exact JP_18 v1 _ _ _ (lv_sub hl [0, 1] rfl) hP hf
def f_M_zone (S : MSt) (v1 : Int32) : Option Int32 := (if v1 < (0 : Int32) then some (-1 : Int32) else (if (S.1 9) ≤ v1 then some (-1 : Int32) else zgd (zin v1 5) (some (S.2.1 13 (Int32.toNatClampNeg v1)))))
set_option maxHeartbeats 4000000 in
set_option maxRecDepth 100000 in
theorem c_M_zone (l : Launch) (G : XG) (S : MSt) (v1 : Int32) (o0 : Int32) (hf : f_M_zone S v1 = some o0) : MetI l y_M_zone b_M_zone 2 (some .int) 0 [.ref (G.2.1 0), .int v1] G.1 (tyX G) (zAM G) (wM G S) o0 (wM G S) := by
  refine mkI (by decide) (Nat.le_of_ble_eq_true rfl) ?_
  intro p e R s m args below meth c ls Q C hl hP hret0
  replace C : Cw p m c b_M_zone 2 s args "TrustResolverModel" R 0 := C
  have hx := C.1
  have hb := C.2.1
  replace hl : lv_has ls 2 [(0, .ref (G.2.1 0)), (1, .int v1)] := hl
  have hret := hret0
  clear hret0
  unfold f_M_zone at hf
  refine lv_iload_n hx hb d_M_zone_0 rfl (lv_at hl 1 rfl) ?_
  refine lv_if_lt hx hb d_M_zone_1 (tgt := 21) (by decide) (fun h1 => ?_) (fun h1 => ?_)
  · have hf := it_t h1 hf
    refine lv_iconst (v := (-1 : Int32)) hx hb d_M_zone_21 (by decide) ?_
    exact hret _ _ _ _ _ d_M_zone_22 (Option.some.inj hf) hP
  · have hf := it_f h1 hf
    refine lv_iload_n hx hb d_M_zone_4 rfl (lv_at hl 1 rfl) ?_
    refine lv_aload_n hx hb d_M_zone_5 rfl (lv_at hl 0 rfl) ?_
    refine w_get C hP (fdM_0_zones G S) tb_438 d_M_zone_6 ?_
    refine lv_icmp_ge hx hb d_M_zone_9 (tgt := 21) (by decide) (fun h2 => ?_) (fun h2 => ?_)
    · have hf := it_t h2 hf
      refine lv_iconst (v := (-1 : Int32)) hx hb d_M_zone_21 (by decide) ?_
      exact hret _ _ _ _ _ d_M_zone_22 (Option.some.inj hf) hP
    · have hf := it_f h2 hf
      refine lv_aload_n hx hb d_M_zone_12 rfl (lv_at hl 0 rfl) ?_
      refine w_get C hP (fdM_0_zone G S) tb_439 d_M_zone_13 ?_
      refine lv_iload_n hx hb d_M_zone_16 rfl (lv_at hl 1 rfl) ?_
      obtain ⟨h3, hf⟩ := zgd_some hf
      refine w_iald (t0 := 0) C hP (arM_13 G S) rfl h3 d_M_zone_17 ?_
      refine lv_goto hx hb d_M_zone_18 (tgt := 22) (by decide) ?_
      exact hret _ _ _ _ _ d_M_zone_22 (Option.some.inj hf) hP
def f_M_figure (S : MSt) (v1 : Int32) : Option Int32 := (if v1 = (0 : Int32) then some (S.1 0) else (if v1 = (1 : Int32) then some (S.1 3) else (if v1 = (2 : Int32) then some (S.1 5) else (if v1 = (3 : Int32) then some (S.1 10) else some (-1 : Int32)))))
set_option maxHeartbeats 4000000 in
set_option maxRecDepth 100000 in
theorem c_M_figure (l : Launch) (G : XG) (S : MSt) (v1 : Int32) (o0 : Int32) (hf : f_M_figure S v1 = some o0) : MetI l y_M_figure b_M_figure 2 (some .int) 0 [.ref (G.2.1 0), .int v1] G.1 (tyX G) (zAM G) (wM G S) o0 (wM G S) := by
  refine mkI (by decide) (Nat.le_of_ble_eq_true rfl) ?_
  intro p e R s m args below meth c ls Q C hl hP hret0
  replace C : Cw p m c b_M_figure 2 s args "TrustResolverModel" R 0 := C
  have hx := C.1
  have hb := C.2.1
  replace hl : lv_has ls 2 [(0, .ref (G.2.1 0)), (1, .int v1)] := hl
  have hret := hret0
  clear hret0
  unfold f_M_figure at hf
  refine lv_iload_n hx hb d_M_figure_0 rfl (lv_at hl 1 rfl) ?_
  refine lv_if_ne hx hb d_M_figure_1 (tgt := 11) (by decide) (fun h1 => ?_) (fun h1 => ?_)
  · have hf := it_f h1 hf
    refine lv_iload_n hx hb d_M_figure_11 rfl (lv_at hl 1 rfl) ?_
    refine lv_iconst (v := (1 : Int32)) hx hb d_M_figure_12 (by decide) ?_
    refine lv_icmp_ne hx hb d_M_figure_13 (tgt := 23) (by decide) (fun h2 => ?_) (fun h2 => ?_)
    · have hf := it_f h2 hf
      refine lv_iload_n hx hb d_M_figure_23 rfl (lv_at hl 1 rfl) ?_
      refine lv_iconst (v := (2 : Int32)) hx hb d_M_figure_24 (by decide) ?_
      refine lv_icmp_ne hx hb d_M_figure_25 (tgt := 35) (by decide) (fun h3 => ?_) (fun h3 => ?_)
      · have hf := it_f h3 hf
        refine lv_iload_n hx hb d_M_figure_35 rfl (lv_at hl 1 rfl) ?_
        refine lv_iconst (v := (3 : Int32)) hx hb d_M_figure_36 (by decide) ?_
        refine lv_icmp_ne hx hb d_M_figure_37 (tgt := 47) (by decide) (fun h4 => ?_) (fun h4 => ?_)
        · have hf := it_f h4 hf
          refine lv_iconst (v := (-1 : Int32)) hx hb d_M_figure_47 (by decide) ?_
          exact hret _ _ _ _ _ d_M_figure_48 (Option.some.inj hf) hP
        · have hf := it_t h4 hf
          refine lv_aload_n hx hb d_M_figure_40 rfl (lv_at hl 0 rfl) ?_
          refine w_get C hP (fdM_0_counted G S) tb_440 d_M_figure_41 ?_
          refine lv_goto hx hb d_M_figure_44 (tgt := 48) (by decide) ?_
          exact hret _ _ _ _ _ d_M_figure_48 (Option.some.inj hf) hP
      · have hf := it_t h3 hf
        refine lv_aload_n hx hb d_M_figure_28 rfl (lv_at hl 0 rfl) ?_
        refine w_get C hP (fdM_0_time G S) tb_434 d_M_figure_29 ?_
        refine lv_goto hx hb d_M_figure_32 (tgt := 48) (by decide) ?_
        exact hret _ _ _ _ _ d_M_figure_48 (Option.some.inj hf) hP
    · have hf := it_t h2 hf
      refine lv_aload_n hx hb d_M_figure_16 rfl (lv_at hl 0 rfl) ?_
      refine w_get C hP (fdM_0_signatures G S) tb_422 d_M_figure_17 ?_
      refine lv_goto hx hb d_M_figure_20 (tgt := 48) (by decide) ?_
      exact hret _ _ _ _ _ d_M_figure_48 (Option.some.inj hf) hP
  · have hf := it_t h1 hf
    refine lv_aload_n hx hb d_M_figure_4 rfl (lv_at hl 0 rfl) ?_
    refine w_get C hP (fdM_0_records G S) tb_416 d_M_figure_5 ?_
    refine lv_goto hx hb d_M_figure_8 (tgt := 48) (by decide) ?_
    exact hret _ _ _ _ _ d_M_figure_48 (Option.some.inj hf) hP
def f_M_above (S : MSt) (v1 : Int32) (v2 : Int32) : Option Int32 := Option.bind (f_M_isName v1) (fun x1 => (if x1 = (0 : Int32) then some (-2 : Int32) else Option.bind (f_M_isName v2) (fun x4 => (if x4 = (0 : Int32) then some (-2 : Int32) else (if v1 = v2 then some (0 : Int32) else Option.bind (f_M_isAbove v1 v2) (fun x8 => (if x8 = (0 : Int32) then some (1 : Int32) else some (-1 : Int32))))))))
set_option maxHeartbeats 4000000 in
set_option maxRecDepth 100000 in
theorem c_M_above (l : Launch) (G : XG) (S : MSt) (v1 : Int32) (v2 : Int32) (o0 : Int32) (hf : f_M_above S v1 v2 = some o0) : MetI l y_M_above b_M_above 3 (some .int) 3 [.ref (G.2.1 0), .int v1, .int v2] G.1 (tyX G) (zAM G) (wM G S) o0 (wM G S) := by
  refine mkI (by decide) (Nat.le_of_ble_eq_true rfl) ?_
  intro p e R s m args below meth c ls Q C hl hP hret0
  replace C : Cw p m c b_M_above 3 s args "TrustResolverModel" R 3 := C
  have hx := C.1
  have hb := C.2.1
  replace hl : lv_has ls 3 [(0, .ref (G.2.1 0)), (1, .int v1), (2, .int v2)] := hl
  have hret := hret0
  clear hret0
  unfold f_M_above at hf
  refine lv_iload_n hx hb d_M_above_0 rfl (lv_at hl 1 rfl) ?_
  obtain ⟨x1, h2, hf⟩ := bd_some hf
  refine w_callS (As := [.int v1]) (rest := []) C (c_M_isName l v1 x1 h2) cf_M_isName tb_476 (by decide) rfl hl.1 rfl (Nat.le_of_ble_eq_true rfl) d_M_above_1 ?_
  refine lv_if_eq hx hb d_M_above_4 (tgt := 14) (by decide) (fun h3 => ?_) (fun h3 => ?_)
  · have hf := it_t h3 hf
    refine lv_bipush (v := (-2 : Int32)) hx hb d_M_above_14 (by decide) ?_
    refine lv_goto hx hb d_M_above_16 (tgt := 41) (by decide) ?_
    exact hret _ _ _ _ _ d_M_above_41 (Option.some.inj hf) hP
  · have hf := it_f h3 hf
    refine lv_iload_n hx hb d_M_above_7 rfl (lv_at hl 2 rfl) ?_
    obtain ⟨x4, h5, hf⟩ := bd_some hf
    refine w_callS (As := [.int v2]) (rest := []) C (c_M_isName l v2 x4 h5) cf_M_isName tb_476 (by decide) rfl hl.1 rfl (Nat.le_of_ble_eq_true rfl) d_M_above_8 ?_
    refine lv_if_ne hx hb d_M_above_11 (tgt := 19) (by decide) (fun h6 => ?_) (fun h6 => ?_)
    · have hf := it_f h6 hf
      refine lv_iload_n hx hb d_M_above_19 rfl (lv_at hl 1 rfl) ?_
      refine lv_iload_n hx hb d_M_above_20 rfl (lv_at hl 2 rfl) ?_
      refine lv_icmp_ne hx hb d_M_above_21 (tgt := 28) (by decide) (fun h7 => ?_) (fun h7 => ?_)
      · have hf := it_f h7 hf
        refine lv_iload_n hx hb d_M_above_28 rfl (lv_at hl 1 rfl) ?_
        refine lv_iload_n hx hb d_M_above_29 rfl (lv_at hl 2 rfl) ?_
        obtain ⟨x8, h9, hf⟩ := bd_some hf
        refine w_callS (As := [.int v1, .int v2]) (rest := []) C (c_M_isAbove l v1 v2 x8 h9) cf_M_isAbove tb_562 (by decide) rfl hl.1 rfl (Nat.le_of_ble_eq_true rfl) d_M_above_30 ?_
        refine lv_if_eq hx hb d_M_above_33 (tgt := 40) (by decide) (fun h10 => ?_) (fun h10 => ?_)
        · have hf := it_t h10 hf
          refine lv_iconst (v := (1 : Int32)) hx hb d_M_above_40 (by decide) ?_
          exact hret _ _ _ _ _ d_M_above_41 (Option.some.inj hf) hP
        · have hf := it_f h10 hf
          refine lv_iconst (v := (-1 : Int32)) hx hb d_M_above_36 (by decide) ?_
          refine lv_goto hx hb d_M_above_37 (tgt := 41) (by decide) ?_
          exact hret _ _ _ _ _ d_M_above_41 (Option.some.inj hf) hP
      · have hf := it_t h7 hf
        refine lv_iconst (v := (0 : Int32)) hx hb d_M_above_24 (by decide) ?_
        refine lv_goto hx hb d_M_above_25 (tgt := 41) (by decide) ?_
        exact hret _ _ _ _ _ d_M_above_41 (Option.some.inj hf) hP
    · have hf := it_t h6 hf
      refine lv_bipush (v := (-2 : Int32)) hx hb d_M_above_14 (by decide) ?_
      refine lv_goto hx hb d_M_above_16 (tgt := 41) (by decide) ?_
      exact hret _ _ _ _ _ d_M_above_41 (Option.some.inj hf) hP
