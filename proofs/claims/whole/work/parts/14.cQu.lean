def f_Qu_enter (S : XSt) (v1 : Int32) : Option XSt := znm (zpS S 7 v1) (fun S1 => znm (zpS S1 10 (0 : Int32)) (fun S3 => (if (5 : Int32) ≤ (S3.1 6) then some S3 else zgd (zin (S3.1 6) 5) (znm (zpA S3 16 (S3.1 6) v1) (fun S7 => znm (zpS S7 6 ((S7.1 6) + (1 : Int32))) (fun S9 => some S9))))))
set_option maxHeartbeats 4000000 in
set_option maxRecDepth 100000 in
theorem c_Qu_enter (l : Launch) (G : XG) (S : XSt) (v1 : Int32) (o0 : XSt) (hf : f_Qu_enter S v1 = some o0) : MetV l y_Qu_enter b_Qu_enter 2 0 [.ref (G.2.1 18), .int v1] G.1 (tyX G) (zAX G) (wX G S) (wX G o0) := by
  refine mkV (by decide) (Nat.le_of_ble_eq_true rfl) ?_
  intro p e R s m args below meth c ls Q C hl hP hret0
  replace C : Cw p m c b_Qu_enter 2 s args "TrustResolver$Question" R 0 := C
  have hx := C.1
  have hb := C.2.1
  replace hl : lv_has ls 2 [(0, .ref (G.2.1 18)), (1, .int v1)] := hl
  have hret : ∀ (pc : Nat) (ls : Array Slot) (H : Heap) (locs : List Loc) (S' : XSt), decode b_Qu_enter pc = .ok (.return_, 1) → S' = o0 → Pw G.1 (tyX G) (zAX G) s (wX G S') H locs → W p l e R s m args below meth c H locs 0 0 Q (F0 m pc ls []) := fun pc ls H locs S' hd he hP => hret0 pc ls H locs hd (by rw [← he]; exact hP)
  clear hret0
  unfold f_Qu_enter at hf
  refine lv_aload_n hx hb d_Qu_enter_0 rfl (lv_at hl 0 rfl) ?_
  refine lv_iload_n hx hb d_Qu_enter_1 rfl (lv_at hl 1 rfl) ?_
  refine w_put C hP (ptX_18_zone G S v1) tb_101 d_Qu_enter_2 (fun H locs hP => ?_)
  obtain ⟨S1, e2, hf⟩ := znm_some hf
  rw [← e2] at hP
  refine lv_aload_n hx hb d_Qu_enter_5 rfl (lv_at hl 0 rfl) ?_
  refine lv_iconst (v := (0 : Int32)) hx hb d_Qu_enter_6 (by decide) ?_
  refine w_put C hP (ptX_18_countedKeys G S1 (0 : Int32)) tb_104 d_Qu_enter_7 (fun H locs hP => ?_)
  obtain ⟨S3, e4, hf⟩ := znm_some hf
  rw [← e4] at hP
  refine lv_aload_n hx hb d_Qu_enter_10 rfl (lv_at hl 0 rfl) ?_
  refine w_get C hP (fdX_18_zoneCount G S3) tb_100 d_Qu_enter_11 ?_
  refine lv_aload_n hx hb d_Qu_enter_14 rfl (lv_at hl 0 rfl) ?_
  refine w_get C hP (fdX_18_zones G S3) tb_99 d_Qu_enter_15 ?_
  refine w_alen (t0 := 0) (v := (5 : Int32)) C hP (arX_16 G S3) rfl (by decide) d_Qu_enter_18 ?_
  refine lv_icmp_ge hx hb d_Qu_enter_19 (tgt := 42) (by decide) (fun h5 => ?_) (fun h5 => ?_)
  · have hf := it_t h5 hf
    exact hret _ _ _ _ _ d_Qu_enter_42 (Option.some.inj hf) hP
  · have hf := it_f h5 hf
    refine lv_aload_n hx hb d_Qu_enter_22 rfl (lv_at hl 0 rfl) ?_
    refine w_get C hP (fdX_18_zones G S3) tb_99 d_Qu_enter_23 ?_
    refine lv_aload_n hx hb d_Qu_enter_26 rfl (lv_at hl 0 rfl) ?_
    refine w_get C hP (fdX_18_zoneCount G S3) tb_100 d_Qu_enter_27 ?_
    refine lv_iload_n hx hb d_Qu_enter_30 rfl (lv_at hl 1 rfl) ?_
    obtain ⟨h6, hf⟩ := zgd_some hf
    refine w_iast (t0 := 0) C hP (stX_16 G S3 (S3.1 6) v1) rfl h6 d_Qu_enter_31 (fun H locs hP => ?_)
    obtain ⟨S7, e8, hf⟩ := znm_some hf
    rw [← e8] at hP
    refine lv_aload_n hx hb d_Qu_enter_32 rfl (lv_at hl 0 rfl) ?_
    refine lv_dup hx hb d_Qu_enter_33 rfl ?_
    refine w_get C hP (fdX_18_zoneCount G S7) tb_100 d_Qu_enter_34 ?_
    refine lv_iconst (v := (1 : Int32)) hx hb d_Qu_enter_37 (by decide) ?_
    refine lv_iadd hx hb d_Qu_enter_38 ?_
    refine w_put C hP (ptX_18_zoneCount G S7 ((S7.1 6) + (1 : Int32))) tb_100 d_Qu_enter_39 (fun H locs hP => ?_)
    obtain ⟨S9, e10, hf⟩ := znm_some hf
    rw [← e10] at hP
    exact hret _ _ _ _ _ d_Qu_enter_42 (Option.some.inj hf) hP
def L_Qu_takeSealedKeys_28 (v2 : Int32) (v3 : Int32) (v4 : Int32) (S : XSt) : Option ((Int32 × XSt) ⊕ XSt) := (if v3 ≤ v4 then zup (some S) else Option.bind (f_Re_dataAt S (v2 + v4)) (fun x2 => Option.bind (f_Di_sealOf (S.1 7) x2) (fun x4 => Option.bind (f_Nu_has_d S x4) (fun x6 => (if x6 = (0 : Int32) then some (Sum.inl ((v4 + (1 : Int32)), S)) else Option.bind (f_Nu_put_k S x2) (fun x9 => some (Sum.inl ((v4 + (1 : Int32)), x9))))))))
def LS_Qu_takeSealedKeys_28 (v2 : Int32) (v3 : Int32) (v : (Int32 × XSt)) : Option ((Int32 × XSt) ⊕ XSt) := L_Qu_takeSealedKeys_28 v2 v3 v.1 v.2
def f_Qu_takeSealedKeys (S : XSt) (v1 : Int32) : Option XSt := Option.bind (f_Re_startOf S v1) (fun x11 => Option.bind (f_Re_sizeOf S v1) (fun x13 => Option.bind (f_Nu_clear_k S) (fun x15 => zit (LS_Qu_takeSealedKeys_28 x11 x13) 64 ((0 : Int32), x15))))
set_option maxHeartbeats 4000000 in
set_option maxRecDepth 100000 in
theorem c_Qu_takeSealedKeys (l : Launch) (G : XG) (S : XSt) (v1 : Int32) (o0 : XSt) (hf : f_Qu_takeSealedKeys S v1 = some o0) : MetV l y_Qu_takeSealedKeys b_Qu_takeSealedKeys 6 2 [.ref (G.2.1 18), .int v1] G.1 (tyX G) (zAX G) (wX G S) (wX G o0) := by
  refine mkV (by decide) (Nat.le_of_ble_eq_true rfl) ?_
  intro p e R s m args below meth c ls Q C hl hP hret0
  replace C : Cw p m c b_Qu_takeSealedKeys 6 s args "TrustResolver$Question" R 2 := C
  have hx := C.1
  have hb := C.2.1
  replace hl : lv_has ls 6 [(0, .ref (G.2.1 18)), (1, .int v1)] := hl
  have hret : ∀ (pc : Nat) (ls : Array Slot) (H : Heap) (locs : List Loc) (S' : XSt), decode b_Qu_takeSealedKeys pc = .ok (.return_, 1) → S' = o0 → Pw G.1 (tyX G) (zAX G) s (wX G S') H locs → W p l e R s m args below meth c H locs 0 0 Q (F0 m pc ls []) := fun pc ls H locs S' hd he hP => hret0 pc ls H locs hd (by rw [← he]; exact hP)
  clear hret0
  unfold f_Qu_takeSealedKeys at hf
  have LP_28 : ∀ (v2 : Int32) (v3 : Int32) (n : Nat) (v4 : Int32) (S : XSt) (ls : Array Slot) (H : Heap) (locs : List Loc) , lv_has ls 6 [(0, .ref (G.2.1 18)), (2, .int v2), (3, .int v3), (4, .int v4)] → Pw G.1 (tyX G) (zAX G) s (wX G S) H locs → zit (LS_Qu_takeSealedKeys_28 v2 v3) n (v4, S) = some o0 → W p l e R s m args below meth c H locs 0 0 Q (F0 m 28 ls []) := by
    intro v2 v3 n
    induction n with
    | zero => intro v4 S ls H locs hl hP hf; exact zit_0 hf
    | succ n ih1 =>
      intro v4 S ls H locs hl hP hf
      obtain ⟨o1, hf, hk1⟩ := zit_s hf
      have hf : L_Qu_takeSealedKeys_28 v2 v3 v4 S = some o1 := hf
      unfold L_Qu_takeSealedKeys_28 at hf
      refine lv_iload hx hb d_Qu_takeSealedKeys_28 (lv_at hl 3 rfl) ?_
      refine lv_iload_n hx hb d_Qu_takeSealedKeys_30 rfl (lv_at hl 2 rfl) ?_
      refine lv_icmp_ge hx hb d_Qu_takeSealedKeys_31 (tgt := 81) (by decide) (fun h1 => ?_) (fun h1 => ?_)
      · have hf := it_t h1 hf
        have hf := zup_k hf hk1
        exact hret _ _ _ _ _ d_Qu_takeSealedKeys_81 (Option.some.inj hf) hP
      · have hf := it_f h1 hf
        refine lv_aload_n hx hb d_Qu_takeSealedKeys_34 rfl (lv_at hl 0 rfl) ?_
        refine w_get C hP (fdX_18_records G S) tb_94 d_Qu_takeSealedKeys_35 ?_
        refine lv_iload_n hx hb d_Qu_takeSealedKeys_38 rfl (lv_at hl 1 rfl) ?_
        refine lv_iload hx hb d_Qu_takeSealedKeys_39 (lv_at hl 3 rfl) ?_
        refine lv_iadd hx hb d_Qu_takeSealedKeys_41 ?_
        obtain ⟨x2, h3, hf⟩ := bd_some hf
        refine w_callI (As := [.int (v2 + v4)]) (rest := []) C (c_Re_dataAt l G S (v2 + v4) x2 h3) cf_Re_dataAt tb_306 (by decide) hP (obX_1 G S) rfl hl.1 rfl (Nat.le_of_ble_eq_true rfl) d_Qu_takeSealedKeys_42 (fun H locs hP => ?_)
        refine lv_istore (lv' := [(5, .int x2), (0, .ref (G.2.1 18)), (2, .int v2), (3, .int v3), (4, .int v4)]) hx hb d_Qu_takeSealedKeys_45 hl (by decide) rfl (fun ls hl => ?_)
        refine lv_aload_n hx hb d_Qu_takeSealedKeys_47 rfl (lv_at hl 1 rfl) ?_
        refine w_get C hP (fdX_18_digests G S) tb_97 d_Qu_takeSealedKeys_48 ?_
        refine lv_aload_n hx hb d_Qu_takeSealedKeys_51 rfl (lv_at hl 1 rfl) ?_
        refine w_get C hP (fdX_18_zone G S) tb_101 d_Qu_takeSealedKeys_52 ?_
        refine lv_iload hx hb d_Qu_takeSealedKeys_55 (lv_at hl 0 rfl) ?_
        obtain ⟨x4, h5, hf⟩ := bd_some hf
        refine w_callS (As := [.int (S.1 7), .int x2]) (rest := [.ref (G.2.1 19)]) C (c_Di_sealOf l (S.1 7) x2 x4 h5) cf_Di_sealOf tb_307 (by decide) rfl hl.1 rfl (Nat.le_of_ble_eq_true rfl) d_Qu_takeSealedKeys_57 ?_
        obtain ⟨x6, h7, hf⟩ := bd_some hf
        refine w_callI (As := [.int x4]) (rest := []) C (c_Nu_has_d l G S x4 x6 h7) cf_Nu_has tb_308 (by decide) hP (obX_19 G S) rfl hl.1 rfl (Nat.le_of_ble_eq_true rfl) d_Qu_takeSealedKeys_60 (fun H locs hP => ?_)
        refine lv_if_eq hx hb d_Qu_takeSealedKeys_63 (tgt := 75) (by decide) (fun h8 => ?_) (fun h8 => ?_)
        · have hf := it_t h8 hf
          refine lv_iinc (k := 4) (v := (v4 + (1 : Int32))) (lv' := [(4, .int (v4 + (1 : Int32))), (5, .int x2), (0, .ref (G.2.1 18)), (2, .int v2), (3, .int v3)]) hx hb d_Qu_takeSealedKeys_75 hl rfl (ii (by decide) _) (by decide) rfl (fun ls hl => ?_)
          refine lv_goto hx hb d_Qu_takeSealedKeys_78 (tgt := 28) (by decide) ?_
          exact ih1 (v4 + (1 : Int32)) S _ _ _ (lv_sub hl [2, 3, 4, 0] rfl) hP (znx_l hf hk1)
        · have hf := it_f h8 hf
          refine lv_aload_n hx hb d_Qu_takeSealedKeys_66 rfl (lv_at hl 1 rfl) ?_
          refine w_get C hP (fdX_18_keys G S) tb_98 d_Qu_takeSealedKeys_67 ?_
          refine lv_iload hx hb d_Qu_takeSealedKeys_70 (lv_at hl 0 rfl) ?_
          obtain ⟨x9, h10, hf⟩ := bd_some hf
          refine w_callV (As := [.int x2]) (rest := []) C (c_Nu_put_k l G S x2 x9 h10) cf_Nu_put tb_290 (by decide) hP (obX_21 G S) rfl hl.1 rfl (Nat.le_of_ble_eq_true rfl) d_Qu_takeSealedKeys_72 (fun H locs hP => ?_)
          refine lv_iinc (k := 4) (v := (v4 + (1 : Int32))) (lv' := [(4, .int (v4 + (1 : Int32))), (5, .int x2), (0, .ref (G.2.1 18)), (2, .int v2), (3, .int v3)]) hx hb d_Qu_takeSealedKeys_75 hl rfl (ii (by decide) _) (by decide) rfl (fun ls hl => ?_)
          refine lv_goto hx hb d_Qu_takeSealedKeys_78 (tgt := 28) (by decide) ?_
          exact ih1 (v4 + (1 : Int32)) x9 _ _ _ (lv_sub hl [2, 3, 4, 0] rfl) hP (znx_l hf hk1)
  refine lv_aload_n hx hb d_Qu_takeSealedKeys_0 rfl (lv_at hl 0 rfl) ?_
  refine w_get C hP (fdX_18_records G S) tb_94 d_Qu_takeSealedKeys_1 ?_
  refine lv_iload_n hx hb d_Qu_takeSealedKeys_4 rfl (lv_at hl 1 rfl) ?_
  obtain ⟨x11, h12, hf⟩ := bd_some hf
  refine w_callI (As := [.int v1]) (rest := []) C (c_Re_startOf l G S v1 x11 h12) cf_Re_startOf tb_305 (by decide) hP (obX_1 G S) rfl hl.1 rfl (Nat.le_of_ble_eq_true rfl) d_Qu_takeSealedKeys_5 (fun H locs hP => ?_)
  refine lv_istore_n (lv' := [(2, .int x11), (0, .ref (G.2.1 18)), (1, .int v1)]) hx hb d_Qu_takeSealedKeys_8 rfl hl (by decide) rfl (fun ls hl => ?_)
  refine lv_aload_n hx hb d_Qu_takeSealedKeys_9 rfl (lv_at hl 1 rfl) ?_
  refine w_get C hP (fdX_18_records G S) tb_94 d_Qu_takeSealedKeys_10 ?_
  refine lv_iload_n hx hb d_Qu_takeSealedKeys_13 rfl (lv_at hl 2 rfl) ?_
  obtain ⟨x13, h14, hf⟩ := bd_some hf
  refine w_callI (As := [.int v1]) (rest := []) C (c_Re_sizeOf l G S v1 x13 h14) cf_Re_sizeOf tb_301 (by decide) hP (obX_1 G S) rfl hl.1 rfl (Nat.le_of_ble_eq_true rfl) d_Qu_takeSealedKeys_14 (fun H locs hP => ?_)
  refine lv_istore_n (lv' := [(3, .int x13), (2, .int x11), (0, .ref (G.2.1 18)), (1, .int v1)]) hx hb d_Qu_takeSealedKeys_17 rfl hl (by decide) rfl (fun ls hl => ?_)
  refine lv_aload_n hx hb d_Qu_takeSealedKeys_18 rfl (lv_at hl 2 rfl) ?_
  refine w_get C hP (fdX_18_keys G S) tb_98 d_Qu_takeSealedKeys_19 ?_
  obtain ⟨x15, h16, hf⟩ := bd_some hf
  refine w_callV (As := []) (rest := []) C (c_Nu_clear_k l G S x15 h16) cf_Nu_clear tb_282 (by decide) hP (obX_21 G S) rfl hl.1 rfl (Nat.le_of_ble_eq_true rfl) d_Qu_takeSealedKeys_22 (fun H locs hP => ?_)
  refine lv_iconst (v := (0 : Int32)) hx hb d_Qu_takeSealedKeys_25 (by decide) ?_
  refine lv_istore (lv' := [(4, .int (0 : Int32)), (3, .int x13), (2, .int x11), (0, .ref (G.2.1 18)), (1, .int v1)]) hx hb d_Qu_takeSealedKeys_26 hl (by decide) rfl (fun ls hl => ?_)
  exact LP_28 x11 x13 64 (0 : Int32) x15 _ _ _ (lv_sub hl [3, 2, 1, 0] rfl) hP hf
def L_Qu_takeSet_k_26 (v3 : Int32) (v4 : Int32) (v5 : Int32) (S : XSt) : Option ((Int32 × XSt) ⊕ XSt) := (if v4 ≤ v5 then zup (some S) else Option.bind (f_Re_dataAt S (v3 + v5)) (fun x2 => Option.bind (f_Nu_put_k S x2) (fun x4 => some (Sum.inl ((v5 + (1 : Int32)), x4)))))
def LS_Qu_takeSet_k_26 (v3 : Int32) (v4 : Int32) (v : (Int32 × XSt)) : Option ((Int32 × XSt) ⊕ XSt) := L_Qu_takeSet_k_26 v3 v4 v.1 v.2
def f_Qu_takeSet_k (S : XSt) (v2 : Int32) : Option XSt := Option.bind (f_Re_startOf S v2) (fun x6 => Option.bind (f_Re_sizeOf S v2) (fun x8 => Option.bind (f_Nu_clear_k S) (fun x10 => zit (LS_Qu_takeSet_k_26 x6 x8) 64 ((0 : Int32), x10))))
set_option maxHeartbeats 4000000 in
set_option maxRecDepth 100000 in
theorem c_Qu_takeSet_k (l : Launch) (G : XG) (S : XSt) (v2 : Int32) (o0 : XSt) (hf : f_Qu_takeSet_k S v2 = some o0) : MetV l y_Qu_takeSet b_Qu_takeSet 6 1 [.ref (G.2.1 18), .ref (G.2.1 21), .int v2] G.1 (tyX G) (zAX G) (wX G S) (wX G o0) := by
  refine mkV (by decide) (Nat.le_of_ble_eq_true rfl) ?_
  intro p e R s m args below meth c ls Q C hl hP hret0
  replace C : Cw p m c b_Qu_takeSet 6 s args "TrustResolver$Question" R 1 := C
  have hx := C.1
  have hb := C.2.1
  replace hl : lv_has ls 6 [(0, .ref (G.2.1 18)), (1, .ref (G.2.1 21)), (2, .int v2)] := hl
  have hret : ∀ (pc : Nat) (ls : Array Slot) (H : Heap) (locs : List Loc) (S' : XSt), decode b_Qu_takeSet pc = .ok (.return_, 1) → S' = o0 → Pw G.1 (tyX G) (zAX G) s (wX G S') H locs → W p l e R s m args below meth c H locs 0 0 Q (F0 m pc ls []) := fun pc ls H locs S' hd he hP => hret0 pc ls H locs hd (by rw [← he]; exact hP)
  clear hret0
  unfold f_Qu_takeSet_k at hf
  have LP_26 : ∀ (v3 : Int32) (v4 : Int32) (n : Nat) (v5 : Int32) (S : XSt) (ls : Array Slot) (H : Heap) (locs : List Loc) , lv_has ls 6 [(0, .ref (G.2.1 18)), (1, .ref (G.2.1 21)), (3, .int v3), (4, .int v4), (5, .int v5)] → Pw G.1 (tyX G) (zAX G) s (wX G S) H locs → zit (LS_Qu_takeSet_k_26 v3 v4) n (v5, S) = some o0 → W p l e R s m args below meth c H locs 0 0 Q (F0 m 26 ls []) := by
    intro v3 v4 n
    induction n with
    | zero => intro v5 S ls H locs hl hP hf; exact zit_0 hf
    | succ n ih1 =>
      intro v5 S ls H locs hl hP hf
      obtain ⟨o1, hf, hk1⟩ := zit_s hf
      have hf : L_Qu_takeSet_k_26 v3 v4 v5 S = some o1 := hf
      unfold L_Qu_takeSet_k_26 at hf
      refine lv_iload hx hb d_Qu_takeSet_26 (lv_at hl 4 rfl) ?_
      refine lv_iload hx hb d_Qu_takeSet_28 (lv_at hl 3 rfl) ?_
      refine lv_icmp_ge hx hb d_Qu_takeSet_30 (tgt := 54) (by decide) (fun h1 => ?_) (fun h1 => ?_)
      · have hf := it_t h1 hf
        have hf := zup_k hf hk1
        exact hret _ _ _ _ _ d_Qu_takeSet_54 (Option.some.inj hf) hP
      · have hf := it_f h1 hf
        refine lv_aload_n hx hb d_Qu_takeSet_33 rfl (lv_at hl 1 rfl) ?_
        refine lv_aload_n hx hb d_Qu_takeSet_34 rfl (lv_at hl 0 rfl) ?_
        refine w_get C hP (fdX_18_records G S) tb_94 d_Qu_takeSet_35 ?_
        refine lv_iload_n hx hb d_Qu_takeSet_38 rfl (lv_at hl 2 rfl) ?_
        refine lv_iload hx hb d_Qu_takeSet_39 (lv_at hl 4 rfl) ?_
        refine lv_iadd hx hb d_Qu_takeSet_41 ?_
        obtain ⟨x2, h3, hf⟩ := bd_some hf
        refine w_callI (As := [.int (v3 + v5)]) (rest := [.ref (G.2.1 21)]) C (c_Re_dataAt l G S (v3 + v5) x2 h3) cf_Re_dataAt tb_306 (by decide) hP (obX_1 G S) rfl hl.1 rfl (Nat.le_of_ble_eq_true rfl) d_Qu_takeSet_42 (fun H locs hP => ?_)
        obtain ⟨x4, h5, hf⟩ := bd_some hf
        refine w_callV (As := [.int x2]) (rest := []) C (c_Nu_put_k l G S x2 x4 h5) cf_Nu_put tb_290 (by decide) hP (obX_21 G S) rfl hl.1 rfl (Nat.le_of_ble_eq_true rfl) d_Qu_takeSet_45 (fun H locs hP => ?_)
        refine lv_iinc (k := 4) (v := (v5 + (1 : Int32))) (lv' := [(5, .int (v5 + (1 : Int32))), (0, .ref (G.2.1 18)), (1, .ref (G.2.1 21)), (3, .int v3), (4, .int v4)]) hx hb d_Qu_takeSet_48 hl rfl (ii (by decide) _) (by decide) rfl (fun ls hl => ?_)
        refine lv_goto hx hb d_Qu_takeSet_51 (tgt := 26) (by decide) ?_
        exact ih1 (v5 + (1 : Int32)) x4 _ _ _ (lv_sub hl [1, 2, 3, 4, 0] rfl) hP (znx_l hf hk1)
  refine lv_aload_n hx hb d_Qu_takeSet_0 rfl (lv_at hl 0 rfl) ?_
  refine w_get C hP (fdX_18_records G S) tb_94 d_Qu_takeSet_1 ?_
  refine lv_iload_n hx hb d_Qu_takeSet_4 rfl (lv_at hl 2 rfl) ?_
  obtain ⟨x6, h7, hf⟩ := bd_some hf
  refine w_callI (As := [.int v2]) (rest := []) C (c_Re_startOf l G S v2 x6 h7) cf_Re_startOf tb_305 (by decide) hP (obX_1 G S) rfl hl.1 rfl (Nat.le_of_ble_eq_true rfl) d_Qu_takeSet_5 (fun H locs hP => ?_)
  refine lv_istore_n (lv' := [(3, .int x6), (0, .ref (G.2.1 18)), (1, .ref (G.2.1 21)), (2, .int v2)]) hx hb d_Qu_takeSet_8 rfl hl (by decide) rfl (fun ls hl => ?_)
  refine lv_aload_n hx hb d_Qu_takeSet_9 rfl (lv_at hl 1 rfl) ?_
  refine w_get C hP (fdX_18_records G S) tb_94 d_Qu_takeSet_10 ?_
  refine lv_iload_n hx hb d_Qu_takeSet_13 rfl (lv_at hl 3 rfl) ?_
  obtain ⟨x8, h9, hf⟩ := bd_some hf
  refine w_callI (As := [.int v2]) (rest := []) C (c_Re_sizeOf l G S v2 x8 h9) cf_Re_sizeOf tb_301 (by decide) hP (obX_1 G S) rfl hl.1 rfl (Nat.le_of_ble_eq_true rfl) d_Qu_takeSet_14 (fun H locs hP => ?_)
  refine lv_istore (lv' := [(4, .int x8), (3, .int x6), (0, .ref (G.2.1 18)), (1, .ref (G.2.1 21)), (2, .int v2)]) hx hb d_Qu_takeSet_17 hl (by decide) rfl (fun ls hl => ?_)
  refine lv_aload_n hx hb d_Qu_takeSet_19 rfl (lv_at hl 3 rfl) ?_
  obtain ⟨x10, h11, hf⟩ := bd_some hf
  refine w_callV (As := []) (rest := []) C (c_Nu_clear_k l G S x10 h11) cf_Nu_clear tb_282 (by decide) hP (obX_21 G S) rfl hl.1 rfl (Nat.le_of_ble_eq_true rfl) d_Qu_takeSet_20 (fun H locs hP => ?_)
  refine lv_iconst (v := (0 : Int32)) hx hb d_Qu_takeSet_23 (by decide) ?_
  refine lv_istore (lv' := [(5, .int (0 : Int32)), (4, .int x8), (3, .int x6), (0, .ref (G.2.1 18)), (1, .ref (G.2.1 21)), (2, .int v2)]) hx hb d_Qu_takeSet_24 hl (by decide) rfl (fun ls hl => ?_)
  exact LP_26 x6 x8 64 (0 : Int32) x10 _ _ _ (lv_sub hl [3, 4, 2, 1, 0] rfl) hP hf
def f_Qu_whyNoKeys (S : XSt)  : Option (Int32 × XSt) := Option.bind (f_Na_setOf (S.1 7) (4 : Int32)) (fun x1 => Option.bind (f_Re_sizeOf S x1) (fun x3 => (if x3 = (0 : Int32) then some ((2 : Int32), S) else Option.bind (f_Qu_takeSealedKeys S x1) (fun x6 => (if (x6.1 13) = (0 : Int32) then some ((3 : Int32), x6) else Option.bind (f_Si_judge x6 (x6.1 7)) (fun x9 => Option.bind (f_Si_isPlain x9 x1) (fun x11 => (if x11 = (0 : Int32) then some ((4 : Int32), x9) else Option.bind (f_Qu_takeSet_k x9 x1) (fun x14 => znm (zpS x14 10 (x14.1 13)) (fun S16 => Option.bind (f_Si_judge S16 (S16.1 7)) (fun x18 => some ((0 : Int32), x18))))))))))))
set_option maxHeartbeats 4000000 in
set_option maxRecDepth 100000 in
theorem c_Qu_whyNoKeys (l : Launch) (G : XG) (S : XSt)  (o0 : (Int32 × XSt)) (hf : f_Qu_whyNoKeys S = some o0) : MetI l y_Qu_whyNoKeys b_Qu_whyNoKeys 2 (some .int) 4 [.ref (G.2.1 18)] G.1 (tyX G) (zAX G) (wX G S) o0.1 (wX G o0.2) := by
  refine mkI (by decide) (Nat.le_of_ble_eq_true rfl) ?_
  intro p e R s m args below meth c ls Q C hl hP hret0
  replace C : Cw p m c b_Qu_whyNoKeys 2 s args "TrustResolver$Question" R 4 := C
  have hx := C.1
  have hb := C.2.1
  replace hl : lv_has ls 2 [(0, .ref (G.2.1 18))] := hl
  have hret : ∀ (pc : Nat) (ls : Array Slot) (H : Heap) (locs : List Loc) (v : Int32) (S' : XSt), decode b_Qu_whyNoKeys pc = .ok (.ireturn, 1) → (v, S') = o0 → Pw G.1 (tyX G) (zAX G) s (wX G S') H locs → W p l e R s m args below meth c H locs 0 0 Q (F0 m pc ls [.int v]) := fun pc ls H locs v S' hd he hP => hret0 pc ls H locs v hd (by rw [← he]) (by rw [← he]; exact hP)
  clear hret0
  unfold f_Qu_whyNoKeys at hf
  refine lv_aload_n hx hb d_Qu_whyNoKeys_0 rfl (lv_at hl 0 rfl) ?_
  refine w_get C hP (fdX_18_zone G S) tb_101 d_Qu_whyNoKeys_1 ?_
  refine lv_iconst (v := (4 : Int32)) hx hb d_Qu_whyNoKeys_4 (by decide) ?_
  obtain ⟨x1, h2, hf⟩ := bd_some hf
  refine w_callS (As := [.int (S.1 7), .int (4 : Int32)]) (rest := []) C (c_Na_setOf l (S.1 7) (4 : Int32) x1 h2) cf_Na_setOf tb_297 (by decide) rfl hl.1 rfl (Nat.le_of_ble_eq_true rfl) d_Qu_whyNoKeys_5 ?_
  refine lv_istore_n (lv' := [(1, .int x1), (0, .ref (G.2.1 18))]) hx hb d_Qu_whyNoKeys_8 rfl hl (by decide) rfl (fun ls hl => ?_)
  refine lv_aload_n hx hb d_Qu_whyNoKeys_9 rfl (lv_at hl 1 rfl) ?_
  refine w_get C hP (fdX_18_records G S) tb_94 d_Qu_whyNoKeys_10 ?_
  refine lv_iload_n hx hb d_Qu_whyNoKeys_13 rfl (lv_at hl 0 rfl) ?_
  obtain ⟨x3, h4, hf⟩ := bd_some hf
  refine w_callI (As := [.int x1]) (rest := []) C (c_Re_sizeOf l G S x1 x3 h4) cf_Re_sizeOf tb_301 (by decide) hP (obX_1 G S) rfl hl.1 rfl (Nat.le_of_ble_eq_true rfl) d_Qu_whyNoKeys_14 (fun H locs hP => ?_)
  refine lv_if_ne hx hb d_Qu_whyNoKeys_17 (tgt := 22) (by decide) (fun h5 => ?_) (fun h5 => ?_)
  · have hf := it_f h5 hf
    refine lv_aload_n hx hb d_Qu_whyNoKeys_22 rfl (lv_at hl 1 rfl) ?_
    refine lv_iload_n hx hb d_Qu_whyNoKeys_23 rfl (lv_at hl 0 rfl) ?_
    obtain ⟨x6, h7, hf⟩ := bd_some hf
    refine w_callV (As := [.int x1]) (rest := []) C (c_Qu_takeSealedKeys l G S x1 x6 h7) cf_Qu_takeSealedKeys tb_302 (by decide) hP (obX_18 G S) rfl hl.1 rfl (Nat.le_of_ble_eq_true rfl) d_Qu_whyNoKeys_24 (fun H locs hP => ?_)
    refine lv_aload_n hx hb d_Qu_whyNoKeys_27 rfl (lv_at hl 1 rfl) ?_
    refine w_get C hP (fdX_18_keys G x6) tb_98 d_Qu_whyNoKeys_28 ?_
    refine w_getN C hP (fdX_21_count G x6) nl_7 d_Qu_whyNoKeys_31 ?_
    refine lv_if_ne hx hb d_Qu_whyNoKeys_34 (tgt := 39) (by decide) (fun h8 => ?_) (fun h8 => ?_)
    · have hf := it_f h8 hf
      refine lv_aload_n hx hb d_Qu_whyNoKeys_39 rfl (lv_at hl 1 rfl) ?_
      refine w_get C hP (fdX_18_signatures G x6) tb_95 d_Qu_whyNoKeys_40 ?_
      refine lv_aload_n hx hb d_Qu_whyNoKeys_43 rfl (lv_at hl 1 rfl) ?_
      refine w_get C hP (fdX_18_zone G x6) tb_101 d_Qu_whyNoKeys_44 ?_
      refine lv_aload_n hx hb d_Qu_whyNoKeys_47 rfl (lv_at hl 1 rfl) ?_
      refine w_get C hP (fdX_18_keys G x6) tb_98 d_Qu_whyNoKeys_48 ?_
      obtain ⟨x9, h10, hf⟩ := bd_some hf
      refine w_callV (As := [.int (x6.1 7), .ref (G.2.1 21)]) (rest := []) C (c_Si_judge l G x6 (x6.1 7) x9 h10) cf_Si_judge tb_312 (by decide) hP (obX_4 G x6) rfl hl.1 rfl (Nat.le_of_ble_eq_true rfl) d_Qu_whyNoKeys_51 (fun H locs hP => ?_)
      refine lv_aload_n hx hb d_Qu_whyNoKeys_54 rfl (lv_at hl 1 rfl) ?_
      refine w_get C hP (fdX_18_signatures G x9) tb_95 d_Qu_whyNoKeys_55 ?_
      refine lv_iload_n hx hb d_Qu_whyNoKeys_58 rfl (lv_at hl 0 rfl) ?_
      obtain ⟨x11, h12, hf⟩ := bd_some hf
      refine w_callI (As := [.int x1]) (rest := []) C (c_Si_isPlain l G x9 x1 x11 h12) cf_Si_isPlain tb_321 (by decide) hP (obX_4 G x9) rfl hl.1 rfl (Nat.le_of_ble_eq_true rfl) d_Qu_whyNoKeys_59 (fun H locs hP => ?_)
      refine lv_if_ne hx hb d_Qu_whyNoKeys_62 (tgt := 67) (by decide) (fun h13 => ?_) (fun h13 => ?_)
      · have hf := it_f h13 hf
        refine lv_aload_n hx hb d_Qu_whyNoKeys_67 rfl (lv_at hl 1 rfl) ?_
        refine lv_aload_n hx hb d_Qu_whyNoKeys_68 rfl (lv_at hl 1 rfl) ?_
        refine w_get C hP (fdX_18_keys G x9) tb_98 d_Qu_whyNoKeys_69 ?_
        refine lv_iload_n hx hb d_Qu_whyNoKeys_72 rfl (lv_at hl 0 rfl) ?_
        obtain ⟨x14, h15, hf⟩ := bd_some hf
        refine w_callV (As := [.ref (G.2.1 21), .int x1]) (rest := []) C (c_Qu_takeSet_k l G x9 x1 x14 h15) cf_Qu_takeSet tb_325 (by decide) hP (obX_18 G x9) rfl hl.1 rfl (Nat.le_of_ble_eq_true rfl) d_Qu_whyNoKeys_73 (fun H locs hP => ?_)
        refine lv_aload_n hx hb d_Qu_whyNoKeys_76 rfl (lv_at hl 1 rfl) ?_
        refine lv_aload_n hx hb d_Qu_whyNoKeys_77 rfl (lv_at hl 1 rfl) ?_
        refine w_get C hP (fdX_18_keys G x14) tb_98 d_Qu_whyNoKeys_78 ?_
        refine w_getN C hP (fdX_21_count G x14) nl_7 d_Qu_whyNoKeys_81 ?_
        refine w_put C hP (ptX_18_countedKeys G x14 (x14.1 13)) tb_104 d_Qu_whyNoKeys_84 (fun H locs hP => ?_)
        obtain ⟨S16, e17, hf⟩ := znm_some hf
        rw [← e17] at hP
        refine lv_aload_n hx hb d_Qu_whyNoKeys_87 rfl (lv_at hl 1 rfl) ?_
        refine w_get C hP (fdX_18_signatures G S16) tb_95 d_Qu_whyNoKeys_88 ?_
        refine lv_aload_n hx hb d_Qu_whyNoKeys_91 rfl (lv_at hl 1 rfl) ?_
        refine w_get C hP (fdX_18_zone G S16) tb_101 d_Qu_whyNoKeys_92 ?_
        refine lv_aload_n hx hb d_Qu_whyNoKeys_95 rfl (lv_at hl 1 rfl) ?_
        refine w_get C hP (fdX_18_keys G S16) tb_98 d_Qu_whyNoKeys_96 ?_
        obtain ⟨x18, h19, hf⟩ := bd_some hf
        refine w_callV (As := [.int (S16.1 7), .ref (G.2.1 21)]) (rest := []) C (c_Si_judge l G S16 (S16.1 7) x18 h19) cf_Si_judge tb_312 (by decide) hP (obX_4 G S16) rfl hl.1 rfl (Nat.le_of_ble_eq_true rfl) d_Qu_whyNoKeys_99 (fun H locs hP => ?_)
        refine lv_iconst (v := (0 : Int32)) hx hb d_Qu_whyNoKeys_102 (by decide) ?_
        exact hret _ _ _ _ _ _ d_Qu_whyNoKeys_103 (Option.some.inj hf) hP
      · have hf := it_t h13 hf
        refine lv_iconst (v := (4 : Int32)) hx hb d_Qu_whyNoKeys_65 (by decide) ?_
        exact hret _ _ _ _ _ _ d_Qu_whyNoKeys_66 (Option.some.inj hf) hP
    · have hf := it_t h8 hf
      refine lv_iconst (v := (3 : Int32)) hx hb d_Qu_whyNoKeys_37 (by decide) ?_
      exact hret _ _ _ _ _ _ d_Qu_whyNoKeys_38 (Option.some.inj hf) hP
  · have hf := it_t h5 hf
    refine lv_iconst (v := (2 : Int32)) hx hb d_Qu_whyNoKeys_20 (by decide) ?_
    exact hret _ _ _ _ _ _ d_Qu_whyNoKeys_21 (Option.some.inj hf) hP
def L_Qu_nextCut_32 (S : XSt) (v1 : Int32) (v2 : Int32) : Option (Int32 ⊕ Int32) := (if v1 < v2 then zup (some (-1 : Int32)) else Option.bind (f_Na_firstLabels (S.1 8) v2) (fun x2 => Option.bind (f_Na_setOf x2 (2 : Int32)) (fun x4 => Option.bind (f_Re_sizeOf S x4) (fun x6 => (if x6 ≤ (0 : Int32) then some (Sum.inl (v2 + (1 : Int32))) else zup (some x2))))))
def LS_Qu_nextCut_32 (S : XSt) (v1 : Int32) (v : Int32) : Option (Int32 ⊕ Int32) := L_Qu_nextCut_32 S v1 v
def f_Qu_nextCut (S : XSt)  : Option Int32 := Option.bind (f_Na_depth (S.1 8)) (fun x9 => (if (S.1 9) = (3 : Int32) then Option.bind (f_Na_depth (S.1 7)) (fun x14 => zit (LS_Qu_nextCut_32 S (x9 - (1 : Int32))) 64 (x14 + (1 : Int32))) else Option.bind (f_Na_depth (S.1 7)) (fun x12 => zit (LS_Qu_nextCut_32 S (x9 - (0 : Int32))) 64 (x12 + (1 : Int32)))))
set_option maxHeartbeats 4000000 in
set_option maxRecDepth 100000 in
theorem c_Qu_nextCut (l : Launch) (G : XG) (S : XSt)  (o0 : Int32) (hf : f_Qu_nextCut S = some o0) : MetI l y_Qu_nextCut b_Qu_nextCut 4 (some .int) 1 [.ref (G.2.1 18)] G.1 (tyX G) (zAX G) (wX G S) o0 (wX G S) := by
  refine mkI (by decide) (Nat.le_of_ble_eq_true rfl) ?_
  intro p e R s m args below meth c ls Q C hl hP hret0
  replace C : Cw p m c b_Qu_nextCut 4 s args "TrustResolver$Question" R 1 := C
  have hx := C.1
  have hb := C.2.1
  replace hl : lv_has ls 4 [(0, .ref (G.2.1 18))] := hl
  have hret := hret0
  clear hret0
  unfold f_Qu_nextCut at hf
  have LP_32 : ∀ (v1 : Int32) (n : Nat) (v2 : Int32) (ls : Array Slot) (H : Heap) (locs : List Loc) , lv_has ls 4 [(0, .ref (G.2.1 18)), (1, .int v1), (2, .int v2)] → Pw G.1 (tyX G) (zAX G) s (wX G S) H locs → zit (LS_Qu_nextCut_32 S v1) n v2 = some o0 → W p l e R s m args below meth c H locs 0 0 Q (F0 m 32 ls []) := by
    intro v1 n
    induction n with
    | zero => intro v2 ls H locs hl hP hf; exact zit_0 hf
    | succ n ih1 =>
      intro v2 ls H locs hl hP hf
      obtain ⟨o1, hf, hk1⟩ := zit_s hf
      have hf : L_Qu_nextCut_32 S v1 v2 = some o1 := hf
      unfold L_Qu_nextCut_32 at hf
      refine lv_iload_n hx hb d_Qu_nextCut_32 rfl (lv_at hl 2 rfl) ?_
      refine lv_iload_n hx hb d_Qu_nextCut_33 rfl (lv_at hl 1 rfl) ?_
      refine lv_icmp_gt hx hb d_Qu_nextCut_34 (tgt := 69) (by decide) (fun h1 => ?_) (fun h1 => ?_)
      · have hf := it_t h1 hf
        have hf := zup_k hf hk1
        refine lv_iconst (v := (-1 : Int32)) hx hb d_Qu_nextCut_69 (by decide) ?_
        exact hret _ _ _ _ _ d_Qu_nextCut_70 (Option.some.inj hf) hP
      · have hf := it_f h1 hf
        refine lv_aload_n hx hb d_Qu_nextCut_37 rfl (lv_at hl 0 rfl) ?_
        refine w_get C hP (fdX_18_name G S) tb_102 d_Qu_nextCut_38 ?_
        refine lv_iload_n hx hb d_Qu_nextCut_41 rfl (lv_at hl 2 rfl) ?_
        obtain ⟨x2, h3, hf⟩ := bd_some hf
        refine w_callS (As := [.int (S.1 8), .int v2]) (rest := []) C (c_Na_firstLabels l (S.1 8) v2 x2 h3) cf_Na_firstLabels tb_332 (by decide) rfl hl.1 rfl (Nat.le_of_ble_eq_true rfl) d_Qu_nextCut_42 ?_
        refine lv_istore_n (lv' := [(3, .int x2), (0, .ref (G.2.1 18)), (1, .int v1), (2, .int v2)]) hx hb d_Qu_nextCut_45 rfl hl (by decide) rfl (fun ls hl => ?_)
        refine lv_aload_n hx hb d_Qu_nextCut_46 rfl (lv_at hl 1 rfl) ?_
        refine w_get C hP (fdX_18_records G S) tb_94 d_Qu_nextCut_47 ?_
        refine lv_iload_n hx hb d_Qu_nextCut_50 rfl (lv_at hl 0 rfl) ?_
        refine lv_iconst (v := (2 : Int32)) hx hb d_Qu_nextCut_51 (by decide) ?_
        obtain ⟨x4, h5, hf⟩ := bd_some hf
        refine w_callS (As := [.int x2, .int (2 : Int32)]) (rest := [.ref (G.2.1 1)]) C (c_Na_setOf l x2 (2 : Int32) x4 h5) cf_Na_setOf tb_297 (by decide) rfl hl.1 rfl (Nat.le_of_ble_eq_true rfl) d_Qu_nextCut_52 ?_
        obtain ⟨x6, h7, hf⟩ := bd_some hf
        refine w_callI (As := [.int x4]) (rest := []) C (c_Re_sizeOf l G S x4 x6 h7) cf_Re_sizeOf tb_301 (by decide) hP (obX_1 G S) rfl hl.1 rfl (Nat.le_of_ble_eq_true rfl) d_Qu_nextCut_55 (fun H locs hP => ?_)
        refine lv_if_le hx hb d_Qu_nextCut_58 (tgt := 63) (by decide) (fun h8 => ?_) (fun h8 => ?_)
        · have hf := it_t h8 hf
          refine lv_iinc (k := 3) (v := (v2 + (1 : Int32))) (lv' := [(2, .int (v2 + (1 : Int32))), (3, .int x2), (0, .ref (G.2.1 18)), (1, .int v1)]) hx hb d_Qu_nextCut_63 hl rfl (ii (by decide) _) (by decide) rfl (fun ls hl => ?_)
          refine lv_goto hx hb d_Qu_nextCut_66 (tgt := 32) (by decide) ?_
          exact ih1 (v2 + (1 : Int32)) _ _ _ (lv_sub hl [2, 3, 0] rfl) hP (znx_l hf hk1)
        · have hf := it_f h8 hf
          have hf := zup_k hf hk1
          refine lv_iload_n hx hb d_Qu_nextCut_61 rfl (lv_at hl 0 rfl) ?_
          exact hret _ _ _ _ _ d_Qu_nextCut_62 (Option.some.inj hf) hP
  refine lv_aload_n hx hb d_Qu_nextCut_0 rfl (lv_at hl 0 rfl) ?_
  refine w_get C hP (fdX_18_name G S) tb_102 d_Qu_nextCut_1 ?_
  obtain ⟨x9, h10, hf⟩ := bd_some hf
  refine w_callS (As := [.int (S.1 8)]) (rest := []) C (c_Na_depth l (S.1 8) x9 h10) cf_Na_depth tb_331 (by decide) rfl hl.1 rfl (Nat.le_of_ble_eq_true rfl) d_Qu_nextCut_4 ?_
  refine lv_aload_n hx hb d_Qu_nextCut_7 rfl (lv_at hl 0 rfl) ?_
  refine w_get C hP (fdX_18_type G S) tb_103 d_Qu_nextCut_8 ?_
  refine lv_iconst (v := (3 : Int32)) hx hb d_Qu_nextCut_11 (by decide) ?_
  refine lv_icmp_ne hx hb d_Qu_nextCut_12 (tgt := 19) (by decide) (fun h11 => ?_) (fun h11 => ?_)
  · have hf := it_f h11 hf
    refine lv_iconst (v := (0 : Int32)) hx hb d_Qu_nextCut_19 (by decide) ?_
    refine lv_isub hx hb d_Qu_nextCut_20 ?_
    refine lv_istore_n (lv' := [(1, .int (x9 - (0 : Int32))), (0, .ref (G.2.1 18))]) hx hb d_Qu_nextCut_21 rfl hl (by decide) rfl (fun ls hl => ?_)
    refine lv_aload_n hx hb d_Qu_nextCut_22 rfl (lv_at hl 1 rfl) ?_
    refine w_get C hP (fdX_18_zone G S) tb_101 d_Qu_nextCut_23 ?_
    obtain ⟨x12, h13, hf⟩ := bd_some hf
    refine w_callS (As := [.int (S.1 7)]) (rest := []) C (c_Na_depth l (S.1 7) x12 h13) cf_Na_depth tb_331 (by decide) rfl hl.1 rfl (Nat.le_of_ble_eq_true rfl) d_Qu_nextCut_26 ?_
    refine lv_iconst (v := (1 : Int32)) hx hb d_Qu_nextCut_29 (by decide) ?_
    refine lv_iadd hx hb d_Qu_nextCut_30 ?_
    refine lv_istore_n (lv' := [(2, .int (x12 + (1 : Int32))), (1, .int (x9 - (0 : Int32))), (0, .ref (G.2.1 18))]) hx hb d_Qu_nextCut_31 rfl hl (by decide) rfl (fun ls hl => ?_)
    exact LP_32 (x9 - (0 : Int32)) 64 (x12 + (1 : Int32)) _ _ _ (lv_sub hl [2, 1, 0] rfl) hP hf
  · have hf := it_t h11 hf
    refine lv_iconst (v := (1 : Int32)) hx hb d_Qu_nextCut_15 (by decide) ?_
    refine lv_goto hx hb d_Qu_nextCut_16 (tgt := 20) (by decide) ?_
    refine lv_isub hx hb d_Qu_nextCut_20 ?_
    refine lv_istore_n (lv' := [(1, .int (x9 - (1 : Int32))), (0, .ref (G.2.1 18))]) hx hb d_Qu_nextCut_21 rfl hl (by decide) rfl (fun ls hl => ?_)
    refine lv_aload_n hx hb d_Qu_nextCut_22 rfl (lv_at hl 1 rfl) ?_
    refine w_get C hP (fdX_18_zone G S) tb_101 d_Qu_nextCut_23 ?_
    obtain ⟨x14, h15, hf⟩ := bd_some hf
    refine w_callS (As := [.int (S.1 7)]) (rest := []) C (c_Na_depth l (S.1 7) x14 h15) cf_Na_depth tb_331 (by decide) rfl hl.1 rfl (Nat.le_of_ble_eq_true rfl) d_Qu_nextCut_26 ?_
    refine lv_iconst (v := (1 : Int32)) hx hb d_Qu_nextCut_29 (by decide) ?_
    refine lv_iadd hx hb d_Qu_nextCut_30 ?_
    refine lv_istore_n (lv' := [(2, .int (x14 + (1 : Int32))), (1, .int (x9 - (1 : Int32))), (0, .ref (G.2.1 18))]) hx hb d_Qu_nextCut_31 rfl hl (by decide) rfl (fun ls hl => ?_)
    exact LP_32 (x9 - (1 : Int32)) 64 (x14 + (1 : Int32)) _ _ _ (lv_sub hl [2, 1, 0] rfl) hP hf
def f_Qu_isPlainNext (S : XSt) (v1 : Int32) : Option Int32 := Option.bind (f_Na_typeOf v1) (fun x1 => (if x1 = (5 : Int32) then Option.bind (f_Si_isPlain S v1) (fun x4 => (if x4 = (0 : Int32) then some (0 : Int32) else some (1 : Int32))) else some (0 : Int32)))
set_option maxHeartbeats 4000000 in
set_option maxRecDepth 100000 in
theorem c_Qu_isPlainNext (l : Launch) (G : XG) (S : XSt) (v1 : Int32) (o0 : Int32) (hf : f_Qu_isPlainNext S v1 = some o0) : MetI l y_Qu_isPlainNext b_Qu_isPlainNext 2 (some .boolean) 1 [.ref (G.2.1 18), .int v1] G.1 (tyX G) (zAX G) (wX G S) o0 (wX G S) := by
  refine mkZ (by decide) (Nat.le_of_ble_eq_true rfl) ?_
  intro p e R s m args below meth c ls Q C hl hP hret0
  replace C : Cw p m c b_Qu_isPlainNext 2 s args "TrustResolver$Question" R 1 := C
  have hx := C.1
  have hb := C.2.1
  replace hl : lv_has ls 2 [(0, .ref (G.2.1 18)), (1, .int v1)] := hl
  have hret := hret0
  clear hret0
  unfold f_Qu_isPlainNext at hf
  refine lv_iload_n hx hb d_Qu_isPlainNext_0 rfl (lv_at hl 1 rfl) ?_
  obtain ⟨x1, h2, hf⟩ := bd_some hf
  refine w_callS (As := [.int v1]) (rest := []) C (c_Na_typeOf l v1 x1 h2) cf_Na_typeOf tb_365 (by decide) rfl hl.1 rfl (Nat.le_of_ble_eq_true rfl) d_Qu_isPlainNext_1 ?_
  refine lv_iconst (v := (5 : Int32)) hx hb d_Qu_isPlainNext_4 (by decide) ?_
  refine lv_icmp_ne hx hb d_Qu_isPlainNext_5 (tgt := 23) (by decide) (fun h3 => ?_) (fun h3 => ?_)
  · have hf := it_f h3 hf
    refine lv_iconst (v := (0 : Int32)) hx hb d_Qu_isPlainNext_23 (by decide) ?_
    exact hret _ _ _ _ _ d_Qu_isPlainNext_24 (by decide) (Option.some.inj hf) hP
  · have hf := it_t h3 hf
    refine lv_aload_n hx hb d_Qu_isPlainNext_8 rfl (lv_at hl 0 rfl) ?_
    refine w_get C hP (fdX_18_signatures G S) tb_95 d_Qu_isPlainNext_9 ?_
    refine lv_iload_n hx hb d_Qu_isPlainNext_12 rfl (lv_at hl 1 rfl) ?_
    obtain ⟨x4, h5, hf⟩ := bd_some hf
    refine w_callI (As := [.int v1]) (rest := []) C (c_Si_isPlain l G S v1 x4 h5) cf_Si_isPlain tb_321 (by decide) hP (obX_4 G S) rfl hl.1 rfl (Nat.le_of_ble_eq_true rfl) d_Qu_isPlainNext_13 (fun H locs hP => ?_)
    refine lv_if_eq hx hb d_Qu_isPlainNext_16 (tgt := 23) (by decide) (fun h6 => ?_) (fun h6 => ?_)
    · have hf := it_t h6 hf
      refine lv_iconst (v := (0 : Int32)) hx hb d_Qu_isPlainNext_23 (by decide) ?_
      exact hret _ _ _ _ _ d_Qu_isPlainNext_24 (by decide) (Option.some.inj hf) hP
    · have hf := it_f h6 hf
      refine lv_iconst (v := (1 : Int32)) hx hb d_Qu_isPlainNext_19 (by decide) ?_
      refine lv_goto hx hb d_Qu_isPlainNext_20 (tgt := 24) (by decide) ?_
      exact hret _ _ _ _ _ d_Qu_isPlainNext_24 (by decide) (Option.some.inj hf) hP
def L_Qu_isKnown_2 (S : XSt) (v1 : Int32) (v2 : Int32) : Option (Int32 ⊕ Int32) := (if (S.1 0) ≤ v2 then zup (some (0 : Int32)) else Option.bind (f_Re_setAt S v2) (fun x2 => Option.bind (f_Qu_isPlainNext S x2) (fun x4 => (if x4 = (0 : Int32) then some (Sum.inl (v2 + (1 : Int32))) else Option.bind (f_Na_ownerOf x2) (fun x7 => Option.bind (f_Na_isOrAbove v1 x7) (fun x9 => (if x9 = (0 : Int32) then some (Sum.inl (v2 + (1 : Int32))) else zup (some (1 : Int32)))))))))
def LS_Qu_isKnown_2 (S : XSt) (v1 : Int32) (v : Int32) : Option (Int32 ⊕ Int32) := L_Qu_isKnown_2 S v1 v
def f_Qu_isKnown (S : XSt) (v1 : Int32) : Option Int32 := zit (LS_Qu_isKnown_2 S v1) 64 (0 : Int32)
set_option maxHeartbeats 4000000 in
set_option maxRecDepth 100000 in
theorem c_Qu_isKnown (l : Launch) (G : XG) (S : XSt) (v1 : Int32) (o0 : Int32) (hf : f_Qu_isKnown S v1 = some o0) : MetI l y_Qu_isKnown b_Qu_isKnown 4 (some .boolean) 2 [.ref (G.2.1 18), .int v1] G.1 (tyX G) (zAX G) (wX G S) o0 (wX G S) := by
  refine mkZ (by decide) (Nat.le_of_ble_eq_true rfl) ?_
  intro p e R s m args below meth c ls Q C hl hP hret0
  replace C : Cw p m c b_Qu_isKnown 4 s args "TrustResolver$Question" R 2 := C
  have hx := C.1
  have hb := C.2.1
  replace hl : lv_has ls 4 [(0, .ref (G.2.1 18)), (1, .int v1)] := hl
  have hret := hret0
  clear hret0
  unfold f_Qu_isKnown at hf
  have LP_2 : ∀ (v1 : Int32) (n : Nat) (v2 : Int32) (ls : Array Slot) (H : Heap) (locs : List Loc) , lv_has ls 4 [(0, .ref (G.2.1 18)), (1, .int v1), (2, .int v2)] → Pw G.1 (tyX G) (zAX G) s (wX G S) H locs → zit (LS_Qu_isKnown_2 S v1) n v2 = some o0 → W p l e R s m args below meth c H locs 0 0 Q (F0 m 2 ls []) := by
    intro v1 n
    induction n with
    | zero => intro v2 ls H locs hl hP hf; exact zit_0 hf
    | succ n ih1 =>
      intro v2 ls H locs hl hP hf
      obtain ⟨o1, hf, hk1⟩ := zit_s hf
      have hf : L_Qu_isKnown_2 S v1 v2 = some o1 := hf
      unfold L_Qu_isKnown_2 at hf
      refine lv_iload_n hx hb d_Qu_isKnown_2 rfl (lv_at hl 2 rfl) ?_
      refine lv_aload_n hx hb d_Qu_isKnown_3 rfl (lv_at hl 0 rfl) ?_
      refine w_get C hP (fdX_18_records G S) tb_94 d_Qu_isKnown_4 ?_
      refine w_getN C hP (fdX_1_count G S) nl_1 d_Qu_isKnown_7 ?_
      refine lv_icmp_ge hx hb d_Qu_isKnown_10 (tgt := 49) (by decide) (fun h1 => ?_) (fun h1 => ?_)
      · have hf := it_t h1 hf
        have hf := zup_k hf hk1
        refine lv_iconst (v := (0 : Int32)) hx hb d_Qu_isKnown_49 (by decide) ?_
        exact hret _ _ _ _ _ d_Qu_isKnown_50 (by decide) (Option.some.inj hf) hP
      · have hf := it_f h1 hf
        refine lv_aload_n hx hb d_Qu_isKnown_13 rfl (lv_at hl 0 rfl) ?_
        refine w_get C hP (fdX_18_records G S) tb_94 d_Qu_isKnown_14 ?_
        refine lv_iload_n hx hb d_Qu_isKnown_17 rfl (lv_at hl 2 rfl) ?_
        obtain ⟨x2, h3, hf⟩ := bd_some hf
        refine w_callI (As := [.int v2]) (rest := []) C (c_Re_setAt l G S v2 x2 h3) cf_Re_setAt tb_357 (by decide) hP (obX_1 G S) rfl hl.1 rfl (Nat.le_of_ble_eq_true rfl) d_Qu_isKnown_18 (fun H locs hP => ?_)
        refine lv_istore_n (lv' := [(3, .int x2), (0, .ref (G.2.1 18)), (1, .int v1), (2, .int v2)]) hx hb d_Qu_isKnown_21 rfl hl (by decide) rfl (fun ls hl => ?_)
        refine lv_aload_n hx hb d_Qu_isKnown_22 rfl (lv_at hl 1 rfl) ?_
        refine lv_iload_n hx hb d_Qu_isKnown_23 rfl (lv_at hl 0 rfl) ?_
        obtain ⟨x4, h5, hf⟩ := bd_some hf
        refine w_callI (As := [.int x2]) (rest := []) C (c_Qu_isPlainNext l G S x2 x4 h5) cf_Qu_isPlainNext tb_362 (by decide) hP (obX_18 G S) rfl hl.1 rfl (Nat.le_of_ble_eq_true rfl) d_Qu_isKnown_24 (fun H locs hP => ?_)
        refine lv_if_eq hx hb d_Qu_isKnown_27 (tgt := 43) (by decide) (fun h6 => ?_) (fun h6 => ?_)
        · have hf := it_t h6 hf
          refine lv_iinc (k := 3) (v := (v2 + (1 : Int32))) (lv' := [(2, .int (v2 + (1 : Int32))), (3, .int x2), (0, .ref (G.2.1 18)), (1, .int v1)]) hx hb d_Qu_isKnown_43 hl rfl (ii (by decide) _) (by decide) rfl (fun ls hl => ?_)
          refine lv_goto hx hb d_Qu_isKnown_46 (tgt := 2) (by decide) ?_
          exact ih1 (v2 + (1 : Int32)) _ _ _ (lv_sub hl [2, 3, 0] rfl) hP (znx_l hf hk1)
        · have hf := it_f h6 hf
          refine lv_iload_n hx hb d_Qu_isKnown_30 rfl (lv_at hl 2 rfl) ?_
          refine lv_iload_n hx hb d_Qu_isKnown_31 rfl (lv_at hl 0 rfl) ?_
          obtain ⟨x7, h8, hf⟩ := bd_some hf
          refine w_callS (As := [.int x2]) (rest := [.int v1]) C (c_Na_ownerOf l x2 x7 h8) cf_Na_ownerOf tb_361 (by decide) rfl hl.1 rfl (Nat.le_of_ble_eq_true rfl) d_Qu_isKnown_32 ?_
          obtain ⟨x9, h10, hf⟩ := bd_some hf
          refine w_callS (As := [.int v1, .int x7]) (rest := []) C (c_Na_isOrAbove l v1 x7 x9 h10) cf_Na_isOrAbove tb_376 (by decide) rfl hl.1 rfl (Nat.le_of_ble_eq_true rfl) d_Qu_isKnown_35 ?_
          refine lv_if_eq hx hb d_Qu_isKnown_38 (tgt := 43) (by decide) (fun h11 => ?_) (fun h11 => ?_)
          · have hf := it_t h11 hf
            refine lv_iinc (k := 3) (v := (v2 + (1 : Int32))) (lv' := [(2, .int (v2 + (1 : Int32))), (3, .int x2), (0, .ref (G.2.1 18)), (1, .int v1)]) hx hb d_Qu_isKnown_43 hl rfl (ii (by decide) _) (by decide) rfl (fun ls hl => ?_)
            refine lv_goto hx hb d_Qu_isKnown_46 (tgt := 2) (by decide) ?_
            exact ih1 (v2 + (1 : Int32)) _ _ _ (lv_sub hl [2, 3, 0] rfl) hP (znx_l hf hk1)
          · have hf := it_f h11 hf
            have hf := zup_k hf hk1
            refine lv_iconst (v := (1 : Int32)) hx hb d_Qu_isKnown_41 (by decide) ?_
            exact hret _ _ _ _ _ d_Qu_isKnown_42 (by decide) (Option.some.inj hf) hP
  refine lv_iconst (v := (0 : Int32)) hx hb d_Qu_isKnown_0 (by decide) ?_
  refine lv_istore_n (lv' := [(2, .int (0 : Int32)), (0, .ref (G.2.1 18)), (1, .int v1)]) hx hb d_Qu_isKnown_1 rfl hl (by decide) rfl (fun ls hl => ?_)
  exact LP_2 v1 64 (0 : Int32) _ _ _ (lv_sub hl [1, 2, 0] rfl) hP hf
def L_Qu_closestKnown_10 (S : XSt) (v1 : Int32) : Option (Int32 ⊕ Int32) := Option.bind (f_Na_depth (S.1 7)) (fun x1 => (if v1 ≤ x1 then zup (some (S.1 7)) else Option.bind (f_Na_firstLabels (S.1 8) v1) (fun x4 => Option.bind (f_Qu_isKnown S x4) (fun x6 => (if x6 = (0 : Int32) then some (Sum.inl (v1 + (-1 : Int32))) else zup (some x4))))))
def LS_Qu_closestKnown_10 (S : XSt) (v : Int32) : Option (Int32 ⊕ Int32) := L_Qu_closestKnown_10 S v
def f_Qu_closestKnown (S : XSt)  : Option Int32 := Option.bind (f_Na_depth (S.1 8)) (fun x9 => zit (LS_Qu_closestKnown_10 S) 64 (x9 - (1 : Int32)))
set_option maxHeartbeats 4000000 in
set_option maxRecDepth 100000 in
theorem c_Qu_closestKnown (l : Launch) (G : XG) (S : XSt)  (o0 : Int32) (hf : f_Qu_closestKnown S = some o0) : MetI l y_Qu_closestKnown b_Qu_closestKnown 3 (some .int) 3 [.ref (G.2.1 18)] G.1 (tyX G) (zAX G) (wX G S) o0 (wX G S) := by
  refine mkI (by decide) (Nat.le_of_ble_eq_true rfl) ?_
  intro p e R s m args below meth c ls Q C hl hP hret0
  replace C : Cw p m c b_Qu_closestKnown 3 s args "TrustResolver$Question" R 3 := C
  have hx := C.1
  have hb := C.2.1
  replace hl : lv_has ls 3 [(0, .ref (G.2.1 18))] := hl
  have hret := hret0
  clear hret0
  unfold f_Qu_closestKnown at hf
  have LP_10 : ∀ (n : Nat) (v1 : Int32) (ls : Array Slot) (H : Heap) (locs : List Loc) , lv_has ls 3 [(0, .ref (G.2.1 18)), (1, .int v1)] → Pw G.1 (tyX G) (zAX G) s (wX G S) H locs → zit (LS_Qu_closestKnown_10 S) n v1 = some o0 → W p l e R s m args below meth c H locs 0 0 Q (F0 m 10 ls []) := by
    intro n
    induction n with
    | zero => intro v1 ls H locs hl hP hf; exact zit_0 hf
    | succ n ih1 =>
      intro v1 ls H locs hl hP hf
      obtain ⟨o1, hf, hk1⟩ := zit_s hf
      have hf : L_Qu_closestKnown_10 S v1 = some o1 := hf
      unfold L_Qu_closestKnown_10 at hf
      refine lv_iload_n hx hb d_Qu_closestKnown_10 rfl (lv_at hl 1 rfl) ?_
      refine lv_aload_n hx hb d_Qu_closestKnown_11 rfl (lv_at hl 0 rfl) ?_
      refine w_get C hP (fdX_18_zone G S) tb_101 d_Qu_closestKnown_12 ?_
      obtain ⟨x1, h2, hf⟩ := bd_some hf
      refine w_callS (As := [.int (S.1 7)]) (rest := [.int v1]) C (c_Na_depth l (S.1 7) x1 h2) cf_Na_depth tb_331 (by decide) rfl hl.1 rfl (Nat.le_of_ble_eq_true rfl) d_Qu_closestKnown_15 ?_
      refine lv_icmp_le hx hb d_Qu_closestKnown_18 (tgt := 46) (by decide) (fun h3 => ?_) (fun h3 => ?_)
      · have hf := it_t h3 hf
        have hf := zup_k hf hk1
        refine lv_aload_n hx hb d_Qu_closestKnown_46 rfl (lv_at hl 0 rfl) ?_
        refine w_get C hP (fdX_18_zone G S) tb_101 d_Qu_closestKnown_47 ?_
        exact hret _ _ _ _ _ d_Qu_closestKnown_50 (Option.some.inj hf) hP
      · have hf := it_f h3 hf
        refine lv_aload_n hx hb d_Qu_closestKnown_21 rfl (lv_at hl 0 rfl) ?_
        refine w_get C hP (fdX_18_name G S) tb_102 d_Qu_closestKnown_22 ?_
        refine lv_iload_n hx hb d_Qu_closestKnown_25 rfl (lv_at hl 1 rfl) ?_
        obtain ⟨x4, h5, hf⟩ := bd_some hf
        refine w_callS (As := [.int (S.1 8), .int v1]) (rest := []) C (c_Na_firstLabels l (S.1 8) v1 x4 h5) cf_Na_firstLabels tb_332 (by decide) rfl hl.1 rfl (Nat.le_of_ble_eq_true rfl) d_Qu_closestKnown_26 ?_
        refine lv_istore_n (lv' := [(2, .int x4), (0, .ref (G.2.1 18)), (1, .int v1)]) hx hb d_Qu_closestKnown_29 rfl hl (by decide) rfl (fun ls hl => ?_)
        refine lv_aload_n hx hb d_Qu_closestKnown_30 rfl (lv_at hl 1 rfl) ?_
        refine lv_iload_n hx hb d_Qu_closestKnown_31 rfl (lv_at hl 0 rfl) ?_
        obtain ⟨x6, h7, hf⟩ := bd_some hf
        refine w_callI (As := [.int x4]) (rest := []) C (c_Qu_isKnown l G S x4 x6 h7) cf_Qu_isKnown tb_373 (by decide) hP (obX_18 G S) rfl hl.1 rfl (Nat.le_of_ble_eq_true rfl) d_Qu_closestKnown_32 (fun H locs hP => ?_)
        refine lv_if_eq hx hb d_Qu_closestKnown_35 (tgt := 40) (by decide) (fun h8 => ?_) (fun h8 => ?_)
        · have hf := it_t h8 hf
          refine lv_iinc (k := 2) (v := (v1 + (-1 : Int32))) (lv' := [(1, .int (v1 + (-1 : Int32))), (2, .int x4), (0, .ref (G.2.1 18))]) hx hb d_Qu_closestKnown_40 hl rfl (ii (by decide) _) (by decide) rfl (fun ls hl => ?_)
          refine lv_goto hx hb d_Qu_closestKnown_43 (tgt := 10) (by decide) ?_
          exact ih1 (v1 + (-1 : Int32)) _ _ _ (lv_sub hl [2, 0] rfl) hP (znx_l hf hk1)
        · have hf := it_f h8 hf
          have hf := zup_k hf hk1
          refine lv_iload_n hx hb d_Qu_closestKnown_38 rfl (lv_at hl 0 rfl) ?_
          exact hret _ _ _ _ _ d_Qu_closestKnown_39 (Option.some.inj hf) hP
  refine lv_aload_n hx hb d_Qu_closestKnown_0 rfl (lv_at hl 0 rfl) ?_
  refine w_get C hP (fdX_18_name G S) tb_102 d_Qu_closestKnown_1 ?_
  obtain ⟨x9, h10, hf⟩ := bd_some hf
  refine w_callS (As := [.int (S.1 8)]) (rest := []) C (c_Na_depth l (S.1 8) x9 h10) cf_Na_depth tb_331 (by decide) rfl hl.1 rfl (Nat.le_of_ble_eq_true rfl) d_Qu_closestKnown_4 ?_
  refine lv_iconst (v := (1 : Int32)) hx hb d_Qu_closestKnown_7 (by decide) ?_
  refine lv_isub hx hb d_Qu_closestKnown_8 ?_
  refine lv_istore_n (lv' := [(1, .int (x9 - (1 : Int32))), (0, .ref (G.2.1 18))]) hx hb d_Qu_closestKnown_9 rfl hl (by decide) rfl (fun ls hl => ?_)
  exact LP_10 64 (x9 - (1 : Int32)) _ _ _ (lv_sub hl [1, 0] rfl) hP hf
def L_Qu_isCovered_2 (S : XSt) (v1 : Int32) (v2 : Int32) : Option (Int32 ⊕ Int32) := (if (S.1 0) ≤ v2 then zup (some (0 : Int32)) else Option.bind (f_Re_setAt S v2) (fun x2 => Option.bind (f_Na_ownerOf x2) (fun x4 => (if v1 ≤ x4 then some (Sum.inl (v2 + (1 : Int32))) else Option.bind (f_Qu_isPlainNext S x2) (fun x7 => (if x7 = (0 : Int32) then some (Sum.inl (v2 + (1 : Int32))) else Option.bind (f_Re_leastOf S x2) (fun x10 => Option.bind (f_To_nameIn x10) (fun x12 => (if v1 < x12 then zup (some (1 : Int32)) else (if x12 = (S.1 7) then zup (some (1 : Int32)) else some (Sum.inl (v2 + (1 : Int32)))))))))))))
def LS_Qu_isCovered_2 (S : XSt) (v1 : Int32) (v : Int32) : Option (Int32 ⊕ Int32) := L_Qu_isCovered_2 S v1 v
def f_Qu_isCovered (S : XSt) (v1 : Int32) : Option Int32 := zit (LS_Qu_isCovered_2 S v1) 64 (0 : Int32)
set_option maxHeartbeats 4000000 in
set_option maxRecDepth 100000 in
theorem c_Qu_isCovered (l : Launch) (G : XG) (S : XSt) (v1 : Int32) (o0 : Int32) (hf : f_Qu_isCovered S v1 = some o0) : MetI l y_Qu_isCovered b_Qu_isCovered 5 (some .boolean) 2 [.ref (G.2.1 18), .int v1] G.1 (tyX G) (zAX G) (wX G S) o0 (wX G S) := by
  refine mkZ (by decide) (Nat.le_of_ble_eq_true rfl) ?_
  intro p e R s m args below meth c ls Q C hl hP hret0
  replace C : Cw p m c b_Qu_isCovered 5 s args "TrustResolver$Question" R 2 := C
  have hx := C.1
  have hb := C.2.1
  replace hl : lv_has ls 5 [(0, .ref (G.2.1 18)), (1, .int v1)] := hl
  have hret := hret0
  clear hret0
  unfold f_Qu_isCovered at hf
  have LP_2 : ∀ (v1 : Int32) (n : Nat) (v2 : Int32) (ls : Array Slot) (H : Heap) (locs : List Loc) , lv_has ls 5 [(0, .ref (G.2.1 18)), (1, .int v1), (2, .int v2)] → Pw G.1 (tyX G) (zAX G) s (wX G S) H locs → zit (LS_Qu_isCovered_2 S v1) n v2 = some o0 → W p l e R s m args below meth c H locs 0 0 Q (F0 m 2 ls []) := by
    intro v1 n
    induction n with
    | zero => intro v2 ls H locs hl hP hf; exact zit_0 hf
    | succ n ih1 =>
      intro v2 ls H locs hl hP hf
      obtain ⟨o1, hf, hk1⟩ := zit_s hf
      have hf : L_Qu_isCovered_2 S v1 v2 = some o1 := hf
      unfold L_Qu_isCovered_2 at hf
      refine lv_iload_n hx hb d_Qu_isCovered_2 rfl (lv_at hl 2 rfl) ?_
      refine lv_aload_n hx hb d_Qu_isCovered_3 rfl (lv_at hl 0 rfl) ?_
      refine w_get C hP (fdX_18_records G S) tb_94 d_Qu_isCovered_4 ?_
      refine w_getN C hP (fdX_1_count G S) nl_1 d_Qu_isCovered_7 ?_
      refine lv_icmp_ge hx hb d_Qu_isCovered_10 (tgt := 74) (by decide) (fun h1 => ?_) (fun h1 => ?_)
      · have hf := it_t h1 hf
        have hf := zup_k hf hk1
        refine lv_iconst (v := (0 : Int32)) hx hb d_Qu_isCovered_74 (by decide) ?_
        exact hret _ _ _ _ _ d_Qu_isCovered_75 (by decide) (Option.some.inj hf) hP
      · have hf := it_f h1 hf
        refine lv_aload_n hx hb d_Qu_isCovered_13 rfl (lv_at hl 0 rfl) ?_
        refine w_get C hP (fdX_18_records G S) tb_94 d_Qu_isCovered_14 ?_
        refine lv_iload_n hx hb d_Qu_isCovered_17 rfl (lv_at hl 2 rfl) ?_
        obtain ⟨x2, h3, hf⟩ := bd_some hf
        refine w_callI (As := [.int v2]) (rest := []) C (c_Re_setAt l G S v2 x2 h3) cf_Re_setAt tb_357 (by decide) hP (obX_1 G S) rfl hl.1 rfl (Nat.le_of_ble_eq_true rfl) d_Qu_isCovered_18 (fun H locs hP => ?_)
        refine lv_istore_n (lv' := [(3, .int x2), (0, .ref (G.2.1 18)), (1, .int v1), (2, .int v2)]) hx hb d_Qu_isCovered_21 rfl hl (by decide) rfl (fun ls hl => ?_)
        refine lv_iload_n hx hb d_Qu_isCovered_22 rfl (lv_at hl 0 rfl) ?_
        obtain ⟨x4, h5, hf⟩ := bd_some hf
        refine w_callS (As := [.int x2]) (rest := []) C (c_Na_ownerOf l x2 x4 h5) cf_Na_ownerOf tb_361 (by decide) rfl hl.1 rfl (Nat.le_of_ble_eq_true rfl) d_Qu_isCovered_23 ?_
        refine lv_iload_n hx hb d_Qu_isCovered_26 rfl (lv_at hl 2 rfl) ?_
        refine lv_icmp_ge hx hb d_Qu_isCovered_27 (tgt := 68) (by decide) (fun h6 => ?_) (fun h6 => ?_)
        · have hf := it_t h6 hf
          refine lv_iinc (k := 3) (v := (v2 + (1 : Int32))) (lv' := [(2, .int (v2 + (1 : Int32))), (3, .int x2), (0, .ref (G.2.1 18)), (1, .int v1)]) hx hb d_Qu_isCovered_68 hl rfl (ii (by decide) _) (by decide) rfl (fun ls hl => ?_)
          refine lv_goto hx hb d_Qu_isCovered_71 (tgt := 2) (by decide) ?_
          exact ih1 (v2 + (1 : Int32)) _ _ _ (lv_sub hl [2, 3, 0] rfl) hP (znx_l hf hk1)
        · have hf := it_f h6 hf
          refine lv_aload_n hx hb d_Qu_isCovered_30 rfl (lv_at hl 1 rfl) ?_
          refine lv_iload_n hx hb d_Qu_isCovered_31 rfl (lv_at hl 0 rfl) ?_
          obtain ⟨x7, h8, hf⟩ := bd_some hf
          refine w_callI (As := [.int x2]) (rest := []) C (c_Qu_isPlainNext l G S x2 x7 h8) cf_Qu_isPlainNext tb_362 (by decide) hP (obX_18 G S) rfl hl.1 rfl (Nat.le_of_ble_eq_true rfl) d_Qu_isCovered_32 (fun H locs hP => ?_)
          refine lv_if_eq hx hb d_Qu_isCovered_35 (tgt := 68) (by decide) (fun h9 => ?_) (fun h9 => ?_)
          · have hf := it_t h9 hf
            refine lv_iinc (k := 3) (v := (v2 + (1 : Int32))) (lv' := [(2, .int (v2 + (1 : Int32))), (3, .int x2), (0, .ref (G.2.1 18)), (1, .int v1)]) hx hb d_Qu_isCovered_68 hl rfl (ii (by decide) _) (by decide) rfl (fun ls hl => ?_)
            refine lv_goto hx hb d_Qu_isCovered_71 (tgt := 2) (by decide) ?_
            exact ih1 (v2 + (1 : Int32)) _ _ _ (lv_sub hl [2, 3, 0] rfl) hP (znx_l hf hk1)
          · have hf := it_f h9 hf
            refine lv_aload_n hx hb d_Qu_isCovered_38 rfl (lv_at hl 1 rfl) ?_
            refine w_get C hP (fdX_18_records G S) tb_94 d_Qu_isCovered_39 ?_
            refine lv_iload_n hx hb d_Qu_isCovered_42 rfl (lv_at hl 0 rfl) ?_
            obtain ⟨x10, h11, hf⟩ := bd_some hf
            refine w_callI (As := [.int x2]) (rest := []) C (c_Re_leastOf l G S x2 x10 h11) cf_Re_leastOf tb_339 (by decide) hP (obX_1 G S) rfl hl.1 rfl (Nat.le_of_ble_eq_true rfl) d_Qu_isCovered_43 (fun H locs hP => ?_)
            obtain ⟨x12, h13, hf⟩ := bd_some hf
            refine w_callS (As := [.int x10]) (rest := []) C (c_To_nameIn l x10 x12 h13) cf_To_nameIn tb_366 (by decide) rfl hl.1 rfl (Nat.le_of_ble_eq_true rfl) d_Qu_isCovered_46 ?_
            refine lv_istore (lv' := [(4, .int x12), (3, .int x2), (0, .ref (G.2.1 18)), (1, .int v1), (2, .int v2)]) hx hb d_Qu_isCovered_49 hl (by decide) rfl (fun ls hl => ?_)
            refine lv_iload_n hx hb d_Qu_isCovered_51 rfl (lv_at hl 3 rfl) ?_
            refine lv_iload hx hb d_Qu_isCovered_52 (lv_at hl 0 rfl) ?_
            refine lv_icmp_lt hx hb d_Qu_isCovered_54 (tgt := 66) (by decide) (fun h14 => ?_) (fun h14 => ?_)
            · have hf := it_t h14 hf
              have hf := zup_k hf hk1
              refine lv_iconst (v := (1 : Int32)) hx hb d_Qu_isCovered_66 (by decide) ?_
              exact hret _ _ _ _ _ d_Qu_isCovered_67 (by decide) (Option.some.inj hf) hP
            · have hf := it_f h14 hf
              refine lv_iload hx hb d_Qu_isCovered_57 (lv_at hl 0 rfl) ?_
              refine lv_aload_n hx hb d_Qu_isCovered_59 rfl (lv_at hl 2 rfl) ?_
              refine w_get C hP (fdX_18_zone G S) tb_101 d_Qu_isCovered_60 ?_
              refine lv_icmp_ne hx hb d_Qu_isCovered_63 (tgt := 68) (by decide) (fun h15 => ?_) (fun h15 => ?_)
              · have hf := it_f h15 hf
                refine lv_iinc (k := 4) (v := (v2 + (1 : Int32))) (lv' := [(2, .int (v2 + (1 : Int32))), (4, .int x12), (3, .int x2), (0, .ref (G.2.1 18)), (1, .int v1)]) hx hb d_Qu_isCovered_68 hl rfl (ii (by decide) _) (by decide) rfl (fun ls hl => ?_)
                refine lv_goto hx hb d_Qu_isCovered_71 (tgt := 2) (by decide) ?_
                exact ih1 (v2 + (1 : Int32)) _ _ _ (lv_sub hl [3, 4, 0] rfl) hP (znx_l hf hk1)
              · have hf := it_t h15 hf
                have hf := zup_k hf hk1
                refine lv_iconst (v := (1 : Int32)) hx hb d_Qu_isCovered_66 (by decide) ?_
                exact hret _ _ _ _ _ d_Qu_isCovered_67 (by decide) (Option.some.inj hf) hP
  refine lv_iconst (v := (0 : Int32)) hx hb d_Qu_isCovered_0 (by decide) ?_
  refine lv_istore_n (lv' := [(2, .int (0 : Int32)), (0, .ref (G.2.1 18)), (1, .int v1)]) hx hb d_Qu_isCovered_1 rfl hl (by decide) rfl (fun ls hl => ?_)
  exact LP_2 v1 64 (0 : Int32) _ _ _ (lv_sub hl [1, 2, 0] rfl) hP hf
def f_Qu_tells (S : XSt) (v1 : Int32) (v2 : Int32) : Option Int32 := Option.bind (f_Re_leastOf S v1) (fun x1 => Option.bind (f_To_hasType x1 v2) (fun x3 => zgd (zib x3) (some x3)))
set_option maxHeartbeats 4000000 in
set_option maxRecDepth 100000 in
theorem c_Qu_tells (l : Launch) (G : XG) (S : XSt) (v1 : Int32) (v2 : Int32) (o0 : Int32) (hf : f_Qu_tells S v1 v2 = some o0) : MetI l y_Qu_tells b_Qu_tells 3 (some .boolean) 2 [.ref (G.2.1 18), .int v1, .int v2] G.1 (tyX G) (zAX G) (wX G S) o0 (wX G S) := by
  refine mkZ (by decide) (Nat.le_of_ble_eq_true rfl) ?_
  intro p e R s m args below meth c ls Q C hl hP hret0
  replace C : Cw p m c b_Qu_tells 3 s args "TrustResolver$Question" R 2 := C
  have hx := C.1
  have hb := C.2.1
  replace hl : lv_has ls 3 [(0, .ref (G.2.1 18)), (1, .int v1), (2, .int v2)] := hl
  have hret := hret0
  clear hret0
  unfold f_Qu_tells at hf
  refine lv_aload_n hx hb d_Qu_tells_0 rfl (lv_at hl 0 rfl) ?_
  refine w_get C hP (fdX_18_records G S) tb_94 d_Qu_tells_1 ?_
  refine lv_iload_n hx hb d_Qu_tells_4 rfl (lv_at hl 1 rfl) ?_
  obtain ⟨x1, h2, hf⟩ := bd_some hf
  refine w_callI (As := [.int v1]) (rest := []) C (c_Re_leastOf l G S v1 x1 h2) cf_Re_leastOf tb_339 (by decide) hP (obX_1 G S) rfl hl.1 rfl (Nat.le_of_ble_eq_true rfl) d_Qu_tells_5 (fun H locs hP => ?_)
  refine lv_iload_n hx hb d_Qu_tells_8 rfl (lv_at hl 2 rfl) ?_
  obtain ⟨x3, h4, hf⟩ := bd_some hf
  refine w_callS (As := [.int x1, .int v2]) (rest := []) C (c_To_hasType l x1 v2 x3 h4) cf_To_hasType tb_344 (by decide) rfl hl.1 rfl (Nat.le_of_ble_eq_true rfl) d_Qu_tells_9 ?_
  obtain ⟨h5, hf⟩ := zgd_some hf
  exact hret _ _ _ _ _ d_Qu_tells_12 h5 (Option.some.inj hf) hP
def f_Qu_whyAbsent (S : XSt)  : Option Int32 := Option.bind (f_Na_setOf (S.1 8) (5 : Int32)) (fun x1 => Option.bind (f_Si_isPlain S x1) (fun x3 => (if x3 = (0 : Int32) then (if (S.1 8) = (S.1 7) then some (14 : Int32) else Option.bind (f_Qu_closestKnown S) (fun x7 => Option.bind (f_Na_depth x7) (fun x9 => Option.bind (f_Na_firstLabels (S.1 8) (x9 + (1 : Int32))) (fun x11 => Option.bind (f_Qu_isCovered S x11) (fun x13 => (if x13 = (0 : Int32) then some (14 : Int32) else Option.bind (f_Na_starOf x7) (fun x16 => Option.bind (f_Qu_isCovered S x16) (fun x18 => (if x18 = (0 : Int32) then Option.bind (f_Na_setOf x16 (5 : Int32)) (fun x21 => Option.bind (f_Si_isPlain S x21) (fun x23 => (if x23 = (0 : Int32) then (if (0 : Int32) = (0 : Int32) then some (17 : Int32) else some (16 : Int32)) else Option.bind (f_Qu_tells S x21 (S.1 9)) (fun x27 => (if x27 = (0 : Int32) then (if (1 : Int32) = (0 : Int32) then some (17 : Int32) else some (16 : Int32)) else (if (0 : Int32) = (0 : Int32) then some (17 : Int32) else some (16 : Int32))))))) else some (15 : Int32)))))))))) else Option.bind (f_Qu_tells S x1 (S.1 9)) (fun x32 => (if x32 = (0 : Int32) then some (12 : Int32) else some (13 : Int32))))))
set_option maxHeartbeats 4000000 in
set_option maxRecDepth 100000 in
theorem c_Qu_whyAbsent (l : Launch) (G : XG) (S : XSt)  (o0 : Int32) (hf : f_Qu_whyAbsent S = some o0) : MetI l y_Qu_whyAbsent b_Qu_whyAbsent 6 (some .int) 4 [.ref (G.2.1 18)] G.1 (tyX G) (zAX G) (wX G S) o0 (wX G S) := by
  refine mkI (by decide) (Nat.le_of_ble_eq_true rfl) ?_
  intro p e R s m args below meth c ls Q C hl hP hret0
  replace C : Cw p m c b_Qu_whyAbsent 6 s args "TrustResolver$Question" R 4 := C
  have hx := C.1
  have hb := C.2.1
  replace hl : lv_has ls 6 [(0, .ref (G.2.1 18))] := hl
  have hret := hret0
  clear hret0
  unfold f_Qu_whyAbsent at hf
  refine lv_aload_n hx hb d_Qu_whyAbsent_0 rfl (lv_at hl 0 rfl) ?_
  refine w_get C hP (fdX_18_name G S) tb_102 d_Qu_whyAbsent_1 ?_
  refine lv_iconst (v := (5 : Int32)) hx hb d_Qu_whyAbsent_4 (by decide) ?_
  obtain ⟨x1, h2, hf⟩ := bd_some hf
  refine w_callS (As := [.int (S.1 8), .int (5 : Int32)]) (rest := []) C (c_Na_setOf l (S.1 8) (5 : Int32) x1 h2) cf_Na_setOf tb_297 (by decide) rfl hl.1 rfl (Nat.le_of_ble_eq_true rfl) d_Qu_whyAbsent_5 ?_
  refine lv_istore_n (lv' := [(1, .int x1), (0, .ref (G.2.1 18))]) hx hb d_Qu_whyAbsent_8 rfl hl (by decide) rfl (fun ls hl => ?_)
  refine lv_aload_n hx hb d_Qu_whyAbsent_9 rfl (lv_at hl 1 rfl) ?_
  refine w_get C hP (fdX_18_signatures G S) tb_95 d_Qu_whyAbsent_10 ?_
  refine lv_iload_n hx hb d_Qu_whyAbsent_13 rfl (lv_at hl 0 rfl) ?_
  obtain ⟨x3, h4, hf⟩ := bd_some hf
  refine w_callI (As := [.int x1]) (rest := []) C (c_Si_isPlain l G S x1 x3 h4) cf_Si_isPlain tb_321 (by decide) hP (obX_4 G S) rfl hl.1 rfl (Nat.le_of_ble_eq_true rfl) d_Qu_whyAbsent_14 (fun H locs hP => ?_)
  refine lv_if_eq hx hb d_Qu_whyAbsent_17 (tgt := 40) (by decide) (fun h5 => ?_) (fun h5 => ?_)
  · have hf := it_t h5 hf
    refine lv_aload_n hx hb d_Qu_whyAbsent_40 rfl (lv_at hl 1 rfl) ?_
    refine w_get C hP (fdX_18_name G S) tb_102 d_Qu_whyAbsent_41 ?_
    refine lv_aload_n hx hb d_Qu_whyAbsent_44 rfl (lv_at hl 1 rfl) ?_
    refine w_get C hP (fdX_18_zone G S) tb_101 d_Qu_whyAbsent_45 ?_
    refine lv_icmp_ne hx hb d_Qu_whyAbsent_48 (tgt := 54) (by decide) (fun h6 => ?_) (fun h6 => ?_)
    · have hf := it_f h6 hf
      refine lv_aload_n hx hb d_Qu_whyAbsent_54 rfl (lv_at hl 1 rfl) ?_
      obtain ⟨x7, h8, hf⟩ := bd_some hf
      refine w_callI (As := []) (rest := []) C (c_Qu_closestKnown l G S x7 h8) cf_Qu_closestKnown tb_370 (by decide) hP (obX_18 G S) rfl hl.1 rfl (Nat.le_of_ble_eq_true rfl) d_Qu_whyAbsent_55 (fun H locs hP => ?_)
      refine lv_istore_n (lv' := [(2, .int x7), (1, .int x1), (0, .ref (G.2.1 18))]) hx hb d_Qu_whyAbsent_58 rfl hl (by decide) rfl (fun ls hl => ?_)
      refine lv_aload_n hx hb d_Qu_whyAbsent_59 rfl (lv_at hl 2 rfl) ?_
      refine lv_aload_n hx hb d_Qu_whyAbsent_60 rfl (lv_at hl 2 rfl) ?_
      refine w_get C hP (fdX_18_name G S) tb_102 d_Qu_whyAbsent_61 ?_
      refine lv_iload_n hx hb d_Qu_whyAbsent_64 rfl (lv_at hl 0 rfl) ?_
      obtain ⟨x9, h10, hf⟩ := bd_some hf
      refine w_callS (As := [.int x7]) (rest := [.int (S.1 8), .ref (G.2.1 18)]) C (c_Na_depth l x7 x9 h10) cf_Na_depth tb_331 (by decide) rfl hl.1 rfl (Nat.le_of_ble_eq_true rfl) d_Qu_whyAbsent_65 ?_
      refine lv_iconst (v := (1 : Int32)) hx hb d_Qu_whyAbsent_68 (by decide) ?_
      refine lv_iadd hx hb d_Qu_whyAbsent_69 ?_
      obtain ⟨x11, h12, hf⟩ := bd_some hf
      refine w_callS (As := [.int (S.1 8), .int (x9 + (1 : Int32))]) (rest := [.ref (G.2.1 18)]) C (c_Na_firstLabels l (S.1 8) (x9 + (1 : Int32)) x11 h12) cf_Na_firstLabels tb_332 (by decide) rfl hl.1 rfl (Nat.le_of_ble_eq_true rfl) d_Qu_whyAbsent_70 ?_
      obtain ⟨x13, h14, hf⟩ := bd_some hf
      refine w_callI (As := [.int x11]) (rest := []) C (c_Qu_isCovered l G S x11 x13 h14) cf_Qu_isCovered tb_354 (by decide) hP (obX_18 G S) rfl hl.1 rfl (Nat.le_of_ble_eq_true rfl) d_Qu_whyAbsent_73 (fun H locs hP => ?_)
      refine lv_if_ne hx hb d_Qu_whyAbsent_76 (tgt := 82) (by decide) (fun h15 => ?_) (fun h15 => ?_)
      · have hf := it_f h15 hf
        refine lv_iload_n hx hb d_Qu_whyAbsent_82 rfl (lv_at hl 0 rfl) ?_
        obtain ⟨x16, h17, hf⟩ := bd_some hf
        refine w_callS (As := [.int x7]) (rest := []) C (c_Na_starOf l x7 x16 h17) cf_Na_starOf tb_377 (by decide) rfl hl.1 rfl (Nat.le_of_ble_eq_true rfl) d_Qu_whyAbsent_83 ?_
        refine lv_istore_n (lv' := [(3, .int x16), (2, .int x7), (1, .int x1), (0, .ref (G.2.1 18))]) hx hb d_Qu_whyAbsent_86 rfl hl (by decide) rfl (fun ls hl => ?_)
        refine lv_aload_n hx hb d_Qu_whyAbsent_87 rfl (lv_at hl 3 rfl) ?_
        refine lv_iload_n hx hb d_Qu_whyAbsent_88 rfl (lv_at hl 0 rfl) ?_
        obtain ⟨x18, h19, hf⟩ := bd_some hf
        refine w_callI (As := [.int x16]) (rest := []) C (c_Qu_isCovered l G S x16 x18 h19) cf_Qu_isCovered tb_354 (by decide) hP (obX_18 G S) rfl hl.1 rfl (Nat.le_of_ble_eq_true rfl) d_Qu_whyAbsent_89 (fun H locs hP => ?_)
        refine lv_if_eq hx hb d_Qu_whyAbsent_92 (tgt := 98) (by decide) (fun h20 => ?_) (fun h20 => ?_)
        · have hf := it_t h20 hf
          refine lv_iload_n hx hb d_Qu_whyAbsent_98 rfl (lv_at hl 0 rfl) ?_
          refine lv_iconst (v := (5 : Int32)) hx hb d_Qu_whyAbsent_99 (by decide) ?_
          obtain ⟨x21, h22, hf⟩ := bd_some hf
          refine w_callS (As := [.int x16, .int (5 : Int32)]) (rest := []) C (c_Na_setOf l x16 (5 : Int32) x21 h22) cf_Na_setOf tb_297 (by decide) rfl hl.1 rfl (Nat.le_of_ble_eq_true rfl) d_Qu_whyAbsent_100 ?_
          refine lv_istore (lv' := [(4, .int x21), (3, .int x16), (2, .int x7), (1, .int x1), (0, .ref (G.2.1 18))]) hx hb d_Qu_whyAbsent_103 hl (by decide) rfl (fun ls hl => ?_)
          refine lv_aload_n hx hb d_Qu_whyAbsent_105 rfl (lv_at hl 4 rfl) ?_
          refine w_get C hP (fdX_18_signatures G S) tb_95 d_Qu_whyAbsent_106 ?_
          refine lv_iload hx hb d_Qu_whyAbsent_109 (lv_at hl 0 rfl) ?_
          obtain ⟨x23, h24, hf⟩ := bd_some hf
          refine w_callI (As := [.int x21]) (rest := []) C (c_Si_isPlain l G S x21 x23 h24) cf_Si_isPlain tb_321 (by decide) hP (obX_4 G S) rfl hl.1 rfl (Nat.le_of_ble_eq_true rfl) d_Qu_whyAbsent_111 (fun H locs hP => ?_)
          refine lv_if_eq hx hb d_Qu_whyAbsent_114 (tgt := 134) (by decide) (fun h25 => ?_) (fun h25 => ?_)
          · have hf := it_t h25 hf
            refine lv_iconst (v := (0 : Int32)) hx hb d_Qu_whyAbsent_134 (by decide) ?_
            refine lv_istore (lv' := [(5, .int (0 : Int32)), (4, .int x21), (3, .int x16), (2, .int x7), (1, .int x1), (0, .ref (G.2.1 18))]) hx hb d_Qu_whyAbsent_135 hl (by decide) rfl (fun ls hl => ?_)
            refine lv_iload hx hb d_Qu_whyAbsent_137 (lv_at hl 0 rfl) ?_
            refine lv_if_eq hx hb d_Qu_whyAbsent_139 (tgt := 147) (by decide) (fun h26 => ?_) (fun h26 => ?_)
            · have hf := it_t h26 hf
              refine lv_bipush (v := (17 : Int32)) hx hb d_Qu_whyAbsent_147 (by decide) ?_
              exact hret _ _ _ _ _ d_Qu_whyAbsent_149 (Option.some.inj hf) hP
            · have hf := it_f h26 hf
              refine lv_bipush (v := (16 : Int32)) hx hb d_Qu_whyAbsent_142 (by decide) ?_
              refine lv_goto hx hb d_Qu_whyAbsent_144 (tgt := 149) (by decide) ?_
              exact hret _ _ _ _ _ d_Qu_whyAbsent_149 (Option.some.inj hf) hP
          · have hf := it_f h25 hf
            refine lv_aload_n hx hb d_Qu_whyAbsent_117 rfl (lv_at hl 4 rfl) ?_
            refine lv_iload hx hb d_Qu_whyAbsent_118 (lv_at hl 0 rfl) ?_
            refine lv_aload_n hx hb d_Qu_whyAbsent_120 rfl (lv_at hl 4 rfl) ?_
            refine w_get C hP (fdX_18_type G S) tb_103 d_Qu_whyAbsent_121 ?_
            obtain ⟨x27, h28, hf⟩ := bd_some hf
            refine w_callI (As := [.int x21, .int (S.1 9)]) (rest := []) C (c_Qu_tells l G S x21 (S.1 9) x27 h28) cf_Qu_tells tb_336 (by decide) hP (obX_18 G S) rfl hl.1 rfl (Nat.le_of_ble_eq_true rfl) d_Qu_whyAbsent_124 (fun H locs hP => ?_)
            refine lv_if_ne hx hb d_Qu_whyAbsent_127 (tgt := 134) (by decide) (fun h29 => ?_) (fun h29 => ?_)
            · have hf := it_f h29 hf
              refine lv_iconst (v := (0 : Int32)) hx hb d_Qu_whyAbsent_134 (by decide) ?_
              refine lv_istore (lv' := [(5, .int (0 : Int32)), (4, .int x21), (3, .int x16), (2, .int x7), (1, .int x1), (0, .ref (G.2.1 18))]) hx hb d_Qu_whyAbsent_135 hl (by decide) rfl (fun ls hl => ?_)
              refine lv_iload hx hb d_Qu_whyAbsent_137 (lv_at hl 0 rfl) ?_
              refine lv_if_eq hx hb d_Qu_whyAbsent_139 (tgt := 147) (by decide) (fun h30 => ?_) (fun h30 => ?_)
              · have hf := it_t h30 hf
                refine lv_bipush (v := (17 : Int32)) hx hb d_Qu_whyAbsent_147 (by decide) ?_
                exact hret _ _ _ _ _ d_Qu_whyAbsent_149 (Option.some.inj hf) hP
              · have hf := it_f h30 hf
                refine lv_bipush (v := (16 : Int32)) hx hb d_Qu_whyAbsent_142 (by decide) ?_
                refine lv_goto hx hb d_Qu_whyAbsent_144 (tgt := 149) (by decide) ?_
                exact hret _ _ _ _ _ d_Qu_whyAbsent_149 (Option.some.inj hf) hP
            · have hf := it_t h29 hf
              refine lv_iconst (v := (1 : Int32)) hx hb d_Qu_whyAbsent_130 (by decide) ?_
              refine lv_goto hx hb d_Qu_whyAbsent_131 (tgt := 135) (by decide) ?_
              refine lv_istore (lv' := [(5, .int (1 : Int32)), (4, .int x21), (3, .int x16), (2, .int x7), (1, .int x1), (0, .ref (G.2.1 18))]) hx hb d_Qu_whyAbsent_135 hl (by decide) rfl (fun ls hl => ?_)
              refine lv_iload hx hb d_Qu_whyAbsent_137 (lv_at hl 0 rfl) ?_
              refine lv_if_eq hx hb d_Qu_whyAbsent_139 (tgt := 147) (by decide) (fun h31 => ?_) (fun h31 => ?_)
              · have hf := it_t h31 hf
                refine lv_bipush (v := (17 : Int32)) hx hb d_Qu_whyAbsent_147 (by decide) ?_
                exact hret _ _ _ _ _ d_Qu_whyAbsent_149 (Option.some.inj hf) hP
              · have hf := it_f h31 hf
                refine lv_bipush (v := (16 : Int32)) hx hb d_Qu_whyAbsent_142 (by decide) ?_
                refine lv_goto hx hb d_Qu_whyAbsent_144 (tgt := 149) (by decide) ?_
                exact hret _ _ _ _ _ d_Qu_whyAbsent_149 (Option.some.inj hf) hP
        · have hf := it_f h20 hf
          refine lv_bipush (v := (15 : Int32)) hx hb d_Qu_whyAbsent_95 (by decide) ?_
          exact hret _ _ _ _ _ d_Qu_whyAbsent_97 (Option.some.inj hf) hP
      · have hf := it_t h15 hf
        refine lv_bipush (v := (14 : Int32)) hx hb d_Qu_whyAbsent_79 (by decide) ?_
        exact hret _ _ _ _ _ d_Qu_whyAbsent_81 (Option.some.inj hf) hP
    · have hf := it_t h6 hf
      refine lv_bipush (v := (14 : Int32)) hx hb d_Qu_whyAbsent_51 (by decide) ?_
      exact hret _ _ _ _ _ d_Qu_whyAbsent_53 (Option.some.inj hf) hP
  · have hf := it_f h5 hf
    refine lv_aload_n hx hb d_Qu_whyAbsent_20 rfl (lv_at hl 1 rfl) ?_
    refine lv_iload_n hx hb d_Qu_whyAbsent_21 rfl (lv_at hl 0 rfl) ?_
    refine lv_aload_n hx hb d_Qu_whyAbsent_22 rfl (lv_at hl 1 rfl) ?_
    refine w_get C hP (fdX_18_type G S) tb_103 d_Qu_whyAbsent_23 ?_
    obtain ⟨x32, h33, hf⟩ := bd_some hf
    refine w_callI (As := [.int x1, .int (S.1 9)]) (rest := []) C (c_Qu_tells l G S x1 (S.1 9) x32 h33) cf_Qu_tells tb_336 (by decide) hP (obX_18 G S) rfl hl.1 rfl (Nat.le_of_ble_eq_true rfl) d_Qu_whyAbsent_26 (fun H locs hP => ?_)
    refine lv_if_eq hx hb d_Qu_whyAbsent_29 (tgt := 37) (by decide) (fun h34 => ?_) (fun h34 => ?_)
    · have hf := it_t h34 hf
      refine lv_bipush (v := (12 : Int32)) hx hb d_Qu_whyAbsent_37 (by decide) ?_
      exact hret _ _ _ _ _ d_Qu_whyAbsent_39 (Option.some.inj hf) hP
    · have hf := it_f h34 hf
      refine lv_bipush (v := (13 : Int32)) hx hb d_Qu_whyAbsent_32 (by decide) ?_
      refine lv_goto hx hb d_Qu_whyAbsent_34 (tgt := 39) (by decide) ?_
      exact hret _ _ _ _ _ d_Qu_whyAbsent_39 (Option.some.inj hf) hP
def f_Qu_whyThere (S : XSt) (v1 : Int32) : Option Int32 := Option.bind (f_Si_isPlain S v1) (fun x1 => (if x1 = (0 : Int32) then Option.bind (f_Si_labelsOfFirstGood S v1) (fun x4 => (if x4 = (-1 : Int32) then some (11 : Int32) else Option.bind (f_Na_firstLabels (S.1 8) (x4 + (1 : Int32))) (fun x7 => Option.bind (f_Qu_isCovered S x7) (fun x9 => (if x9 = (0 : Int32) then some (10 : Int32) else some (9 : Int32)))))) else some (8 : Int32)))
set_option maxHeartbeats 4000000 in
set_option maxRecDepth 100000 in
theorem c_Qu_whyThere (l : Launch) (G : XG) (S : XSt) (v1 : Int32) (o0 : Int32) (hf : f_Qu_whyThere S v1 = some o0) : MetI l y_Qu_whyThere b_Qu_whyThere 3 (some .int) 3 [.ref (G.2.1 18), .int v1] G.1 (tyX G) (zAX G) (wX G S) o0 (wX G S) := by
  refine mkI (by decide) (Nat.le_of_ble_eq_true rfl) ?_
  intro p e R s m args below meth c ls Q C hl hP hret0
  replace C : Cw p m c b_Qu_whyThere 3 s args "TrustResolver$Question" R 3 := C
  have hx := C.1
  have hb := C.2.1
  replace hl : lv_has ls 3 [(0, .ref (G.2.1 18)), (1, .int v1)] := hl
  have hret := hret0
  clear hret0
  unfold f_Qu_whyThere at hf
  refine lv_aload_n hx hb d_Qu_whyThere_0 rfl (lv_at hl 0 rfl) ?_
  refine w_get C hP (fdX_18_signatures G S) tb_95 d_Qu_whyThere_1 ?_
  refine lv_iload_n hx hb d_Qu_whyThere_4 rfl (lv_at hl 1 rfl) ?_
  obtain ⟨x1, h2, hf⟩ := bd_some hf
  refine w_callI (As := [.int v1]) (rest := []) C (c_Si_isPlain l G S v1 x1 h2) cf_Si_isPlain tb_321 (by decide) hP (obX_4 G S) rfl hl.1 rfl (Nat.le_of_ble_eq_true rfl) d_Qu_whyThere_5 (fun H locs hP => ?_)
  refine lv_if_eq hx hb d_Qu_whyThere_8 (tgt := 14) (by decide) (fun h3 => ?_) (fun h3 => ?_)
  · have hf := it_t h3 hf
    refine lv_aload_n hx hb d_Qu_whyThere_14 rfl (lv_at hl 0 rfl) ?_
    refine w_get C hP (fdX_18_signatures G S) tb_95 d_Qu_whyThere_15 ?_
    refine lv_iload_n hx hb d_Qu_whyThere_18 rfl (lv_at hl 1 rfl) ?_
    obtain ⟨x4, h5, hf⟩ := bd_some hf
    refine w_callI (As := [.int v1]) (rest := []) C (c_Si_labelsOfFirstGood l G S v1 x4 h5) cf_Si_labelsOfFirstGood tb_350 (by decide) hP (obX_4 G S) rfl hl.1 rfl (Nat.le_of_ble_eq_true rfl) d_Qu_whyThere_19 (fun H locs hP => ?_)
    refine lv_istore_n (lv' := [(2, .int x4), (0, .ref (G.2.1 18)), (1, .int v1)]) hx hb d_Qu_whyThere_22 rfl hl (by decide) rfl (fun ls hl => ?_)
    refine lv_iload_n hx hb d_Qu_whyThere_23 rfl (lv_at hl 0 rfl) ?_
    refine lv_iconst (v := (-1 : Int32)) hx hb d_Qu_whyThere_24 (by decide) ?_
    refine lv_icmp_ne hx hb d_Qu_whyThere_25 (tgt := 31) (by decide) (fun h6 => ?_) (fun h6 => ?_)
    · have hf := it_f h6 hf
      refine lv_aload_n hx hb d_Qu_whyThere_31 rfl (lv_at hl 1 rfl) ?_
      refine lv_aload_n hx hb d_Qu_whyThere_32 rfl (lv_at hl 1 rfl) ?_
      refine w_get C hP (fdX_18_name G S) tb_102 d_Qu_whyThere_33 ?_
      refine lv_iload_n hx hb d_Qu_whyThere_36 rfl (lv_at hl 0 rfl) ?_
      refine lv_iconst (v := (1 : Int32)) hx hb d_Qu_whyThere_37 (by decide) ?_
      refine lv_iadd hx hb d_Qu_whyThere_38 ?_
      obtain ⟨x7, h8, hf⟩ := bd_some hf
      refine w_callS (As := [.int (S.1 8), .int (x4 + (1 : Int32))]) (rest := [.ref (G.2.1 18)]) C (c_Na_firstLabels l (S.1 8) (x4 + (1 : Int32)) x7 h8) cf_Na_firstLabels tb_332 (by decide) rfl hl.1 rfl (Nat.le_of_ble_eq_true rfl) d_Qu_whyThere_39 ?_
      obtain ⟨x9, h10, hf⟩ := bd_some hf
      refine w_callI (As := [.int x7]) (rest := []) C (c_Qu_isCovered l G S x7 x9 h10) cf_Qu_isCovered tb_354 (by decide) hP (obX_18 G S) rfl hl.1 rfl (Nat.le_of_ble_eq_true rfl) d_Qu_whyThere_42 (fun H locs hP => ?_)
      refine lv_if_eq hx hb d_Qu_whyThere_45 (tgt := 53) (by decide) (fun h11 => ?_) (fun h11 => ?_)
      · have hf := it_t h11 hf
        refine lv_bipush (v := (10 : Int32)) hx hb d_Qu_whyThere_53 (by decide) ?_
        exact hret _ _ _ _ _ d_Qu_whyThere_55 (Option.some.inj hf) hP
      · have hf := it_f h11 hf
        refine lv_bipush (v := (9 : Int32)) hx hb d_Qu_whyThere_48 (by decide) ?_
        refine lv_goto hx hb d_Qu_whyThere_50 (tgt := 55) (by decide) ?_
        exact hret _ _ _ _ _ d_Qu_whyThere_55 (Option.some.inj hf) hP
    · have hf := it_t h6 hf
      refine lv_bipush (v := (11 : Int32)) hx hb d_Qu_whyThere_28 (by decide) ?_
      exact hret _ _ _ _ _ d_Qu_whyThere_30 (Option.some.inj hf) hP
  · have hf := it_f h3 hf
    refine lv_bipush (v := (8 : Int32)) hx hb d_Qu_whyThere_11 (by decide) ?_
    exact hret _ _ _ _ _ d_Qu_whyThere_13 (Option.some.inj hf) hP
def L_Qu_takeSet_d_26 (v3 : Int32) (v4 : Int32) (v5 : Int32) (S : XSt) : Option ((Int32 × XSt) ⊕ XSt) := (if v4 ≤ v5 then zup (some S) else Option.bind (f_Re_dataAt S (v3 + v5)) (fun x2 => Option.bind (f_Nu_put_d S x2) (fun x4 => some (Sum.inl ((v5 + (1 : Int32)), x4)))))
def LS_Qu_takeSet_d_26 (v3 : Int32) (v4 : Int32) (v : (Int32 × XSt)) : Option ((Int32 × XSt) ⊕ XSt) := L_Qu_takeSet_d_26 v3 v4 v.1 v.2
def f_Qu_takeSet_d (S : XSt) (v2 : Int32) : Option XSt := Option.bind (f_Re_startOf S v2) (fun x6 => Option.bind (f_Re_sizeOf S v2) (fun x8 => Option.bind (f_Nu_clear_d S) (fun x10 => zit (LS_Qu_takeSet_d_26 x6 x8) 64 ((0 : Int32), x10))))
set_option maxHeartbeats 4000000 in
set_option maxRecDepth 100000 in
theorem c_Qu_takeSet_d (l : Launch) (G : XG) (S : XSt) (v2 : Int32) (o0 : XSt) (hf : f_Qu_takeSet_d S v2 = some o0) : MetV l y_Qu_takeSet b_Qu_takeSet 6 1 [.ref (G.2.1 18), .ref (G.2.1 19), .int v2] G.1 (tyX G) (zAX G) (wX G S) (wX G o0) := by
  refine mkV (by decide) (Nat.le_of_ble_eq_true rfl) ?_
  intro p e R s m args below meth c ls Q C hl hP hret0
  replace C : Cw p m c b_Qu_takeSet 6 s args "TrustResolver$Question" R 1 := C
  have hx := C.1
  have hb := C.2.1
  replace hl : lv_has ls 6 [(0, .ref (G.2.1 18)), (1, .ref (G.2.1 19)), (2, .int v2)] := hl
  have hret : ∀ (pc : Nat) (ls : Array Slot) (H : Heap) (locs : List Loc) (S' : XSt), decode b_Qu_takeSet pc = .ok (.return_, 1) → S' = o0 → Pw G.1 (tyX G) (zAX G) s (wX G S') H locs → W p l e R s m args below meth c H locs 0 0 Q (F0 m pc ls []) := fun pc ls H locs S' hd he hP => hret0 pc ls H locs hd (by rw [← he]; exact hP)
  clear hret0
  unfold f_Qu_takeSet_d at hf
  have LP_26 : ∀ (v3 : Int32) (v4 : Int32) (n : Nat) (v5 : Int32) (S : XSt) (ls : Array Slot) (H : Heap) (locs : List Loc) , lv_has ls 6 [(0, .ref (G.2.1 18)), (1, .ref (G.2.1 19)), (3, .int v3), (4, .int v4), (5, .int v5)] → Pw G.1 (tyX G) (zAX G) s (wX G S) H locs → zit (LS_Qu_takeSet_d_26 v3 v4) n (v5, S) = some o0 → W p l e R s m args below meth c H locs 0 0 Q (F0 m 26 ls []) := by
    intro v3 v4 n
    induction n with
    | zero => intro v5 S ls H locs hl hP hf; exact zit_0 hf
    | succ n ih1 =>
      intro v5 S ls H locs hl hP hf
      obtain ⟨o1, hf, hk1⟩ := zit_s hf
      have hf : L_Qu_takeSet_d_26 v3 v4 v5 S = some o1 := hf
      unfold L_Qu_takeSet_d_26 at hf
      refine lv_iload hx hb d_Qu_takeSet_26 (lv_at hl 4 rfl) ?_
      refine lv_iload hx hb d_Qu_takeSet_28 (lv_at hl 3 rfl) ?_
      refine lv_icmp_ge hx hb d_Qu_takeSet_30 (tgt := 54) (by decide) (fun h1 => ?_) (fun h1 => ?_)
      · have hf := it_t h1 hf
        have hf := zup_k hf hk1
        exact hret _ _ _ _ _ d_Qu_takeSet_54 (Option.some.inj hf) hP
      · have hf := it_f h1 hf
        refine lv_aload_n hx hb d_Qu_takeSet_33 rfl (lv_at hl 1 rfl) ?_
        refine lv_aload_n hx hb d_Qu_takeSet_34 rfl (lv_at hl 0 rfl) ?_
        refine w_get C hP (fdX_18_records G S) tb_94 d_Qu_takeSet_35 ?_
        refine lv_iload_n hx hb d_Qu_takeSet_38 rfl (lv_at hl 2 rfl) ?_
        refine lv_iload hx hb d_Qu_takeSet_39 (lv_at hl 4 rfl) ?_
        refine lv_iadd hx hb d_Qu_takeSet_41 ?_
        obtain ⟨x2, h3, hf⟩ := bd_some hf
        refine w_callI (As := [.int (v3 + v5)]) (rest := [.ref (G.2.1 19)]) C (c_Re_dataAt l G S (v3 + v5) x2 h3) cf_Re_dataAt tb_306 (by decide) hP (obX_1 G S) rfl hl.1 rfl (Nat.le_of_ble_eq_true rfl) d_Qu_takeSet_42 (fun H locs hP => ?_)
        obtain ⟨x4, h5, hf⟩ := bd_some hf
        refine w_callV (As := [.int x2]) (rest := []) C (c_Nu_put_d l G S x2 x4 h5) cf_Nu_put tb_290 (by decide) hP (obX_19 G S) rfl hl.1 rfl (Nat.le_of_ble_eq_true rfl) d_Qu_takeSet_45 (fun H locs hP => ?_)
        refine lv_iinc (k := 4) (v := (v5 + (1 : Int32))) (lv' := [(5, .int (v5 + (1 : Int32))), (0, .ref (G.2.1 18)), (1, .ref (G.2.1 19)), (3, .int v3), (4, .int v4)]) hx hb d_Qu_takeSet_48 hl rfl (ii (by decide) _) (by decide) rfl (fun ls hl => ?_)
        refine lv_goto hx hb d_Qu_takeSet_51 (tgt := 26) (by decide) ?_
        exact ih1 (v5 + (1 : Int32)) x4 _ _ _ (lv_sub hl [1, 2, 3, 4, 0] rfl) hP (znx_l hf hk1)
  refine lv_aload_n hx hb d_Qu_takeSet_0 rfl (lv_at hl 0 rfl) ?_
  refine w_get C hP (fdX_18_records G S) tb_94 d_Qu_takeSet_1 ?_
  refine lv_iload_n hx hb d_Qu_takeSet_4 rfl (lv_at hl 2 rfl) ?_
  obtain ⟨x6, h7, hf⟩ := bd_some hf
  refine w_callI (As := [.int v2]) (rest := []) C (c_Re_startOf l G S v2 x6 h7) cf_Re_startOf tb_305 (by decide) hP (obX_1 G S) rfl hl.1 rfl (Nat.le_of_ble_eq_true rfl) d_Qu_takeSet_5 (fun H locs hP => ?_)
  refine lv_istore_n (lv' := [(3, .int x6), (0, .ref (G.2.1 18)), (1, .ref (G.2.1 19)), (2, .int v2)]) hx hb d_Qu_takeSet_8 rfl hl (by decide) rfl (fun ls hl => ?_)
  refine lv_aload_n hx hb d_Qu_takeSet_9 rfl (lv_at hl 1 rfl) ?_
  refine w_get C hP (fdX_18_records G S) tb_94 d_Qu_takeSet_10 ?_
  refine lv_iload_n hx hb d_Qu_takeSet_13 rfl (lv_at hl 3 rfl) ?_
  obtain ⟨x8, h9, hf⟩ := bd_some hf
  refine w_callI (As := [.int v2]) (rest := []) C (c_Re_sizeOf l G S v2 x8 h9) cf_Re_sizeOf tb_301 (by decide) hP (obX_1 G S) rfl hl.1 rfl (Nat.le_of_ble_eq_true rfl) d_Qu_takeSet_14 (fun H locs hP => ?_)
  refine lv_istore (lv' := [(4, .int x8), (3, .int x6), (0, .ref (G.2.1 18)), (1, .ref (G.2.1 19)), (2, .int v2)]) hx hb d_Qu_takeSet_17 hl (by decide) rfl (fun ls hl => ?_)
  refine lv_aload_n hx hb d_Qu_takeSet_19 rfl (lv_at hl 3 rfl) ?_
  obtain ⟨x10, h11, hf⟩ := bd_some hf
  refine w_callV (As := []) (rest := []) C (c_Nu_clear_d l G S x10 h11) cf_Nu_clear tb_282 (by decide) hP (obX_19 G S) rfl hl.1 rfl (Nat.le_of_ble_eq_true rfl) d_Qu_takeSet_20 (fun H locs hP => ?_)
  refine lv_iconst (v := (0 : Int32)) hx hb d_Qu_takeSet_23 (by decide) ?_
  refine lv_istore (lv' := [(5, .int (0 : Int32)), (4, .int x8), (3, .int x6), (0, .ref (G.2.1 18)), (1, .ref (G.2.1 19)), (2, .int v2)]) hx hb d_Qu_takeSet_24 hl (by decide) rfl (fun ls hl => ?_)
  exact LP_26 x6 x8 64 (0 : Int32) x10 _ _ _ (lv_sub hl [3, 4, 2, 1, 0] rfl) hP hf
def f_Qu_whyNotOver (S : XSt) (v1 : Int32) : Option (Int32 × XSt) := Option.bind (f_Na_setOf v1 (3 : Int32)) (fun x1 => Option.bind (f_Re_sizeOf S x1) (fun x3 => (if x3 ≤ (0 : Int32) then Option.bind (f_Na_setOf v1 (5 : Int32)) (fun x6 => Option.bind (f_Si_isPlain S x6) (fun x8 => (if x8 = (0 : Int32) then (if (0 : Int32) = (0 : Int32) then some ((7 : Int32), S) else some ((6 : Int32), S)) else Option.bind (f_Qu_tells S x6 (2 : Int32)) (fun x12 => (if x12 = (0 : Int32) then (if (0 : Int32) = (0 : Int32) then some ((7 : Int32), S) else some ((6 : Int32), S)) else Option.bind (f_Qu_tells S x6 (3 : Int32)) (fun x16 => (if x16 = (0 : Int32) then (if (1 : Int32) = (0 : Int32) then some ((7 : Int32), S) else some ((6 : Int32), S)) else (if (0 : Int32) = (0 : Int32) then some ((7 : Int32), S) else some ((6 : Int32), S))))))))) else Option.bind (f_Si_isPlain S x1) (fun x21 => (if x21 = (0 : Int32) then some ((5 : Int32), S) else Option.bind (f_Qu_takeSet_d S x1) (fun x24 => Option.bind (f_Qu_enter x24 v1) (fun x26 => some ((0 : Int32), x26))))))))
set_option maxHeartbeats 4000000 in
set_option maxRecDepth 100000 in
theorem c_Qu_whyNotOver (l : Launch) (G : XG) (S : XSt) (v1 : Int32) (o0 : (Int32 × XSt)) (hf : f_Qu_whyNotOver S v1 = some o0) : MetI l y_Qu_whyNotOver b_Qu_whyNotOver 5 (some .int) 3 [.ref (G.2.1 18), .int v1] G.1 (tyX G) (zAX G) (wX G S) o0.1 (wX G o0.2) := by
  refine mkI (by decide) (Nat.le_of_ble_eq_true rfl) ?_
  intro p e R s m args below meth c ls Q C hl hP hret0
  replace C : Cw p m c b_Qu_whyNotOver 5 s args "TrustResolver$Question" R 3 := C
  have hx := C.1
  have hb := C.2.1
  replace hl : lv_has ls 5 [(0, .ref (G.2.1 18)), (1, .int v1)] := hl
  have hret : ∀ (pc : Nat) (ls : Array Slot) (H : Heap) (locs : List Loc) (v : Int32) (S' : XSt), decode b_Qu_whyNotOver pc = .ok (.ireturn, 1) → (v, S') = o0 → Pw G.1 (tyX G) (zAX G) s (wX G S') H locs → W p l e R s m args below meth c H locs 0 0 Q (F0 m pc ls [.int v]) := fun pc ls H locs v S' hd he hP => hret0 pc ls H locs v hd (by rw [← he]) (by rw [← he]; exact hP)
  clear hret0
  unfold f_Qu_whyNotOver at hf
  refine lv_iload_n hx hb d_Qu_whyNotOver_0 rfl (lv_at hl 1 rfl) ?_
  refine lv_iconst (v := (3 : Int32)) hx hb d_Qu_whyNotOver_1 (by decide) ?_
  obtain ⟨x1, h2, hf⟩ := bd_some hf
  refine w_callS (As := [.int v1, .int (3 : Int32)]) (rest := []) C (c_Na_setOf l v1 (3 : Int32) x1 h2) cf_Na_setOf tb_297 (by decide) rfl hl.1 rfl (Nat.le_of_ble_eq_true rfl) d_Qu_whyNotOver_2 ?_
  refine lv_istore_n (lv' := [(2, .int x1), (0, .ref (G.2.1 18)), (1, .int v1)]) hx hb d_Qu_whyNotOver_5 rfl hl (by decide) rfl (fun ls hl => ?_)
  refine lv_aload_n hx hb d_Qu_whyNotOver_6 rfl (lv_at hl 1 rfl) ?_
  refine w_get C hP (fdX_18_records G S) tb_94 d_Qu_whyNotOver_7 ?_
  refine lv_iload_n hx hb d_Qu_whyNotOver_10 rfl (lv_at hl 0 rfl) ?_
  obtain ⟨x3, h4, hf⟩ := bd_some hf
  refine w_callI (As := [.int x1]) (rest := []) C (c_Re_sizeOf l G S x1 x3 h4) cf_Re_sizeOf tb_301 (by decide) hP (obX_1 G S) rfl hl.1 rfl (Nat.le_of_ble_eq_true rfl) d_Qu_whyNotOver_11 (fun H locs hP => ?_)
  refine lv_if_le hx hb d_Qu_whyNotOver_14 (tgt := 46) (by decide) (fun h5 => ?_) (fun h5 => ?_)
  · have hf := it_t h5 hf
    refine lv_iload_n hx hb d_Qu_whyNotOver_46 rfl (lv_at hl 2 rfl) ?_
    refine lv_iconst (v := (5 : Int32)) hx hb d_Qu_whyNotOver_47 (by decide) ?_
    obtain ⟨x6, h7, hf⟩ := bd_some hf
    refine w_callS (As := [.int v1, .int (5 : Int32)]) (rest := []) C (c_Na_setOf l v1 (5 : Int32) x6 h7) cf_Na_setOf tb_297 (by decide) rfl hl.1 rfl (Nat.le_of_ble_eq_true rfl) d_Qu_whyNotOver_48 ?_
    refine lv_istore_n (lv' := [(3, .int x6), (2, .int x1), (0, .ref (G.2.1 18)), (1, .int v1)]) hx hb d_Qu_whyNotOver_51 rfl hl (by decide) rfl (fun ls hl => ?_)
    refine lv_aload_n hx hb d_Qu_whyNotOver_52 rfl (lv_at hl 2 rfl) ?_
    refine w_get C hP (fdX_18_signatures G S) tb_95 d_Qu_whyNotOver_53 ?_
    refine lv_iload_n hx hb d_Qu_whyNotOver_56 rfl (lv_at hl 0 rfl) ?_
    obtain ⟨x8, h9, hf⟩ := bd_some hf
    refine w_callI (As := [.int x6]) (rest := []) C (c_Si_isPlain l G S x6 x8 h9) cf_Si_isPlain tb_321 (by decide) hP (obX_4 G S) rfl hl.1 rfl (Nat.le_of_ble_eq_true rfl) d_Qu_whyNotOver_57 (fun H locs hP => ?_)
    refine lv_if_eq hx hb d_Qu_whyNotOver_60 (tgt := 85) (by decide) (fun h10 => ?_) (fun h10 => ?_)
    · have hf := it_t h10 hf
      refine lv_iconst (v := (0 : Int32)) hx hb d_Qu_whyNotOver_85 (by decide) ?_
      refine lv_istore (lv' := [(4, .int (0 : Int32)), (3, .int x6), (2, .int x1), (0, .ref (G.2.1 18)), (1, .int v1)]) hx hb d_Qu_whyNotOver_86 hl (by decide) rfl (fun ls hl => ?_)
      refine lv_iload hx hb d_Qu_whyNotOver_88 (lv_at hl 0 rfl) ?_
      refine lv_if_eq hx hb d_Qu_whyNotOver_90 (tgt := 98) (by decide) (fun h11 => ?_) (fun h11 => ?_)
      · have hf := it_t h11 hf
        refine lv_bipush (v := (7 : Int32)) hx hb d_Qu_whyNotOver_98 (by decide) ?_
        exact hret _ _ _ _ _ _ d_Qu_whyNotOver_100 (Option.some.inj hf) hP
      · have hf := it_f h11 hf
        refine lv_bipush (v := (6 : Int32)) hx hb d_Qu_whyNotOver_93 (by decide) ?_
        refine lv_goto hx hb d_Qu_whyNotOver_95 (tgt := 100) (by decide) ?_
        exact hret _ _ _ _ _ _ d_Qu_whyNotOver_100 (Option.some.inj hf) hP
    · have hf := it_f h10 hf
      refine lv_aload_n hx hb d_Qu_whyNotOver_63 rfl (lv_at hl 2 rfl) ?_
      refine lv_iload_n hx hb d_Qu_whyNotOver_64 rfl (lv_at hl 0 rfl) ?_
      refine lv_iconst (v := (2 : Int32)) hx hb d_Qu_whyNotOver_65 (by decide) ?_
      obtain ⟨x12, h13, hf⟩ := bd_some hf
      refine w_callI (As := [.int x6, .int (2 : Int32)]) (rest := []) C (c_Qu_tells l G S x6 (2 : Int32) x12 h13) cf_Qu_tells tb_336 (by decide) hP (obX_18 G S) rfl hl.1 rfl (Nat.le_of_ble_eq_true rfl) d_Qu_whyNotOver_66 (fun H locs hP => ?_)
      refine lv_if_eq hx hb d_Qu_whyNotOver_69 (tgt := 85) (by decide) (fun h14 => ?_) (fun h14 => ?_)
      · have hf := it_t h14 hf
        refine lv_iconst (v := (0 : Int32)) hx hb d_Qu_whyNotOver_85 (by decide) ?_
        refine lv_istore (lv' := [(4, .int (0 : Int32)), (3, .int x6), (2, .int x1), (0, .ref (G.2.1 18)), (1, .int v1)]) hx hb d_Qu_whyNotOver_86 hl (by decide) rfl (fun ls hl => ?_)
        refine lv_iload hx hb d_Qu_whyNotOver_88 (lv_at hl 0 rfl) ?_
        refine lv_if_eq hx hb d_Qu_whyNotOver_90 (tgt := 98) (by decide) (fun h15 => ?_) (fun h15 => ?_)
        · have hf := it_t h15 hf
          refine lv_bipush (v := (7 : Int32)) hx hb d_Qu_whyNotOver_98 (by decide) ?_
          exact hret _ _ _ _ _ _ d_Qu_whyNotOver_100 (Option.some.inj hf) hP
        · have hf := it_f h15 hf
          refine lv_bipush (v := (6 : Int32)) hx hb d_Qu_whyNotOver_93 (by decide) ?_
          refine lv_goto hx hb d_Qu_whyNotOver_95 (tgt := 100) (by decide) ?_
          exact hret _ _ _ _ _ _ d_Qu_whyNotOver_100 (Option.some.inj hf) hP
      · have hf := it_f h14 hf
        refine lv_aload_n hx hb d_Qu_whyNotOver_72 rfl (lv_at hl 2 rfl) ?_
        refine lv_iload_n hx hb d_Qu_whyNotOver_73 rfl (lv_at hl 0 rfl) ?_
        refine lv_iconst (v := (3 : Int32)) hx hb d_Qu_whyNotOver_74 (by decide) ?_
        obtain ⟨x16, h17, hf⟩ := bd_some hf
        refine w_callI (As := [.int x6, .int (3 : Int32)]) (rest := []) C (c_Qu_tells l G S x6 (3 : Int32) x16 h17) cf_Qu_tells tb_336 (by decide) hP (obX_18 G S) rfl hl.1 rfl (Nat.le_of_ble_eq_true rfl) d_Qu_whyNotOver_75 (fun H locs hP => ?_)
        refine lv_if_ne hx hb d_Qu_whyNotOver_78 (tgt := 85) (by decide) (fun h18 => ?_) (fun h18 => ?_)
        · have hf := it_f h18 hf
          refine lv_iconst (v := (0 : Int32)) hx hb d_Qu_whyNotOver_85 (by decide) ?_
          refine lv_istore (lv' := [(4, .int (0 : Int32)), (3, .int x6), (2, .int x1), (0, .ref (G.2.1 18)), (1, .int v1)]) hx hb d_Qu_whyNotOver_86 hl (by decide) rfl (fun ls hl => ?_)
          refine lv_iload hx hb d_Qu_whyNotOver_88 (lv_at hl 0 rfl) ?_
          refine lv_if_eq hx hb d_Qu_whyNotOver_90 (tgt := 98) (by decide) (fun h19 => ?_) (fun h19 => ?_)
          · have hf := it_t h19 hf
            refine lv_bipush (v := (7 : Int32)) hx hb d_Qu_whyNotOver_98 (by decide) ?_
            exact hret _ _ _ _ _ _ d_Qu_whyNotOver_100 (Option.some.inj hf) hP
          · have hf := it_f h19 hf
            refine lv_bipush (v := (6 : Int32)) hx hb d_Qu_whyNotOver_93 (by decide) ?_
            refine lv_goto hx hb d_Qu_whyNotOver_95 (tgt := 100) (by decide) ?_
            exact hret _ _ _ _ _ _ d_Qu_whyNotOver_100 (Option.some.inj hf) hP
        · have hf := it_t h18 hf
          refine lv_iconst (v := (1 : Int32)) hx hb d_Qu_whyNotOver_81 (by decide) ?_
          refine lv_goto hx hb d_Qu_whyNotOver_82 (tgt := 86) (by decide) ?_
          refine lv_istore (lv' := [(4, .int (1 : Int32)), (3, .int x6), (2, .int x1), (0, .ref (G.2.1 18)), (1, .int v1)]) hx hb d_Qu_whyNotOver_86 hl (by decide) rfl (fun ls hl => ?_)
          refine lv_iload hx hb d_Qu_whyNotOver_88 (lv_at hl 0 rfl) ?_
          refine lv_if_eq hx hb d_Qu_whyNotOver_90 (tgt := 98) (by decide) (fun h20 => ?_) (fun h20 => ?_)
          · have hf := it_t h20 hf
            refine lv_bipush (v := (7 : Int32)) hx hb d_Qu_whyNotOver_98 (by decide) ?_
            exact hret _ _ _ _ _ _ d_Qu_whyNotOver_100 (Option.some.inj hf) hP
          · have hf := it_f h20 hf
            refine lv_bipush (v := (6 : Int32)) hx hb d_Qu_whyNotOver_93 (by decide) ?_
            refine lv_goto hx hb d_Qu_whyNotOver_95 (tgt := 100) (by decide) ?_
            exact hret _ _ _ _ _ _ d_Qu_whyNotOver_100 (Option.some.inj hf) hP
  · have hf := it_f h5 hf
    refine lv_aload_n hx hb d_Qu_whyNotOver_17 rfl (lv_at hl 1 rfl) ?_
    refine w_get C hP (fdX_18_signatures G S) tb_95 d_Qu_whyNotOver_18 ?_
    refine lv_iload_n hx hb d_Qu_whyNotOver_21 rfl (lv_at hl 0 rfl) ?_
    obtain ⟨x21, h22, hf⟩ := bd_some hf
    refine w_callI (As := [.int x1]) (rest := []) C (c_Si_isPlain l G S x1 x21 h22) cf_Si_isPlain tb_321 (by decide) hP (obX_4 G S) rfl hl.1 rfl (Nat.le_of_ble_eq_true rfl) d_Qu_whyNotOver_22 (fun H locs hP => ?_)
    refine lv_if_ne hx hb d_Qu_whyNotOver_25 (tgt := 30) (by decide) (fun h23 => ?_) (fun h23 => ?_)
    · have hf := it_f h23 hf
      refine lv_aload_n hx hb d_Qu_whyNotOver_30 rfl (lv_at hl 1 rfl) ?_
      refine lv_aload_n hx hb d_Qu_whyNotOver_31 rfl (lv_at hl 1 rfl) ?_
      refine w_get C hP (fdX_18_digests G S) tb_97 d_Qu_whyNotOver_32 ?_
      refine lv_iload_n hx hb d_Qu_whyNotOver_35 rfl (lv_at hl 0 rfl) ?_
      obtain ⟨x24, h25, hf⟩ := bd_some hf
      refine w_callV (As := [.ref (G.2.1 19), .int x1]) (rest := []) C (c_Qu_takeSet_d l G S x1 x24 h25) cf_Qu_takeSet tb_325 (by decide) hP (obX_18 G S) rfl hl.1 rfl (Nat.le_of_ble_eq_true rfl) d_Qu_whyNotOver_36 (fun H locs hP => ?_)
      refine lv_aload_n hx hb d_Qu_whyNotOver_39 rfl (lv_at hl 1 rfl) ?_
      refine lv_iload_n hx hb d_Qu_whyNotOver_40 rfl (lv_at hl 2 rfl) ?_
      obtain ⟨x26, h27, hf⟩ := bd_some hf
      refine w_callV (As := [.int v1]) (rest := []) C (c_Qu_enter l G x24 v1 x26 h27) cf_Qu_enter tb_294 (by decide) hP (obX_18 G x24) rfl hl.1 rfl (Nat.le_of_ble_eq_true rfl) d_Qu_whyNotOver_41 (fun H locs hP => ?_)
      refine lv_iconst (v := (0 : Int32)) hx hb d_Qu_whyNotOver_44 (by decide) ?_
      exact hret _ _ _ _ _ _ d_Qu_whyNotOver_45 (Option.some.inj hf) hP
    · have hf := it_t h23 hf
      refine lv_iconst (v := (5 : Int32)) hx hb d_Qu_whyNotOver_28 (by decide) ?_
      exact hret _ _ _ _ _ _ d_Qu_whyNotOver_29 (Option.some.inj hf) hP
def L_Qu_pose_91 (v4 : Int32) (v5 : Int32) (S : XSt) : Option ((Int32 × XSt) ⊕ XSt) := (if (4 : Int32) < v5 then zup (some S) else (if (S.1 11) = (0 : Int32) then Option.bind (f_Qu_whyNoKeys S) (fun x3 => znm (zpS x3.2 11 x3.1) (fun S5 => (if (S5.1 11) = (0 : Int32) then Option.bind (f_Qu_nextCut S5) (fun x8 => (if x8 = (-1 : Int32) then Option.bind (f_Re_sizeOf S5 v4) (fun x11 => (if x11 ≤ (0 : Int32) then Option.bind (f_Qu_whyAbsent S5) (fun x14 => znm (zpS S5 11 x14) (fun S16 => some (Sum.inl ((v5 + (1 : Int32)), S16)))) else Option.bind (f_Qu_whyThere S5 v4) (fun x18 => znm (zpS S5 11 x18) (fun S20 => some (Sum.inl ((v5 + (1 : Int32)), S20)))))) else Option.bind (f_Qu_whyNotOver S5 x8) (fun x22 => znm (zpS x22.2 11 x22.1) (fun S24 => some (Sum.inl ((v5 + (1 : Int32)), S24)))))) else some (Sum.inl ((v5 + (1 : Int32)), S5))))) else zup (some S)))
def LS_Qu_pose_91 (v4 : Int32) (v : (Int32 × XSt)) : Option ((Int32 × XSt) ⊕ XSt) := L_Qu_pose_91 v4 v.1 v.2
def f_Qu_pose (S : XSt) (v1 : Int32) (v2 : Int32) : Option XSt := znm (zpS S 8 v1) (fun S26 => znm (zpS S26 9 v2) (fun S28 => znm (zpS S28 6 (0 : Int32)) (fun S30 => znm (zpS S30 10 (0 : Int32)) (fun S32 => Option.bind (f_An_deepestFor S32 (S32.1 8)) (fun x34 => (if x34 = (-1 : Int32) then znm (zpS S32 11 (1 : Int32)) (fun S49 => some S49) else Option.bind (f_Nu_clear_d S32) (fun x37 => Option.bind (f_An_digestOf x37 x34) (fun x39 => Option.bind (f_Nu_put_d x37 x39) (fun x41 => Option.bind (f_Qu_enter x41 x34) (fun x43 => Option.bind (f_Na_setOf (x43.1 8) (x43.1 9)) (fun x45 => znm (zpS x43 11 (0 : Int32)) (fun S47 => zit (LS_Qu_pose_91 x45) 64 ((0 : Int32), S47)))))))))))))
set_option maxHeartbeats 4000000 in
set_option maxRecDepth 100000 in
theorem c_Qu_pose (l : Launch) (G : XG) (S : XSt) (v1 : Int32) (v2 : Int32) (o0 : XSt) (hf : f_Qu_pose S v1 v2 = some o0) : MetV l y_Qu_pose b_Qu_pose 7 5 [.ref (G.2.1 18), .int v1, .int v2] G.1 (tyX G) (zAX G) (wX G S) (wX G o0) := by
  refine mkV (by decide) (Nat.le_of_ble_eq_true rfl) ?_
  intro p e R s m args below meth c ls Q C hl hP hret0
  replace C : Cw p m c b_Qu_pose 7 s args "TrustResolver$Question" R 5 := C
  have hx := C.1
  have hb := C.2.1
  replace hl : lv_has ls 7 [(0, .ref (G.2.1 18)), (1, .int v1), (2, .int v2)] := hl
  have hret : ∀ (pc : Nat) (ls : Array Slot) (H : Heap) (locs : List Loc) (S' : XSt), decode b_Qu_pose pc = .ok (.return_, 1) → S' = o0 → Pw G.1 (tyX G) (zAX G) s (wX G S') H locs → W p l e R s m args below meth c H locs 0 0 Q (F0 m pc ls []) := fun pc ls H locs S' hd he hP => hret0 pc ls H locs hd (by rw [← he]; exact hP)
  clear hret0
  unfold f_Qu_pose at hf
  have LP_91 : ∀ (v4 : Int32) (n : Nat) (v5 : Int32) (S : XSt) (ls : Array Slot) (H : Heap) (locs : List Loc) , lv_has ls 7 [(0, .ref (G.2.1 18)), (4, .int v4), (5, .int v5)] → Pw G.1 (tyX G) (zAX G) s (wX G S) H locs → zit (LS_Qu_pose_91 v4) n (v5, S) = some o0 → W p l e R s m args below meth c H locs 0 0 Q (F0 m 91 ls []) := by
    intro v4 n
    induction n with
    | zero => intro v5 S ls H locs hl hP hf; exact zit_0 hf
    | succ n ih1 =>
      intro v5 S ls H locs hl hP hf
      obtain ⟨o1, hf, hk1⟩ := zit_s hf
      have hf : L_Qu_pose_91 v4 v5 S = some o1 := hf
      unfold L_Qu_pose_91 at hf
      refine lv_iload hx hb d_Qu_pose_91 (lv_at hl 2 rfl) ?_
      refine lv_iconst (v := (4 : Int32)) hx hb d_Qu_pose_93 (by decide) ?_
      refine lv_icmp_gt hx hb d_Qu_pose_94 (tgt := 179) (by decide) (fun h1 => ?_) (fun h1 => ?_)
      · have hf := it_t h1 hf
        have hf := zup_k hf hk1
        exact hret _ _ _ _ _ d_Qu_pose_179 (Option.some.inj hf) hP
      · have hf := it_f h1 hf
        refine lv_aload_n hx hb d_Qu_pose_97 rfl (lv_at hl 0 rfl) ?_
        refine w_get C hP (fdX_18_why G S) tb_105 d_Qu_pose_98 ?_
        refine lv_if_ne hx hb d_Qu_pose_101 (tgt := 179) (by decide) (fun h2 => ?_) (fun h2 => ?_)
        · have hf := it_f h2 hf
          have hf := zup_k hf hk1
          exact hret _ _ _ _ _ d_Qu_pose_179 (Option.some.inj hf) hP
        · have hf := it_t h2 hf
          refine lv_aload_n hx hb d_Qu_pose_104 rfl (lv_at hl 0 rfl) ?_
          refine lv_aload_n hx hb d_Qu_pose_105 rfl (lv_at hl 0 rfl) ?_
          obtain ⟨x3, h4, hf⟩ := bd_some hf
          refine w_callI (As := []) (rest := [.ref (G.2.1 18)]) C (c_Qu_whyNoKeys l G S x3 h4) cf_Qu_whyNoKeys tb_298 (by decide) hP (obX_18 G S) rfl hl.1 rfl (Nat.le_of_ble_eq_true rfl) d_Qu_pose_106 (fun H locs hP => ?_)
          refine w_put C hP (ptX_18_why G x3.2 x3.1) tb_105 d_Qu_pose_109 (fun H locs hP => ?_)
          obtain ⟨S5, e6, hf⟩ := znm_some hf
          rw [← e6] at hP
          refine lv_aload_n hx hb d_Qu_pose_112 rfl (lv_at hl 0 rfl) ?_
          refine w_get C hP (fdX_18_why G S5) tb_105 d_Qu_pose_113 ?_
          refine lv_if_ne hx hb d_Qu_pose_116 (tgt := 173) (by decide) (fun h7 => ?_) (fun h7 => ?_)
          · have hf := it_f h7 hf
            refine lv_iinc (k := 2) (v := (v5 + (1 : Int32))) (lv' := [(5, .int (v5 + (1 : Int32))), (0, .ref (G.2.1 18)), (4, .int v4)]) hx hb d_Qu_pose_173 hl rfl (ii (by decide) _) (by decide) rfl (fun ls hl => ?_)
            refine lv_goto hx hb d_Qu_pose_176 (tgt := 91) (by decide) ?_
            exact ih1 (v5 + (1 : Int32)) S5 _ _ _ (lv_sub hl [1, 2, 0] rfl) hP (znx_l hf hk1)
          · have hf := it_t h7 hf
            refine lv_aload_n hx hb d_Qu_pose_119 rfl (lv_at hl 0 rfl) ?_
            obtain ⟨x8, h9, hf⟩ := bd_some hf
            refine w_callI (As := []) (rest := []) C (c_Qu_nextCut l G S5 x8 h9) cf_Qu_nextCut tb_328 (by decide) hP (obX_18 G S5) rfl hl.1 rfl (Nat.le_of_ble_eq_true rfl) d_Qu_pose_120 (fun H locs hP => ?_)
            refine lv_istore (lv' := [(6, .int x8), (0, .ref (G.2.1 18)), (4, .int v4), (5, .int v5)]) hx hb d_Qu_pose_123 hl (by decide) rfl (fun ls hl => ?_)
            refine lv_iload hx hb d_Qu_pose_125 (lv_at hl 0 rfl) ?_
            refine lv_iconst (v := (-1 : Int32)) hx hb d_Qu_pose_127 (by decide) ?_
            refine lv_icmp_eq hx hb d_Qu_pose_128 (tgt := 144) (by decide) (fun h10 => ?_) (fun h10 => ?_)
            · have hf := it_t h10 hf
              refine lv_aload_n hx hb d_Qu_pose_144 rfl (lv_at hl 1 rfl) ?_
              refine lv_aload_n hx hb d_Qu_pose_145 rfl (lv_at hl 1 rfl) ?_
              refine w_get C hP (fdX_18_records G S5) tb_94 d_Qu_pose_146 ?_
              refine lv_iload hx hb d_Qu_pose_149 (lv_at hl 2 rfl) ?_
              obtain ⟨x11, h12, hf⟩ := bd_some hf
              refine w_callI (As := [.int v4]) (rest := [.ref (G.2.1 18)]) C (c_Re_sizeOf l G S5 v4 x11 h12) cf_Re_sizeOf tb_301 (by decide) hP (obX_1 G S5) rfl hl.1 rfl (Nat.le_of_ble_eq_true rfl) d_Qu_pose_151 (fun H locs hP => ?_)
              refine lv_if_le hx hb d_Qu_pose_154 (tgt := 166) (by decide) (fun h13 => ?_) (fun h13 => ?_)
              · have hf := it_t h13 hf
                refine lv_aload_n hx hb d_Qu_pose_166 rfl (lv_at hl 1 rfl) ?_
                obtain ⟨x14, h15, hf⟩ := bd_some hf
                refine w_callI (As := []) (rest := [.ref (G.2.1 18)]) C (c_Qu_whyAbsent l G S5 x14 h15) cf_Qu_whyAbsent tb_367 (by decide) hP (obX_18 G S5) rfl hl.1 rfl (Nat.le_of_ble_eq_true rfl) d_Qu_pose_167 (fun H locs hP => ?_)
                refine w_put C hP (ptX_18_why G S5 x14) tb_105 d_Qu_pose_170 (fun H locs hP => ?_)
                obtain ⟨S16, e17, hf⟩ := znm_some hf
                rw [← e17] at hP
                refine lv_iinc (k := 3) (v := (v5 + (1 : Int32))) (lv' := [(5, .int (v5 + (1 : Int32))), (6, .int x8), (0, .ref (G.2.1 18)), (4, .int v4)]) hx hb d_Qu_pose_173 hl rfl (ii (by decide) _) (by decide) rfl (fun ls hl => ?_)
                refine lv_goto hx hb d_Qu_pose_176 (tgt := 91) (by decide) ?_
                exact ih1 (v5 + (1 : Int32)) S16 _ _ _ (lv_sub hl [2, 3, 0] rfl) hP (znx_l hf hk1)
              · have hf := it_f h13 hf
                refine lv_aload_n hx hb d_Qu_pose_157 rfl (lv_at hl 1 rfl) ?_
                refine lv_iload hx hb d_Qu_pose_158 (lv_at hl 2 rfl) ?_
                obtain ⟨x18, h19, hf⟩ := bd_some hf
                refine w_callI (As := [.int v4]) (rest := [.ref (G.2.1 18)]) C (c_Qu_whyThere l G S5 v4 x18 h19) cf_Qu_whyThere tb_347 (by decide) hP (obX_18 G S5) rfl hl.1 rfl (Nat.le_of_ble_eq_true rfl) d_Qu_pose_160 (fun H locs hP => ?_)
                refine lv_goto hx hb d_Qu_pose_163 (tgt := 170) (by decide) ?_
                refine w_put C hP (ptX_18_why G S5 x18) tb_105 d_Qu_pose_170 (fun H locs hP => ?_)
                obtain ⟨S20, e21, hf⟩ := znm_some hf
                rw [← e21] at hP
                refine lv_iinc (k := 3) (v := (v5 + (1 : Int32))) (lv' := [(5, .int (v5 + (1 : Int32))), (6, .int x8), (0, .ref (G.2.1 18)), (4, .int v4)]) hx hb d_Qu_pose_173 hl rfl (ii (by decide) _) (by decide) rfl (fun ls hl => ?_)
                refine lv_goto hx hb d_Qu_pose_176 (tgt := 91) (by decide) ?_
                exact ih1 (v5 + (1 : Int32)) S20 _ _ _ (lv_sub hl [2, 3, 0] rfl) hP (znx_l hf hk1)
            · have hf := it_f h10 hf
              refine lv_aload_n hx hb d_Qu_pose_131 rfl (lv_at hl 1 rfl) ?_
              refine lv_aload_n hx hb d_Qu_pose_132 rfl (lv_at hl 1 rfl) ?_
              refine lv_iload hx hb d_Qu_pose_133 (lv_at hl 0 rfl) ?_
              obtain ⟨x22, h23, hf⟩ := bd_some hf
              refine w_callI (As := [.int x8]) (rest := [.ref (G.2.1 18)]) C (c_Qu_whyNotOver l G S5 x8 x22 h23) cf_Qu_whyNotOver tb_333 (by decide) hP (obX_18 G S5) rfl hl.1 rfl (Nat.le_of_ble_eq_true rfl) d_Qu_pose_135 (fun H locs hP => ?_)
              refine w_put C hP (ptX_18_why G x22.2 x22.1) tb_105 d_Qu_pose_138 (fun H locs hP => ?_)
              obtain ⟨S24, e25, hf⟩ := znm_some hf
              rw [← e25] at hP
              refine lv_goto hx hb d_Qu_pose_141 (tgt := 173) (by decide) ?_
              refine lv_iinc (k := 3) (v := (v5 + (1 : Int32))) (lv' := [(5, .int (v5 + (1 : Int32))), (6, .int x8), (0, .ref (G.2.1 18)), (4, .int v4)]) hx hb d_Qu_pose_173 hl rfl (ii (by decide) _) (by decide) rfl (fun ls hl => ?_)
              refine lv_goto hx hb d_Qu_pose_176 (tgt := 91) (by decide) ?_
              exact ih1 (v5 + (1 : Int32)) S24 _ _ _ (lv_sub hl [2, 3, 0] rfl) hP (znx_l hf hk1)
  refine lv_aload_n hx hb d_Qu_pose_0 rfl (lv_at hl 0 rfl) ?_
  refine lv_iload_n hx hb d_Qu_pose_1 rfl (lv_at hl 1 rfl) ?_
  refine w_put C hP (ptX_18_name G S v1) tb_102 d_Qu_pose_2 (fun H locs hP => ?_)
  obtain ⟨S26, e27, hf⟩ := znm_some hf
  rw [← e27] at hP
  refine lv_aload_n hx hb d_Qu_pose_5 rfl (lv_at hl 0 rfl) ?_
  refine lv_iload_n hx hb d_Qu_pose_6 rfl (lv_at hl 2 rfl) ?_
  refine w_put C hP (ptX_18_type G S26 v2) tb_103 d_Qu_pose_7 (fun H locs hP => ?_)
  obtain ⟨S28, e29, hf⟩ := znm_some hf
  rw [← e29] at hP
  refine lv_aload_n hx hb d_Qu_pose_10 rfl (lv_at hl 0 rfl) ?_
  refine lv_iconst (v := (0 : Int32)) hx hb d_Qu_pose_11 (by decide) ?_
  refine w_put C hP (ptX_18_zoneCount G S28 (0 : Int32)) tb_100 d_Qu_pose_12 (fun H locs hP => ?_)
  obtain ⟨S30, e31, hf⟩ := znm_some hf
  rw [← e31] at hP
  refine lv_aload_n hx hb d_Qu_pose_15 rfl (lv_at hl 0 rfl) ?_
  refine lv_iconst (v := (0 : Int32)) hx hb d_Qu_pose_16 (by decide) ?_
  refine w_put C hP (ptX_18_countedKeys G S30 (0 : Int32)) tb_104 d_Qu_pose_17 (fun H locs hP => ?_)
  obtain ⟨S32, e33, hf⟩ := znm_some hf
  rw [← e33] at hP
  refine lv_aload_n hx hb d_Qu_pose_20 rfl (lv_at hl 0 rfl) ?_
  refine w_get C hP (fdX_18_anchors G S32) tb_96 d_Qu_pose_21 ?_
  refine lv_aload_n hx hb d_Qu_pose_24 rfl (lv_at hl 0 rfl) ?_
  refine w_get C hP (fdX_18_name G S32) tb_102 d_Qu_pose_25 ?_
  obtain ⟨x34, h35, hf⟩ := bd_some hf
  refine w_callI (As := [.int (S32.1 8)]) (rest := []) C (c_An_deepestFor l G S32 (S32.1 8) x34 h35) cf_An_deepestFor tb_274 (by decide) hP (obX_15 G S32) rfl hl.1 rfl (Nat.le_of_ble_eq_true rfl) d_Qu_pose_28 (fun H locs hP => ?_)
  refine lv_istore_n (lv' := [(3, .int x34), (0, .ref (G.2.1 18)), (1, .int v1), (2, .int v2)]) hx hb d_Qu_pose_31 rfl hl (by decide) rfl (fun ls hl => ?_)
  refine lv_iload_n hx hb d_Qu_pose_32 rfl (lv_at hl 0 rfl) ?_
  refine lv_iconst (v := (-1 : Int32)) hx hb d_Qu_pose_33 (by decide) ?_
  refine lv_icmp_ne hx hb d_Qu_pose_34 (tgt := 43) (by decide) (fun h36 => ?_) (fun h36 => ?_)
  · have hf := it_f h36 hf
    refine lv_aload_n hx hb d_Qu_pose_43 rfl (lv_at hl 1 rfl) ?_
    refine w_get C hP (fdX_18_digests G S32) tb_97 d_Qu_pose_44 ?_
    obtain ⟨x37, h38, hf⟩ := bd_some hf
    refine w_callV (As := []) (rest := []) C (c_Nu_clear_d l G S32 x37 h38) cf_Nu_clear tb_282 (by decide) hP (obX_19 G S32) rfl hl.1 rfl (Nat.le_of_ble_eq_true rfl) d_Qu_pose_47 (fun H locs hP => ?_)
    refine lv_aload_n hx hb d_Qu_pose_50 rfl (lv_at hl 1 rfl) ?_
    refine w_get C hP (fdX_18_digests G x37) tb_97 d_Qu_pose_51 ?_
    refine lv_aload_n hx hb d_Qu_pose_54 rfl (lv_at hl 1 rfl) ?_
    refine w_get C hP (fdX_18_anchors G x37) tb_96 d_Qu_pose_55 ?_
    refine lv_iload_n hx hb d_Qu_pose_58 rfl (lv_at hl 0 rfl) ?_
    obtain ⟨x39, h40, hf⟩ := bd_some hf
    refine w_callI (As := [.int x34]) (rest := [.ref (G.2.1 19)]) C (c_An_digestOf l G x37 x34 x39 h40) cf_An_digestOf tb_286 (by decide) hP (obX_15 G x37) rfl hl.1 rfl (Nat.le_of_ble_eq_true rfl) d_Qu_pose_59 (fun H locs hP => ?_)
    obtain ⟨x41, h42, hf⟩ := bd_some hf
    refine w_callV (As := [.int x39]) (rest := []) C (c_Nu_put_d l G x37 x39 x41 h42) cf_Nu_put tb_290 (by decide) hP (obX_19 G x37) rfl hl.1 rfl (Nat.le_of_ble_eq_true rfl) d_Qu_pose_62 (fun H locs hP => ?_)
    refine lv_aload_n hx hb d_Qu_pose_65 rfl (lv_at hl 1 rfl) ?_
    refine lv_iload_n hx hb d_Qu_pose_66 rfl (lv_at hl 0 rfl) ?_
    obtain ⟨x43, h44, hf⟩ := bd_some hf
    refine w_callV (As := [.int x34]) (rest := []) C (c_Qu_enter l G x41 x34 x43 h44) cf_Qu_enter tb_294 (by decide) hP (obX_18 G x41) rfl hl.1 rfl (Nat.le_of_ble_eq_true rfl) d_Qu_pose_67 (fun H locs hP => ?_)
    refine lv_aload_n hx hb d_Qu_pose_70 rfl (lv_at hl 1 rfl) ?_
    refine w_get C hP (fdX_18_name G x43) tb_102 d_Qu_pose_71 ?_
    refine lv_aload_n hx hb d_Qu_pose_74 rfl (lv_at hl 1 rfl) ?_
    refine w_get C hP (fdX_18_type G x43) tb_103 d_Qu_pose_75 ?_
    obtain ⟨x45, h46, hf⟩ := bd_some hf
    refine w_callS (As := [.int (x43.1 8), .int (x43.1 9)]) (rest := []) C (c_Na_setOf l (x43.1 8) (x43.1 9) x45 h46) cf_Na_setOf tb_297 (by decide) rfl hl.1 rfl (Nat.le_of_ble_eq_true rfl) d_Qu_pose_78 ?_
    refine lv_istore (lv' := [(4, .int x45), (3, .int x34), (0, .ref (G.2.1 18)), (1, .int v1), (2, .int v2)]) hx hb d_Qu_pose_81 hl (by decide) rfl (fun ls hl => ?_)
    refine lv_aload_n hx hb d_Qu_pose_83 rfl (lv_at hl 2 rfl) ?_
    refine lv_iconst (v := (0 : Int32)) hx hb d_Qu_pose_84 (by decide) ?_
    refine w_put C hP (ptX_18_why G x43 (0 : Int32)) tb_105 d_Qu_pose_85 (fun H locs hP => ?_)
    obtain ⟨S47, e48, hf⟩ := znm_some hf
    rw [← e48] at hP
    refine lv_iconst (v := (0 : Int32)) hx hb d_Qu_pose_88 (by decide) ?_
    refine lv_istore (lv' := [(5, .int (0 : Int32)), (4, .int x45), (3, .int x34), (0, .ref (G.2.1 18)), (1, .int v1), (2, .int v2)]) hx hb d_Qu_pose_89 hl (by decide) rfl (fun ls hl => ?_)
    exact LP_91 x45 64 (0 : Int32) S47 _ _ _ (lv_sub hl [3, 1, 0] rfl) hP hf
  · have hf := it_t h36 hf
    refine lv_aload_n hx hb d_Qu_pose_37 rfl (lv_at hl 1 rfl) ?_
    refine lv_iconst (v := (1 : Int32)) hx hb d_Qu_pose_38 (by decide) ?_
    refine w_put C hP (ptX_18_why G S32 (1 : Int32)) tb_105 d_Qu_pose_39 (fun H locs hP => ?_)
    obtain ⟨S49, e50, hf⟩ := znm_some hf
    rw [← e50] at hP
    exact hret _ _ _ _ _ d_Qu_pose_42 (Option.some.inj hf) hP
def J_Qu_dataNow_32 (S : XSt) (v1 : Int32) (v2 : Int32)  : Option Int32 := (if v1 < (0 : Int32) then some (0 : Int32) else Option.bind (f_Re_sizeOf S v2) (fun x2 => (if x2 ≤ v1 then some (0 : Int32) else Option.bind (f_Re_startOf S v2) (fun x5 => Option.bind (f_Re_dataAt S (x5 + v1)) (fun x7 => some x7)))))
def f_Qu_dataNow (S : XSt) (v1 : Int32) : Option Int32 := Option.bind (f_Na_setOf (S.1 8) (S.1 9)) (fun x9 => (if (S.1 11) = (8 : Int32) then J_Qu_dataNow_32 S v1 x9 else (if (S.1 11) = (9 : Int32) then J_Qu_dataNow_32 S v1 x9 else some (0 : Int32))))
set_option maxHeartbeats 4000000 in
set_option maxRecDepth 100000 in
theorem c_Qu_dataNow (l : Launch) (G : XG) (S : XSt) (v1 : Int32) (o0 : Int32) (hf : f_Qu_dataNow S v1 = some o0) : MetI l y_Qu_dataNow b_Qu_dataNow 3 (some .int) 1 [.ref (G.2.1 18), .int v1] G.1 (tyX G) (zAX G) (wX G S) o0 (wX G S) := by
  refine mkI (by decide) (Nat.le_of_ble_eq_true rfl) ?_
  intro p e R s m args below meth c ls Q C hl hP hret0
  replace C : Cw p m c b_Qu_dataNow 3 s args "TrustResolver$Question" R 1 := C
  have hx := C.1
  have hb := C.2.1
  replace hl : lv_has ls 3 [(0, .ref (G.2.1 18)), (1, .int v1)] := hl
  have hret := hret0
  clear hret0
  unfold f_Qu_dataNow at hf
  have JP_32 : ∀ (v1 : Int32) (v2 : Int32)  (ls : Array Slot) (H : Heap) (locs : List Loc) , lv_has ls 3 [(0, .ref (G.2.1 18)), (1, .int v1), (2, .int v2)] → Pw G.1 (tyX G) (zAX G) s (wX G S) H locs → J_Qu_dataNow_32 S v1 v2 = some o0 → W p l e R s m args below meth c H locs 0 0 Q (F0 m 32 ls []) := by
    intro v1 v2 ls H locs hl hP hf
    unfold J_Qu_dataNow_32 at hf
    refine lv_iload_n hx hb d_Qu_dataNow_32 rfl (lv_at hl 1 rfl) ?_
    refine lv_if_lt hx hb d_Qu_dataNow_33 (tgt := 68) (by decide) (fun h1 => ?_) (fun h1 => ?_)
    · have hf := it_t h1 hf
      refine lv_iconst (v := (0 : Int32)) hx hb d_Qu_dataNow_68 (by decide) ?_
      exact hret _ _ _ _ _ d_Qu_dataNow_69 (Option.some.inj hf) hP
    · have hf := it_f h1 hf
      refine lv_iload_n hx hb d_Qu_dataNow_36 rfl (lv_at hl 1 rfl) ?_
      refine lv_aload_n hx hb d_Qu_dataNow_37 rfl (lv_at hl 0 rfl) ?_
      refine w_get C hP (fdX_18_records G S) tb_94 d_Qu_dataNow_38 ?_
      refine lv_iload_n hx hb d_Qu_dataNow_41 rfl (lv_at hl 2 rfl) ?_
      obtain ⟨x2, h3, hf⟩ := bd_some hf
      refine w_callI (As := [.int v2]) (rest := [.int v1]) C (c_Re_sizeOf l G S v2 x2 h3) cf_Re_sizeOf tb_301 (by decide) hP (obX_1 G S) rfl hl.1 rfl (Nat.le_of_ble_eq_true rfl) d_Qu_dataNow_42 (fun H locs hP => ?_)
      refine lv_icmp_ge hx hb d_Qu_dataNow_45 (tgt := 68) (by decide) (fun h4 => ?_) (fun h4 => ?_)
      · have hf := it_t h4 hf
        refine lv_iconst (v := (0 : Int32)) hx hb d_Qu_dataNow_68 (by decide) ?_
        exact hret _ _ _ _ _ d_Qu_dataNow_69 (Option.some.inj hf) hP
      · have hf := it_f h4 hf
        refine lv_aload_n hx hb d_Qu_dataNow_48 rfl (lv_at hl 0 rfl) ?_
        refine w_get C hP (fdX_18_records G S) tb_94 d_Qu_dataNow_49 ?_
        refine lv_aload_n hx hb d_Qu_dataNow_52 rfl (lv_at hl 0 rfl) ?_
        refine w_get C hP (fdX_18_records G S) tb_94 d_Qu_dataNow_53 ?_
        refine lv_iload_n hx hb d_Qu_dataNow_56 rfl (lv_at hl 2 rfl) ?_
        obtain ⟨x5, h6, hf⟩ := bd_some hf
        refine w_callI (As := [.int v2]) (rest := [.ref (G.2.1 1)]) C (c_Re_startOf l G S v2 x5 h6) cf_Re_startOf tb_305 (by decide) hP (obX_1 G S) rfl hl.1 rfl (Nat.le_of_ble_eq_true rfl) d_Qu_dataNow_57 (fun H locs hP => ?_)
        refine lv_iload_n hx hb d_Qu_dataNow_60 rfl (lv_at hl 1 rfl) ?_
        refine lv_iadd hx hb d_Qu_dataNow_61 ?_
        obtain ⟨x7, h8, hf⟩ := bd_some hf
        refine w_callI (As := [.int (x5 + v1)]) (rest := []) C (c_Re_dataAt l G S (x5 + v1) x7 h8) cf_Re_dataAt tb_306 (by decide) hP (obX_1 G S) rfl hl.1 rfl (Nat.le_of_ble_eq_true rfl) d_Qu_dataNow_62 (fun H locs hP => ?_)
        refine lv_goto hx hb d_Qu_dataNow_65 (tgt := 69) (by decide) ?_
        exact hret _ _ _ _ _ d_Qu_dataNow_69 (Option.some.inj hf) hP
  refine lv_aload_n hx hb d_Qu_dataNow_0 rfl (lv_at hl 0 rfl) ?_
  refine w_get C hP (fdX_18_name G S) tb_102 d_Qu_dataNow_1 ?_
  refine lv_aload_n hx hb d_Qu_dataNow_4 rfl (lv_at hl 0 rfl) ?_
  refine w_get C hP (fdX_18_type G S) tb_103 d_Qu_dataNow_5 ?_
  obtain ⟨x9, h10, hf⟩ := bd_some hf
  refine w_callS (As := [.int (S.1 8), .int (S.1 9)]) (rest := []) C (c_Na_setOf l (S.1 8) (S.1 9) x9 h10) cf_Na_setOf tb_297 (by decide) rfl hl.1 rfl (Nat.le_of_ble_eq_true rfl) d_Qu_dataNow_8 ?_
  refine lv_istore_n (lv' := [(2, .int x9), (0, .ref (G.2.1 18)), (1, .int v1)]) hx hb d_Qu_dataNow_11 rfl hl (by decide) rfl (fun ls hl => ?_)
  refine lv_aload_n hx hb d_Qu_dataNow_12 rfl (lv_at hl 1 rfl) ?_
  refine w_get C hP (fdX_18_why G S) tb_105 d_Qu_dataNow_13 ?_
  refine lv_bipush (v := (8 : Int32)) hx hb d_Qu_dataNow_16 (by decide) ?_
  refine lv_icmp_eq hx hb d_Qu_dataNow_18 (tgt := 32) (by decide) (fun h11 => ?_) (fun h11 => ?_)
  · have hf := it_t h11 hf
    exact JP_32 v1 x9 _ _ _ (lv_sub hl [1, 2, 0] rfl) hP hf
  · have hf := it_f h11 hf
    refine lv_aload_n hx hb d_Qu_dataNow_21 rfl (lv_at hl 1 rfl) ?_
    refine w_get C hP (fdX_18_why G S) tb_105 d_Qu_dataNow_22 ?_
    refine lv_bipush (v := (9 : Int32)) hx hb d_Qu_dataNow_25 (by decide) ?_
    refine lv_icmp_eq hx hb d_Qu_dataNow_27 (tgt := 32) (by decide) (fun h12 => ?_) (fun h12 => ?_)
    · have hf := it_t h12 hf
      exact JP_32 v1 x9 _ _ _ (lv_sub hl [1, 2, 0] rfl) hP hf
    · have hf := it_f h12 hf
      refine lv_iconst (v := (0 : Int32)) hx hb d_Qu_dataNow_30 (by decide) ?_
      exact hret _ _ _ _ _ d_Qu_dataNow_31 (Option.some.inj hf) hP
def f_Qu_zoneAt (S : XSt) (v1 : Int32) : Option Int32 := (if v1 < (0 : Int32) then some (-1 : Int32) else (if (S.1 6) ≤ v1 then some (-1 : Int32) else zgd (zin v1 5) (some (S.2 16 (Int32.toNatClampNeg v1)))))
set_option maxHeartbeats 4000000 in
set_option maxRecDepth 100000 in
theorem c_Qu_zoneAt (l : Launch) (G : XG) (S : XSt) (v1 : Int32) (o0 : Int32) (hf : f_Qu_zoneAt S v1 = some o0) : MetI l y_Qu_zoneAt b_Qu_zoneAt 2 (some .int) 0 [.ref (G.2.1 18), .int v1] G.1 (tyX G) (zAX G) (wX G S) o0 (wX G S) := by
  refine mkI (by decide) (Nat.le_of_ble_eq_true rfl) ?_
  intro p e R s m args below meth c ls Q C hl hP hret0
  replace C : Cw p m c b_Qu_zoneAt 2 s args "TrustResolver$Question" R 0 := C
  have hx := C.1
  have hb := C.2.1
  replace hl : lv_has ls 2 [(0, .ref (G.2.1 18)), (1, .int v1)] := hl
  have hret := hret0
  clear hret0
  unfold f_Qu_zoneAt at hf
  refine lv_iload_n hx hb d_Qu_zoneAt_0 rfl (lv_at hl 1 rfl) ?_
  refine lv_if_lt hx hb d_Qu_zoneAt_1 (tgt := 21) (by decide) (fun h1 => ?_) (fun h1 => ?_)
  · have hf := it_t h1 hf
    refine lv_iconst (v := (-1 : Int32)) hx hb d_Qu_zoneAt_21 (by decide) ?_
    exact hret _ _ _ _ _ d_Qu_zoneAt_22 (Option.some.inj hf) hP
  · have hf := it_f h1 hf
    refine lv_iload_n hx hb d_Qu_zoneAt_4 rfl (lv_at hl 1 rfl) ?_
    refine lv_aload_n hx hb d_Qu_zoneAt_5 rfl (lv_at hl 0 rfl) ?_
    refine w_get C hP (fdX_18_zoneCount G S) tb_100 d_Qu_zoneAt_6 ?_
    refine lv_icmp_ge hx hb d_Qu_zoneAt_9 (tgt := 21) (by decide) (fun h2 => ?_) (fun h2 => ?_)
    · have hf := it_t h2 hf
      refine lv_iconst (v := (-1 : Int32)) hx hb d_Qu_zoneAt_21 (by decide) ?_
      exact hret _ _ _ _ _ d_Qu_zoneAt_22 (Option.some.inj hf) hP
    · have hf := it_f h2 hf
      refine lv_aload_n hx hb d_Qu_zoneAt_12 rfl (lv_at hl 0 rfl) ?_
      refine w_get C hP (fdX_18_zones G S) tb_99 d_Qu_zoneAt_13 ?_
      refine lv_iload_n hx hb d_Qu_zoneAt_16 rfl (lv_at hl 1 rfl) ?_
      obtain ⟨h3, hf⟩ := zgd_some hf
      refine w_iald (t0 := 0) C hP (arX_16 G S) rfl h3 d_Qu_zoneAt_17 ?_
      refine lv_goto hx hb d_Qu_zoneAt_18 (tgt := 22) (by decide) ?_
      exact hret _ _ _ _ _ d_Qu_zoneAt_22 (Option.some.inj hf) hP
