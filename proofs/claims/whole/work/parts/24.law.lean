theorem lw_gt {j L : Nat} (h : L < j + 6) (hj : j ≤ L + 6) (hL : L ≤ 3072) : nI L - 6 < nI j := by
  have e : (6 : Int32) = nI 6 := rfl
  rw [e, Int32.lt_iff_toInt_lt, pk_sub_toInt (by omega) (by omega), nI_toInt (by omega)]
  omega
theorem lw_le {j L : Nat} (h : ¬ nI L - 6 < nI j) (hj : j ≤ L + 6) (hL : L ≤ 3072) : j + 6 ≤ L := by
  have e : (6 : Int32) = nI 6 := rfl
  rw [e, Int32.lt_iff_toInt_lt, pk_sub_toInt (by omega) (by omega), nI_toInt (by omega)] at h
  omega
def Sim_add (Rel : XSt → MSt → Prop) : Prop := ∀ (S : XSt) (T : MSt) (a0 a1 a2 : Int32), Rel S T → ∃ r S' T', f_R_add S a0 a1 a2 = some (r, S') ∧ f_M_add T a0 a1 a2 = some (r, T') ∧ Rel S' T'
def Sim_drop (Rel : XSt → MSt → Prop) : Prop := ∀ (S : XSt) (T : MSt) (a0 a1 : Int32), Rel S T → ∃ r S' T', f_R_drop S a0 a1 = some (r, S') ∧ f_M_drop T a0 a1 = some (r, T') ∧ Rel S' T'
def Sim_window (Rel : XSt → MSt → Prop) : Prop := ∀ (S : XSt) (T : MSt) (a0 a1 : Int32), Rel S T → ∃ r S' T', f_R_window S a0 a1 = some (r, S') ∧ f_M_window T a0 a1 = some (r, T') ∧ Rel S' T'
def Sim_sign (Rel : XSt → MSt → Prop) : Prop := ∀ (S : XSt) (T : MSt) (a0 a1 a2 a3 a4 : Int32), Rel S T → ∃ r S' T', f_R_sign S a0 a1 a2 a3 a4 = some (r, S') ∧ f_M_sign T a0 a1 a2 a3 a4 = some (r, T') ∧ Rel S' T'
def Sim_spoil (Rel : XSt → MSt → Prop) : Prop := ∀ (S : XSt) (T : MSt) (a0 a1 : Int32), Rel S T → ∃ r S' T', f_R_spoil S a0 a1 = some (r, S') ∧ f_M_spoil T a0 a1 = some (r, T') ∧ Rel S' T'
def Sim_seal (Rel : XSt → MSt → Prop) : Prop := ∀ (S : XSt) (T : MSt) (a0 a1 : Int32), Rel S T → ∃ r T', f_R_seal S a0 a1 = some r ∧ f_M_seal T a0 a1 = some (r, T') ∧ Rel S T'
def Sim_anchor (Rel : XSt → MSt → Prop) : Prop := ∀ (S : XSt) (T : MSt) (a0 a1 : Int32), Rel S T → ∃ r S' T', f_R_anchor S a0 a1 = some (r, S') ∧ f_M_anchor T a0 a1 = some (r, T') ∧ Rel S' T'
def Sim_tick (Rel : XSt → MSt → Prop) : Prop := ∀ (S : XSt) (T : MSt) (a0 : Int32), Rel S T → ∃ r S' T', f_R_tick S a0 = some (r, S') ∧ f_M_tick T a0 = some (r, T') ∧ Rel S' T'
def Sim_ask (Rel : XSt → MSt → Prop) : Prop := ∀ (S : XSt) (T : MSt) (a0 a1 : Int32), Rel S T → ∃ r S' T', f_R_ask S a0 a1 = some (r, S') ∧ f_M_ask T a0 a1 = some (r, T') ∧ Rel S' T'
def Sim_reason (Rel : XSt → MSt → Prop) : Prop := ∀ (S : XSt) (T : MSt), Rel S T → ∃ r, f_R_reason S  = some r ∧ f_M_reason T  = some r ∧ Rel S T
def Sim_answer (Rel : XSt → MSt → Prop) : Prop := ∀ (S : XSt) (T : MSt) (a0 : Int32), Rel S T → ∃ r, f_R_answer S a0 = some r ∧ f_M_answer T a0 = some r ∧ Rel S T
def Sim_zone (Rel : XSt → MSt → Prop) : Prop := ∀ (S : XSt) (T : MSt) (a0 : Int32), Rel S T → ∃ r, f_R_zone S a0 = some r ∧ f_M_zone T a0 = some r ∧ Rel S T
def Sim_figure (Rel : XSt → MSt → Prop) : Prop := ∀ (S : XSt) (T : MSt) (a0 : Int32), Rel S T → ∃ r, f_R_figure S a0 = some r ∧ f_M_figure T a0 = some r ∧ Rel S T
def Sim_above (Rel : XSt → MSt → Prop) : Prop := ∀ (S : XSt) (T : MSt) (a0 a1 : Int32), Rel S T → ∃ r, f_R_above S a0 a1 = some r ∧ f_M_above T a0 a1 = some r ∧ Rel S T
set_option maxHeartbeats 4000000 in
set_option maxRecDepth 100000 in
theorem law_open {p : Program} {l : Launch} {e : Env} {s : State} {m : MethodId} {below : List Frame} {meth : Method} {c : Code} {b L : Nat} {xs : Nat → Int32} {Q : State → Prop} {A : Nat → Prop} {G : XG} {am : Nat → Nat} (Rel : XSt → MSt → Prop) (h_add : Sim_add Rel) (h_drop : Sim_drop Rel) (h_window : Sim_window Rel) (h_sign : Sim_sign Rel) (h_spoil : Sim_spoil Rel) (h_seal : Sim_seal Rel) (h_anchor : Sim_anchor Rel) (h_tick : Sim_tick Rel) (h_ask : Sim_ask Rel) (h_reason : Sim_reason Rel) (h_answer : Sim_answer Rel) (h_zone : Sim_zone Rel) (h_figure : Sim_figure Rel) (h_above : Sim_above Rel) (hL : L ≤ 3072) (C : Cw p m c code 4 s #[Value.ref b] "TrustResolverLaw" room_1 11) (hX : va_X b L xs s s.heap) (hbl : b < s.heap.size) (hA : ∀ q, A q → s.heap.size ≤ q) (hret : ∀ (pc : Nat) (ls : Array Slot) (H : Heap) (locs : List Loc), decode code pc = .ok (.ireturn, 1) → Pw G.1 (tyX G) A s [] H locs → W p l e room_1 s m #[Value.ref b] below meth c H locs 39 1007 Q (F0 m pc ls [.int (1 : Int32)])) : ∀ (n j : Nat) (S : XSt) (T : MSt) (ls : Array Slot) (H : Heap) (locs : List Loc), L < 6 * n + j → j ≤ L + 6 → Rel S T → lv_has ls 4 [(0, .ref b), (1, .ref (G.2.1 0)), (2, .ref (am 0)), (3, .int (nI j))] → Pw G.1 (tyX G) A s (wX G S ++ wM (G.1, am, G.2.2) T) H locs → W p l e room_1 s m #[Value.ref b] below meth c H locs 39 1007 Q (F0 m 18 ls []) := by
  have hx := C.1
  have hb := C.2.1
  intro n
  induction n with
  | zero =>
    intro j S T ls H locs hn hj hR hl hP
    refine lv_iload_n hx hb d_Lw_law_18 rfl (lv_at hl 3 rfl) ?_
    refine lv_aload_n hx hb d_Lw_law_19 rfl (lv_at hl 0 rfl) ?_
    refine j_slen hx hb hX hbl hA hP d_Lw_law_20 ?_
    refine lv_bipush (v := (6 : Int32)) hx hb d_Lw_law_21 (by decide) ?_
    refine lv_isub hx hb d_Lw_law_23 ?_
    refine lv_icmp_gt hx hb d_Lw_law_24 (tgt := 552) (by decide) (fun h1 => ?_) (fun h1 => ?_)
    · refine lv_iconst (v := (1 : Int32)) hx hb d_Lw_law_552 (by decide) ?_
      exact hret _ _ _ _ d_Lw_law_553 ⟨fun i q h => by simp at h, ⟨fun i j x z h => by simp at h, fun i q h => by simp at h⟩, hP.2.2.1, hP.2.2.2.1, hP.2.2.2.2⟩
    · exact absurd (lw_gt (by omega) (by omega) hL) h1
  | succ n ih =>
    intro j S T ls H locs hn hj hR hl hP
    refine lv_iload_n hx hb d_Lw_law_18 rfl (lv_at hl 3 rfl) ?_
    refine lv_aload_n hx hb d_Lw_law_19 rfl (lv_at hl 0 rfl) ?_
    refine j_slen hx hb hX hbl hA hP d_Lw_law_20 ?_
    refine lv_bipush (v := (6 : Int32)) hx hb d_Lw_law_21 (by decide) ?_
    refine lv_isub hx hb d_Lw_law_23 ?_
    refine lv_icmp_gt hx hb d_Lw_law_24 (tgt := 552) (by decide) (fun h1 => ?_) (fun h1 => ?_)
    · refine lv_iconst (v := (1 : Int32)) hx hb d_Lw_law_552 (by decide) ?_
      exact hret _ _ _ _ d_Lw_law_553 ⟨fun i q h => by simp at h, ⟨fun i j x z h => by simp at h, fun i q h => by simp at h⟩, hP.2.2.1, hP.2.2.2.1, hP.2.2.2.2⟩
    · have hj6 : j + 6 ≤ L := lw_le h1 (by omega) hL
      have K : ∀ (S : XSt) (T : MSt) (H : Heap) (locs : List Loc), Rel S T → Pw G.1 (tyX G) A s (wX G S ++ wM (G.1, am, G.2.2) T) H locs → W p l e room_1 s m #[Value.ref b] below meth c H locs 39 1007 Q (F0 m 546 ls []) := by
        intro S T H locs hR hP
        refine lv_iinc (k := 3) (v := nI (j + 6)) (lv' := [(3, .int (nI (j + 6))), (0, .ref b), (1, .ref (G.2.1 0)), (2, .ref (am 0))]) hx hb d_Lw_law_546 hl rfl (by rw [← nI_add]; exact ii (by decide) _) (by decide) rfl (fun ls hl => ?_)
        refine lv_goto hx hb d_Lw_law_549 (tgt := 18) (by decide) ?_
        exact ih (j + 6) S T ls H locs (by omega) (by omega) hR (lv_sub hl [1, 2, 3, 0] rfl) hP
      refine lv_aload_n hx hb d_Lw_law_27 rfl (lv_at hl 0 rfl) ?_
      refine lv_iload_n hx hb d_Lw_law_28 rfl (lv_at hl 3 rfl) ?_
      refine j_sld0 hx hb hX hbl hA hP (by omega) hL d_Lw_law_29 ?_
      refine lv_bipush (v := (15 : Int32)) hx hb d_Lw_law_30 (by decide) ?_
      refine lv_iand hx hb d_Lw_law_32 ?_
      refine lv_topi (fun x ex => ?_)
      by_cases hc0 : x = (0 : Int32)
      · refine lv_tableIn hx hb d_Lw_law_33 (by rw [hc0]; decide) (by rw [hc0]; decide) (by rw [hc0]; rfl) (tgt := 104) (by decide) ?_
        obtain ⟨r, S', T', e1, e2, hR2⟩ := h_add S T (xs (j + 1)) (xs (j + 2)) (xs (j + 3)) hR
        refine lv_aload_n hx hb d_Lw_law_104 rfl (lv_at hl 1 rfl) ?_
        refine lv_aload_n hx hb d_Lw_law_105 rfl (lv_at hl 0 rfl) ?_
        refine lv_iload_n hx hb d_Lw_law_106 rfl (lv_at hl 3 rfl) ?_
        refine lv_iconst (v := (1 : Int32)) hx hb d_Lw_law_107 (by decide) ?_
        refine lv_iadd hx hb d_Lw_law_108 ?_
        refine j_sld (i := 1) hx hb hX hbl hA hP (by decide) (by omega) hL d_Lw_law_109 ?_
        refine lv_aload_n hx hb d_Lw_law_110 rfl (lv_at hl 0 rfl) ?_
        refine lv_iload_n hx hb d_Lw_law_111 rfl (lv_at hl 3 rfl) ?_
        refine lv_iconst (v := (2 : Int32)) hx hb d_Lw_law_112 (by decide) ?_
        refine lv_iadd hx hb d_Lw_law_113 ?_
        refine j_sld (i := 2) hx hb hX hbl hA hP (by decide) (by omega) hL d_Lw_law_114 ?_
        refine lv_aload_n hx hb d_Lw_law_115 rfl (lv_at hl 0 rfl) ?_
        refine lv_iload_n hx hb d_Lw_law_116 rfl (lv_at hl 3 rfl) ?_
        refine lv_iconst (v := (3 : Int32)) hx hb d_Lw_law_117 (by decide) ?_
        refine lv_iadd hx hb d_Lw_law_118 ?_
        refine j_sld (i := 3) hx hb hX hbl hA hP (by decide) (by omega) hL d_Lw_law_119 ?_
        refine j_call1 (As := [.int (xs (j + 1)), .int (xs (j + 2)), .int (xs (j + 3))]) (rest := []) C (c_R_add l G S (xs (j + 1)) (xs (j + 2)) (xs (j + 3)) (r, S') e1) cf_R_add tb_126 (by decide) hP (ownX G S) (ownX G S') (obX_0 G S) rfl hl.1 rfl (Nat.le_of_ble_eq_true rfl) d_Lw_law_120 ⟨Nat.le_refl _, Nat.le_refl _⟩ (fun H locs hP => ?_)
        refine lv_aload_n hx hb d_Lw_law_123 rfl (lv_at hl 2 rfl) ?_
        refine lv_aload_n hx hb d_Lw_law_124 rfl (lv_at hl 0 rfl) ?_
        refine lv_iload_n hx hb d_Lw_law_125 rfl (lv_at hl 3 rfl) ?_
        refine lv_iconst (v := (1 : Int32)) hx hb d_Lw_law_126 (by decide) ?_
        refine lv_iadd hx hb d_Lw_law_127 ?_
        refine j_sld (i := 1) hx hb hX hbl hA hP (by decide) (by omega) hL d_Lw_law_128 ?_
        refine lv_aload_n hx hb d_Lw_law_129 rfl (lv_at hl 0 rfl) ?_
        refine lv_iload_n hx hb d_Lw_law_130 rfl (lv_at hl 3 rfl) ?_
        refine lv_iconst (v := (2 : Int32)) hx hb d_Lw_law_131 (by decide) ?_
        refine lv_iadd hx hb d_Lw_law_132 ?_
        refine j_sld (i := 2) hx hb hX hbl hA hP (by decide) (by omega) hL d_Lw_law_133 ?_
        refine lv_aload_n hx hb d_Lw_law_134 rfl (lv_at hl 0 rfl) ?_
        refine lv_iload_n hx hb d_Lw_law_135 rfl (lv_at hl 3 rfl) ?_
        refine lv_iconst (v := (3 : Int32)) hx hb d_Lw_law_136 (by decide) ?_
        refine lv_iadd hx hb d_Lw_law_137 ?_
        refine j_sld (i := 3) hx hb hX hbl hA hP (by decide) (by omega) hL d_Lw_law_138 ?_
        refine j_call2 (As := [.int (xs (j + 1)), .int (xs (j + 2)), .int (xs (j + 3))]) (rest := [.int r]) C (c_M_add l (G.1, am, G.2.2) T (xs (j + 1)) (xs (j + 2)) (xs (j + 3)) (r, T') e2) cf_M_add tb_472 (by decide) hP (ownM (G.1, am, G.2.2) T) (ownM (G.1, am, G.2.2) T') (obM_0 (G.1, am, G.2.2) T) rfl hl.1 rfl (Nat.le_of_ble_eq_true rfl) d_Lw_law_139 ⟨Nat.le_refl _, Nat.le_refl _⟩ (fun H locs hP => ?_)
        refine lv_icmp_eq hx hb d_Lw_law_142 (tgt := 546) (by decide) (fun h2 => ?_) (fun h2 => absurd rfl h2)
        exact K S' T' _ _ hR2 hP
      by_cases hc1 : x = (1 : Int32)
      · refine lv_tableIn hx hb d_Lw_law_33 (by rw [hc1]; decide) (by rw [hc1]; decide) (by rw [hc1]; rfl) (tgt := 147) (by decide) ?_
        obtain ⟨r, S', T', e1, e2, hR2⟩ := h_drop S T (xs (j + 1)) (xs (j + 2)) hR
        refine lv_aload_n hx hb d_Lw_law_147 rfl (lv_at hl 1 rfl) ?_
        refine lv_aload_n hx hb d_Lw_law_148 rfl (lv_at hl 0 rfl) ?_
        refine lv_iload_n hx hb d_Lw_law_149 rfl (lv_at hl 3 rfl) ?_
        refine lv_iconst (v := (1 : Int32)) hx hb d_Lw_law_150 (by decide) ?_
        refine lv_iadd hx hb d_Lw_law_151 ?_
        refine j_sld (i := 1) hx hb hX hbl hA hP (by decide) (by omega) hL d_Lw_law_152 ?_
        refine lv_aload_n hx hb d_Lw_law_153 rfl (lv_at hl 0 rfl) ?_
        refine lv_iload_n hx hb d_Lw_law_154 rfl (lv_at hl 3 rfl) ?_
        refine lv_iconst (v := (2 : Int32)) hx hb d_Lw_law_155 (by decide) ?_
        refine lv_iadd hx hb d_Lw_law_156 ?_
        refine j_sld (i := 2) hx hb hX hbl hA hP (by decide) (by omega) hL d_Lw_law_157 ?_
        refine j_call1 (As := [.int (xs (j + 1)), .int (xs (j + 2))]) (rest := []) C (c_R_drop l G S (xs (j + 1)) (xs (j + 2)) (r, S') e1) cf_R_drop tb_171 (by decide) hP (ownX G S) (ownX G S') (obX_0 G S) rfl hl.1 rfl (Nat.le_of_ble_eq_true rfl) d_Lw_law_158 ⟨Nat.le_refl _, Nat.le_refl _⟩ (fun H locs hP => ?_)
        refine lv_aload_n hx hb d_Lw_law_161 rfl (lv_at hl 2 rfl) ?_
        refine lv_aload_n hx hb d_Lw_law_162 rfl (lv_at hl 0 rfl) ?_
        refine lv_iload_n hx hb d_Lw_law_163 rfl (lv_at hl 3 rfl) ?_
        refine lv_iconst (v := (1 : Int32)) hx hb d_Lw_law_164 (by decide) ?_
        refine lv_iadd hx hb d_Lw_law_165 ?_
        refine j_sld (i := 1) hx hb hX hbl hA hP (by decide) (by omega) hL d_Lw_law_166 ?_
        refine lv_aload_n hx hb d_Lw_law_167 rfl (lv_at hl 0 rfl) ?_
        refine lv_iload_n hx hb d_Lw_law_168 rfl (lv_at hl 3 rfl) ?_
        refine lv_iconst (v := (2 : Int32)) hx hb d_Lw_law_169 (by decide) ?_
        refine lv_iadd hx hb d_Lw_law_170 ?_
        refine j_sld (i := 2) hx hb hX hbl hA hP (by decide) (by omega) hL d_Lw_law_171 ?_
        refine j_call2 (As := [.int (xs (j + 1)), .int (xs (j + 2))]) (rest := [.int r]) C (c_M_drop l (G.1, am, G.2.2) T (xs (j + 1)) (xs (j + 2)) (r, T') e2) cf_M_drop tb_501 (by decide) hP (ownM (G.1, am, G.2.2) T) (ownM (G.1, am, G.2.2) T') (obM_0 (G.1, am, G.2.2) T) rfl hl.1 rfl (Nat.le_of_ble_eq_true rfl) d_Lw_law_172 ⟨Nat.le_refl _, Nat.le_refl _⟩ (fun H locs hP => ?_)
        refine lv_icmp_eq hx hb d_Lw_law_175 (tgt := 546) (by decide) (fun h2 => ?_) (fun h2 => absurd rfl h2)
        exact K S' T' _ _ hR2 hP
      by_cases hc2 : x = (2 : Int32)
      · refine lv_tableIn hx hb d_Lw_law_33 (by rw [hc2]; decide) (by rw [hc2]; decide) (by rw [hc2]; rfl) (tgt := 180) (by decide) ?_
        obtain ⟨r, S', T', e1, e2, hR2⟩ := h_window S T (xs (j + 1)) (xs (j + 2)) hR
        refine lv_aload_n hx hb d_Lw_law_180 rfl (lv_at hl 1 rfl) ?_
        refine lv_aload_n hx hb d_Lw_law_181 rfl (lv_at hl 0 rfl) ?_
        refine lv_iload_n hx hb d_Lw_law_182 rfl (lv_at hl 3 rfl) ?_
        refine lv_iconst (v := (1 : Int32)) hx hb d_Lw_law_183 (by decide) ?_
        refine lv_iadd hx hb d_Lw_law_184 ?_
        refine j_sld (i := 1) hx hb hX hbl hA hP (by decide) (by omega) hL d_Lw_law_185 ?_
        refine lv_aload_n hx hb d_Lw_law_186 rfl (lv_at hl 0 rfl) ?_
        refine lv_iload_n hx hb d_Lw_law_187 rfl (lv_at hl 3 rfl) ?_
        refine lv_iconst (v := (2 : Int32)) hx hb d_Lw_law_188 (by decide) ?_
        refine lv_iadd hx hb d_Lw_law_189 ?_
        refine j_sld (i := 2) hx hb hX hbl hA hP (by decide) (by omega) hL d_Lw_law_190 ?_
        refine j_call1 (As := [.int (xs (j + 1)), .int (xs (j + 2))]) (rest := []) C (c_R_window l G S (xs (j + 1)) (xs (j + 2)) (r, S') e1) cf_R_window tb_179 (by decide) hP (ownX G S) (ownX G S') (obX_0 G S) rfl hl.1 rfl (Nat.le_of_ble_eq_true rfl) d_Lw_law_191 ⟨Nat.le_refl _, Nat.le_refl _⟩ (fun H locs hP => ?_)
        refine lv_aload_n hx hb d_Lw_law_194 rfl (lv_at hl 2 rfl) ?_
        refine lv_aload_n hx hb d_Lw_law_195 rfl (lv_at hl 0 rfl) ?_
        refine lv_iload_n hx hb d_Lw_law_196 rfl (lv_at hl 3 rfl) ?_
        refine lv_iconst (v := (1 : Int32)) hx hb d_Lw_law_197 (by decide) ?_
        refine lv_iadd hx hb d_Lw_law_198 ?_
        refine j_sld (i := 1) hx hb hX hbl hA hP (by decide) (by omega) hL d_Lw_law_199 ?_
        refine lv_aload_n hx hb d_Lw_law_200 rfl (lv_at hl 0 rfl) ?_
        refine lv_iload_n hx hb d_Lw_law_201 rfl (lv_at hl 3 rfl) ?_
        refine lv_iconst (v := (2 : Int32)) hx hb d_Lw_law_202 (by decide) ?_
        refine lv_iadd hx hb d_Lw_law_203 ?_
        refine j_sld (i := 2) hx hb hX hbl hA hP (by decide) (by omega) hL d_Lw_law_204 ?_
        refine j_call2 (As := [.int (xs (j + 1)), .int (xs (j + 2))]) (rest := [.int r]) C (c_M_window l (G.1, am, G.2.2) T (xs (j + 1)) (xs (j + 2)) (r, T') e2) cf_M_window tb_519 (by decide) hP (ownM (G.1, am, G.2.2) T) (ownM (G.1, am, G.2.2) T') (obM_0 (G.1, am, G.2.2) T) rfl hl.1 rfl (Nat.le_of_ble_eq_true rfl) d_Lw_law_205 ⟨Nat.le_refl _, Nat.le_refl _⟩ (fun H locs hP => ?_)
        refine lv_icmp_eq hx hb d_Lw_law_208 (tgt := 546) (by decide) (fun h2 => ?_) (fun h2 => absurd rfl h2)
        exact K S' T' _ _ hR2 hP
      by_cases hc3 : x = (3 : Int32)
      · refine lv_tableIn hx hb d_Lw_law_33 (by rw [hc3]; decide) (by rw [hc3]; decide) (by rw [hc3]; rfl) (tgt := 213) (by decide) ?_
        obtain ⟨r, S', T', e1, e2, hR2⟩ := h_sign S T (xs (j + 1)) (xs (j + 2)) (xs (j + 3)) (xs (j + 4)) (xs (j + 5)) hR
        refine lv_aload_n hx hb d_Lw_law_213 rfl (lv_at hl 1 rfl) ?_
        refine lv_aload_n hx hb d_Lw_law_214 rfl (lv_at hl 0 rfl) ?_
        refine lv_iload_n hx hb d_Lw_law_215 rfl (lv_at hl 3 rfl) ?_
        refine lv_iconst (v := (1 : Int32)) hx hb d_Lw_law_216 (by decide) ?_
        refine lv_iadd hx hb d_Lw_law_217 ?_
        refine j_sld (i := 1) hx hb hX hbl hA hP (by decide) (by omega) hL d_Lw_law_218 ?_
        refine lv_aload_n hx hb d_Lw_law_219 rfl (lv_at hl 0 rfl) ?_
        refine lv_iload_n hx hb d_Lw_law_220 rfl (lv_at hl 3 rfl) ?_
        refine lv_iconst (v := (2 : Int32)) hx hb d_Lw_law_221 (by decide) ?_
        refine lv_iadd hx hb d_Lw_law_222 ?_
        refine j_sld (i := 2) hx hb hX hbl hA hP (by decide) (by omega) hL d_Lw_law_223 ?_
        refine lv_aload_n hx hb d_Lw_law_224 rfl (lv_at hl 0 rfl) ?_
        refine lv_iload_n hx hb d_Lw_law_225 rfl (lv_at hl 3 rfl) ?_
        refine lv_iconst (v := (3 : Int32)) hx hb d_Lw_law_226 (by decide) ?_
        refine lv_iadd hx hb d_Lw_law_227 ?_
        refine j_sld (i := 3) hx hb hX hbl hA hP (by decide) (by omega) hL d_Lw_law_228 ?_
        refine lv_aload_n hx hb d_Lw_law_229 rfl (lv_at hl 0 rfl) ?_
        refine lv_iload_n hx hb d_Lw_law_230 rfl (lv_at hl 3 rfl) ?_
        refine lv_iconst (v := (4 : Int32)) hx hb d_Lw_law_231 (by decide) ?_
        refine lv_iadd hx hb d_Lw_law_232 ?_
        refine j_sld (i := 4) hx hb hX hbl hA hP (by decide) (by omega) hL d_Lw_law_233 ?_
        refine lv_aload_n hx hb d_Lw_law_234 rfl (lv_at hl 0 rfl) ?_
        refine lv_iload_n hx hb d_Lw_law_235 rfl (lv_at hl 3 rfl) ?_
        refine lv_iconst (v := (5 : Int32)) hx hb d_Lw_law_236 (by decide) ?_
        refine lv_iadd hx hb d_Lw_law_237 ?_
        refine j_sld (i := 5) hx hb hX hbl hA hP (by decide) (by omega) hL d_Lw_law_238 ?_
        refine j_call1 (As := [.int (xs (j + 1)), .int (xs (j + 2)), .int (xs (j + 3)), .int (xs (j + 4)), .int (xs (j + 5))]) (rest := []) C (c_R_sign l G S (xs (j + 1)) (xs (j + 2)) (xs (j + 3)) (xs (j + 4)) (xs (j + 5)) (r, S') e1) cf_R_sign tb_187 (by decide) hP (ownX G S) (ownX G S') (obX_0 G S) rfl hl.1 rfl (Nat.le_of_ble_eq_true rfl) d_Lw_law_239 ⟨Nat.le_refl _, Nat.le_refl _⟩ (fun H locs hP => ?_)
        refine lv_aload_n hx hb d_Lw_law_242 rfl (lv_at hl 2 rfl) ?_
        refine lv_aload_n hx hb d_Lw_law_243 rfl (lv_at hl 0 rfl) ?_
        refine lv_iload_n hx hb d_Lw_law_244 rfl (lv_at hl 3 rfl) ?_
        refine lv_iconst (v := (1 : Int32)) hx hb d_Lw_law_245 (by decide) ?_
        refine lv_iadd hx hb d_Lw_law_246 ?_
        refine j_sld (i := 1) hx hb hX hbl hA hP (by decide) (by omega) hL d_Lw_law_247 ?_
        refine lv_aload_n hx hb d_Lw_law_248 rfl (lv_at hl 0 rfl) ?_
        refine lv_iload_n hx hb d_Lw_law_249 rfl (lv_at hl 3 rfl) ?_
        refine lv_iconst (v := (2 : Int32)) hx hb d_Lw_law_250 (by decide) ?_
        refine lv_iadd hx hb d_Lw_law_251 ?_
        refine j_sld (i := 2) hx hb hX hbl hA hP (by decide) (by omega) hL d_Lw_law_252 ?_
        refine lv_aload_n hx hb d_Lw_law_253 rfl (lv_at hl 0 rfl) ?_
        refine lv_iload_n hx hb d_Lw_law_254 rfl (lv_at hl 3 rfl) ?_
        refine lv_iconst (v := (3 : Int32)) hx hb d_Lw_law_255 (by decide) ?_
        refine lv_iadd hx hb d_Lw_law_256 ?_
        refine j_sld (i := 3) hx hb hX hbl hA hP (by decide) (by omega) hL d_Lw_law_257 ?_
        refine lv_aload_n hx hb d_Lw_law_258 rfl (lv_at hl 0 rfl) ?_
        refine lv_iload_n hx hb d_Lw_law_259 rfl (lv_at hl 3 rfl) ?_
        refine lv_iconst (v := (4 : Int32)) hx hb d_Lw_law_260 (by decide) ?_
        refine lv_iadd hx hb d_Lw_law_261 ?_
        refine j_sld (i := 4) hx hb hX hbl hA hP (by decide) (by omega) hL d_Lw_law_262 ?_
        refine lv_aload_n hx hb d_Lw_law_263 rfl (lv_at hl 0 rfl) ?_
        refine lv_iload_n hx hb d_Lw_law_264 rfl (lv_at hl 3 rfl) ?_
        refine lv_iconst (v := (5 : Int32)) hx hb d_Lw_law_265 (by decide) ?_
        refine lv_iadd hx hb d_Lw_law_266 ?_
        refine j_sld (i := 5) hx hb hX hbl hA hP (by decide) (by omega) hL d_Lw_law_267 ?_
        refine j_call2 (As := [.int (xs (j + 1)), .int (xs (j + 2)), .int (xs (j + 3)), .int (xs (j + 4)), .int (xs (j + 5))]) (rest := [.int r]) C (c_M_sign l (G.1, am, G.2.2) T (xs (j + 1)) (xs (j + 2)) (xs (j + 3)) (xs (j + 4)) (xs (j + 5)) (r, T') e2) cf_M_sign tb_523 (by decide) hP (ownM (G.1, am, G.2.2) T) (ownM (G.1, am, G.2.2) T') (obM_0 (G.1, am, G.2.2) T) rfl hl.1 rfl (Nat.le_of_ble_eq_true rfl) d_Lw_law_268 ⟨Nat.le_refl _, Nat.le_refl _⟩ (fun H locs hP => ?_)
        refine lv_icmp_eq hx hb d_Lw_law_271 (tgt := 546) (by decide) (fun h2 => ?_) (fun h2 => absurd rfl h2)
        exact K S' T' _ _ hR2 hP
      by_cases hc4 : x = (4 : Int32)
      · refine lv_tableIn hx hb d_Lw_law_33 (by rw [hc4]; decide) (by rw [hc4]; decide) (by rw [hc4]; rfl) (tgt := 276) (by decide) ?_
        obtain ⟨r, S', T', e1, e2, hR2⟩ := h_spoil S T (xs (j + 1)) (xs (j + 2)) hR
        refine lv_aload_n hx hb d_Lw_law_276 rfl (lv_at hl 1 rfl) ?_
        refine lv_aload_n hx hb d_Lw_law_277 rfl (lv_at hl 0 rfl) ?_
        refine lv_iload_n hx hb d_Lw_law_278 rfl (lv_at hl 3 rfl) ?_
        refine lv_iconst (v := (1 : Int32)) hx hb d_Lw_law_279 (by decide) ?_
        refine lv_iadd hx hb d_Lw_law_280 ?_
        refine j_sld (i := 1) hx hb hX hbl hA hP (by decide) (by omega) hL d_Lw_law_281 ?_
        refine lv_aload_n hx hb d_Lw_law_282 rfl (lv_at hl 0 rfl) ?_
        refine lv_iload_n hx hb d_Lw_law_283 rfl (lv_at hl 3 rfl) ?_
        refine lv_iconst (v := (2 : Int32)) hx hb d_Lw_law_284 (by decide) ?_
        refine lv_iadd hx hb d_Lw_law_285 ?_
        refine j_sld (i := 2) hx hb hX hbl hA hP (by decide) (by omega) hL d_Lw_law_286 ?_
        refine j_call1 (As := [.int (xs (j + 1)), .int (xs (j + 2))]) (rest := []) C (c_R_spoil l G S (xs (j + 1)) (xs (j + 2)) (r, S') e1) cf_R_spoil tb_232 (by decide) hP (ownX G S) (ownX G S') (obX_0 G S) rfl hl.1 rfl (Nat.le_of_ble_eq_true rfl) d_Lw_law_287 ⟨Nat.le_refl _, Nat.le_refl _⟩ (fun H locs hP => ?_)
        refine lv_aload_n hx hb d_Lw_law_290 rfl (lv_at hl 2 rfl) ?_
        refine lv_aload_n hx hb d_Lw_law_291 rfl (lv_at hl 0 rfl) ?_
        refine lv_iload_n hx hb d_Lw_law_292 rfl (lv_at hl 3 rfl) ?_
        refine lv_iconst (v := (1 : Int32)) hx hb d_Lw_law_293 (by decide) ?_
        refine lv_iadd hx hb d_Lw_law_294 ?_
        refine j_sld (i := 1) hx hb hX hbl hA hP (by decide) (by omega) hL d_Lw_law_295 ?_
        refine lv_aload_n hx hb d_Lw_law_296 rfl (lv_at hl 0 rfl) ?_
        refine lv_iload_n hx hb d_Lw_law_297 rfl (lv_at hl 3 rfl) ?_
        refine lv_iconst (v := (2 : Int32)) hx hb d_Lw_law_298 (by decide) ?_
        refine lv_iadd hx hb d_Lw_law_299 ?_
        refine j_sld (i := 2) hx hb hX hbl hA hP (by decide) (by omega) hL d_Lw_law_300 ?_
        refine j_call2 (As := [.int (xs (j + 1)), .int (xs (j + 2))]) (rest := [.int r]) C (c_M_spoil l (G.1, am, G.2.2) T (xs (j + 1)) (xs (j + 2)) (r, T') e2) cf_M_spoil tb_542 (by decide) hP (ownM (G.1, am, G.2.2) T) (ownM (G.1, am, G.2.2) T') (obM_0 (G.1, am, G.2.2) T) rfl hl.1 rfl (Nat.le_of_ble_eq_true rfl) d_Lw_law_301 ⟨Nat.le_refl _, Nat.le_refl _⟩ (fun H locs hP => ?_)
        refine lv_icmp_eq hx hb d_Lw_law_304 (tgt := 546) (by decide) (fun h2 => ?_) (fun h2 => absurd rfl h2)
        exact K S' T' _ _ hR2 hP
      by_cases hc5 : x = (5 : Int32)
      · refine lv_tableIn hx hb d_Lw_law_33 (by rw [hc5]; decide) (by rw [hc5]; decide) (by rw [hc5]; rfl) (tgt := 309) (by decide) ?_
        obtain ⟨r, T', e1, e2, hR2⟩ := h_seal S T (xs (j + 1)) (xs (j + 2)) hR
        refine lv_aload_n hx hb d_Lw_law_309 rfl (lv_at hl 1 rfl) ?_
        refine lv_aload_n hx hb d_Lw_law_310 rfl (lv_at hl 0 rfl) ?_
        refine lv_iload_n hx hb d_Lw_law_311 rfl (lv_at hl 3 rfl) ?_
        refine lv_iconst (v := (1 : Int32)) hx hb d_Lw_law_312 (by decide) ?_
        refine lv_iadd hx hb d_Lw_law_313 ?_
        refine j_sld (i := 1) hx hb hX hbl hA hP (by decide) (by omega) hL d_Lw_law_314 ?_
        refine lv_aload_n hx hb d_Lw_law_315 rfl (lv_at hl 0 rfl) ?_
        refine lv_iload_n hx hb d_Lw_law_316 rfl (lv_at hl 3 rfl) ?_
        refine lv_iconst (v := (2 : Int32)) hx hb d_Lw_law_317 (by decide) ?_
        refine lv_iadd hx hb d_Lw_law_318 ?_
        refine j_sld (i := 2) hx hb hX hbl hA hP (by decide) (by omega) hL d_Lw_law_319 ?_
        refine j_call1 (As := [.int (xs (j + 1)), .int (xs (j + 2))]) (rest := []) C (c_R_seal l G S (xs (j + 1)) (xs (j + 2)) r e1) cf_R_seal tb_240 (by decide) hP (ownX G S) (ownX G S) (obX_0 G S) rfl hl.1 rfl (Nat.le_of_ble_eq_true rfl) d_Lw_law_320 ⟨Nat.le_refl _, Nat.le_refl _⟩ (fun H locs hP => ?_)
        refine lv_aload_n hx hb d_Lw_law_323 rfl (lv_at hl 2 rfl) ?_
        refine lv_aload_n hx hb d_Lw_law_324 rfl (lv_at hl 0 rfl) ?_
        refine lv_iload_n hx hb d_Lw_law_325 rfl (lv_at hl 3 rfl) ?_
        refine lv_iconst (v := (1 : Int32)) hx hb d_Lw_law_326 (by decide) ?_
        refine lv_iadd hx hb d_Lw_law_327 ?_
        refine j_sld (i := 1) hx hb hX hbl hA hP (by decide) (by omega) hL d_Lw_law_328 ?_
        refine lv_aload_n hx hb d_Lw_law_329 rfl (lv_at hl 0 rfl) ?_
        refine lv_iload_n hx hb d_Lw_law_330 rfl (lv_at hl 3 rfl) ?_
        refine lv_iconst (v := (2 : Int32)) hx hb d_Lw_law_331 (by decide) ?_
        refine lv_iadd hx hb d_Lw_law_332 ?_
        refine j_sld (i := 2) hx hb hX hbl hA hP (by decide) (by omega) hL d_Lw_law_333 ?_
        refine j_call2 (As := [.int (xs (j + 1)), .int (xs (j + 2))]) (rest := [.int r]) C (c_M_seal l (G.1, am, G.2.2) T (xs (j + 1)) (xs (j + 2)) (r, T') e2) cf_M_seal tb_505 (by decide) hP (ownM (G.1, am, G.2.2) T) (ownM (G.1, am, G.2.2) T') (obM_0 (G.1, am, G.2.2) T) rfl hl.1 rfl (Nat.le_of_ble_eq_true rfl) d_Lw_law_334 ⟨Nat.le_refl _, Nat.le_refl _⟩ (fun H locs hP => ?_)
        refine lv_icmp_eq hx hb d_Lw_law_337 (tgt := 546) (by decide) (fun h2 => ?_) (fun h2 => absurd rfl h2)
        exact K S T' _ _ hR2 hP
      by_cases hc6 : x = (6 : Int32)
      · refine lv_tableIn hx hb d_Lw_law_33 (by rw [hc6]; decide) (by rw [hc6]; decide) (by rw [hc6]; rfl) (tgt := 342) (by decide) ?_
        obtain ⟨r, S', T', e1, e2, hR2⟩ := h_anchor S T (xs (j + 1)) (xs (j + 2)) hR
        refine lv_aload_n hx hb d_Lw_law_342 rfl (lv_at hl 1 rfl) ?_
        refine lv_aload_n hx hb d_Lw_law_343 rfl (lv_at hl 0 rfl) ?_
        refine lv_iload_n hx hb d_Lw_law_344 rfl (lv_at hl 3 rfl) ?_
        refine lv_iconst (v := (1 : Int32)) hx hb d_Lw_law_345 (by decide) ?_
        refine lv_iadd hx hb d_Lw_law_346 ?_
        refine j_sld (i := 1) hx hb hX hbl hA hP (by decide) (by omega) hL d_Lw_law_347 ?_
        refine lv_aload_n hx hb d_Lw_law_348 rfl (lv_at hl 0 rfl) ?_
        refine lv_iload_n hx hb d_Lw_law_349 rfl (lv_at hl 3 rfl) ?_
        refine lv_iconst (v := (2 : Int32)) hx hb d_Lw_law_350 (by decide) ?_
        refine lv_iadd hx hb d_Lw_law_351 ?_
        refine j_sld (i := 2) hx hb hX hbl hA hP (by decide) (by omega) hL d_Lw_law_352 ?_
        refine j_call1 (As := [.int (xs (j + 1)), .int (xs (j + 2))]) (rest := []) C (c_R_anchor l G S (xs (j + 1)) (xs (j + 2)) (r, S') e1) cf_R_anchor tb_249 (by decide) hP (ownX G S) (ownX G S') (obX_0 G S) rfl hl.1 rfl (Nat.le_of_ble_eq_true rfl) d_Lw_law_353 ⟨Nat.le_refl _, Nat.le_refl _⟩ (fun H locs hP => ?_)
        refine lv_aload_n hx hb d_Lw_law_356 rfl (lv_at hl 2 rfl) ?_
        refine lv_aload_n hx hb d_Lw_law_357 rfl (lv_at hl 0 rfl) ?_
        refine lv_iload_n hx hb d_Lw_law_358 rfl (lv_at hl 3 rfl) ?_
        refine lv_iconst (v := (1 : Int32)) hx hb d_Lw_law_359 (by decide) ?_
        refine lv_iadd hx hb d_Lw_law_360 ?_
        refine j_sld (i := 1) hx hb hX hbl hA hP (by decide) (by omega) hL d_Lw_law_361 ?_
        refine lv_aload_n hx hb d_Lw_law_362 rfl (lv_at hl 0 rfl) ?_
        refine lv_iload_n hx hb d_Lw_law_363 rfl (lv_at hl 3 rfl) ?_
        refine lv_iconst (v := (2 : Int32)) hx hb d_Lw_law_364 (by decide) ?_
        refine lv_iadd hx hb d_Lw_law_365 ?_
        refine j_sld (i := 2) hx hb hX hbl hA hP (by decide) (by omega) hL d_Lw_law_366 ?_
        refine j_call2 (As := [.int (xs (j + 1)), .int (xs (j + 2))]) (rest := [.int r]) C (c_M_anchor l (G.1, am, G.2.2) T (xs (j + 1)) (xs (j + 2)) (r, T') e2) cf_M_anchor tb_546 (by decide) hP (ownM (G.1, am, G.2.2) T) (ownM (G.1, am, G.2.2) T') (obM_0 (G.1, am, G.2.2) T) rfl hl.1 rfl (Nat.le_of_ble_eq_true rfl) d_Lw_law_367 ⟨Nat.le_refl _, Nat.le_refl _⟩ (fun H locs hP => ?_)
        refine lv_icmp_eq hx hb d_Lw_law_370 (tgt := 546) (by decide) (fun h2 => ?_) (fun h2 => absurd rfl h2)
        exact K S' T' _ _ hR2 hP
      by_cases hc7 : x = (7 : Int32)
      · refine lv_tableIn hx hb d_Lw_law_33 (by rw [hc7]; decide) (by rw [hc7]; decide) (by rw [hc7]; rfl) (tgt := 375) (by decide) ?_
        obtain ⟨r, S', T', e1, e2, hR2⟩ := h_tick S T (xs (j + 1)) hR
        refine lv_aload_n hx hb d_Lw_law_375 rfl (lv_at hl 1 rfl) ?_
        refine lv_aload_n hx hb d_Lw_law_376 rfl (lv_at hl 0 rfl) ?_
        refine lv_iload_n hx hb d_Lw_law_377 rfl (lv_at hl 3 rfl) ?_
        refine lv_iconst (v := (1 : Int32)) hx hb d_Lw_law_378 (by decide) ?_
        refine lv_iadd hx hb d_Lw_law_379 ?_
        refine j_sld (i := 1) hx hb hX hbl hA hP (by decide) (by omega) hL d_Lw_law_380 ?_
        refine j_call1 (As := [.int (xs (j + 1))]) (rest := []) C (c_R_tick l G S (xs (j + 1)) (r, S') e1) cf_R_tick tb_257 (by decide) hP (ownX G S) (ownX G S') (obX_0 G S) rfl hl.1 rfl (Nat.le_of_ble_eq_true rfl) d_Lw_law_381 ⟨Nat.le_refl _, Nat.le_refl _⟩ (fun H locs hP => ?_)
        refine lv_aload_n hx hb d_Lw_law_384 rfl (lv_at hl 2 rfl) ?_
        refine lv_aload_n hx hb d_Lw_law_385 rfl (lv_at hl 0 rfl) ?_
        refine lv_iload_n hx hb d_Lw_law_386 rfl (lv_at hl 3 rfl) ?_
        refine lv_iconst (v := (1 : Int32)) hx hb d_Lw_law_387 (by decide) ?_
        refine lv_iadd hx hb d_Lw_law_388 ?_
        refine j_sld (i := 1) hx hb hX hbl hA hP (by decide) (by omega) hL d_Lw_law_389 ?_
        refine j_call2 (As := [.int (xs (j + 1))]) (rest := [.int r]) C (c_M_tick l (G.1, am, G.2.2) T (xs (j + 1)) (r, T') e2) cf_M_tick tb_550 (by decide) hP (ownM (G.1, am, G.2.2) T) (ownM (G.1, am, G.2.2) T') (obM_0 (G.1, am, G.2.2) T) rfl hl.1 rfl (Nat.le_of_ble_eq_true rfl) d_Lw_law_390 ⟨Nat.le_refl _, Nat.le_refl _⟩ (fun H locs hP => ?_)
        refine lv_icmp_eq hx hb d_Lw_law_393 (tgt := 546) (by decide) (fun h2 => ?_) (fun h2 => absurd rfl h2)
        exact K S' T' _ _ hR2 hP
      by_cases hc8 : x = (8 : Int32)
      · refine lv_tableIn hx hb d_Lw_law_33 (by rw [hc8]; decide) (by rw [hc8]; decide) (by rw [hc8]; rfl) (tgt := 398) (by decide) ?_
        obtain ⟨r, S', T', e1, e2, hR2⟩ := h_ask S T (xs (j + 1)) (xs (j + 2)) hR
        refine lv_aload_n hx hb d_Lw_law_398 rfl (lv_at hl 1 rfl) ?_
        refine lv_aload_n hx hb d_Lw_law_399 rfl (lv_at hl 0 rfl) ?_
        refine lv_iload_n hx hb d_Lw_law_400 rfl (lv_at hl 3 rfl) ?_
        refine lv_iconst (v := (1 : Int32)) hx hb d_Lw_law_401 (by decide) ?_
        refine lv_iadd hx hb d_Lw_law_402 ?_
        refine j_sld (i := 1) hx hb hX hbl hA hP (by decide) (by omega) hL d_Lw_law_403 ?_
        refine lv_aload_n hx hb d_Lw_law_404 rfl (lv_at hl 0 rfl) ?_
        refine lv_iload_n hx hb d_Lw_law_405 rfl (lv_at hl 3 rfl) ?_
        refine lv_iconst (v := (2 : Int32)) hx hb d_Lw_law_406 (by decide) ?_
        refine lv_iadd hx hb d_Lw_law_407 ?_
        refine j_sld (i := 2) hx hb hX hbl hA hP (by decide) (by omega) hL d_Lw_law_408 ?_
        refine j_call1 (As := [.int (xs (j + 1)), .int (xs (j + 2))]) (rest := []) C (c_R_ask l G S (xs (j + 1)) (xs (j + 2)) (r, S') e1) cf_R_ask tb_266 (by decide) hP (ownX G S) (ownX G S') (obX_0 G S) rfl hl.1 rfl (Nat.le_of_ble_eq_true rfl) d_Lw_law_409 ⟨Nat.le_refl _, Nat.le_refl _⟩ (fun H locs hP => ?_)
        refine lv_aload_n hx hb d_Lw_law_412 rfl (lv_at hl 2 rfl) ?_
        refine lv_aload_n hx hb d_Lw_law_413 rfl (lv_at hl 0 rfl) ?_
        refine lv_iload_n hx hb d_Lw_law_414 rfl (lv_at hl 3 rfl) ?_
        refine lv_iconst (v := (1 : Int32)) hx hb d_Lw_law_415 (by decide) ?_
        refine lv_iadd hx hb d_Lw_law_416 ?_
        refine j_sld (i := 1) hx hb hX hbl hA hP (by decide) (by omega) hL d_Lw_law_417 ?_
        refine lv_aload_n hx hb d_Lw_law_418 rfl (lv_at hl 0 rfl) ?_
        refine lv_iload_n hx hb d_Lw_law_419 rfl (lv_at hl 3 rfl) ?_
        refine lv_iconst (v := (2 : Int32)) hx hb d_Lw_law_420 (by decide) ?_
        refine lv_iadd hx hb d_Lw_law_421 ?_
        refine j_sld (i := 2) hx hb hX hbl hA hP (by decide) (by omega) hL d_Lw_law_422 ?_
        refine j_call2 (As := [.int (xs (j + 1)), .int (xs (j + 2))]) (rest := [.int r]) C (c_M_ask l (G.1, am, G.2.2) T (xs (j + 1)) (xs (j + 2)) (r, T') e2) cf_M_ask tb_555 (by decide) hP (ownM (G.1, am, G.2.2) T) (ownM (G.1, am, G.2.2) T') (obM_0 (G.1, am, G.2.2) T) rfl hl.1 rfl (Nat.le_of_ble_eq_true rfl) d_Lw_law_423 ⟨Nat.le_refl _, Nat.le_refl _⟩ (fun H locs hP => ?_)
        refine lv_icmp_eq hx hb d_Lw_law_426 (tgt := 546) (by decide) (fun h2 => ?_) (fun h2 => absurd rfl h2)
        exact K S' T' _ _ hR2 hP
      by_cases hc9 : x = (9 : Int32)
      · refine lv_tableIn hx hb d_Lw_law_33 (by rw [hc9]; decide) (by rw [hc9]; decide) (by rw [hc9]; rfl) (tgt := 431) (by decide) ?_
        obtain ⟨r, e1, e2, hR2⟩ := h_reason S T  hR
        refine lv_aload_n hx hb d_Lw_law_431 rfl (lv_at hl 1 rfl) ?_
        refine j_call1 (As := []) (rest := []) C (c_R_reason l G S  r e1) cf_R_reason tb_381 (by decide) hP (ownX G S) (ownX G S) (obX_0 G S) rfl hl.1 rfl (Nat.le_of_ble_eq_true rfl) d_Lw_law_432 ⟨Nat.le_refl _, Nat.le_refl _⟩ (fun H locs hP => ?_)
        refine lv_aload_n hx hb d_Lw_law_435 rfl (lv_at hl 2 rfl) ?_
        refine j_call2 (As := []) (rest := [.int r]) C (c_M_reason l (G.1, am, G.2.2) T  r e2) cf_M_reason tb_601 (by decide) hP (ownM (G.1, am, G.2.2) T) (ownM (G.1, am, G.2.2) T) (obM_0 (G.1, am, G.2.2) T) rfl hl.1 rfl (Nat.le_of_ble_eq_true rfl) d_Lw_law_436 ⟨Nat.le_refl _, Nat.le_refl _⟩ (fun H locs hP => ?_)
        refine lv_icmp_eq hx hb d_Lw_law_439 (tgt := 546) (by decide) (fun h2 => ?_) (fun h2 => absurd rfl h2)
        exact K S T _ _ hR2 hP
      by_cases hc10 : x = (10 : Int32)
      · refine lv_tableIn hx hb d_Lw_law_33 (by rw [hc10]; decide) (by rw [hc10]; decide) (by rw [hc10]; rfl) (tgt := 444) (by decide) ?_
        obtain ⟨r, e1, e2, hR2⟩ := h_answer S T (xs (j + 1)) hR
        refine lv_aload_n hx hb d_Lw_law_444 rfl (lv_at hl 1 rfl) ?_
        refine lv_aload_n hx hb d_Lw_law_445 rfl (lv_at hl 0 rfl) ?_
        refine lv_iload_n hx hb d_Lw_law_446 rfl (lv_at hl 3 rfl) ?_
        refine lv_iconst (v := (1 : Int32)) hx hb d_Lw_law_447 (by decide) ?_
        refine lv_iadd hx hb d_Lw_law_448 ?_
        refine j_sld (i := 1) hx hb hX hbl hA hP (by decide) (by omega) hL d_Lw_law_449 ?_
        refine j_call1 (As := [.int (xs (j + 1))]) (rest := []) C (c_R_answer l G S (xs (j + 1)) r e1) cf_R_answer tb_385 (by decide) hP (ownX G S) (ownX G S) (obX_0 G S) rfl hl.1 rfl (Nat.le_of_ble_eq_true rfl) d_Lw_law_450 ⟨Nat.le_refl _, Nat.le_refl _⟩ (fun H locs hP => ?_)
        refine lv_aload_n hx hb d_Lw_law_453 rfl (lv_at hl 2 rfl) ?_
        refine lv_aload_n hx hb d_Lw_law_454 rfl (lv_at hl 0 rfl) ?_
        refine lv_iload_n hx hb d_Lw_law_455 rfl (lv_at hl 3 rfl) ?_
        refine lv_iconst (v := (1 : Int32)) hx hb d_Lw_law_456 (by decide) ?_
        refine lv_iadd hx hb d_Lw_law_457 ?_
        refine j_sld (i := 1) hx hb hX hbl hA hP (by decide) (by omega) hL d_Lw_law_458 ?_
        refine j_call2 (As := [.int (xs (j + 1))]) (rest := [.int r]) C (c_M_answer l (G.1, am, G.2.2) T (xs (j + 1)) r e2) cf_M_answer tb_605 (by decide) hP (ownM (G.1, am, G.2.2) T) (ownM (G.1, am, G.2.2) T) (obM_0 (G.1, am, G.2.2) T) rfl hl.1 rfl (Nat.le_of_ble_eq_true rfl) d_Lw_law_459 ⟨Nat.le_refl _, Nat.le_refl _⟩ (fun H locs hP => ?_)
        refine lv_icmp_eq hx hb d_Lw_law_462 (tgt := 546) (by decide) (fun h2 => ?_) (fun h2 => absurd rfl h2)
        exact K S T _ _ hR2 hP
      by_cases hc11 : x = (11 : Int32)
      · refine lv_tableIn hx hb d_Lw_law_33 (by rw [hc11]; decide) (by rw [hc11]; decide) (by rw [hc11]; rfl) (tgt := 467) (by decide) ?_
        obtain ⟨r, e1, e2, hR2⟩ := h_zone S T (xs (j + 1)) hR
        refine lv_aload_n hx hb d_Lw_law_467 rfl (lv_at hl 1 rfl) ?_
        refine lv_aload_n hx hb d_Lw_law_468 rfl (lv_at hl 0 rfl) ?_
        refine lv_iload_n hx hb d_Lw_law_469 rfl (lv_at hl 3 rfl) ?_
        refine lv_iconst (v := (1 : Int32)) hx hb d_Lw_law_470 (by decide) ?_
        refine lv_iadd hx hb d_Lw_law_471 ?_
        refine j_sld (i := 1) hx hb hX hbl hA hP (by decide) (by omega) hL d_Lw_law_472 ?_
        refine j_call1 (As := [.int (xs (j + 1))]) (rest := []) C (c_R_zone l G S (xs (j + 1)) r e1) cf_R_zone tb_393 (by decide) hP (ownX G S) (ownX G S) (obX_0 G S) rfl hl.1 rfl (Nat.le_of_ble_eq_true rfl) d_Lw_law_473 ⟨Nat.le_refl _, Nat.le_refl _⟩ (fun H locs hP => ?_)
        refine lv_aload_n hx hb d_Lw_law_476 rfl (lv_at hl 2 rfl) ?_
        refine lv_aload_n hx hb d_Lw_law_477 rfl (lv_at hl 0 rfl) ?_
        refine lv_iload_n hx hb d_Lw_law_478 rfl (lv_at hl 3 rfl) ?_
        refine lv_iconst (v := (1 : Int32)) hx hb d_Lw_law_479 (by decide) ?_
        refine lv_iadd hx hb d_Lw_law_480 ?_
        refine j_sld (i := 1) hx hb hX hbl hA hP (by decide) (by omega) hL d_Lw_law_481 ?_
        refine j_call2 (As := [.int (xs (j + 1))]) (rest := [.int r]) C (c_M_zone l (G.1, am, G.2.2) T (xs (j + 1)) r e2) cf_M_zone tb_609 (by decide) hP (ownM (G.1, am, G.2.2) T) (ownM (G.1, am, G.2.2) T) (obM_0 (G.1, am, G.2.2) T) rfl hl.1 rfl (Nat.le_of_ble_eq_true rfl) d_Lw_law_482 ⟨Nat.le_refl _, Nat.le_refl _⟩ (fun H locs hP => ?_)
        refine lv_icmp_eq hx hb d_Lw_law_485 (tgt := 546) (by decide) (fun h2 => ?_) (fun h2 => absurd rfl h2)
        exact K S T _ _ hR2 hP
      by_cases hc12 : x = (12 : Int32)
      · refine lv_tableIn hx hb d_Lw_law_33 (by rw [hc12]; decide) (by rw [hc12]; decide) (by rw [hc12]; rfl) (tgt := 490) (by decide) ?_
        obtain ⟨r, e1, e2, hR2⟩ := h_figure S T (xs (j + 1)) hR
        refine lv_aload_n hx hb d_Lw_law_490 rfl (lv_at hl 1 rfl) ?_
        refine lv_aload_n hx hb d_Lw_law_491 rfl (lv_at hl 0 rfl) ?_
        refine lv_iload_n hx hb d_Lw_law_492 rfl (lv_at hl 3 rfl) ?_
        refine lv_iconst (v := (1 : Int32)) hx hb d_Lw_law_493 (by decide) ?_
        refine lv_iadd hx hb d_Lw_law_494 ?_
        refine j_sld (i := 1) hx hb hX hbl hA hP (by decide) (by omega) hL d_Lw_law_495 ?_
        refine j_call1 (As := [.int (xs (j + 1))]) (rest := []) C (c_R_figure l G S (xs (j + 1)) r e1) cf_R_figure tb_401 (by decide) hP (ownX G S) (ownX G S) (obX_0 G S) rfl hl.1 rfl (Nat.le_of_ble_eq_true rfl) d_Lw_law_496 ⟨Nat.le_refl _, Nat.le_refl _⟩ (fun H locs hP => ?_)
        refine lv_aload_n hx hb d_Lw_law_499 rfl (lv_at hl 2 rfl) ?_
        refine lv_aload_n hx hb d_Lw_law_500 rfl (lv_at hl 0 rfl) ?_
        refine lv_iload_n hx hb d_Lw_law_501 rfl (lv_at hl 3 rfl) ?_
        refine lv_iconst (v := (1 : Int32)) hx hb d_Lw_law_502 (by decide) ?_
        refine lv_iadd hx hb d_Lw_law_503 ?_
        refine j_sld (i := 1) hx hb hX hbl hA hP (by decide) (by omega) hL d_Lw_law_504 ?_
        refine j_call2 (As := [.int (xs (j + 1))]) (rest := [.int r]) C (c_M_figure l (G.1, am, G.2.2) T (xs (j + 1)) r e2) cf_M_figure tb_613 (by decide) hP (ownM (G.1, am, G.2.2) T) (ownM (G.1, am, G.2.2) T) (obM_0 (G.1, am, G.2.2) T) rfl hl.1 rfl (Nat.le_of_ble_eq_true rfl) d_Lw_law_505 ⟨Nat.le_refl _, Nat.le_refl _⟩ (fun H locs hP => ?_)
        refine lv_icmp_eq hx hb d_Lw_law_508 (tgt := 546) (by decide) (fun h2 => ?_) (fun h2 => absurd rfl h2)
        exact K S T _ _ hR2 hP
      by_cases hc13 : x = (13 : Int32)
      · refine lv_tableIn hx hb d_Lw_law_33 (by rw [hc13]; decide) (by rw [hc13]; decide) (by rw [hc13]; rfl) (tgt := 513) (by decide) ?_
        obtain ⟨r, e1, e2, hR2⟩ := h_above S T (xs (j + 1)) (xs (j + 2)) hR
        refine lv_aload_n hx hb d_Lw_law_513 rfl (lv_at hl 1 rfl) ?_
        refine lv_aload_n hx hb d_Lw_law_514 rfl (lv_at hl 0 rfl) ?_
        refine lv_iload_n hx hb d_Lw_law_515 rfl (lv_at hl 3 rfl) ?_
        refine lv_iconst (v := (1 : Int32)) hx hb d_Lw_law_516 (by decide) ?_
        refine lv_iadd hx hb d_Lw_law_517 ?_
        refine j_sld (i := 1) hx hb hX hbl hA hP (by decide) (by omega) hL d_Lw_law_518 ?_
        refine lv_aload_n hx hb d_Lw_law_519 rfl (lv_at hl 0 rfl) ?_
        refine lv_iload_n hx hb d_Lw_law_520 rfl (lv_at hl 3 rfl) ?_
        refine lv_iconst (v := (2 : Int32)) hx hb d_Lw_law_521 (by decide) ?_
        refine lv_iadd hx hb d_Lw_law_522 ?_
        refine j_sld (i := 2) hx hb hX hbl hA hP (by decide) (by omega) hL d_Lw_law_523 ?_
        refine j_call1 (As := [.int (xs (j + 1)), .int (xs (j + 2))]) (rest := []) C (c_R_above l G S (xs (j + 1)) (xs (j + 2)) r e1) cf_R_above tb_405 (by decide) hP (ownX G S) (ownX G S) (obX_0 G S) rfl hl.1 rfl (Nat.le_of_ble_eq_true rfl) d_Lw_law_524 ⟨Nat.le_refl _, Nat.le_refl _⟩ (fun H locs hP => ?_)
        refine lv_aload_n hx hb d_Lw_law_527 rfl (lv_at hl 2 rfl) ?_
        refine lv_aload_n hx hb d_Lw_law_528 rfl (lv_at hl 0 rfl) ?_
        refine lv_iload_n hx hb d_Lw_law_529 rfl (lv_at hl 3 rfl) ?_
        refine lv_iconst (v := (1 : Int32)) hx hb d_Lw_law_530 (by decide) ?_
        refine lv_iadd hx hb d_Lw_law_531 ?_
        refine j_sld (i := 1) hx hb hX hbl hA hP (by decide) (by omega) hL d_Lw_law_532 ?_
        refine lv_aload_n hx hb d_Lw_law_533 rfl (lv_at hl 0 rfl) ?_
        refine lv_iload_n hx hb d_Lw_law_534 rfl (lv_at hl 3 rfl) ?_
        refine lv_iconst (v := (2 : Int32)) hx hb d_Lw_law_535 (by decide) ?_
        refine lv_iadd hx hb d_Lw_law_536 ?_
        refine j_sld (i := 2) hx hb hX hbl hA hP (by decide) (by omega) hL d_Lw_law_537 ?_
        refine j_call2 (As := [.int (xs (j + 1)), .int (xs (j + 2))]) (rest := [.int r]) C (c_M_above l (G.1, am, G.2.2) T (xs (j + 1)) (xs (j + 2)) r e2) cf_M_above tb_617 (by decide) hP (ownM (G.1, am, G.2.2) T) (ownM (G.1, am, G.2.2) T) (obM_0 (G.1, am, G.2.2) T) rfl hl.1 rfl (Nat.le_of_ble_eq_true rfl) d_Lw_law_538 ⟨Nat.le_refl _, Nat.le_refl _⟩ (fun H locs hP => ?_)
        refine lv_icmp_eq hx hb d_Lw_law_541 (tgt := 546) (by decide) (fun h2 => ?_) (fun h2 => absurd rfl h2)
        exact K S T _ _ hR2 hP
      have hT0 := lv_neT (a := 0) hc0 (by decide)
      have hT1 := lv_neT (a := 1) hc1 (by decide)
      have hT2 := lv_neT (a := 2) hc2 (by decide)
      have hT3 := lv_neT (a := 3) hc3 (by decide)
      have hT4 := lv_neT (a := 4) hc4 (by decide)
      have hT5 := lv_neT (a := 5) hc5 (by decide)
      have hT6 := lv_neT (a := 6) hc6 (by decide)
      have hT7 := lv_neT (a := 7) hc7 (by decide)
      have hT8 := lv_neT (a := 8) hc8 (by decide)
      have hT9 := lv_neT (a := 9) hc9 (by decide)
      have hT10 := lv_neT (a := 10) hc10 (by decide)
      have hT11 := lv_neT (a := 11) hc11 (by decide)
      have hT12 := lv_neT (a := 12) hc12 (by decide)
      have hT13 := lv_neT (a := 13) hc13 (by decide)
      refine lv_tableOut hx hb d_Lw_law_33 (by omega) (tgt := 546) (by decide) ?_
      exact K S T _ _ hR hP
