abbrev XG : Type := va_G × (Nat → Nat) × ClassId × ClassId
def wX (G : XG) (S : XSt) : va_W := [(G.2.1 0, .inr (0, [.ref (G.2.1 1), .ref (G.2.1 4), .ref (G.2.1 15), .ref (G.2.1 18)])),
  (G.2.1 1, .inr (1, [.ref (G.2.1 2), .ref (G.2.1 3), .int (S.1 0)])),
  (G.2.1 2, .inl (G.2.2.1, 48, .inl (S.2 0))),
  (G.2.1 3, .inl (G.2.2.1, 48, .inl (S.2 1))),
  (G.2.1 4, .inr (2, [.ref (G.2.1 1), .ref (G.2.1 5), .ref (G.2.1 6), .ref (G.2.1 7), .ref (G.2.1 8), .ref (G.2.1 9), .ref (G.2.1 10), .ref (G.2.1 11), .ref (G.2.1 12), .ref (G.2.1 13), .ref (G.2.1 14), .int (S.1 1), .int (S.1 2), .int (S.1 3), .int (S.1 4)])),
  (G.2.1 5, .inl (G.2.2.1, 32, .inl (S.2 2))),
  (G.2.1 6, .inl (G.2.2.1, 32, .inl (S.2 3))),
  (G.2.1 7, .inl (G.2.2.1, 32, .inl (S.2 4))),
  (G.2.1 8, .inl (G.2.2.1, 32, .inl (S.2 5))),
  (G.2.1 9, .inl (G.2.2.1, 32, .inl (S.2 6))),
  (G.2.1 10, .inl (G.2.2.1, 32, .inl (S.2 7))),
  (G.2.1 11, .inl (G.2.2.1, 32, .inl (S.2 8))),
  (G.2.1 12, .inl (G.2.2.1, 32, .inl (S.2 9))),
  (G.2.1 13, .inl (G.2.2.2, 32, .inl (S.2 10))),
  (G.2.1 14, .inl (G.2.2.2, 32, .inl (S.2 11))),
  (G.2.1 15, .inr (3, [.ref (G.2.1 16), .ref (G.2.1 17), .int (S.1 5)])),
  (G.2.1 16, .inl (G.2.2.1, 4, .inl (S.2 12))),
  (G.2.1 17, .inl (G.2.2.1, 4, .inl (S.2 13))),
  (G.2.1 18, .inr (4, [.ref (G.2.1 1), .ref (G.2.1 4), .ref (G.2.1 15), .ref (G.2.1 19), .ref (G.2.1 21), .ref (G.2.1 23), .int (S.1 6), .int (S.1 7), .int (S.1 8), .int (S.1 9), .int (S.1 10), .int (S.1 11)])),
  (G.2.1 19, .inr (5, [.ref (G.2.1 20), .int (S.1 12)])),
  (G.2.1 20, .inl (G.2.2.1, 48, .inl (S.2 14))),
  (G.2.1 21, .inr (5, [.ref (G.2.1 22), .int (S.1 13)])),
  (G.2.1 22, .inl (G.2.2.1, 48, .inl (S.2 15))),
  (G.2.1 23, .inl (G.2.2.1, 5, .inl (S.2 16)))]
def zAX (G : XG) : Nat → Prop := fun q => ∃ k : Nat, k < 24 ∧ q = G.2.1 k
def tyX (G : XG) : List (ClassId × FieldType) := [(G.2.2.1, .int), (G.2.2.2, .boolean)]
theorem obX_0 (G : XG) (S : XSt) : zObj (wX G S) (G.2.1 0) "TrustResolver" := ⟨0, 0, _, _, _, rfl, rfl⟩
theorem fdX_0_records (G : XG) (S : XSt) : zFld (wX G S) (G.2.1 0) "TrustResolver" "records" "LTrustResolver$Records;" (.ref (G.2.1 1)) := ⟨0, 0, _, F_R, 4, 0, rfl, rfl, by decide, lay_R, rfl, rfl, rfl, rfl⟩
theorem fdX_0_signatures (G : XG) (S : XSt) : zFld (wX G S) (G.2.1 0) "TrustResolver" "signatures" "LTrustResolver$Signatures;" (.ref (G.2.1 4)) := ⟨0, 0, _, F_R, 4, 1, rfl, rfl, by decide, lay_R, rfl, rfl, rfl, rfl⟩
theorem fdX_0_anchors (G : XG) (S : XSt) : zFld (wX G S) (G.2.1 0) "TrustResolver" "anchors" "LTrustResolver$Anchors;" (.ref (G.2.1 15)) := ⟨0, 0, _, F_R, 4, 2, rfl, rfl, by decide, lay_R, rfl, rfl, rfl, rfl⟩
theorem fdX_0_question (G : XG) (S : XSt) : zFld (wX G S) (G.2.1 0) "TrustResolver" "question" "LTrustResolver$Question;" (.ref (G.2.1 18)) := ⟨0, 0, _, F_R, 4, 3, rfl, rfl, by decide, lay_R, rfl, rfl, rfl, rfl⟩
theorem obX_1 (G : XG) (S : XSt) : zObj (wX G S) (G.2.1 1) "TrustResolver$Records" := ⟨1, 1, _, _, _, rfl, rfl⟩
theorem fdX_1_sets (G : XG) (S : XSt) : zFld (wX G S) (G.2.1 1) "TrustResolver$Records" "sets" "[I" (.ref (G.2.1 2)) := ⟨1, 1, _, F_Re, 3, 0, rfl, rfl, by decide, lay_Re, rfl, rfl, rfl, rfl⟩
theorem fdX_1_datas (G : XG) (S : XSt) : zFld (wX G S) (G.2.1 1) "TrustResolver$Records" "datas" "[I" (.ref (G.2.1 3)) := ⟨1, 1, _, F_Re, 3, 1, rfl, rfl, by decide, lay_Re, rfl, rfl, rfl, rfl⟩
theorem fdX_1_count (G : XG) (S : XSt) : zFld (wX G S) (G.2.1 1) "TrustResolver$Records" "count" "I" (.int (S.1 0)) := ⟨1, 1, _, F_Re, 3, 2, rfl, rfl, by decide, lay_Re, rfl, rfl, rfl, rfl⟩
theorem ptX_1_count (G : XG) (S : XSt) (v : Int32) : zPut (wX G S) (G.2.1 1) "TrustResolver$Records" "count" "I" (.int v) (wX G (zpS S 0 v)) := ⟨1, 1, _, F_Re, 3, 2, t_Re, .int, rfl, rfl, by decide, lay_Re, tok_Re, n_Re, rfl, rfl, rfl, rfl, by decide +kernel, rfl, rfl, Nat.le_of_ble_eq_true rfl, rfl⟩
theorem arX_0 (G : XG) (S : XSt) : zArr (wX G S) (G.2.1 2) G.2.2.1 48 (S.2 0) := ⟨2, rfl⟩
theorem stX_0 (G : XG) (S : XSt) (i v : Int32) : zSto (wX G S) (G.2.1 2) G.2.2.1 48 (S.2 0) (Int32.toNatClampNeg i) v (wX G (zpA S 0 i v)) := ⟨2, rfl, rfl⟩
theorem arX_1 (G : XG) (S : XSt) : zArr (wX G S) (G.2.1 3) G.2.2.1 48 (S.2 1) := ⟨3, rfl⟩
theorem stX_1 (G : XG) (S : XSt) (i v : Int32) : zSto (wX G S) (G.2.1 3) G.2.2.1 48 (S.2 1) (Int32.toNatClampNeg i) v (wX G (zpA S 1 i v)) := ⟨3, rfl, rfl⟩
theorem obX_4 (G : XG) (S : XSt) : zObj (wX G S) (G.2.1 4) "TrustResolver$Signatures" := ⟨4, 2, _, _, _, rfl, rfl⟩
theorem fdX_4_records (G : XG) (S : XSt) : zFld (wX G S) (G.2.1 4) "TrustResolver$Signatures" "records" "LTrustResolver$Records;" (.ref (G.2.1 1)) := ⟨4, 2, _, F_Si, 15, 0, rfl, rfl, by decide, lay_Si, rfl, rfl, rfl, rfl⟩
theorem fdX_4_sets (G : XG) (S : XSt) : zFld (wX G S) (G.2.1 4) "TrustResolver$Signatures" "sets" "[I" (.ref (G.2.1 5)) := ⟨4, 2, _, F_Si, 15, 1, rfl, rfl, by decide, lay_Si, rfl, rfl, rfl, rfl⟩
theorem fdX_4_signers (G : XG) (S : XSt) : zFld (wX G S) (G.2.1 4) "TrustResolver$Signatures" "signers" "[I" (.ref (G.2.1 6)) := ⟨4, 2, _, F_Si, 15, 2, rfl, rfl, by decide, lay_Si, rfl, rfl, rfl, rfl⟩
theorem fdX_4_keys (G : XG) (S : XSt) : zFld (wX G S) (G.2.1 4) "TrustResolver$Signatures" "keys" "[I" (.ref (G.2.1 7)) := ⟨4, 2, _, F_Si, 15, 3, rfl, rfl, by decide, lay_Si, rfl, rfl, rfl, rfl⟩
theorem fdX_4_labels (G : XG) (S : XSt) : zFld (wX G S) (G.2.1 4) "TrustResolver$Signatures" "labels" "[I" (.ref (G.2.1 8)) := ⟨4, 2, _, F_Si, 15, 4, rfl, rfl, by decide, lay_Si, rfl, rfl, rfl, rfl⟩
theorem fdX_4_firsts (G : XG) (S : XSt) : zFld (wX G S) (G.2.1 4) "TrustResolver$Signatures" "firsts" "[I" (.ref (G.2.1 9)) := ⟨4, 2, _, F_Si, 15, 5, rfl, rfl, by decide, lay_Si, rfl, rfl, rfl, rfl⟩
theorem fdX_4_lasts (G : XG) (S : XSt) : zFld (wX G S) (G.2.1 4) "TrustResolver$Signatures" "lasts" "[I" (.ref (G.2.1 10)) := ⟨4, 2, _, F_Si, 15, 6, rfl, rfl, by decide, lay_Si, rfl, rfl, rfl, rfl⟩
theorem fdX_4_signedNames (G : XG) (S : XSt) : zFld (wX G S) (G.2.1 4) "TrustResolver$Signatures" "signedNames" "[I" (.ref (G.2.1 11)) := ⟨4, 2, _, F_Si, 15, 7, rfl, rfl, by decide, lay_Si, rfl, rfl, rfl, rfl⟩
theorem fdX_4_marks (G : XG) (S : XSt) : zFld (wX G S) (G.2.1 4) "TrustResolver$Signatures" "marks" "[I" (.ref (G.2.1 12)) := ⟨4, 2, _, F_Si, 15, 8, rfl, rfl, by decide, lay_Si, rfl, rfl, rfl, rfl⟩
theorem fdX_4_good (G : XG) (S : XSt) : zFld (wX G S) (G.2.1 4) "TrustResolver$Signatures" "good" "[Z" (.ref (G.2.1 13)) := ⟨4, 2, _, F_Si, 15, 9, rfl, rfl, by decide, lay_Si, rfl, rfl, rfl, rfl⟩
theorem fdX_4_plain (G : XG) (S : XSt) : zFld (wX G S) (G.2.1 4) "TrustResolver$Signatures" "plain" "[Z" (.ref (G.2.1 14)) := ⟨4, 2, _, F_Si, 15, 10, rfl, rfl, by decide, lay_Si, rfl, rfl, rfl, rfl⟩
theorem fdX_4_count (G : XG) (S : XSt) : zFld (wX G S) (G.2.1 4) "TrustResolver$Signatures" "count" "I" (.int (S.1 1)) := ⟨4, 2, _, F_Si, 15, 11, rfl, rfl, by decide, lay_Si, rfl, rfl, rfl, rfl⟩
theorem ptX_4_count (G : XG) (S : XSt) (v : Int32) : zPut (wX G S) (G.2.1 4) "TrustResolver$Signatures" "count" "I" (.int v) (wX G (zpS S 1 v)) := ⟨4, 2, _, F_Si, 15, 11, t_Si, .int, rfl, rfl, by decide, lay_Si, tok_Si, n_Si, rfl, rfl, rfl, rfl, by decide +kernel, rfl, rfl, Nat.le_of_ble_eq_true rfl, rfl⟩
theorem fdX_4_newFirst (G : XG) (S : XSt) : zFld (wX G S) (G.2.1 4) "TrustResolver$Signatures" "newFirst" "I" (.int (S.1 2)) := ⟨4, 2, _, F_Si, 15, 12, rfl, rfl, by decide, lay_Si, rfl, rfl, rfl, rfl⟩
theorem ptX_4_newFirst (G : XG) (S : XSt) (v : Int32) : zPut (wX G S) (G.2.1 4) "TrustResolver$Signatures" "newFirst" "I" (.int v) (wX G (zpS S 2 v)) := ⟨4, 2, _, F_Si, 15, 12, t_Si, .int, rfl, rfl, by decide, lay_Si, tok_Si, n_Si, rfl, rfl, rfl, rfl, by decide +kernel, rfl, rfl, Nat.le_of_ble_eq_true rfl, rfl⟩
theorem fdX_4_newLast (G : XG) (S : XSt) : zFld (wX G S) (G.2.1 4) "TrustResolver$Signatures" "newLast" "I" (.int (S.1 3)) := ⟨4, 2, _, F_Si, 15, 13, rfl, rfl, by decide, lay_Si, rfl, rfl, rfl, rfl⟩
theorem ptX_4_newLast (G : XG) (S : XSt) (v : Int32) : zPut (wX G S) (G.2.1 4) "TrustResolver$Signatures" "newLast" "I" (.int v) (wX G (zpS S 3 v)) := ⟨4, 2, _, F_Si, 15, 13, t_Si, .int, rfl, rfl, by decide, lay_Si, tok_Si, n_Si, rfl, rfl, rfl, rfl, by decide +kernel, rfl, rfl, Nat.le_of_ble_eq_true rfl, rfl⟩
theorem fdX_4_now (G : XG) (S : XSt) : zFld (wX G S) (G.2.1 4) "TrustResolver$Signatures" "now" "I" (.int (S.1 4)) := ⟨4, 2, _, F_Si, 15, 14, rfl, rfl, by decide, lay_Si, rfl, rfl, rfl, rfl⟩
theorem ptX_4_now (G : XG) (S : XSt) (v : Int32) : zPut (wX G S) (G.2.1 4) "TrustResolver$Signatures" "now" "I" (.int v) (wX G (zpS S 4 v)) := ⟨4, 2, _, F_Si, 15, 14, t_Si, .int, rfl, rfl, by decide, lay_Si, tok_Si, n_Si, rfl, rfl, rfl, rfl, by decide +kernel, rfl, rfl, Nat.le_of_ble_eq_true rfl, rfl⟩
theorem arX_2 (G : XG) (S : XSt) : zArr (wX G S) (G.2.1 5) G.2.2.1 32 (S.2 2) := ⟨5, rfl⟩
theorem stX_2 (G : XG) (S : XSt) (i v : Int32) : zSto (wX G S) (G.2.1 5) G.2.2.1 32 (S.2 2) (Int32.toNatClampNeg i) v (wX G (zpA S 2 i v)) := ⟨5, rfl, rfl⟩
theorem arX_3 (G : XG) (S : XSt) : zArr (wX G S) (G.2.1 6) G.2.2.1 32 (S.2 3) := ⟨6, rfl⟩
theorem stX_3 (G : XG) (S : XSt) (i v : Int32) : zSto (wX G S) (G.2.1 6) G.2.2.1 32 (S.2 3) (Int32.toNatClampNeg i) v (wX G (zpA S 3 i v)) := ⟨6, rfl, rfl⟩
theorem arX_4 (G : XG) (S : XSt) : zArr (wX G S) (G.2.1 7) G.2.2.1 32 (S.2 4) := ⟨7, rfl⟩
theorem stX_4 (G : XG) (S : XSt) (i v : Int32) : zSto (wX G S) (G.2.1 7) G.2.2.1 32 (S.2 4) (Int32.toNatClampNeg i) v (wX G (zpA S 4 i v)) := ⟨7, rfl, rfl⟩
theorem arX_5 (G : XG) (S : XSt) : zArr (wX G S) (G.2.1 8) G.2.2.1 32 (S.2 5) := ⟨8, rfl⟩
theorem stX_5 (G : XG) (S : XSt) (i v : Int32) : zSto (wX G S) (G.2.1 8) G.2.2.1 32 (S.2 5) (Int32.toNatClampNeg i) v (wX G (zpA S 5 i v)) := ⟨8, rfl, rfl⟩
theorem arX_6 (G : XG) (S : XSt) : zArr (wX G S) (G.2.1 9) G.2.2.1 32 (S.2 6) := ⟨9, rfl⟩
theorem stX_6 (G : XG) (S : XSt) (i v : Int32) : zSto (wX G S) (G.2.1 9) G.2.2.1 32 (S.2 6) (Int32.toNatClampNeg i) v (wX G (zpA S 6 i v)) := ⟨9, rfl, rfl⟩
theorem arX_7 (G : XG) (S : XSt) : zArr (wX G S) (G.2.1 10) G.2.2.1 32 (S.2 7) := ⟨10, rfl⟩
theorem stX_7 (G : XG) (S : XSt) (i v : Int32) : zSto (wX G S) (G.2.1 10) G.2.2.1 32 (S.2 7) (Int32.toNatClampNeg i) v (wX G (zpA S 7 i v)) := ⟨10, rfl, rfl⟩
theorem arX_8 (G : XG) (S : XSt) : zArr (wX G S) (G.2.1 11) G.2.2.1 32 (S.2 8) := ⟨11, rfl⟩
theorem stX_8 (G : XG) (S : XSt) (i v : Int32) : zSto (wX G S) (G.2.1 11) G.2.2.1 32 (S.2 8) (Int32.toNatClampNeg i) v (wX G (zpA S 8 i v)) := ⟨11, rfl, rfl⟩
theorem arX_9 (G : XG) (S : XSt) : zArr (wX G S) (G.2.1 12) G.2.2.1 32 (S.2 9) := ⟨12, rfl⟩
theorem stX_9 (G : XG) (S : XSt) (i v : Int32) : zSto (wX G S) (G.2.1 12) G.2.2.1 32 (S.2 9) (Int32.toNatClampNeg i) v (wX G (zpA S 9 i v)) := ⟨12, rfl, rfl⟩
theorem arX_10 (G : XG) (S : XSt) : zArr (wX G S) (G.2.1 13) G.2.2.2 32 (S.2 10) := ⟨13, rfl⟩
theorem stX_10 (G : XG) (S : XSt) (i v : Int32) : zSto (wX G S) (G.2.1 13) G.2.2.2 32 (S.2 10) (Int32.toNatClampNeg i) v (wX G (zpA S 10 i v)) := ⟨13, rfl, rfl⟩
theorem arX_11 (G : XG) (S : XSt) : zArr (wX G S) (G.2.1 14) G.2.2.2 32 (S.2 11) := ⟨14, rfl⟩
theorem stX_11 (G : XG) (S : XSt) (i v : Int32) : zSto (wX G S) (G.2.1 14) G.2.2.2 32 (S.2 11) (Int32.toNatClampNeg i) v (wX G (zpA S 11 i v)) := ⟨14, rfl, rfl⟩
theorem obX_15 (G : XG) (S : XSt) : zObj (wX G S) (G.2.1 15) "TrustResolver$Anchors" := ⟨15, 3, _, _, _, rfl, rfl⟩
theorem fdX_15_zones (G : XG) (S : XSt) : zFld (wX G S) (G.2.1 15) "TrustResolver$Anchors" "zones" "[I" (.ref (G.2.1 16)) := ⟨15, 3, _, F_An, 3, 0, rfl, rfl, by decide, lay_An, rfl, rfl, rfl, rfl⟩
theorem fdX_15_digests (G : XG) (S : XSt) : zFld (wX G S) (G.2.1 15) "TrustResolver$Anchors" "digests" "[I" (.ref (G.2.1 17)) := ⟨15, 3, _, F_An, 3, 1, rfl, rfl, by decide, lay_An, rfl, rfl, rfl, rfl⟩
theorem fdX_15_count (G : XG) (S : XSt) : zFld (wX G S) (G.2.1 15) "TrustResolver$Anchors" "count" "I" (.int (S.1 5)) := ⟨15, 3, _, F_An, 3, 2, rfl, rfl, by decide, lay_An, rfl, rfl, rfl, rfl⟩
theorem ptX_15_count (G : XG) (S : XSt) (v : Int32) : zPut (wX G S) (G.2.1 15) "TrustResolver$Anchors" "count" "I" (.int v) (wX G (zpS S 5 v)) := ⟨15, 3, _, F_An, 3, 2, t_An, .int, rfl, rfl, by decide, lay_An, tok_An, n_An, rfl, rfl, rfl, rfl, by decide +kernel, rfl, rfl, Nat.le_of_ble_eq_true rfl, rfl⟩
theorem arX_12 (G : XG) (S : XSt) : zArr (wX G S) (G.2.1 16) G.2.2.1 4 (S.2 12) := ⟨16, rfl⟩
theorem stX_12 (G : XG) (S : XSt) (i v : Int32) : zSto (wX G S) (G.2.1 16) G.2.2.1 4 (S.2 12) (Int32.toNatClampNeg i) v (wX G (zpA S 12 i v)) := ⟨16, rfl, rfl⟩
theorem arX_13 (G : XG) (S : XSt) : zArr (wX G S) (G.2.1 17) G.2.2.1 4 (S.2 13) := ⟨17, rfl⟩
theorem stX_13 (G : XG) (S : XSt) (i v : Int32) : zSto (wX G S) (G.2.1 17) G.2.2.1 4 (S.2 13) (Int32.toNatClampNeg i) v (wX G (zpA S 13 i v)) := ⟨17, rfl, rfl⟩
theorem obX_18 (G : XG) (S : XSt) : zObj (wX G S) (G.2.1 18) "TrustResolver$Question" := ⟨18, 4, _, _, _, rfl, rfl⟩
theorem fdX_18_records (G : XG) (S : XSt) : zFld (wX G S) (G.2.1 18) "TrustResolver$Question" "records" "LTrustResolver$Records;" (.ref (G.2.1 1)) := ⟨18, 4, _, F_Qu, 12, 0, rfl, rfl, by decide, lay_Qu, rfl, rfl, rfl, rfl⟩
theorem fdX_18_signatures (G : XG) (S : XSt) : zFld (wX G S) (G.2.1 18) "TrustResolver$Question" "signatures" "LTrustResolver$Signatures;" (.ref (G.2.1 4)) := ⟨18, 4, _, F_Qu, 12, 1, rfl, rfl, by decide, lay_Qu, rfl, rfl, rfl, rfl⟩
theorem fdX_18_anchors (G : XG) (S : XSt) : zFld (wX G S) (G.2.1 18) "TrustResolver$Question" "anchors" "LTrustResolver$Anchors;" (.ref (G.2.1 15)) := ⟨18, 4, _, F_Qu, 12, 2, rfl, rfl, by decide, lay_Qu, rfl, rfl, rfl, rfl⟩
theorem fdX_18_digests (G : XG) (S : XSt) : zFld (wX G S) (G.2.1 18) "TrustResolver$Question" "digests" "LTrustResolver$Numbers;" (.ref (G.2.1 19)) := ⟨18, 4, _, F_Qu, 12, 3, rfl, rfl, by decide, lay_Qu, rfl, rfl, rfl, rfl⟩
theorem fdX_18_keys (G : XG) (S : XSt) : zFld (wX G S) (G.2.1 18) "TrustResolver$Question" "keys" "LTrustResolver$Numbers;" (.ref (G.2.1 21)) := ⟨18, 4, _, F_Qu, 12, 4, rfl, rfl, by decide, lay_Qu, rfl, rfl, rfl, rfl⟩
theorem fdX_18_zones (G : XG) (S : XSt) : zFld (wX G S) (G.2.1 18) "TrustResolver$Question" "zones" "[I" (.ref (G.2.1 23)) := ⟨18, 4, _, F_Qu, 12, 5, rfl, rfl, by decide, lay_Qu, rfl, rfl, rfl, rfl⟩
theorem fdX_18_zoneCount (G : XG) (S : XSt) : zFld (wX G S) (G.2.1 18) "TrustResolver$Question" "zoneCount" "I" (.int (S.1 6)) := ⟨18, 4, _, F_Qu, 12, 6, rfl, rfl, by decide, lay_Qu, rfl, rfl, rfl, rfl⟩
theorem ptX_18_zoneCount (G : XG) (S : XSt) (v : Int32) : zPut (wX G S) (G.2.1 18) "TrustResolver$Question" "zoneCount" "I" (.int v) (wX G (zpS S 6 v)) := ⟨18, 4, _, F_Qu, 12, 6, t_Qu, .int, rfl, rfl, by decide, lay_Qu, tok_Qu, n_Qu, rfl, rfl, rfl, rfl, by decide +kernel, rfl, rfl, Nat.le_of_ble_eq_true rfl, rfl⟩
theorem fdX_18_zone (G : XG) (S : XSt) : zFld (wX G S) (G.2.1 18) "TrustResolver$Question" "zone" "I" (.int (S.1 7)) := ⟨18, 4, _, F_Qu, 12, 7, rfl, rfl, by decide, lay_Qu, rfl, rfl, rfl, rfl⟩
theorem ptX_18_zone (G : XG) (S : XSt) (v : Int32) : zPut (wX G S) (G.2.1 18) "TrustResolver$Question" "zone" "I" (.int v) (wX G (zpS S 7 v)) := ⟨18, 4, _, F_Qu, 12, 7, t_Qu, .int, rfl, rfl, by decide, lay_Qu, tok_Qu, n_Qu, rfl, rfl, rfl, rfl, by decide +kernel, rfl, rfl, Nat.le_of_ble_eq_true rfl, rfl⟩
theorem fdX_18_name (G : XG) (S : XSt) : zFld (wX G S) (G.2.1 18) "TrustResolver$Question" "name" "I" (.int (S.1 8)) := ⟨18, 4, _, F_Qu, 12, 8, rfl, rfl, by decide, lay_Qu, rfl, rfl, rfl, rfl⟩
theorem ptX_18_name (G : XG) (S : XSt) (v : Int32) : zPut (wX G S) (G.2.1 18) "TrustResolver$Question" "name" "I" (.int v) (wX G (zpS S 8 v)) := ⟨18, 4, _, F_Qu, 12, 8, t_Qu, .int, rfl, rfl, by decide, lay_Qu, tok_Qu, n_Qu, rfl, rfl, rfl, rfl, by decide +kernel, rfl, rfl, Nat.le_of_ble_eq_true rfl, rfl⟩
theorem fdX_18_type (G : XG) (S : XSt) : zFld (wX G S) (G.2.1 18) "TrustResolver$Question" "type" "I" (.int (S.1 9)) := ⟨18, 4, _, F_Qu, 12, 9, rfl, rfl, by decide, lay_Qu, rfl, rfl, rfl, rfl⟩
theorem ptX_18_type (G : XG) (S : XSt) (v : Int32) : zPut (wX G S) (G.2.1 18) "TrustResolver$Question" "type" "I" (.int v) (wX G (zpS S 9 v)) := ⟨18, 4, _, F_Qu, 12, 9, t_Qu, .int, rfl, rfl, by decide, lay_Qu, tok_Qu, n_Qu, rfl, rfl, rfl, rfl, by decide +kernel, rfl, rfl, Nat.le_of_ble_eq_true rfl, rfl⟩
theorem fdX_18_countedKeys (G : XG) (S : XSt) : zFld (wX G S) (G.2.1 18) "TrustResolver$Question" "countedKeys" "I" (.int (S.1 10)) := ⟨18, 4, _, F_Qu, 12, 10, rfl, rfl, by decide, lay_Qu, rfl, rfl, rfl, rfl⟩
theorem ptX_18_countedKeys (G : XG) (S : XSt) (v : Int32) : zPut (wX G S) (G.2.1 18) "TrustResolver$Question" "countedKeys" "I" (.int v) (wX G (zpS S 10 v)) := ⟨18, 4, _, F_Qu, 12, 10, t_Qu, .int, rfl, rfl, by decide, lay_Qu, tok_Qu, n_Qu, rfl, rfl, rfl, rfl, by decide +kernel, rfl, rfl, Nat.le_of_ble_eq_true rfl, rfl⟩
theorem fdX_18_why (G : XG) (S : XSt) : zFld (wX G S) (G.2.1 18) "TrustResolver$Question" "why" "I" (.int (S.1 11)) := ⟨18, 4, _, F_Qu, 12, 11, rfl, rfl, by decide, lay_Qu, rfl, rfl, rfl, rfl⟩
theorem ptX_18_why (G : XG) (S : XSt) (v : Int32) : zPut (wX G S) (G.2.1 18) "TrustResolver$Question" "why" "I" (.int v) (wX G (zpS S 11 v)) := ⟨18, 4, _, F_Qu, 12, 11, t_Qu, .int, rfl, rfl, by decide, lay_Qu, tok_Qu, n_Qu, rfl, rfl, rfl, rfl, by decide +kernel, rfl, rfl, Nat.le_of_ble_eq_true rfl, rfl⟩
theorem obX_19 (G : XG) (S : XSt) : zObj (wX G S) (G.2.1 19) "TrustResolver$Numbers" := ⟨19, 5, _, _, _, rfl, rfl⟩
theorem fdX_19_numbers (G : XG) (S : XSt) : zFld (wX G S) (G.2.1 19) "TrustResolver$Numbers" "numbers" "[I" (.ref (G.2.1 20)) := ⟨19, 5, _, F_Nu, 2, 0, rfl, rfl, by decide, lay_Nu, rfl, rfl, rfl, rfl⟩
theorem fdX_19_count (G : XG) (S : XSt) : zFld (wX G S) (G.2.1 19) "TrustResolver$Numbers" "count" "I" (.int (S.1 12)) := ⟨19, 5, _, F_Nu, 2, 1, rfl, rfl, by decide, lay_Nu, rfl, rfl, rfl, rfl⟩
theorem ptX_19_count (G : XG) (S : XSt) (v : Int32) : zPut (wX G S) (G.2.1 19) "TrustResolver$Numbers" "count" "I" (.int v) (wX G (zpS S 12 v)) := ⟨19, 5, _, F_Nu, 2, 1, t_Nu, .int, rfl, rfl, by decide, lay_Nu, tok_Nu, n_Nu, rfl, rfl, rfl, rfl, by decide +kernel, rfl, rfl, Nat.le_of_ble_eq_true rfl, rfl⟩
theorem arX_14 (G : XG) (S : XSt) : zArr (wX G S) (G.2.1 20) G.2.2.1 48 (S.2 14) := ⟨20, rfl⟩
theorem stX_14 (G : XG) (S : XSt) (i v : Int32) : zSto (wX G S) (G.2.1 20) G.2.2.1 48 (S.2 14) (Int32.toNatClampNeg i) v (wX G (zpA S 14 i v)) := ⟨20, rfl, rfl⟩
theorem obX_21 (G : XG) (S : XSt) : zObj (wX G S) (G.2.1 21) "TrustResolver$Numbers" := ⟨21, 5, _, _, _, rfl, rfl⟩
theorem fdX_21_numbers (G : XG) (S : XSt) : zFld (wX G S) (G.2.1 21) "TrustResolver$Numbers" "numbers" "[I" (.ref (G.2.1 22)) := ⟨21, 5, _, F_Nu, 2, 0, rfl, rfl, by decide, lay_Nu, rfl, rfl, rfl, rfl⟩
theorem fdX_21_count (G : XG) (S : XSt) : zFld (wX G S) (G.2.1 21) "TrustResolver$Numbers" "count" "I" (.int (S.1 13)) := ⟨21, 5, _, F_Nu, 2, 1, rfl, rfl, by decide, lay_Nu, rfl, rfl, rfl, rfl⟩
theorem ptX_21_count (G : XG) (S : XSt) (v : Int32) : zPut (wX G S) (G.2.1 21) "TrustResolver$Numbers" "count" "I" (.int v) (wX G (zpS S 13 v)) := ⟨21, 5, _, F_Nu, 2, 1, t_Nu, .int, rfl, rfl, by decide, lay_Nu, tok_Nu, n_Nu, rfl, rfl, rfl, rfl, by decide +kernel, rfl, rfl, Nat.le_of_ble_eq_true rfl, rfl⟩
theorem arX_15 (G : XG) (S : XSt) : zArr (wX G S) (G.2.1 22) G.2.2.1 48 (S.2 15) := ⟨22, rfl⟩
theorem stX_15 (G : XG) (S : XSt) (i v : Int32) : zSto (wX G S) (G.2.1 22) G.2.2.1 48 (S.2 15) (Int32.toNatClampNeg i) v (wX G (zpA S 15 i v)) := ⟨22, rfl, rfl⟩
theorem arX_16 (G : XG) (S : XSt) : zArr (wX G S) (G.2.1 23) G.2.2.1 5 (S.2 16) := ⟨23, rfl⟩
theorem stX_16 (G : XG) (S : XSt) (i v : Int32) : zSto (wX G S) (G.2.1 23) G.2.2.1 5 (S.2 16) (Int32.toNatClampNeg i) v (wX G (zpA S 16 i v)) := ⟨23, rfl, rfl⟩
def wM (G : XG) (S : MSt) : va_W := [(G.2.1 0, .inr (6, [.int (S.1 0), .ref (G.2.1 1), .ref (G.2.1 2), .ref (G.2.1 3), .int (S.1 1), .int (S.1 2), .int (S.1 3), .ref (G.2.1 4), .ref (G.2.1 5), .ref (G.2.1 6), .ref (G.2.1 7), .ref (G.2.1 8), .ref (G.2.1 9), .ref (G.2.1 10), .ref (G.2.1 11), .int (S.1 4), .ref (G.2.1 12), .ref (G.2.1 13), .int (S.1 5), .int (S.1 6), .int (S.1 7), .int (S.1 8), .int (S.1 9), .ref (G.2.1 14), .int (S.1 10), .int (S.1 11), .int (S.1 12), .long (S.2.2)])),
  (G.2.1 1, .inl (G.2.2.1, 48, .inl (S.2.1 0))),
  (G.2.1 2, .inl (G.2.2.1, 48, .inl (S.2.1 1))),
  (G.2.1 3, .inl (G.2.2.1, 48, .inl (S.2.1 2))),
  (G.2.1 4, .inl (G.2.2.1, 32, .inl (S.2.1 3))),
  (G.2.1 5, .inl (G.2.2.1, 32, .inl (S.2.1 4))),
  (G.2.1 6, .inl (G.2.2.1, 32, .inl (S.2.1 5))),
  (G.2.1 7, .inl (G.2.2.1, 32, .inl (S.2.1 6))),
  (G.2.1 8, .inl (G.2.2.1, 32, .inl (S.2.1 7))),
  (G.2.1 9, .inl (G.2.2.1, 32, .inl (S.2.1 8))),
  (G.2.1 10, .inl (G.2.2.1, 32, .inl (S.2.1 9))),
  (G.2.1 11, .inl (G.2.2.1, 32, .inl (S.2.1 10))),
  (G.2.1 12, .inl (G.2.2.1, 4, .inl (S.2.1 11))),
  (G.2.1 13, .inl (G.2.2.1, 4, .inl (S.2.1 12))),
  (G.2.1 14, .inl (G.2.2.1, 5, .inl (S.2.1 13)))]
def zAM (G : XG) : Nat → Prop := fun q => ∃ k : Nat, k < 15 ∧ q = G.2.1 k
theorem obM_0 (G : XG) (S : MSt) : zObj (wM G S) (G.2.1 0) "TrustResolverModel" := ⟨0, 6, _, _, _, rfl, rfl⟩
theorem fdM_0_records (G : XG) (S : MSt) : zFld (wM G S) (G.2.1 0) "TrustResolverModel" "records" "I" (.int (S.1 0)) := ⟨0, 6, _, F_M, 28, 0, rfl, rfl, by decide, lay_M, rfl, rfl, rfl, rfl⟩
theorem ptM_0_records (G : XG) (S : MSt) (v : Int32) : zPut (wM G S) (G.2.1 0) "TrustResolverModel" "records" "I" (.int v) (wM G (zmS S 0 v)) := ⟨0, 6, _, F_M, 28, 0, t_M, .int, rfl, rfl, by decide, lay_M, tok_M, n_M, rfl, rfl, rfl, rfl, by decide +kernel, rfl, rfl, Nat.le_of_ble_eq_true rfl, rfl⟩
theorem fdM_0_owners (G : XG) (S : MSt) : zFld (wM G S) (G.2.1 0) "TrustResolverModel" "owners" "[I" (.ref (G.2.1 1)) := ⟨0, 6, _, F_M, 28, 1, rfl, rfl, by decide, lay_M, rfl, rfl, rfl, rfl⟩
theorem fdM_0_types (G : XG) (S : MSt) : zFld (wM G S) (G.2.1 0) "TrustResolverModel" "types" "[I" (.ref (G.2.1 2)) := ⟨0, 6, _, F_M, 28, 2, rfl, rfl, by decide, lay_M, rfl, rfl, rfl, rfl⟩
theorem fdM_0_datas (G : XG) (S : MSt) : zFld (wM G S) (G.2.1 0) "TrustResolverModel" "datas" "[I" (.ref (G.2.1 3)) := ⟨0, 6, _, F_M, 28, 3, rfl, rfl, by decide, lay_M, rfl, rfl, rfl, rfl⟩
theorem fdM_0_firstTime (G : XG) (S : MSt) : zFld (wM G S) (G.2.1 0) "TrustResolverModel" "firstTime" "I" (.int (S.1 1)) := ⟨0, 6, _, F_M, 28, 4, rfl, rfl, by decide, lay_M, rfl, rfl, rfl, rfl⟩
theorem ptM_0_firstTime (G : XG) (S : MSt) (v : Int32) : zPut (wM G S) (G.2.1 0) "TrustResolverModel" "firstTime" "I" (.int v) (wM G (zmS S 1 v)) := ⟨0, 6, _, F_M, 28, 4, t_M, .int, rfl, rfl, by decide, lay_M, tok_M, n_M, rfl, rfl, rfl, rfl, by decide +kernel, rfl, rfl, Nat.le_of_ble_eq_true rfl, rfl⟩
theorem fdM_0_lastTime (G : XG) (S : MSt) : zFld (wM G S) (G.2.1 0) "TrustResolverModel" "lastTime" "I" (.int (S.1 2)) := ⟨0, 6, _, F_M, 28, 5, rfl, rfl, by decide, lay_M, rfl, rfl, rfl, rfl⟩
theorem ptM_0_lastTime (G : XG) (S : MSt) (v : Int32) : zPut (wM G S) (G.2.1 0) "TrustResolverModel" "lastTime" "I" (.int v) (wM G (zmS S 2 v)) := ⟨0, 6, _, F_M, 28, 5, t_M, .int, rfl, rfl, by decide, lay_M, tok_M, n_M, rfl, rfl, rfl, rfl, by decide +kernel, rfl, rfl, Nat.le_of_ble_eq_true rfl, rfl⟩
theorem fdM_0_signatures (G : XG) (S : MSt) : zFld (wM G S) (G.2.1 0) "TrustResolverModel" "signatures" "I" (.int (S.1 3)) := ⟨0, 6, _, F_M, 28, 6, rfl, rfl, by decide, lay_M, rfl, rfl, rfl, rfl⟩
theorem ptM_0_signatures (G : XG) (S : MSt) (v : Int32) : zPut (wM G S) (G.2.1 0) "TrustResolverModel" "signatures" "I" (.int v) (wM G (zmS S 3 v)) := ⟨0, 6, _, F_M, 28, 6, t_M, .int, rfl, rfl, by decide, lay_M, tok_M, n_M, rfl, rfl, rfl, rfl, by decide +kernel, rfl, rfl, Nat.le_of_ble_eq_true rfl, rfl⟩
theorem fdM_0_signed (G : XG) (S : MSt) : zFld (wM G S) (G.2.1 0) "TrustResolverModel" "signed" "[I" (.ref (G.2.1 4)) := ⟨0, 6, _, F_M, 28, 7, rfl, rfl, by decide, lay_M, rfl, rfl, rfl, rfl⟩
theorem fdM_0_signedTypes (G : XG) (S : MSt) : zFld (wM G S) (G.2.1 0) "TrustResolverModel" "signedTypes" "[I" (.ref (G.2.1 5)) := ⟨0, 6, _, F_M, 28, 8, rfl, rfl, by decide, lay_M, rfl, rfl, rfl, rfl⟩
theorem fdM_0_signers (G : XG) (S : MSt) : zFld (wM G S) (G.2.1 0) "TrustResolverModel" "signers" "[I" (.ref (G.2.1 6)) := ⟨0, 6, _, F_M, 28, 9, rfl, rfl, by decide, lay_M, rfl, rfl, rfl, rfl⟩
theorem fdM_0_keys (G : XG) (S : MSt) : zFld (wM G S) (G.2.1 0) "TrustResolverModel" "keys" "[I" (.ref (G.2.1 7)) := ⟨0, 6, _, F_M, 28, 10, rfl, rfl, by decide, lay_M, rfl, rfl, rfl, rfl⟩
theorem fdM_0_labels (G : XG) (S : MSt) : zFld (wM G S) (G.2.1 0) "TrustResolverModel" "labels" "[I" (.ref (G.2.1 8)) := ⟨0, 6, _, F_M, 28, 11, rfl, rfl, by decide, lay_M, rfl, rfl, rfl, rfl⟩
theorem fdM_0_froms (G : XG) (S : MSt) : zFld (wM G S) (G.2.1 0) "TrustResolverModel" "froms" "[I" (.ref (G.2.1 9)) := ⟨0, 6, _, F_M, 28, 12, rfl, rfl, by decide, lay_M, rfl, rfl, rfl, rfl⟩
theorem fdM_0_tos (G : XG) (S : MSt) : zFld (wM G S) (G.2.1 0) "TrustResolverModel" "tos" "[I" (.ref (G.2.1 10)) := ⟨0, 6, _, F_M, 28, 13, rfl, rfl, by decide, lay_M, rfl, rfl, rfl, rfl⟩
theorem fdM_0_marks (G : XG) (S : MSt) : zFld (wM G S) (G.2.1 0) "TrustResolverModel" "marks" "[I" (.ref (G.2.1 11)) := ⟨0, 6, _, F_M, 28, 14, rfl, rfl, by decide, lay_M, rfl, rfl, rfl, rfl⟩
theorem fdM_0_anchors (G : XG) (S : MSt) : zFld (wM G S) (G.2.1 0) "TrustResolverModel" "anchors" "I" (.int (S.1 4)) := ⟨0, 6, _, F_M, 28, 15, rfl, rfl, by decide, lay_M, rfl, rfl, rfl, rfl⟩
theorem ptM_0_anchors (G : XG) (S : MSt) (v : Int32) : zPut (wM G S) (G.2.1 0) "TrustResolverModel" "anchors" "I" (.int v) (wM G (zmS S 4 v)) := ⟨0, 6, _, F_M, 28, 15, t_M, .int, rfl, rfl, by decide, lay_M, tok_M, n_M, rfl, rfl, rfl, rfl, by decide +kernel, rfl, rfl, Nat.le_of_ble_eq_true rfl, rfl⟩
theorem fdM_0_anchorZones (G : XG) (S : MSt) : zFld (wM G S) (G.2.1 0) "TrustResolverModel" "anchorZones" "[I" (.ref (G.2.1 12)) := ⟨0, 6, _, F_M, 28, 16, rfl, rfl, by decide, lay_M, rfl, rfl, rfl, rfl⟩
theorem fdM_0_anchorDigests (G : XG) (S : MSt) : zFld (wM G S) (G.2.1 0) "TrustResolverModel" "anchorDigests" "[I" (.ref (G.2.1 13)) := ⟨0, 6, _, F_M, 28, 17, rfl, rfl, by decide, lay_M, rfl, rfl, rfl, rfl⟩
theorem fdM_0_time (G : XG) (S : MSt) : zFld (wM G S) (G.2.1 0) "TrustResolverModel" "time" "I" (.int (S.1 5)) := ⟨0, 6, _, F_M, 28, 18, rfl, rfl, by decide, lay_M, rfl, rfl, rfl, rfl⟩
theorem ptM_0_time (G : XG) (S : MSt) (v : Int32) : zPut (wM G S) (G.2.1 0) "TrustResolverModel" "time" "I" (.int v) (wM G (zmS S 5 v)) := ⟨0, 6, _, F_M, 28, 18, t_M, .int, rfl, rfl, by decide, lay_M, tok_M, n_M, rfl, rfl, rfl, rfl, by decide +kernel, rfl, rfl, Nat.le_of_ble_eq_true rfl, rfl⟩
theorem fdM_0_reason (G : XG) (S : MSt) : zFld (wM G S) (G.2.1 0) "TrustResolverModel" "reason" "I" (.int (S.1 6)) := ⟨0, 6, _, F_M, 28, 19, rfl, rfl, by decide, lay_M, rfl, rfl, rfl, rfl⟩
theorem ptM_0_reason (G : XG) (S : MSt) (v : Int32) : zPut (wM G S) (G.2.1 0) "TrustResolverModel" "reason" "I" (.int v) (wM G (zmS S 6 v)) := ⟨0, 6, _, F_M, 28, 19, t_M, .int, rfl, rfl, by decide, lay_M, tok_M, n_M, rfl, rfl, rfl, rfl, by decide +kernel, rfl, rfl, Nat.le_of_ble_eq_true rfl, rfl⟩
theorem fdM_0_askedName (G : XG) (S : MSt) : zFld (wM G S) (G.2.1 0) "TrustResolverModel" "askedName" "I" (.int (S.1 7)) := ⟨0, 6, _, F_M, 28, 20, rfl, rfl, by decide, lay_M, rfl, rfl, rfl, rfl⟩
theorem ptM_0_askedName (G : XG) (S : MSt) (v : Int32) : zPut (wM G S) (G.2.1 0) "TrustResolverModel" "askedName" "I" (.int v) (wM G (zmS S 7 v)) := ⟨0, 6, _, F_M, 28, 20, t_M, .int, rfl, rfl, by decide, lay_M, tok_M, n_M, rfl, rfl, rfl, rfl, by decide +kernel, rfl, rfl, Nat.le_of_ble_eq_true rfl, rfl⟩
theorem fdM_0_askedType (G : XG) (S : MSt) : zFld (wM G S) (G.2.1 0) "TrustResolverModel" "askedType" "I" (.int (S.1 8)) := ⟨0, 6, _, F_M, 28, 21, rfl, rfl, by decide, lay_M, rfl, rfl, rfl, rfl⟩
theorem ptM_0_askedType (G : XG) (S : MSt) (v : Int32) : zPut (wM G S) (G.2.1 0) "TrustResolverModel" "askedType" "I" (.int v) (wM G (zmS S 8 v)) := ⟨0, 6, _, F_M, 28, 21, t_M, .int, rfl, rfl, by decide, lay_M, tok_M, n_M, rfl, rfl, rfl, rfl, by decide +kernel, rfl, rfl, Nat.le_of_ble_eq_true rfl, rfl⟩
theorem fdM_0_zones (G : XG) (S : MSt) : zFld (wM G S) (G.2.1 0) "TrustResolverModel" "zones" "I" (.int (S.1 9)) := ⟨0, 6, _, F_M, 28, 22, rfl, rfl, by decide, lay_M, rfl, rfl, rfl, rfl⟩
theorem ptM_0_zones (G : XG) (S : MSt) (v : Int32) : zPut (wM G S) (G.2.1 0) "TrustResolverModel" "zones" "I" (.int v) (wM G (zmS S 9 v)) := ⟨0, 6, _, F_M, 28, 22, t_M, .int, rfl, rfl, by decide, lay_M, tok_M, n_M, rfl, rfl, rfl, rfl, by decide +kernel, rfl, rfl, Nat.le_of_ble_eq_true rfl, rfl⟩
theorem fdM_0_zone (G : XG) (S : MSt) : zFld (wM G S) (G.2.1 0) "TrustResolverModel" "zone" "[I" (.ref (G.2.1 14)) := ⟨0, 6, _, F_M, 28, 23, rfl, rfl, by decide, lay_M, rfl, rfl, rfl, rfl⟩
theorem fdM_0_counted (G : XG) (S : MSt) : zFld (wM G S) (G.2.1 0) "TrustResolverModel" "counted" "I" (.int (S.1 10)) := ⟨0, 6, _, F_M, 28, 24, rfl, rfl, by decide, lay_M, rfl, rfl, rfl, rfl⟩
theorem ptM_0_counted (G : XG) (S : MSt) (v : Int32) : zPut (wM G S) (G.2.1 0) "TrustResolverModel" "counted" "I" (.int v) (wM G (zmS S 10 v)) := ⟨0, 6, _, F_M, 28, 24, t_M, .int, rfl, rfl, by decide, lay_M, tok_M, n_M, rfl, rfl, rfl, rfl, by decide +kernel, rfl, rfl, Nat.le_of_ble_eq_true rfl, rfl⟩
theorem fdM_0_all (G : XG) (S : MSt) : zFld (wM G S) (G.2.1 0) "TrustResolverModel" "all" "Z" (.int (S.1 11)) := ⟨0, 6, _, F_M, 28, 25, rfl, rfl, by decide, lay_M, rfl, rfl, rfl, rfl⟩
theorem ptM_0_all (G : XG) (S : MSt) (v : Int32) (hz : zib v = true) : zPut (wM G S) (G.2.1 0) "TrustResolverModel" "all" "Z" (.int v) (wM G (zmS S 11 v)) := ⟨0, 6, _, F_M, 28, 25, t_M, .boolean, rfl, rfl, by decide, lay_M, tok_M, n_M, rfl, rfl, rfl, rfl, by decide +kernel, zib_n hz, zib_f hz, Nat.le_of_ble_eq_true rfl, rfl⟩
theorem fdM_0_trusted (G : XG) (S : MSt) : zFld (wM G S) (G.2.1 0) "TrustResolverModel" "trusted" "I" (.int (S.1 12)) := ⟨0, 6, _, F_M, 28, 26, rfl, rfl, by decide, lay_M, rfl, rfl, rfl, rfl⟩
theorem ptM_0_trusted (G : XG) (S : MSt) (v : Int32) : zPut (wM G S) (G.2.1 0) "TrustResolverModel" "trusted" "I" (.int v) (wM G (zmS S 12 v)) := ⟨0, 6, _, F_M, 28, 26, t_M, .int, rfl, rfl, by decide, lay_M, tok_M, n_M, rfl, rfl, rfl, rfl, by decide +kernel, rfl, rfl, Nat.le_of_ble_eq_true rfl, rfl⟩
theorem fdM_0_mixed (G : XG) (S : MSt) : zFld (wM G S) (G.2.1 0) "TrustResolverModel" "mixed" "J" (.long (S.2.2)) := ⟨0, 6, _, F_M, 28, 27, rfl, rfl, by decide, lay_M, rfl, rfl, rfl, rfl⟩
theorem ptM_0_mixed (G : XG) (S : MSt) (v : Int64) : zPut (wM G S) (G.2.1 0) "TrustResolverModel" "mixed" "J" (.long v) (wM G (zmL S v)) := ⟨0, 6, _, F_M, 28, 27, t_M, .long, rfl, rfl, by decide, lay_M, tok_M, n_M, rfl, rfl, rfl, rfl, by decide +kernel, rfl, rfl, Nat.le_of_ble_eq_true rfl, rfl⟩
theorem arM_0 (G : XG) (S : MSt) : zArr (wM G S) (G.2.1 1) G.2.2.1 48 (S.2.1 0) := ⟨1, rfl⟩
theorem stM_0 (G : XG) (S : MSt) (i v : Int32) : zSto (wM G S) (G.2.1 1) G.2.2.1 48 (S.2.1 0) (Int32.toNatClampNeg i) v (wM G (zmA S 0 i v)) := ⟨1, rfl, rfl⟩
theorem arM_1 (G : XG) (S : MSt) : zArr (wM G S) (G.2.1 2) G.2.2.1 48 (S.2.1 1) := ⟨2, rfl⟩
theorem stM_1 (G : XG) (S : MSt) (i v : Int32) : zSto (wM G S) (G.2.1 2) G.2.2.1 48 (S.2.1 1) (Int32.toNatClampNeg i) v (wM G (zmA S 1 i v)) := ⟨2, rfl, rfl⟩
theorem arM_2 (G : XG) (S : MSt) : zArr (wM G S) (G.2.1 3) G.2.2.1 48 (S.2.1 2) := ⟨3, rfl⟩
theorem stM_2 (G : XG) (S : MSt) (i v : Int32) : zSto (wM G S) (G.2.1 3) G.2.2.1 48 (S.2.1 2) (Int32.toNatClampNeg i) v (wM G (zmA S 2 i v)) := ⟨3, rfl, rfl⟩
theorem arM_3 (G : XG) (S : MSt) : zArr (wM G S) (G.2.1 4) G.2.2.1 32 (S.2.1 3) := ⟨4, rfl⟩
theorem stM_3 (G : XG) (S : MSt) (i v : Int32) : zSto (wM G S) (G.2.1 4) G.2.2.1 32 (S.2.1 3) (Int32.toNatClampNeg i) v (wM G (zmA S 3 i v)) := ⟨4, rfl, rfl⟩
theorem arM_4 (G : XG) (S : MSt) : zArr (wM G S) (G.2.1 5) G.2.2.1 32 (S.2.1 4) := ⟨5, rfl⟩
theorem stM_4 (G : XG) (S : MSt) (i v : Int32) : zSto (wM G S) (G.2.1 5) G.2.2.1 32 (S.2.1 4) (Int32.toNatClampNeg i) v (wM G (zmA S 4 i v)) := ⟨5, rfl, rfl⟩
theorem arM_5 (G : XG) (S : MSt) : zArr (wM G S) (G.2.1 6) G.2.2.1 32 (S.2.1 5) := ⟨6, rfl⟩
theorem stM_5 (G : XG) (S : MSt) (i v : Int32) : zSto (wM G S) (G.2.1 6) G.2.2.1 32 (S.2.1 5) (Int32.toNatClampNeg i) v (wM G (zmA S 5 i v)) := ⟨6, rfl, rfl⟩
theorem arM_6 (G : XG) (S : MSt) : zArr (wM G S) (G.2.1 7) G.2.2.1 32 (S.2.1 6) := ⟨7, rfl⟩
theorem stM_6 (G : XG) (S : MSt) (i v : Int32) : zSto (wM G S) (G.2.1 7) G.2.2.1 32 (S.2.1 6) (Int32.toNatClampNeg i) v (wM G (zmA S 6 i v)) := ⟨7, rfl, rfl⟩
theorem arM_7 (G : XG) (S : MSt) : zArr (wM G S) (G.2.1 8) G.2.2.1 32 (S.2.1 7) := ⟨8, rfl⟩
theorem stM_7 (G : XG) (S : MSt) (i v : Int32) : zSto (wM G S) (G.2.1 8) G.2.2.1 32 (S.2.1 7) (Int32.toNatClampNeg i) v (wM G (zmA S 7 i v)) := ⟨8, rfl, rfl⟩
theorem arM_8 (G : XG) (S : MSt) : zArr (wM G S) (G.2.1 9) G.2.2.1 32 (S.2.1 8) := ⟨9, rfl⟩
theorem stM_8 (G : XG) (S : MSt) (i v : Int32) : zSto (wM G S) (G.2.1 9) G.2.2.1 32 (S.2.1 8) (Int32.toNatClampNeg i) v (wM G (zmA S 8 i v)) := ⟨9, rfl, rfl⟩
theorem arM_9 (G : XG) (S : MSt) : zArr (wM G S) (G.2.1 10) G.2.2.1 32 (S.2.1 9) := ⟨10, rfl⟩
theorem stM_9 (G : XG) (S : MSt) (i v : Int32) : zSto (wM G S) (G.2.1 10) G.2.2.1 32 (S.2.1 9) (Int32.toNatClampNeg i) v (wM G (zmA S 9 i v)) := ⟨10, rfl, rfl⟩
theorem arM_10 (G : XG) (S : MSt) : zArr (wM G S) (G.2.1 11) G.2.2.1 32 (S.2.1 10) := ⟨11, rfl⟩
theorem stM_10 (G : XG) (S : MSt) (i v : Int32) : zSto (wM G S) (G.2.1 11) G.2.2.1 32 (S.2.1 10) (Int32.toNatClampNeg i) v (wM G (zmA S 10 i v)) := ⟨11, rfl, rfl⟩
theorem arM_11 (G : XG) (S : MSt) : zArr (wM G S) (G.2.1 12) G.2.2.1 4 (S.2.1 11) := ⟨12, rfl⟩
theorem stM_11 (G : XG) (S : MSt) (i v : Int32) : zSto (wM G S) (G.2.1 12) G.2.2.1 4 (S.2.1 11) (Int32.toNatClampNeg i) v (wM G (zmA S 11 i v)) := ⟨12, rfl, rfl⟩
theorem arM_12 (G : XG) (S : MSt) : zArr (wM G S) (G.2.1 13) G.2.2.1 4 (S.2.1 12) := ⟨13, rfl⟩
theorem stM_12 (G : XG) (S : MSt) (i v : Int32) : zSto (wM G S) (G.2.1 13) G.2.2.1 4 (S.2.1 12) (Int32.toNatClampNeg i) v (wM G (zmA S 12 i v)) := ⟨13, rfl, rfl⟩
theorem arM_13 (G : XG) (S : MSt) : zArr (wM G S) (G.2.1 14) G.2.2.1 5 (S.2.1 13) := ⟨14, rfl⟩
theorem stM_13 (G : XG) (S : MSt) (i v : Int32) : zSto (wM G S) (G.2.1 14) G.2.2.1 5 (S.2.1 13) (Int32.toNatClampNeg i) v (wM G (zmA S 13 i v)) := ⟨14, rfl, rfl⟩
