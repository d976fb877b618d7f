abbrev b_R_init : ByteArray := prog_1_method_1_code
def y_R_init : MethodName := ⟨"TrustResolver", "<init>", "()V"⟩
abbrev b_R_add : ByteArray := prog_1_method_2_code
def y_R_add : MethodName := ⟨"TrustResolver", "add", "(III)I"⟩
abbrev b_R_drop : ByteArray := prog_1_method_3_code
def y_R_drop : MethodName := ⟨"TrustResolver", "drop", "(II)I"⟩
abbrev b_R_window : ByteArray := prog_1_method_4_code
def y_R_window : MethodName := ⟨"TrustResolver", "window", "(II)Z"⟩
abbrev b_R_sign : ByteArray := prog_1_method_5_code
def y_R_sign : MethodName := ⟨"TrustResolver", "sign", "(IIIII)I"⟩
abbrev b_R_spoil : ByteArray := prog_1_method_6_code
def y_R_spoil : MethodName := ⟨"TrustResolver", "spoil", "(II)Z"⟩
abbrev b_R_seal : ByteArray := prog_1_method_7_code
def y_R_seal : MethodName := ⟨"TrustResolver", "seal", "(II)I"⟩
abbrev b_R_anchor : ByteArray := prog_1_method_8_code
def y_R_anchor : MethodName := ⟨"TrustResolver", "anchor", "(II)I"⟩
abbrev b_R_tick : ByteArray := prog_1_method_9_code
def y_R_tick : MethodName := ⟨"TrustResolver", "tick", "(I)I"⟩
abbrev b_R_ask : ByteArray := prog_1_method_10_code
def y_R_ask : MethodName := ⟨"TrustResolver", "ask", "(II)I"⟩
abbrev b_R_reason : ByteArray := prog_1_method_11_code
def y_R_reason : MethodName := ⟨"TrustResolver", "reason", "()I"⟩
abbrev b_R_answer : ByteArray := prog_1_method_12_code
def y_R_answer : MethodName := ⟨"TrustResolver", "answer", "(I)I"⟩
abbrev b_R_zone : ByteArray := prog_1_method_13_code
def y_R_zone : MethodName := ⟨"TrustResolver", "zone", "(I)I"⟩
abbrev b_R_figure : ByteArray := prog_1_method_14_code
def y_R_figure : MethodName := ⟨"TrustResolver", "figure", "(I)I"⟩
abbrev b_R_above : ByteArray := prog_1_method_15_code
def y_R_above : MethodName := ⟨"TrustResolver", "above", "(II)I"⟩
abbrev b_R_isType : ByteArray := prog_1_method_16_code
def y_R_isType : MethodName := ⟨"TrustResolver", "isType", "(I)Z"⟩
abbrev b_R_isKey : ByteArray := prog_1_method_17_code
def y_R_isKey : MethodName := ⟨"TrustResolver", "isKey", "(I)Z"⟩
abbrev b_R_isData : ByteArray := prog_1_method_18_code
def y_R_isData : MethodName := ⟨"TrustResolver", "isData", "(II)Z"⟩
abbrev b_R_verdictOf : ByteArray := prog_1_method_19_code
def y_R_verdictOf : MethodName := ⟨"TrustResolver", "verdictOf", "(I)I"⟩
abbrev b_M_init : ByteArray := prog_11_method_1_code
def y_M_init : MethodName := ⟨"TrustResolverModel", "<init>", "()V"⟩
abbrev b_M_label : ByteArray := prog_11_method_2_code
def y_M_label : MethodName := ⟨"TrustResolverModel", "label", "(II)I"⟩
abbrev b_M_depth : ByteArray := prog_11_method_3_code
def y_M_depth : MethodName := ⟨"TrustResolverModel", "depth", "(I)I"⟩
abbrev b_M_isName : ByteArray := prog_11_method_4_code
def y_M_isName : MethodName := ⟨"TrustResolverModel", "isName", "(I)Z"⟩
abbrev b_M_cut : ByteArray := prog_11_method_5_code
def y_M_cut : MethodName := ⟨"TrustResolverModel", "cut", "(II)I"⟩
abbrev b_M_isAbove : ByteArray := prog_11_method_6_code
def y_M_isAbove : MethodName := ⟨"TrustResolverModel", "isAbove", "(II)Z"⟩
abbrev b_M_star : ByteArray := prog_11_method_7_code
def y_M_star : MethodName := ⟨"TrustResolverModel", "star", "(I)I"⟩
abbrev b_M_isType : ByteArray := prog_11_method_8_code
def y_M_isType : MethodName := ⟨"TrustResolverModel", "isType", "(I)Z"⟩
abbrev b_M_isKey : ByteArray := prog_11_method_9_code
def y_M_isKey : MethodName := ⟨"TrustResolverModel", "isKey", "(I)Z"⟩
abbrev b_M_size : ByteArray := prog_11_method_10_code
def y_M_size : MethodName := ⟨"TrustResolverModel", "size", "(II)I"⟩
abbrev b_M_dataAt : ByteArray := prog_11_method_11_code
def y_M_dataAt : MethodName := ⟨"TrustResolverModel", "dataAt", "(III)I"⟩
abbrev b_M_has : ByteArray := prog_11_method_12_code
def y_M_has : MethodName := ⟨"TrustResolverModel", "has", "(III)Z"⟩
abbrev b_M_isData : ByteArray := prog_11_method_13_code
def y_M_isData : MethodName := ⟨"TrustResolverModel", "isData", "(II)Z"⟩
abbrev b_M_add : ByteArray := prog_11_method_14_code
def y_M_add : MethodName := ⟨"TrustResolverModel", "add", "(III)I"⟩
abbrev b_M_drop : ByteArray := prog_11_method_15_code
def y_M_drop : MethodName := ⟨"TrustResolverModel", "drop", "(II)I"⟩
abbrev b_M_mix : ByteArray := prog_11_method_16_code
def y_M_mix : MethodName := ⟨"TrustResolverModel", "mix", "(I)V"⟩
abbrev b_M_digest : ByteArray := prog_11_method_17_code
def y_M_digest : MethodName := ⟨"TrustResolverModel", "digest", "()I"⟩
abbrev b_M_sealOf : ByteArray := prog_11_method_18_code
def y_M_sealOf : MethodName := ⟨"TrustResolverModel", "sealOf", "(II)I"⟩
abbrev b_M_seal : ByteArray := prog_11_method_19_code
def y_M_seal : MethodName := ⟨"TrustResolverModel", "seal", "(II)I"⟩
abbrev b_M_markOf : ByteArray := prog_11_method_20_code
def y_M_markOf : MethodName := ⟨"TrustResolverModel", "markOf", "(I)I"⟩
abbrev b_M_window : ByteArray := prog_11_method_21_code
def y_M_window : MethodName := ⟨"TrustResolverModel", "window", "(II)Z"⟩
abbrev b_M_sign : ByteArray := prog_11_method_22_code
def y_M_sign : MethodName := ⟨"TrustResolverModel", "sign", "(IIIII)I"⟩
abbrev b_M_spoil : ByteArray := prog_11_method_23_code
def y_M_spoil : MethodName := ⟨"TrustResolverModel", "spoil", "(II)Z"⟩
abbrev b_M_anchor : ByteArray := prog_11_method_24_code
def y_M_anchor : MethodName := ⟨"TrustResolverModel", "anchor", "(II)I"⟩
abbrev b_M_tick : ByteArray := prog_11_method_25_code
def y_M_tick : MethodName := ⟨"TrustResolverModel", "tick", "(I)I"⟩
abbrev b_M_here : ByteArray := prog_11_method_26_code
def y_M_here : MethodName := ⟨"TrustResolverModel", "here", "()I"⟩
abbrev b_M_isTrusted : ByteArray := prog_11_method_27_code
def y_M_isTrusted : MethodName := ⟨"TrustResolverModel", "isTrusted", "(I)Z"⟩
abbrev b_M_counts : ByteArray := prog_11_method_28_code
def y_M_counts : MethodName := ⟨"TrustResolverModel", "counts", "(I)Z"⟩
abbrev b_M_isGood : ByteArray := prog_11_method_29_code
def y_M_isGood : MethodName := ⟨"TrustResolverModel", "isGood", "(I)Z"⟩
abbrev b_M_isPlain : ByteArray := prog_11_method_30_code
def y_M_isPlain : MethodName := ⟨"TrustResolverModel", "isPlain", "(II)Z"⟩
abbrev b_M_tells : ByteArray := prog_11_method_31_code
def y_M_tells : MethodName := ⟨"TrustResolverModel", "tells", "(II)Z"⟩
abbrev b_M_isCovered : ByteArray := prog_11_method_32_code
def y_M_isCovered : MethodName := ⟨"TrustResolverModel", "isCovered", "(I)Z"⟩
abbrev b_M_isKnown : ByteArray := prog_11_method_33_code
def y_M_isKnown : MethodName := ⟨"TrustResolverModel", "isKnown", "(I)Z"⟩
abbrev b_M_tryKeys : ByteArray := prog_11_method_34_code
def y_M_tryKeys : MethodName := ⟨"TrustResolverModel", "tryKeys", "()I"⟩
abbrev b_M_nextCut : ByteArray := prog_11_method_35_code
def y_M_nextCut : MethodName := ⟨"TrustResolverModel", "nextCut", "(II)I"⟩
abbrev b_M_tryCut : ByteArray := prog_11_method_36_code
def y_M_tryCut : MethodName := ⟨"TrustResolverModel", "tryCut", "(I)I"⟩
abbrev b_M_tryAnswers : ByteArray := prog_11_method_37_code
def y_M_tryAnswers : MethodName := ⟨"TrustResolverModel", "tryAnswers", "(II)I"⟩
abbrev b_M_resolve : ByteArray := prog_11_method_38_code
def y_M_resolve : MethodName := ⟨"TrustResolverModel", "resolve", "(II)I"⟩
abbrev b_M_ask : ByteArray := prog_11_method_39_code
def y_M_ask : MethodName := ⟨"TrustResolverModel", "ask", "(II)I"⟩
abbrev b_M_reason : ByteArray := prog_11_method_40_code
def y_M_reason : MethodName := ⟨"TrustResolverModel", "reason", "()I"⟩
abbrev b_M_answer : ByteArray := prog_11_method_41_code
def y_M_answer : MethodName := ⟨"TrustResolverModel", "answer", "(I)I"⟩
abbrev b_M_zone : ByteArray := prog_11_method_42_code
def y_M_zone : MethodName := ⟨"TrustResolverModel", "zone", "(I)I"⟩
abbrev b_M_figure : ByteArray := prog_11_method_43_code
def y_M_figure : MethodName := ⟨"TrustResolverModel", "figure", "(I)I"⟩
abbrev b_M_above : ByteArray := prog_11_method_44_code
def y_M_above : MethodName := ⟨"TrustResolverModel", "above", "(II)I"⟩
abbrev b_An_init : ByteArray := prog_2_method_1_code
def y_An_init : MethodName := ⟨"TrustResolver$Anchors", "<init>", "()V"⟩
abbrev b_An_put : ByteArray := prog_2_method_2_code
def y_An_put : MethodName := ⟨"TrustResolver$Anchors", "put", "(II)I"⟩
abbrev b_An_deepestFor : ByteArray := prog_2_method_3_code
def y_An_deepestFor : MethodName := ⟨"TrustResolver$Anchors", "deepestFor", "(I)I"⟩
abbrev b_An_digestOf : ByteArray := prog_2_method_4_code
def y_An_digestOf : MethodName := ⟨"TrustResolver$Anchors", "digestOf", "(I)I"⟩
abbrev b_Di_mix : ByteArray := prog_3_method_2_code
def y_Di_mix : MethodName := ⟨"TrustResolver$Digests", "mix", "(JI)J"⟩
abbrev b_Di_end : ByteArray := prog_3_method_3_code
def y_Di_end : MethodName := ⟨"TrustResolver$Digests", "end", "(J)I"⟩
abbrev b_Di_sealOf : ByteArray := prog_3_method_4_code
def y_Di_sealOf : MethodName := ⟨"TrustResolver$Digests", "sealOf", "(II)I"⟩
abbrev b_Na_isName : ByteArray := prog_4_method_2_code
def y_Na_isName : MethodName := ⟨"TrustResolver$Names", "isName", "(I)Z"⟩
abbrev b_Na_depth : ByteArray := prog_4_method_3_code
def y_Na_depth : MethodName := ⟨"TrustResolver$Names", "depth", "(I)I"⟩
abbrev b_Na_firstLabels : ByteArray := prog_4_method_4_code
def y_Na_firstLabels : MethodName := ⟨"TrustResolver$Names", "firstLabels", "(II)I"⟩
abbrev b_Na_isOrAbove : ByteArray := prog_4_method_5_code
def y_Na_isOrAbove : MethodName := ⟨"TrustResolver$Names", "isOrAbove", "(II)Z"⟩
abbrev b_Na_starOf : ByteArray := prog_4_method_6_code
def y_Na_starOf : MethodName := ⟨"TrustResolver$Names", "starOf", "(I)I"⟩
abbrev b_Na_setOf : ByteArray := prog_4_method_7_code
def y_Na_setOf : MethodName := ⟨"TrustResolver$Names", "setOf", "(II)I"⟩
abbrev b_Na_ownerOf : ByteArray := prog_4_method_8_code
def y_Na_ownerOf : MethodName := ⟨"TrustResolver$Names", "ownerOf", "(I)I"⟩
abbrev b_Na_typeOf : ByteArray := prog_4_method_9_code
def y_Na_typeOf : MethodName := ⟨"TrustResolver$Names", "typeOf", "(I)I"⟩
abbrev b_Nu_init : ByteArray := prog_5_method_1_code
def y_Nu_init : MethodName := ⟨"TrustResolver$Numbers", "<init>", "()V"⟩
abbrev b_Nu_clear : ByteArray := prog_5_method_2_code
def y_Nu_clear : MethodName := ⟨"TrustResolver$Numbers", "clear", "()V"⟩
abbrev b_Nu_put : ByteArray := prog_5_method_3_code
def y_Nu_put : MethodName := ⟨"TrustResolver$Numbers", "put", "(I)V"⟩
abbrev b_Nu_has : ByteArray := prog_5_method_4_code
def y_Nu_has : MethodName := ⟨"TrustResolver$Numbers", "has", "(I)Z"⟩
abbrev b_Qu_init : ByteArray := prog_6_method_1_code
def y_Qu_init : MethodName := ⟨"TrustResolver$Question", "<init>", "(LTrustResolver$Records;LTrustResolver$Signatures;LTrustResolver$Anchors;)V"⟩
abbrev b_Qu_pose : ByteArray := prog_6_method_2_code
def y_Qu_pose : MethodName := ⟨"TrustResolver$Question", "pose", "(II)V"⟩
abbrev b_Qu_zoneAt : ByteArray := prog_6_method_3_code
def y_Qu_zoneAt : MethodName := ⟨"TrustResolver$Question", "zoneAt", "(I)I"⟩
abbrev b_Qu_dataNow : ByteArray := prog_6_method_4_code
def y_Qu_dataNow : MethodName := ⟨"TrustResolver$Question", "dataNow", "(I)I"⟩
abbrev b_Qu_enter : ByteArray := prog_6_method_5_code
def y_Qu_enter : MethodName := ⟨"TrustResolver$Question", "enter", "(I)V"⟩
abbrev b_Qu_whyNoKeys : ByteArray := prog_6_method_6_code
def y_Qu_whyNoKeys : MethodName := ⟨"TrustResolver$Question", "whyNoKeys", "()I"⟩
abbrev b_Qu_takeSealedKeys : ByteArray := prog_6_method_7_code
def y_Qu_takeSealedKeys : MethodName := ⟨"TrustResolver$Question", "takeSealedKeys", "(I)V"⟩
abbrev b_Qu_takeSet : ByteArray := prog_6_method_8_code
def y_Qu_takeSet : MethodName := ⟨"TrustResolver$Question", "takeSet", "(LTrustResolver$Numbers;I)V"⟩
abbrev b_Qu_nextCut : ByteArray := prog_6_method_9_code
def y_Qu_nextCut : MethodName := ⟨"TrustResolver$Question", "nextCut", "()I"⟩
abbrev b_Qu_whyNotOver : ByteArray := prog_6_method_10_code
def y_Qu_whyNotOver : MethodName := ⟨"TrustResolver$Question", "whyNotOver", "(I)I"⟩
abbrev b_Qu_whyThere : ByteArray := prog_6_method_11_code
def y_Qu_whyThere : MethodName := ⟨"TrustResolver$Question", "whyThere", "(I)I"⟩
abbrev b_Qu_whyAbsent : ByteArray := prog_6_method_12_code
def y_Qu_whyAbsent : MethodName := ⟨"TrustResolver$Question", "whyAbsent", "()I"⟩
abbrev b_Qu_closestKnown : ByteArray := prog_6_method_13_code
def y_Qu_closestKnown : MethodName := ⟨"TrustResolver$Question", "closestKnown", "()I"⟩
abbrev b_Qu_isKnown : ByteArray := prog_6_method_14_code
def y_Qu_isKnown : MethodName := ⟨"TrustResolver$Question", "isKnown", "(I)Z"⟩
abbrev b_Qu_isCovered : ByteArray := prog_6_method_15_code
def y_Qu_isCovered : MethodName := ⟨"TrustResolver$Question", "isCovered", "(I)Z"⟩
abbrev b_Qu_isPlainNext : ByteArray := prog_6_method_16_code
def y_Qu_isPlainNext : MethodName := ⟨"TrustResolver$Question", "isPlainNext", "(I)Z"⟩
abbrev b_Qu_tells : ByteArray := prog_6_method_17_code
def y_Qu_tells : MethodName := ⟨"TrustResolver$Question", "tells", "(II)Z"⟩
abbrev b_Re_init : ByteArray := prog_7_method_1_code
def y_Re_init : MethodName := ⟨"TrustResolver$Records", "<init>", "()V"⟩
abbrev b_Re_put : ByteArray := prog_7_method_2_code
def y_Re_put : MethodName := ⟨"TrustResolver$Records", "put", "(II)I"⟩
abbrev b_Re_empty : ByteArray := prog_7_method_3_code
def y_Re_empty : MethodName := ⟨"TrustResolver$Records", "empty", "(I)I"⟩
abbrev b_Re_sizeOf : ByteArray := prog_7_method_4_code
def y_Re_sizeOf : MethodName := ⟨"TrustResolver$Records", "sizeOf", "(I)I"⟩
abbrev b_Re_startOf : ByteArray := prog_7_method_5_code
def y_Re_startOf : MethodName := ⟨"TrustResolver$Records", "startOf", "(I)I"⟩
abbrev b_Re_setAt : ByteArray := prog_7_method_6_code
def y_Re_setAt : MethodName := ⟨"TrustResolver$Records", "setAt", "(I)I"⟩
abbrev b_Re_dataAt : ByteArray := prog_7_method_7_code
def y_Re_dataAt : MethodName := ⟨"TrustResolver$Records", "dataAt", "(I)I"⟩
abbrev b_Re_leastOf : ByteArray := prog_7_method_8_code
def y_Re_leastOf : MethodName := ⟨"TrustResolver$Records", "leastOf", "(I)I"⟩
abbrev b_Re_rowFor : ByteArray := prog_7_method_9_code
def y_Re_rowFor : MethodName := ⟨"TrustResolver$Records", "rowFor", "(II)I"⟩
abbrev b_Si_init : ByteArray := prog_8_method_1_code
def y_Si_init : MethodName := ⟨"TrustResolver$Signatures", "<init>", "(LTrustResolver$Records;)V"⟩
abbrev b_Si_useTimes : ByteArray := prog_8_method_2_code
def y_Si_useTimes : MethodName := ⟨"TrustResolver$Signatures", "useTimes", "(II)V"⟩
abbrev b_Si_passTime : ByteArray := prog_8_method_3_code
def y_Si_passTime : MethodName := ⟨"TrustResolver$Signatures", "passTime", "(I)I"⟩
abbrev b_Si_make : ByteArray := prog_8_method_4_code
def y_Si_make : MethodName := ⟨"TrustResolver$Signatures", "make", "(IIII)I"⟩
abbrev b_Si_shiftMark : ByteArray := prog_8_method_5_code
def y_Si_shiftMark : MethodName := ⟨"TrustResolver$Signatures", "shiftMark", "(II)Z"⟩
abbrev b_Si_judge : ByteArray := prog_8_method_6_code
def y_Si_judge : MethodName := ⟨"TrustResolver$Signatures", "judge", "(ILTrustResolver$Numbers;)V"⟩
abbrev b_Si_isPlain : ByteArray := prog_8_method_7_code
def y_Si_isPlain : MethodName := ⟨"TrustResolver$Signatures", "isPlain", "(I)Z"⟩
abbrev b_Si_labelsOfFirstGood : ByteArray := prog_8_method_8_code
def y_Si_labelsOfFirstGood : MethodName := ⟨"TrustResolver$Signatures", "labelsOfFirstGood", "(I)I"⟩
abbrev b_Si_isGood : ByteArray := prog_8_method_9_code
def y_Si_isGood : MethodName := ⟨"TrustResolver$Signatures", "isGood", "(IILTrustResolver$Numbers;)Z"⟩
abbrev b_Si_markNow : ByteArray := prog_8_method_10_code
def y_Si_markNow : MethodName := ⟨"TrustResolver$Signatures", "markNow", "(I)I"⟩
abbrev b_Si_signedName : ByteArray := prog_8_method_11_code
def y_Si_signedName : MethodName := ⟨"TrustResolver$Signatures", "signedName", "(II)I"⟩
abbrev b_To_isTold : ByteArray := prog_9_method_2_code
def y_To_isTold : MethodName := ⟨"TrustResolver$Told", "isTold", "(I)Z"⟩
abbrev b_To_nameIn : ByteArray := prog_9_method_3_code
def y_To_nameIn : MethodName := ⟨"TrustResolver$Told", "nameIn", "(I)I"⟩
abbrev b_To_hasType : ByteArray := prog_9_method_4_code
def y_To_hasType : MethodName := ⟨"TrustResolver$Told", "hasType", "(II)Z"⟩
def F_R : u_T := fun k => match k with
  | 0 => ("TrustResolver", "records", "LTrustResolver$Records;", true)
  | 1 => ("TrustResolver", "signatures", "LTrustResolver$Signatures;", true)
  | 2 => ("TrustResolver", "anchors", "LTrustResolver$Anchors;", true)
  | _ => ("TrustResolver", "question", "LTrustResolver$Question;", true)
def t_R : Nat → FieldType := fun k => match k with
  | 0 => .object "TrustResolver$Records"
  | 1 => .object "TrustResolver$Signatures"
  | 2 => .object "TrustResolver$Anchors"
  | _ => .object "TrustResolver$Question"
theorem n_R : ∀ a, a < 4 → ∀ b, b < 4 → a ≠ b → (F_R a).2.1 ≠ (F_R b).2.1 := by decide +kernel
theorem tok_R : ∀ k, k < 4 → parseFieldDescriptor (F_R k).2.2.1 = some (t_R k) := by decide +kernel
theorem df_R : ∀ j, j < 4 → defaultValue (t_R j) = vp_V [.null, .null, .null, .null] j := by
  intro j hj
  rcases (show j = 0 ∨ j = 1 ∨ j = 2 ∨ j = 3 by omega) with rfl | rfl | rfl | rfl <;> rfl
def F_Re : u_T := fun k => match k with
  | 0 => ("TrustResolver$Records", "sets", "[I", true)
  | 1 => ("TrustResolver$Records", "datas", "[I", true)
  | _ => ("TrustResolver$Records", "count", "I", false)
def t_Re : Nat → FieldType := fun k => match k with
  | 0 => .array .int
  | 1 => .array .int
  | _ => .int
theorem n_Re : ∀ a, a < 3 → ∀ b, b < 3 → a ≠ b → (F_Re a).2.1 ≠ (F_Re b).2.1 := by decide +kernel
theorem tok_Re : ∀ k, k < 3 → parseFieldDescriptor (F_Re k).2.2.1 = some (t_Re k) := by decide +kernel
theorem df_Re : ∀ j, j < 3 → defaultValue (t_Re j) = vp_V [.null, .null, .int 0] j := by
  intro j hj
  rcases (show j = 0 ∨ j = 1 ∨ j = 2 by omega) with rfl | rfl | rfl <;> rfl
def F_Si : u_T := fun k => match k with
  | 0 => ("TrustResolver$Signatures", "records", "LTrustResolver$Records;", true)
  | 1 => ("TrustResolver$Signatures", "sets", "[I", true)
  | 2 => ("TrustResolver$Signatures", "signers", "[I", true)
  | 3 => ("TrustResolver$Signatures", "keys", "[I", true)
  | 4 => ("TrustResolver$Signatures", "labels", "[I", true)
  | 5 => ("TrustResolver$Signatures", "firsts", "[I", true)
  | 6 => ("TrustResolver$Signatures", "lasts", "[I", true)
  | 7 => ("TrustResolver$Signatures", "signedNames", "[I", true)
  | 8 => ("TrustResolver$Signatures", "marks", "[I", true)
  | 9 => ("TrustResolver$Signatures", "good", "[Z", true)
  | 10 => ("TrustResolver$Signatures", "plain", "[Z", true)
  | 11 => ("TrustResolver$Signatures", "count", "I", false)
  | 12 => ("TrustResolver$Signatures", "newFirst", "I", false)
  | 13 => ("TrustResolver$Signatures", "newLast", "I", false)
  | _ => ("TrustResolver$Signatures", "now", "I", false)
def t_Si : Nat → FieldType := fun k => match k with
  | 0 => .object "TrustResolver$Records"
  | 1 => .array .int
  | 2 => .array .int
  | 3 => .array .int
  | 4 => .array .int
  | 5 => .array .int
  | 6 => .array .int
  | 7 => .array .int
  | 8 => .array .int
  | 9 => .array .boolean
  | 10 => .array .boolean
  | 11 => .int
  | 12 => .int
  | 13 => .int
  | _ => .int
theorem n_Si : ∀ a, a < 15 → ∀ b, b < 15 → a ≠ b → (F_Si a).2.1 ≠ (F_Si b).2.1 := by decide +kernel
theorem tok_Si : ∀ k, k < 15 → parseFieldDescriptor (F_Si k).2.2.1 = some (t_Si k) := by decide +kernel
theorem df_Si : ∀ j, j < 15 → defaultValue (t_Si j) = vp_V [.null, .null, .null, .null, .null, .null, .null, .null, .null, .null, .null, .int 0, .int 0, .int 0, .int 0] j := by
  intro j hj
  rcases (show j = 0 ∨ j = 1 ∨ j = 2 ∨ j = 3 ∨ j = 4 ∨ j = 5 ∨ j = 6 ∨ j = 7 ∨ j = 8 ∨ j = 9 ∨ j = 10 ∨ j = 11 ∨ j = 12 ∨ j = 13 ∨ j = 14 by omega) with rfl | rfl | rfl | rfl | rfl | rfl | rfl | rfl | rfl | rfl | rfl | rfl | rfl | rfl | rfl <;> rfl
def F_An : u_T := fun k => match k with
  | 0 => ("TrustResolver$Anchors", "zones", "[I", true)
  | 1 => ("TrustResolver$Anchors", "digests", "[I", true)
  | _ => ("TrustResolver$Anchors", "count", "I", false)
def t_An : Nat → FieldType := fun k => match k with
  | 0 => .array .int
  | 1 => .array .int
  | _ => .int
theorem n_An : ∀ a, a < 3 → ∀ b, b < 3 → a ≠ b → (F_An a).2.1 ≠ (F_An b).2.1 := by decide +kernel
theorem tok_An : ∀ k, k < 3 → parseFieldDescriptor (F_An k).2.2.1 = some (t_An k) := by decide +kernel
theorem df_An : ∀ j, j < 3 → defaultValue (t_An j) = vp_V [.null, .null, .int 0] j := by
  intro j hj
  rcases (show j = 0 ∨ j = 1 ∨ j = 2 by omega) with rfl | rfl | rfl <;> rfl
def F_Qu : u_T := fun k => match k with
  | 0 => ("TrustResolver$Question", "records", "LTrustResolver$Records;", true)
  | 1 => ("TrustResolver$Question", "signatures", "LTrustResolver$Signatures;", true)
  | 2 => ("TrustResolver$Question", "anchors", "LTrustResolver$Anchors;", true)
  | 3 => ("TrustResolver$Question", "digests", "LTrustResolver$Numbers;", true)
  | 4 => ("TrustResolver$Question", "keys", "LTrustResolver$Numbers;", true)
  | 5 => ("TrustResolver$Question", "zones", "[I", true)
  | 6 => ("TrustResolver$Question", "zoneCount", "I", false)
  | 7 => ("TrustResolver$Question", "zone", "I", false)
  | 8 => ("TrustResolver$Question", "name", "I", false)
  | 9 => ("TrustResolver$Question", "type", "I", false)
  | 10 => ("TrustResolver$Question", "countedKeys", "I", false)
  | _ => ("TrustResolver$Question", "why", "I", false)
def t_Qu : Nat → FieldType := fun k => match k with
  | 0 => .object "TrustResolver$Records"
  | 1 => .object "TrustResolver$Signatures"
  | 2 => .object "TrustResolver$Anchors"
  | 3 => .object "TrustResolver$Numbers"
  | 4 => .object "TrustResolver$Numbers"
  | 5 => .array .int
  | 6 => .int
  | 7 => .int
  | 8 => .int
  | 9 => .int
  | 10 => .int
  | _ => .int
theorem n_Qu : ∀ a, a < 12 → ∀ b, b < 12 → a ≠ b → (F_Qu a).2.1 ≠ (F_Qu b).2.1 := by decide +kernel
theorem tok_Qu : ∀ k, k < 12 → parseFieldDescriptor (F_Qu k).2.2.1 = some (t_Qu k) := by decide +kernel
theorem df_Qu : ∀ j, j < 12 → defaultValue (t_Qu j) = vp_V [.null, .null, .null, .null, .null, .null, .int 0, .int 0, .int 0, .int 0, .int 0, .int 0] j := by
  intro j hj
  rcases (show j = 0 ∨ j = 1 ∨ j = 2 ∨ j = 3 ∨ j = 4 ∨ j = 5 ∨ j = 6 ∨ j = 7 ∨ j = 8 ∨ j = 9 ∨ j = 10 ∨ j = 11 by omega) with rfl | rfl | rfl | rfl | rfl | rfl | rfl | rfl | rfl | rfl | rfl | rfl <;> rfl
def F_Nu : u_T := fun k => match k with
  | 0 => ("TrustResolver$Numbers", "numbers", "[I", true)
  | _ => ("TrustResolver$Numbers", "count", "I", false)
def t_Nu : Nat → FieldType := fun k => match k with
  | 0 => .array .int
  | _ => .int
theorem n_Nu : ∀ a, a < 2 → ∀ b, b < 2 → a ≠ b → (F_Nu a).2.1 ≠ (F_Nu b).2.1 := by decide +kernel
theorem tok_Nu : ∀ k, k < 2 → parseFieldDescriptor (F_Nu k).2.2.1 = some (t_Nu k) := by decide +kernel
theorem df_Nu : ∀ j, j < 2 → defaultValue (t_Nu j) = vp_V [.null, .int 0] j := by
  intro j hj
  rcases (show j = 0 ∨ j = 1 by omega) with rfl | rfl <;> rfl
def F_M : u_T := fun k => match k with
  | 0 => ("TrustResolverModel", "records", "I", false)
  | 1 => ("TrustResolverModel", "owners", "[I", true)
  | 2 => ("TrustResolverModel", "types", "[I", true)
  | 3 => ("TrustResolverModel", "datas", "[I", true)
  | 4 => ("TrustResolverModel", "firstTime", "I", false)
  | 5 => ("TrustResolverModel", "lastTime", "I", false)
  | 6 => ("TrustResolverModel", "signatures", "I", false)
  | 7 => ("TrustResolverModel", "signed", "[I", true)
  | 8 => ("TrustResolverModel", "signedTypes", "[I", true)
  | 9 => ("TrustResolverModel", "signers", "[I", true)
  | 10 => ("TrustResolverModel", "keys", "[I", true)
  | 11 => ("TrustResolverModel", "labels", "[I", true)
  | 12 => ("TrustResolverModel", "froms", "[I", true)
  | 13 => ("TrustResolverModel", "tos", "[I", true)
  | 14 => ("TrustResolverModel", "marks", "[I", true)
  | 15 => ("TrustResolverModel", "anchors", "I", false)
  | 16 => ("TrustResolverModel", "anchorZones", "[I", true)
  | 17 => ("TrustResolverModel", "anchorDigests", "[I", true)
  | 18 => ("TrustResolverModel", "time", "I", false)
  | 19 => ("TrustResolverModel", "reason", "I", false)
  | 20 => ("TrustResolverModel", "askedName", "I", false)
  | 21 => ("TrustResolverModel", "askedType", "I", false)
  | 22 => ("TrustResolverModel", "zones", "I", false)
  | 23 => ("TrustResolverModel", "zone", "[I", true)
  | 24 => ("TrustResolverModel", "counted", "I", false)
  | 25 => ("TrustResolverModel", "all", "Z", false)
  | 26 => ("TrustResolverModel", "trusted", "I", false)
  | _ => ("TrustResolverModel", "mixed", "J", false)
def t_M : Nat → FieldType := fun k => match k with
  | 0 => .int
  | 1 => .array .int
  | 2 => .array .int
  | 3 => .array .int
  | 4 => .int
  | 5 => .int
  | 6 => .int
  | 7 => .array .int
  | 8 => .array .int
  | 9 => .array .int
  | 10 => .array .int
  | 11 => .array .int
  | 12 => .array .int
  | 13 => .array .int
  | 14 => .array .int
  | 15 => .int
  | 16 => .array .int
  | 17 => .array .int
  | 18 => .int
  | 19 => .int
  | 20 => .int
  | 21 => .int
  | 22 => .int
  | 23 => .array .int
  | 24 => .int
  | 25 => .boolean
  | 26 => .int
  | _ => .long
theorem n_M : ∀ a, a < 28 → ∀ b, b < 28 → a ≠ b → (F_M a).2.1 ≠ (F_M b).2.1 := by decide +kernel
theorem tok_M : ∀ k, k < 28 → parseFieldDescriptor (F_M k).2.2.1 = some (t_M k) := by decide +kernel
theorem df_M : ∀ j, j < 28 → defaultValue (t_M j) = vp_V [.int 0, .null, .null, .null, .int 0, .int 0, .int 0, .null, .null, .null, .null, .null, .null, .null, .null, .int 0, .null, .null, .int 0, .int 0, .int 0, .int 0, .int 0, .null, .int 0, .int 0, .int 0, .long 0] j := by
  intro j hj
  rcases (show j = 0 ∨ j = 1 ∨ j = 2 ∨ j = 3 ∨ j = 4 ∨ j = 5 ∨ j = 6 ∨ j = 7 ∨ j = 8 ∨ j = 9 ∨ j = 10 ∨ j = 11 ∨ j = 12 ∨ j = 13 ∨ j = 14 ∨ j = 15 ∨ j = 16 ∨ j = 17 ∨ j = 18 ∨ j = 19 ∨ j = 20 ∨ j = 21 ∨ j = 22 ∨ j = 23 ∨ j = 24 ∨ j = 25 ∨ j = 26 ∨ j = 27 by omega) with rfl | rfl | rfl | rfl | rfl | rfl | rfl | rfl | rfl | rfl | rfl | rfl | rfl | rfl | rfl | rfl | rfl | rfl | rfl | rfl | rfl | rfl | rfl | rfl | rfl | rfl | rfl | rfl <;> rfl
abbrev vwCl : List vw_C := [("TrustResolver", F_R, 4), ("TrustResolver$Records", F_Re, 3), ("TrustResolver$Signatures", F_Si, 15), ("TrustResolver$Anchors", F_An, 3), ("TrustResolver$Question", F_Qu, 12), ("TrustResolver$Numbers", F_Nu, 2), ("TrustResolverModel", F_M, 28)]
