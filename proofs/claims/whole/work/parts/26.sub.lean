theorem TBs_0 : ∀ w ∈ TB_0, w ∈ lw_tbl := by decide +kernel
theorem TBs_1 : ∀ w ∈ TB_1, w ∈ lw_tbl := by decide +kernel
theorem TBs_2 : ∀ w ∈ TB_2, w ∈ lw_tbl := by decide +kernel
theorem TBs_3 : ∀ w ∈ TB_3, w ∈ lw_tbl := by decide +kernel
theorem TBs_4 : ∀ w ∈ TB_4, w ∈ lw_tbl := by decide +kernel
theorem TBs_5 : ∀ w ∈ TB_5, w ∈ lw_tbl := by decide +kernel
theorem TBs_6 : ∀ w ∈ TB_6, w ∈ lw_tbl := by decide +kernel
theorem TBs_7 : ∀ w ∈ TB_7, w ∈ lw_tbl := by decide +kernel
theorem TBs_8 : ∀ w ∈ TB_8, w ∈ lw_tbl := by decide +kernel
theorem TBs_9 : ∀ w ∈ TB_9, w ∈ lw_tbl := by decide +kernel
theorem TBs_10 : ∀ w ∈ TB_10, w ∈ lw_tbl := by decide +kernel
theorem TBs_11 : ∀ w ∈ TB_11, w ∈ lw_tbl := by decide +kernel
theorem TBs_12 : ∀ w ∈ TB_12, w ∈ lw_tbl := by decide +kernel
theorem TBs_13 : ∀ w ∈ TB_13, w ∈ lw_tbl := by decide +kernel
theorem TBs_14 : ∀ w ∈ TB_14, w ∈ lw_tbl := by decide +kernel
theorem TBs_15 : ∀ w ∈ TB_15, w ∈ lw_tbl := by decide +kernel
theorem TBs_16 : ∀ w ∈ TB_16, w ∈ lw_tbl := by decide +kernel
theorem TBs_17 : ∀ w ∈ TB_17, w ∈ lw_tbl := by decide +kernel
theorem TBs_18 : ∀ w ∈ TB_18, w ∈ lw_tbl := by decide +kernel
theorem TBs_19 : ∀ w ∈ TB_19, w ∈ lw_tbl := by decide +kernel
theorem TBs_20 : ∀ w ∈ TB_20, w ∈ lw_tbl := by decide +kernel
theorem tb_sub : ∀ w ∈ TB, w ∈ lw_tbl := by
  unfold TB
  exact List.forall_mem_append.mpr ⟨TBs_0, List.forall_mem_append.mpr ⟨TBs_1, List.forall_mem_append.mpr ⟨TBs_2, List.forall_mem_append.mpr ⟨TBs_3, List.forall_mem_append.mpr ⟨TBs_4, List.forall_mem_append.mpr ⟨TBs_5, List.forall_mem_append.mpr ⟨TBs_6, List.forall_mem_append.mpr ⟨TBs_7, List.forall_mem_append.mpr ⟨TBs_8, List.forall_mem_append.mpr ⟨TBs_9, List.forall_mem_append.mpr ⟨TBs_10, List.forall_mem_append.mpr ⟨TBs_11, List.forall_mem_append.mpr ⟨TBs_12, List.forall_mem_append.mpr ⟨TBs_13, List.forall_mem_append.mpr ⟨TBs_14, List.forall_mem_append.mpr ⟨TBs_15, List.forall_mem_append.mpr ⟨TBs_16, List.forall_mem_append.mpr ⟨TBs_17, List.forall_mem_append.mpr ⟨TBs_18, List.forall_mem_append.mpr ⟨TBs_19, TBs_20⟩⟩⟩⟩⟩⟩⟩⟩⟩⟩⟩⟩⟩⟩⟩⟩⟩⟩⟩⟩
theorem nl_sub : ∀ w ∈ NL, w ∈ lw_tbl := by decide +kernel
theorem nl_on : NL.all Cond.onTables = true := by decide +kernel
