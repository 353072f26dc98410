set_option maxRecDepth 20000 in
theorem wsL_in_19 : ∀ w ∈ wsL_law_r19, w ∈ lw_tbl := fun w h => (goodIn_p wsL_law_r19 [443, 447, 929, 451, 456, 933] rfl (by decide +kernel) w h).1
set_option maxRecDepth 20000 in
theorem wsL_in_20 : ∀ w ∈ wsL_law_r20, w ∈ lw_tbl := fun w h => (goodIn_p wsL_law_r20 [937, 460, 464, 468, 475] rfl (by decide +kernel) w h).1
set_option maxRecDepth 20000 in
theorem wsL_in_21 : ∀ w ∈ wsL_law_r21, w ∈ lw_tbl := fun w h => (goodIn_p wsL_law_r21 [942, 946, 479, 483, 950, 954] rfl (by decide +kernel) w h).1
set_option maxRecDepth 20000 in
theorem wsL_in_22 : ∀ w ∈ wsL_law_r22, w ∈ lw_tbl := fun w h => (goodIn_p wsL_law_r22 [487, 491, 499, 496, 958, 962] rfl (by decide +kernel) w h).1
set_option maxRecDepth 20000 in
theorem wsL_in_23 : ∀ w ∈ wsL_law_r23, w ∈ lw_tbl := fun w h => (goodIn_p wsL_law_r23 [503, 507, 966, 511, 515] rfl (by decide +kernel) w h).1
set_option maxRecDepth 20000 in
theorem wsL_in_24 : ∀ w ∈ wsL_law_r24, w ∈ lw_tbl := fun w h => (goodIn_p wsL_law_r24 [970, 974, 977, 520, 524, 981, 985] rfl (by decide +kernel) w h).1
set_option maxRecDepth 20000 in
theorem wsL_in_25 : ∀ w ∈ wsL_law_r25, w ∈ lw_tbl := fun w h => (goodIn_p wsL_law_r25 [528, 989, 532, 536, 993] rfl (by decide +kernel) w h).1
set_option maxRecDepth 20000 in
theorem wsL_in_26 : ∀ w ∈ wsL_law_r26, w ∈ lw_tbl := fun w h => (goodIn_p wsL_law_r26 [997, 541, 545, 549, 556, 560] rfl (by decide +kernel) w h).1
set_option maxRecDepth 20000 in
theorem wsL_in_27 : ∀ w ∈ wsL_law_r27, w ∈ lw_tbl := fun w h => (goodIn_p wsL_law_r27 [566, 569, 1001, 1005] rfl (by decide +kernel) w h).1
set_option maxRecDepth 20000 in
theorem wsL_in_28 : ∀ w ∈ wsL_law_r28, w ∈ lw_tbl := fun w h => (goodIn_p wsL_law_r28 [576, 581, 1009, 585, 588, 592] rfl (by decide +kernel) w h).1
set_option maxRecDepth 20000 in
theorem wsL_in_29 : ∀ w ∈ wsL_law_r29, w ∈ lw_tbl := fun w h => (goodIn_p wsL_law_r29 [1013, 596, 600, 1018, 604, 608] rfl (by decide +kernel) w h).1
set_option maxRecDepth 20000 in
theorem wsL_in_30 : ∀ w ∈ wsL_law_r30, w ∈ lw_tbl := fun w h => (goodIn_p wsL_law_r30 [612, 616, 622, 628, 632] rfl (by decide +kernel) w h).1
set_option maxRecDepth 20000 in
theorem wsL_in_31 : ∀ w ∈ wsL_law_r31, w ∈ lw_tbl := fun w h => (goodIn_p wsL_law_r31 [1022, 1026, 1029, 1033, 1036, 636] rfl (by decide +kernel) w h).1
set_option maxRecDepth 20000 in
theorem wsL_in_32 : ∀ w ∈ wsL_law_r32, w ∈ lw_tbl := fun w h => (goodIn_p wsL_law_r32 [1040, 640, 646, 649, 652] rfl (by decide +kernel) w h).1
set_option maxRecDepth 20000 in
theorem wsL_in_33 : ∀ w ∈ wsL_law_r33, w ∈ lw_tbl := fun w h => (goodIn_p wsL_law_r33 [657, 1044, 661, 664, 668, 673] rfl (by decide +kernel) w h).1
set_option maxRecDepth 20000 in
theorem wsL_in_34 : ∀ w ∈ wsL_law_r34, w ∈ lw_tbl := fun w h => (goodIn_p wsL_law_r34 [1050, 1053, 1057, 1061, 677, 1065] rfl (by decide +kernel) w h).1
set_option maxRecDepth 20000 in
theorem wsL_in_35 : ∀ w ∈ wsL_law_r35, w ∈ lw_tbl := fun w h => (goodIn_p wsL_law_r35 [681, 684, 1069, 688, 692, 1073] rfl (by decide +kernel) w h).1
set_option maxRecDepth 20000 in
theorem wsL_in_36 : ∀ w ∈ wsL_law_r36, w ∈ lw_tbl := fun w h => (goodIn_p wsL_law_r36 [696, 700, 704, 708, 1077] rfl (by decide +kernel) w h).1
set_option maxRecDepth 20000 in
theorem wsL_inX7 : ∀ w ∈ wsX70, w ∈ lw_tbl := by decide +kernel
set_option maxRecDepth 20000 in
theorem wsL_inX8 : ∀ w ∈ wsX80, w ∈ lw_tbl := by decide +kernel
set_option maxRecDepth 20000 in
theorem wsL_inX5 : ∀ w ∈ wsX50, w ∈ lw_tbl := by decide +kernel
set_option maxRecDepth 20000 in
theorem wsL_inX4 : ∀ w ∈ wsX40, w ∈ lw_tbl := by decide +kernel
set_option maxRecDepth 20000 in
theorem wsL_inX6 : ∀ w ∈ wsX60, w ∈ lw_tbl := by decide +kernel
set_option maxRecDepth 20000 in
theorem wsL_inX0 : ∀ w ∈ wsX00, w ∈ lw_tbl := by decide +kernel
set_option maxRecDepth 20000 in
theorem wsL_inX3 : ∀ w ∈ wsX30, w ∈ lw_tbl := by decide +kernel
set_option maxRecDepth 20000 in
theorem wsL_inX1 : ∀ w ∈ wsX10, w ∈ lw_tbl := by decide +kernel
set_option maxRecDepth 20000 in
theorem wsL_inX2 : ∀ w ∈ wsX20, w ∈ lw_tbl := by decide +kernel
theorem wsL_in : ∀ w ∈ wsL_law, w ∈ lw_tbl := List.forall_mem_append.mpr ⟨List.forall_mem_append.mpr ⟨List.forall_mem_append.mpr ⟨List.forall_mem_append.mpr ⟨List.forall_mem_append.mpr ⟨List.forall_mem_append.mpr ⟨List.forall_mem_append.mpr ⟨List.forall_mem_append.mpr ⟨List.forall_mem_append.mpr ⟨List.forall_mem_append.mpr ⟨List.forall_mem_append.mpr ⟨wsL_in_1, List.forall_mem_append.mpr ⟨wsL_in_2, List.forall_mem_append.mpr ⟨wsL_in_3, List.forall_mem_append.mpr ⟨wsL_in_4, List.forall_mem_append.mpr ⟨wsL_in_5, List.forall_mem_append.mpr ⟨wsL_in_6, List.forall_mem_append.mpr ⟨wsL_in_7, List.forall_mem_append.mpr ⟨wsL_in_8, List.forall_mem_append.mpr ⟨wsL_in_9, List.forall_mem_append.mpr ⟨wsL_in_10, List.forall_mem_append.mpr ⟨wsL_in_11, List.forall_mem_append.mpr ⟨wsL_in_12, List.forall_mem_append.mpr ⟨wsL_in_13, List.forall_mem_append.mpr ⟨wsL_in_14, List.forall_mem_append.mpr ⟨wsL_in_15, List.forall_mem_append.mpr ⟨wsL_in_16, List.forall_mem_append.mpr ⟨wsL_in_17, List.forall_mem_append.mpr ⟨wsL_in_18, List.forall_mem_append.mpr ⟨wsL_in_19, List.forall_mem_append.mpr ⟨wsL_in_20, List.forall_mem_append.mpr ⟨wsL_in_21, List.forall_mem_append.mpr ⟨wsL_in_22, List.forall_mem_append.mpr ⟨wsL_in_23, List.forall_mem_append.mpr ⟨wsL_in_24, List.forall_mem_append.mpr ⟨wsL_in_25, List.forall_mem_append.mpr ⟨wsL_in_26, List.forall_mem_append.mpr ⟨wsL_in_27, List.forall_mem_append.mpr ⟨wsL_in_28, List.forall_mem_append.mpr ⟨wsL_in_29, List.forall_mem_append.mpr ⟨wsL_in_30, List.forall_mem_append.mpr ⟨wsL_in_31, List.forall_mem_append.mpr ⟨wsL_in_32, List.forall_mem_append.mpr ⟨wsL_in_33, List.forall_mem_append.mpr ⟨wsL_in_34, List.forall_mem_append.mpr ⟨wsL_in_35, wsL_in_36⟩⟩⟩⟩⟩⟩⟩⟩⟩⟩⟩⟩⟩⟩⟩⟩⟩⟩⟩⟩⟩⟩⟩⟩⟩⟩⟩⟩⟩⟩⟩⟩⟩⟩⟩, wsL_inX7⟩, wsL_inX8⟩, wsL_inX5⟩, wsL_inX4⟩, wsL_inX6⟩, wsL_inX0⟩, wsL_inX3⟩, wsL_inX1⟩, wsL_inX2⟩, fun _ h => absurd h List.not_mem_nil⟩
