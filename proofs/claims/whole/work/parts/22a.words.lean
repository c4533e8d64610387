/-! words of the tables that stand at the start alone -/
set_option maxRecDepth 20000 in
theorem gnw_0 : (Cond.methodLinkNest (g_cn 10) 11 (g_nm 60) "GapProofs") ∈ lw_tbl := (List.mem_append_right _ (List.mem_append_left _ (List.mem_of_getElem? (i := 29) rfl)))
set_option maxRecDepth 20000 in
theorem gnw_1 : (Cond.methodLinkNest (g_cn 5) 24 (g_nm 77) "GapProofs") ∈ lw_tbl := (List.mem_append_right _ (List.mem_append_left _ (List.mem_of_getElem? (i := 86) rfl)))
set_option maxRecDepth 20000 in
theorem gnw_2 : (Cond.methodLinkNest (g_cn 9) 11 (g_nm 77) "GapProofs") ∈ lw_tbl := (List.mem_append_right _ (List.mem_append_left _ (List.mem_of_getElem? (i := 158) rfl)))
set_option maxRecDepth 20000 in
theorem gnw_3 : (Cond.methodLinkNest (g_cn 9) 33 (g_nm 1) "GapProofs") ∈ lw_tbl := (List.mem_append_right _ (List.mem_append_left _ (List.mem_of_getElem? (i := 163) rfl)))
set_option maxRecDepth 20000 in
theorem gnw_4 : (Cond.methodLinkNest (g_cn 9) 38 (g_nm 21) "GapProofs") ∈ lw_tbl := (List.mem_append_right _ (List.mem_append_left _ (List.mem_of_getElem? (i := 188) rfl)))
set_option maxRecDepth 20000 in
theorem gnw_5 : (Cond.methodLinkNest (g_cn 4) 29 (g_nm 10) "GapProofs") ∈ lw_tbl := (List.mem_append_right _ (List.mem_append_right _ (List.mem_append_left _ (List.mem_of_getElem? (i := 39) rfl))))
set_option maxRecDepth 20000 in
theorem gnw_6 : (Cond.methodLinkNest (g_cn 8) 158 (g_nm 154) "GapProofs") ∈ lw_tbl := (List.mem_append_right _ (List.mem_append_right _ (List.mem_append_right _ (List.mem_append_right _ (List.mem_append_left _ (List.mem_of_getElem? (i := 194) rfl))))))
theorem gnw_ok : ∀ q ∈ g_nst, (Cond.methodLinkNest (g_cn q.1) q.2.1 (g_nm q.2.2) "GapProofs") ∈ lw_tbl := (List.forall_mem_cons.mpr ⟨gnw_0, (List.forall_mem_cons.mpr ⟨gnw_1, (List.forall_mem_cons.mpr ⟨gnw_2, (List.forall_mem_cons.mpr ⟨gnw_3, (List.forall_mem_cons.mpr ⟨gnw_4, (List.forall_mem_cons.mpr ⟨gnw_5, (List.forall_mem_cons.mpr ⟨gnw_6, (fun _ h => absurd h List.not_mem_nil)⟩)⟩)⟩)⟩)⟩)⟩)⟩)
set_option maxRecDepth 20000 in
theorem gao_1 : (Cond.arrayOver (.object RX1)) ∈ lw_tbl := (List.mem_append_right _ (List.mem_append_right _ (List.mem_append_left _ (List.mem_of_getElem? (i := 37) rfl))))
set_option maxRecDepth 20000 in
theorem gao_2 : (Cond.arrayOver (.object RX2)) ∈ lw_tbl := (List.mem_append_right _ (List.mem_append_left _ (List.mem_of_getElem? (i := 160) rfl)))
set_option maxRecDepth 20000 in
theorem gao_10 : (Cond.arrayOver (.object RX10)) ∈ lw_tbl := (List.mem_append_right _ (List.mem_append_right _ (List.mem_append_left _ (List.mem_of_getElem? (i := 1) rfl))))
set_option maxRecDepth 20000 in
theorem gao_a : (Cond.arrayOver (.array .int)) ∈ lw_tbl := (List.mem_append_right _ (List.mem_append_left _ (List.mem_of_getElem? (i := 168) rfl)))
set_option maxRecDepth 20000 in
theorem gsr_0 : (Cond.stringRef (g_cn 5) 89 (g_strs.getD 0 "")) ∈ lw_tbl := (List.mem_append_right _ (List.mem_append_right _ (List.mem_append_right _ (List.mem_append_left _ (List.mem_of_getElem? (i := 8) rfl)))))
set_option maxRecDepth 20000 in
theorem gsr_1 : (Cond.stringRef (g_cn 5) 99 (g_strs.getD 1 "")) ∈ lw_tbl := (List.mem_append_right _ (List.mem_append_right _ (List.mem_append_right _ (List.mem_append_left _ (List.mem_of_getElem? (i := 101) rfl)))))
set_option maxRecDepth 20000 in
theorem gsr_2 : (Cond.stringRef (g_cn 5) 101 (g_strs.getD 2 "")) ∈ lw_tbl := (List.mem_append_right _ (List.mem_append_right _ (List.mem_append_right _ (List.mem_append_left _ (List.mem_of_getElem? (i := 102) rfl)))))
set_option maxRecDepth 20000 in
theorem gsr_3 : (Cond.stringRef (g_cn 5) 106 (g_strs.getD 3 "")) ∈ lw_tbl := (List.mem_append_right _ (List.mem_append_right _ (List.mem_append_right _ (List.mem_append_left _ (List.mem_of_getElem? (i := 127) rfl)))))
set_option maxRecDepth 20000 in
theorem gsr_4 : (Cond.stringRef (g_cn 5) 127 (g_strs.getD 4 "")) ∈ lw_tbl := (List.mem_append_right _ (List.mem_append_right _ (List.mem_append_right _ (List.mem_append_left _ (List.mem_of_getElem? (i := 107) rfl)))))
set_option maxRecDepth 20000 in
theorem gsr_5 : (Cond.stringRef (g_cn 5) 129 (g_strs.getD 5 "")) ∈ lw_tbl := (List.mem_append_right _ (List.mem_append_right _ (List.mem_append_right _ (List.mem_append_left _ (List.mem_of_getElem? (i := 108) rfl)))))
set_option maxRecDepth 20000 in
theorem gsr_6 : (Cond.stringRef (g_cn 5) 131 (g_strs.getD 6 "")) ∈ lw_tbl := (List.mem_append_right _ (List.mem_append_right _ (List.mem_append_right _ (List.mem_append_left _ (List.mem_of_getElem? (i := 109) rfl)))))
theorem gsr_ok : ∀ q ∈ g_sr, (Cond.stringRef (g_cn q.1) q.2.1 (g_strs.getD q.2.2 "")) ∈ lw_tbl := (List.forall_mem_cons.mpr ⟨gsr_0, (List.forall_mem_cons.mpr ⟨gsr_1, (List.forall_mem_cons.mpr ⟨gsr_2, (List.forall_mem_cons.mpr ⟨gsr_3, (List.forall_mem_cons.mpr ⟨gsr_4, (List.forall_mem_cons.mpr ⟨gsr_5, (List.forall_mem_cons.mpr ⟨gsr_6, (fun _ h => absurd h List.not_mem_nil)⟩)⟩)⟩)⟩)⟩)⟩)⟩)
set_option maxRecDepth 20000 in
theorem jls_cmp : (Cond.laysStatic "java/lang/String" "COMPACT_STRINGS" "Z") ∈ lw_tbl := (List.mem_append_right _ (List.mem_append_right _ (List.mem_append_right _ (List.mem_append_left _ (List.mem_of_getElem? (i := 22) rfl)))))
set_option maxRecDepth 20000 in
theorem jls_fmt : (Cond.laysStatic "jdk/internal/util/Preconditions" "SIOOBE_FORMATTER" "Ljava/util/function/BiFunction;") ∈ lw_tbl := (List.mem_append_right _ (List.mem_append_right _ (List.mem_append_right _ (List.mem_append_left _ (List.mem_of_getElem? (i := 38) rfl)))))
