/-! WHAT THE TABLES SAY IS TRUE. -/
/-- the words that a method may be called with: those of the tables that stay true -/
def gG : List Cond := lw_tbl.filter goodWord
theorem gG_good {Ts : List Cond} (h : ∀ w ∈ gG, w ∈ Ts) : GoodIn Ts gG := fun w hw => ⟨h w hw, good_of_word (List.mem_filter.mp hw).2⟩
theorem gG_of {w : Cond} (h : w ∈ tables_1) (hg : goodWord w = true) : w ∈ gG := List.mem_filter.mpr ⟨List.mem_append_right _ h, hg⟩
theorem gG_sel {q : MethodName × Nat} (h : q ∈ lw_privs) (hg : goodWord (Cond.selects q.1.cls q.1 q.1) = true) : (Cond.selects q.1.cls q.1 q.1) ∈ gG := List.mem_filter.mpr ⟨List.mem_append_left _ (List.mem_map.mpr ⟨q, h, rfl⟩), hg⟩
theorem gin_1 {k : Nat} {w : Cond} (h : tables_1_1[k]? = some w) (hg : goodWord w = true) : w ∈ gG := gG_of (List.mem_append_left _ (List.mem_of_getElem? h)) hg
theorem gin_2 {k : Nat} {w : Cond} (h : tables_1_2[k]? = some w) (hg : goodWord w = true) : w ∈ gG := gG_of (List.mem_append_right _ (List.mem_append_left _ (List.mem_of_getElem? h))) hg
theorem gin_3 {k : Nat} {w : Cond} (h : tables_1_3[k]? = some w) (hg : goodWord w = true) : w ∈ gG := gG_of (List.mem_append_right _ (List.mem_append_right _ (List.mem_append_left _ (List.mem_of_getElem? h)))) hg
theorem gin_4 {k : Nat} {w : Cond} (h : tables_1_4[k]? = some w) (hg : goodWord w = true) : w ∈ gG := gG_of (List.mem_append_right _ (List.mem_append_right _ (List.mem_append_right _ (List.mem_append_left _ (List.mem_of_getElem? h))))) hg
theorem gin_5 {k : Nat} {w : Cond} (h : tables_1_5[k]? = some w) (hg : goodWord w = true) : w ∈ gG := gG_of (List.mem_append_right _ (List.mem_append_right _ (List.mem_append_right _ (List.mem_append_right _ (List.mem_append_left _ (List.mem_of_getElem? h)))))) hg
theorem gin_6 {k : Nat} {w : Cond} (h : tables_1_6[k]? = some w) (hg : goodWord w = true) : w ∈ gG := gG_of (List.mem_append_right _ (List.mem_append_right _ (List.mem_append_right _ (List.mem_append_right _ (List.mem_append_right _ (List.mem_append_left _ (List.mem_of_getElem? h))))))) hg
theorem gin_7 {k : Nat} {w : Cond} (h : tables_1_7[k]? = some w) (hg : goodWord w = true) : w ∈ gG := gG_of (List.mem_append_right _ (List.mem_append_right _ (List.mem_append_right _ (List.mem_append_right _ (List.mem_append_right _ (List.mem_append_right _ (List.mem_append_left _ (List.mem_of_getElem? h)))))))) hg
theorem gin_8 {k : Nat} {w : Cond} (h : tables_1_8[k]? = some w) (hg : goodWord w = true) : w ∈ gG := gG_of (List.mem_append_right _ (List.mem_append_right _ (List.mem_append_right _ (List.mem_append_right _ (List.mem_append_right _ (List.mem_append_right _ (List.mem_append_right _ (List.mem_of_getElem? h)))))))) hg
theorem gin_p1 {k : Nat} {q : MethodName × Nat} (h : lw_privs_1[k]? = some q) (hg : goodWord (Cond.selects q.1.cls q.1 q.1) = true) : (Cond.selects q.1.cls q.1 q.1) ∈ gG := gG_sel (List.mem_append_left _ (List.mem_of_getElem? h)) hg
theorem gin_p2 {k : Nat} {q : MethodName × Nat} (h : lw_privs_2[k]? = some q) (hg : goodWord (Cond.selects q.1.cls q.1 q.1) = true) : (Cond.selects q.1.cls q.1 q.1) ∈ gG := gG_sel (List.mem_append_right _ (List.mem_append_left _ (List.mem_of_getElem? h))) hg
theorem gin_p3 {k : Nat} {q : MethodName × Nat} (h : lw_privs_3[k]? = some q) (hg : goodWord (Cond.selects q.1.cls q.1 q.1) = true) : (Cond.selects q.1.cls q.1 q.1) ∈ gG := gG_sel (List.mem_append_right _ (List.mem_append_right _ (List.mem_append_left _ (List.mem_of_getElem? h)))) hg
theorem gin_p4 {k : Nat} {q : MethodName × Nat} (h : lw_privs_4[k]? = some q) (hg : goodWord (Cond.selects q.1.cls q.1 q.1) = true) : (Cond.selects q.1.cls q.1 q.1) ∈ gG := gG_sel (List.mem_append_right _ (List.mem_append_right _ (List.mem_append_right _ (List.mem_append_left _ (List.mem_of_getElem? h))))) hg
theorem gin_p5 {k : Nat} {q : MethodName × Nat} (h : lw_privs_5[k]? = some q) (hg : goodWord (Cond.selects q.1.cls q.1 q.1) = true) : (Cond.selects q.1.cls q.1 q.1) ∈ gG := gG_sel (List.mem_append_right _ (List.mem_append_right _ (List.mem_append_right _ (List.mem_append_right _ (List.mem_append_left _ (List.mem_of_getElem? h)))))) hg
theorem gin_p6 {k : Nat} {q : MethodName × Nat} (h : lw_privs_6[k]? = some q) (hg : goodWord (Cond.selects q.1.cls q.1 q.1) = true) : (Cond.selects q.1.cls q.1 q.1) ∈ gG := gG_sel (List.mem_append_right _ (List.mem_append_right _ (List.mem_append_right _ (List.mem_append_right _ (List.mem_append_right _ (List.mem_append_left _ (List.mem_of_getElem? h))))))) hg
theorem gin_p7 {k : Nat} {q : MethodName × Nat} (h : lw_privs_7[k]? = some q) (hg : goodWord (Cond.selects q.1.cls q.1 q.1) = true) : (Cond.selects q.1.cls q.1 q.1) ∈ gG := gG_sel (List.mem_append_right _ (List.mem_append_right _ (List.mem_append_right _ (List.mem_append_right _ (List.mem_append_right _ (List.mem_append_right _ (List.mem_append_left _ (List.mem_of_getElem? h)))))))) hg
theorem gin_p8 {k : Nat} {q : MethodName × Nat} (h : lw_privs_8[k]? = some q) (hg : goodWord (Cond.selects q.1.cls q.1 q.1) = true) : (Cond.selects q.1.cls q.1 q.1) ∈ gG := gG_sel (List.mem_append_right _ (List.mem_append_right _ (List.mem_append_right _ (List.mem_append_right _ (List.mem_append_right _ (List.mem_append_right _ (List.mem_append_right _ (List.mem_of_getElem? h)))))))) hg
def gmok (y : Nat) : Prop := (Cond.code (g_nm y) (g_code y) (g_mL y) (g_rt y)) ∈ gG ∧ (Cond.initialized (g_nm y).cls) ∈ gG ∧
  (match g_md y with
    | 0 => (Cond.static (g_nm y)) ∈ gG
    | 1 => (Cond.instanceMethod (g_nm y)) ∈ gG ∧ (Cond.selects (g_nm y).cls (g_nm y) (g_nm y)) ∈ gG
    | 2 => (Cond.instanceMethod (g_nm y)) ∈ gG ∧ (g_nm y).name = "<init>"
    | _ => False) ∧
  (g_nm y).cls = g_cn (g_own y) ∧ plainName (g_nm y).cls = true ∧ ((g_nm y).cls ≠ "java/lang/invoke/MethodHandle" ∧ (g_nm y).cls ≠ "java/lang/invoke/VarHandle" ∧ (parseMethodDescriptor (g_nm y).desc).map (fun d => d.parameters.length) = some (g_na y - (if g_md y = 0 then 0 else 1))) ∧ (g_mL y ≤ 23 ∧ (g_md y = 0 ∨ 1 ≤ g_na y))
theorem gpn_0 : plainName (g_cn 0) = true := by decide +kernel
theorem gne_0 : g_cn 0 ≠ "java/lang/invoke/MethodHandle" ∧ g_cn 0 ≠ "java/lang/invoke/VarHandle" := by decide +kernel
theorem gpn_1 : plainName (g_cn 1) = true := by decide +kernel
theorem gne_1 : g_cn 1 ≠ "java/lang/invoke/MethodHandle" ∧ g_cn 1 ≠ "java/lang/invoke/VarHandle" := by decide +kernel
theorem gpn_2 : plainName (g_cn 2) = true := by decide +kernel
theorem gne_2 : g_cn 2 ≠ "java/lang/invoke/MethodHandle" ∧ g_cn 2 ≠ "java/lang/invoke/VarHandle" := by decide +kernel
theorem gpn_3 : plainName (g_cn 3) = true := by decide +kernel
theorem gne_3 : g_cn 3 ≠ "java/lang/invoke/MethodHandle" ∧ g_cn 3 ≠ "java/lang/invoke/VarHandle" := by decide +kernel
theorem gpn_4 : plainName (g_cn 4) = true := by decide +kernel
theorem gne_4 : g_cn 4 ≠ "java/lang/invoke/MethodHandle" ∧ g_cn 4 ≠ "java/lang/invoke/VarHandle" := by decide +kernel
theorem gpn_5 : plainName (g_cn 5) = true := by decide +kernel
theorem gne_5 : g_cn 5 ≠ "java/lang/invoke/MethodHandle" ∧ g_cn 5 ≠ "java/lang/invoke/VarHandle" := by decide +kernel
theorem gpn_6 : plainName (g_cn 6) = true := by decide +kernel
theorem gne_6 : g_cn 6 ≠ "java/lang/invoke/MethodHandle" ∧ g_cn 6 ≠ "java/lang/invoke/VarHandle" := by decide +kernel
theorem gpn_7 : plainName (g_cn 7) = true := by decide +kernel
theorem gne_7 : g_cn 7 ≠ "java/lang/invoke/MethodHandle" ∧ g_cn 7 ≠ "java/lang/invoke/VarHandle" := by decide +kernel
theorem gpn_8 : plainName (g_cn 8) = true := by decide +kernel
theorem gne_8 : g_cn 8 ≠ "java/lang/invoke/MethodHandle" ∧ g_cn 8 ≠ "java/lang/invoke/VarHandle" := by decide +kernel
theorem gpn_9 : plainName (g_cn 9) = true := by decide +kernel
theorem gne_9 : g_cn 9 ≠ "java/lang/invoke/MethodHandle" ∧ g_cn 9 ≠ "java/lang/invoke/VarHandle" := by decide +kernel
theorem gpn_10 : plainName (g_cn 10) = true := by decide +kernel
theorem gne_10 : g_cn 10 ≠ "java/lang/invoke/MethodHandle" ∧ g_cn 10 ≠ "java/lang/invoke/VarHandle" := by decide +kernel
theorem gpn_11 : plainName (g_cn 11) = true := by decide +kernel
theorem gne_11 : g_cn 11 ≠ "java/lang/invoke/MethodHandle" ∧ g_cn 11 ≠ "java/lang/invoke/VarHandle" := by decide +kernel
theorem gpn_12 : plainName (g_cn 12) = true := by decide +kernel
theorem gne_12 : g_cn 12 ≠ "java/lang/invoke/MethodHandle" ∧ g_cn 12 ≠ "java/lang/invoke/VarHandle" := by decide +kernel
theorem gpn_13 : plainName (g_cn 13) = true := by decide +kernel
theorem gne_13 : g_cn 13 ≠ "java/lang/invoke/MethodHandle" ∧ g_cn 13 ≠ "java/lang/invoke/VarHandle" := by decide +kernel
theorem gpd_0 : (parseMethodDescriptor "()I").map (fun d => d.parameters.length) = some 0 := by decide +kernel
theorem gpd_1 : (parseMethodDescriptor "()J").map (fun d => d.parameters.length) = some 0 := by decide +kernel
theorem gpd_2 : (parseMethodDescriptor "()V").map (fun d => d.parameters.length) = some 0 := by decide +kernel
theorem gpd_3 : (parseMethodDescriptor "()Z").map (fun d => d.parameters.length) = some 0 := by decide +kernel
theorem gpd_4 : (parseMethodDescriptor "(I)I").map (fun d => d.parameters.length) = some 1 := by decide +kernel
theorem gpd_5 : (parseMethodDescriptor "(I)J").map (fun d => d.parameters.length) = some 1 := by decide +kernel
theorem gpd_6 : (parseMethodDescriptor "(I)V").map (fun d => d.parameters.length) = some 1 := by decide +kernel
theorem gpd_7 : (parseMethodDescriptor "(I)Z").map (fun d => d.parameters.length) = some 1 := by decide +kernel
theorem gpd_8 : (parseMethodDescriptor "(II)I").map (fun d => d.parameters.length) = some 2 := by decide +kernel
theorem gpd_9 : (parseMethodDescriptor "(II)J").map (fun d => d.parameters.length) = some 2 := by decide +kernel
theorem gpd_10 : (parseMethodDescriptor "(II)V").map (fun d => d.parameters.length) = some 2 := by decide +kernel
theorem gpd_11 : (parseMethodDescriptor "(II)Z").map (fun d => d.parameters.length) = some 2 := by decide +kernel
theorem gpd_12 : (parseMethodDescriptor "(III)I").map (fun d => d.parameters.length) = some 3 := by decide +kernel
theorem gpd_13 : (parseMethodDescriptor "(III)V").map (fun d => d.parameters.length) = some 3 := by decide +kernel
theorem gpd_14 : (parseMethodDescriptor "(III)Z").map (fun d => d.parameters.length) = some 3 := by decide +kernel
theorem gpd_15 : (parseMethodDescriptor "(III[I)Z").map (fun d => d.parameters.length) = some 4 := by decide +kernel
theorem gpd_16 : (parseMethodDescriptor "(IIJI)LGapProofs$Item;").map (fun d => d.parameters.length) = some 4 := by decide +kernel
theorem gpd_17 : (parseMethodDescriptor "(IIJI)V").map (fun d => d.parameters.length) = some 4 := by decide +kernel
theorem gpd_18 : (parseMethodDescriptor "(IIJJII)V").map (fun d => d.parameters.length) = some 6 := by decide +kernel
theorem gpd_19 : (parseMethodDescriptor "(II[IJ)V").map (fun d => d.parameters.length) = some 4 := by decide +kernel
theorem gpd_20 : (parseMethodDescriptor "(IJ)I").map (fun d => d.parameters.length) = some 2 := by decide +kernel
theorem gpd_21 : (parseMethodDescriptor "(IJ)J").map (fun d => d.parameters.length) = some 2 := by decide +kernel
theorem gpd_22 : (parseMethodDescriptor "(IJ)V").map (fun d => d.parameters.length) = some 2 := by decide +kernel
theorem gpd_23 : (parseMethodDescriptor "(IJ)Z").map (fun d => d.parameters.length) = some 2 := by decide +kernel
theorem gpd_24 : (parseMethodDescriptor "(IJI)I").map (fun d => d.parameters.length) = some 3 := by decide +kernel
theorem gpd_25 : (parseMethodDescriptor "(IJI)V").map (fun d => d.parameters.length) = some 3 := by decide +kernel
theorem gpd_26 : (parseMethodDescriptor "(IJZ)I").map (fun d => d.parameters.length) = some 3 := by decide +kernel
theorem gpd_27 : (parseMethodDescriptor "(IZ)I").map (fun d => d.parameters.length) = some 2 := by decide +kernel
theorem gpd_28 : (parseMethodDescriptor "(I[I)V").map (fun d => d.parameters.length) = some 2 := by decide +kernel
theorem gpd_29 : (parseMethodDescriptor "(I[I)Z").map (fun d => d.parameters.length) = some 2 := by decide +kernel
theorem gpd_30 : (parseMethodDescriptor "(J)I").map (fun d => d.parameters.length) = some 1 := by decide +kernel
theorem gpd_31 : (parseMethodDescriptor "(J)J").map (fun d => d.parameters.length) = some 1 := by decide +kernel
theorem gpd_32 : (parseMethodDescriptor "(J)V").map (fun d => d.parameters.length) = some 1 := by decide +kernel
theorem gpd_33 : (parseMethodDescriptor "(J)Z").map (fun d => d.parameters.length) = some 1 := by decide +kernel
theorem gpd_34 : (parseMethodDescriptor "(JI)I").map (fun d => d.parameters.length) = some 2 := by decide +kernel
theorem gpd_35 : (parseMethodDescriptor "(JI)J").map (fun d => d.parameters.length) = some 2 := by decide +kernel
theorem gpd_36 : (parseMethodDescriptor "(JI)V").map (fun d => d.parameters.length) = some 2 := by decide +kernel
theorem gpd_37 : (parseMethodDescriptor "(JI)Z").map (fun d => d.parameters.length) = some 2 := by decide +kernel
theorem gpd_38 : (parseMethodDescriptor "(JII)V").map (fun d => d.parameters.length) = some 3 := by decide +kernel
theorem gpd_39 : (parseMethodDescriptor "(JILGapProofs$Item;)Z").map (fun d => d.parameters.length) = some 3 := by decide +kernel
theorem gpd_40 : (parseMethodDescriptor "(JJ)Z").map (fun d => d.parameters.length) = some 2 := by decide +kernel
theorem gpd_41 : (parseMethodDescriptor "(JJJ)J").map (fun d => d.parameters.length) = some 3 := by decide +kernel
theorem gpd_42 : (parseMethodDescriptor "(JJJ)Z").map (fun d => d.parameters.length) = some 3 := by decide +kernel
theorem gpd_43 : (parseMethodDescriptor "(JZ)V").map (fun d => d.parameters.length) = some 2 := by decide +kernel
theorem gpd_44 : (parseMethodDescriptor "(LGapProofs$Cache;)V").map (fun d => d.parameters.length) = some 1 := by decide +kernel
theorem gpd_45 : (parseMethodDescriptor "(LGapProofs$Item;)J").map (fun d => d.parameters.length) = some 1 := by decide +kernel
theorem gpd_46 : (parseMethodDescriptor "(LGapProofs$KeyRow;)V").map (fun d => d.parameters.length) = some 1 := by decide +kernel
theorem gpd_47 : (parseMethodDescriptor "(LGapProofs$Records;)V").map (fun d => d.parameters.length) = some 1 := by decide +kernel
theorem gpd_48 : (parseMethodDescriptor "(LGapProofs$Tree;)V").map (fun d => d.parameters.length) = some 1 := by decide +kernel
theorem gpd_49 : (parseMethodDescriptor "(LGapProofs$Tree;LGapProofs$World;)V").map (fun d => d.parameters.length) = some 2 := by decide +kernel
theorem gpd_50 : (parseMethodDescriptor "(LGapProofs$Tree;LGapProofs$World;LGapProofs$Owners;)V").map (fun d => d.parameters.length) = some 3 := by decide +kernel
theorem gpd_51 : (parseMethodDescriptor "(LGapProofs$Tree;LGapProofs$World;LGapProofs$Proof;)V").map (fun d => d.parameters.length) = some 3 := by decide +kernel
theorem gpd_52 : (parseMethodDescriptor "(LGapProofs$World;)V").map (fun d => d.parameters.length) = some 1 := by decide +kernel
theorem gpd_53 : (parseMethodDescriptor "(Ljava/lang/String;)Z").map (fun d => d.parameters.length) = some 1 := by decide +kernel
theorem gpd_54 : (parseMethodDescriptor "(Z)V").map (fun d => d.parameters.length) = some 1 := by decide +kernel
theorem gpd_55 : (parseMethodDescriptor "(Z)Z").map (fun d => d.parameters.length) = some 1 := by decide +kernel
theorem gpd_56 : (parseMethodDescriptor "(ZI)Z").map (fun d => d.parameters.length) = some 2 := by decide +kernel
theorem gpd_57 : (parseMethodDescriptor "([II)Z").map (fun d => d.parameters.length) = some 2 := by decide +kernel
theorem gpd_58 : (parseMethodDescriptor "([III)V").map (fun d => d.parameters.length) = some 3 := by decide +kernel
set_option maxRecDepth 20000 in
theorem gmk_1 : gmok 1 := ⟨(gin_1 (k := 165) rfl rfl), (gin_1 (k := 6) rfl rfl), ⟨(gin_1 (k := 164) rfl rfl), rfl⟩, rfl, gpn_0, ⟨gne_0.1, gne_0.2, gpd_2⟩, Nat.le_of_ble_eq_true rfl, Or.inr (Nat.le_of_ble_eq_true rfl)⟩
set_option maxRecDepth 20000 in
theorem gmk_2 : gmok 2 := ⟨(gin_4 (k := 0) rfl rfl), (gin_1 (k := 6) rfl rfl), ⟨(gin_3 (k := 238) rfl rfl), (gin_3 (k := 239) rfl rfl)⟩, rfl, gpn_0, ⟨gne_0.1, gne_0.2, gpd_11⟩, Nat.le_of_ble_eq_true rfl, Or.inr (Nat.le_of_ble_eq_true rfl)⟩
set_option maxRecDepth 20000 in
theorem gmk_3 : gmok 3 := ⟨(gin_3 (k := 236) rfl rfl), (gin_1 (k := 6) rfl rfl), ⟨(gin_3 (k := 234) rfl rfl), (gin_3 (k := 235) rfl rfl)⟩, rfl, gpn_0, ⟨gne_0.1, gne_0.2, gpd_4⟩, Nat.le_of_ble_eq_true rfl, Or.inr (Nat.le_of_ble_eq_true rfl)⟩
set_option maxRecDepth 20000 in
theorem gmk_4 : gmok 4 := ⟨(gin_4 (k := 179) rfl rfl), (gin_1 (k := 6) rfl rfl), ⟨(gin_4 (k := 177) rfl rfl), (gin_4 (k := 178) rfl rfl)⟩, rfl, gpn_0, ⟨gne_0.1, gne_0.2, gpd_8⟩, Nat.le_of_ble_eq_true rfl, Or.inr (Nat.le_of_ble_eq_true rfl)⟩
set_option maxRecDepth 20000 in
theorem gmk_5 : gmok 5 := ⟨(gin_4 (k := 175) rfl rfl), (gin_1 (k := 6) rfl rfl), ⟨(gin_4 (k := 173) rfl rfl), (gin_4 (k := 174) rfl rfl)⟩, rfl, gpn_0, ⟨gne_0.1, gne_0.2, gpd_15⟩, Nat.le_of_ble_eq_true rfl, Or.inr (Nat.le_of_ble_eq_true rfl)⟩
set_option maxRecDepth 20000 in
theorem gmk_6 : gmok 6 := ⟨(gin_4 (k := 204) rfl rfl), (gin_1 (k := 6) rfl rfl), ⟨(gin_4 (k := 202) rfl rfl), (gin_4 (k := 203) rfl rfl)⟩, rfl, gpn_0, ⟨gne_0.1, gne_0.2, gpd_19⟩, Nat.le_of_ble_eq_true rfl, Or.inr (Nat.le_of_ble_eq_true rfl)⟩
set_option maxRecDepth 20000 in
theorem gmk_7 : gmok 7 := ⟨(gin_4 (k := 208) rfl rfl), (gin_1 (k := 6) rfl rfl), ⟨(gin_4 (k := 206) rfl rfl), (gin_4 (k := 207) rfl rfl)⟩, rfl, gpn_0, ⟨gne_0.1, gne_0.2, gpd_6⟩, Nat.le_of_ble_eq_true rfl, Or.inr (Nat.le_of_ble_eq_true rfl)⟩
set_option maxRecDepth 20000 in
theorem gmk_8 : gmok 8 := ⟨(gin_5 (k := 38) rfl rfl), (gin_1 (k := 6) rfl rfl), ⟨(gin_5 (k := 36) rfl rfl), (gin_5 (k := 37) rfl rfl)⟩, rfl, gpn_0, ⟨gne_0.1, gne_0.2, gpd_12⟩, Nat.le_of_ble_eq_true rfl, Or.inr (Nat.le_of_ble_eq_true rfl)⟩
set_option maxRecDepth 20000 in
theorem gmk_9 : gmok 9 := ⟨(gin_5 (k := 115) rfl rfl), (gin_1 (k := 6) rfl rfl), ⟨(gin_5 (k := 113) rfl rfl), (gin_5 (k := 114) rfl rfl)⟩, rfl, gpn_0, ⟨gne_0.1, gne_0.2, gpd_44⟩, Nat.le_of_ble_eq_true rfl, Or.inr (Nat.le_of_ble_eq_true rfl)⟩
set_option maxRecDepth 20000 in
theorem gmk_10 : gmok 10 := ⟨(gin_2 (k := 41) rfl rfl), (gin_1 (k := 10) rfl rfl), ⟨(gin_2 (k := 40) rfl rfl), rfl⟩, rfl, gpn_1, ⟨gne_1.1, gne_1.2, gpd_2⟩, Nat.le_of_ble_eq_true rfl, Or.inr (Nat.le_of_ble_eq_true rfl)⟩
set_option maxRecDepth 20000 in
theorem gmk_11 : gmok 11 := ⟨(gin_4 (k := 57) rfl rfl), (gin_1 (k := 10) rfl rfl), ⟨(gin_4 (k := 55) rfl rfl), (gin_4 (k := 56) rfl rfl)⟩, rfl, gpn_1, ⟨gne_1.1, gne_1.2, gpd_17⟩, Nat.le_of_ble_eq_true rfl, Or.inr (Nat.le_of_ble_eq_true rfl)⟩
set_option maxRecDepth 20000 in
theorem gmk_12 : gmok 12 := ⟨(gin_4 (k := 105) rfl rfl), (gin_1 (k := 10) rfl rfl), ⟨(gin_4 (k := 103) rfl rfl), (gin_4 (k := 104) rfl rfl)⟩, rfl, gpn_1, ⟨gne_1.1, gne_1.2, gpd_0⟩, Nat.le_of_ble_eq_true rfl, Or.inr (Nat.le_of_ble_eq_true rfl)⟩
set_option maxRecDepth 20000 in
theorem gmk_13 : gmok 13 := ⟨(gin_4 (k := 108) rfl rfl), (gin_1 (k := 10) rfl rfl), (gin_4 (k := 107) rfl rfl), rfl, gpn_1, ⟨gne_1.1, gne_1.2, gpd_8⟩, Nat.le_of_ble_eq_true rfl, Or.inl rfl⟩
set_option maxRecDepth 20000 in
theorem gmk_14 : gmok 14 := ⟨(gin_4 (k := 111) rfl rfl), (gin_1 (k := 10) rfl rfl), (gin_4 (k := 110) rfl rfl), rfl, gpn_1, ⟨gne_1.1, gne_1.2, gpd_20⟩, Nat.le_of_ble_eq_true rfl, Or.inl rfl⟩
set_option maxRecDepth 20000 in
theorem gmk_15 : gmok 15 := ⟨(gin_4 (k := 101) rfl rfl), (gin_1 (k := 10) rfl rfl), ⟨(gin_4 (k := 99) rfl rfl), (gin_4 (k := 100) rfl rfl)⟩, rfl, gpn_1, ⟨gne_1.1, gne_1.2, gpd_0⟩, Nat.le_of_ble_eq_true rfl, Or.inr (Nat.le_of_ble_eq_true rfl)⟩
set_option maxRecDepth 20000 in
theorem gmk_16 : gmok 16 := ⟨(gin_4 (k := 97) rfl rfl), (gin_1 (k := 10) rfl rfl), ⟨(gin_4 (k := 95) rfl rfl), (gin_4 (k := 96) rfl rfl)⟩, rfl, gpn_1, ⟨gne_1.1, gne_1.2, gpd_2⟩, Nat.le_of_ble_eq_true rfl, Or.inr (Nat.le_of_ble_eq_true rfl)⟩
set_option maxRecDepth 20000 in
theorem gmk_17 : gmok 17 := ⟨(gin_5 (k := 0) rfl rfl), (gin_1 (k := 10) rfl rfl), ⟨(gin_4 (k := 238) rfl rfl), (gin_4 (k := 239) rfl rfl)⟩, rfl, gpn_1, ⟨gne_1.1, gne_1.2, gpd_7⟩, Nat.le_of_ble_eq_true rfl, Or.inr (Nat.le_of_ble_eq_true rfl)⟩
set_option maxRecDepth 20000 in
theorem gmk_18 : gmok 18 := ⟨(gin_5 (k := 8) rfl rfl), (gin_1 (k := 10) rfl rfl), ⟨(gin_5 (k := 6) rfl rfl), (gin_5 (k := 7) rfl rfl)⟩, rfl, gpn_1, ⟨gne_1.1, gne_1.2, gpd_40⟩, Nat.le_of_ble_eq_true rfl, Or.inr (Nat.le_of_ble_eq_true rfl)⟩
set_option maxRecDepth 20000 in
theorem gmk_19 : gmok 19 := ⟨(gin_4 (k := 126) rfl rfl), (gin_1 (k := 10) rfl rfl), ⟨(gin_4 (k := 124) rfl rfl), (gin_4 (k := 125) rfl rfl)⟩, rfl, gpn_1, ⟨gne_1.1, gne_1.2, gpd_4⟩, Nat.le_of_ble_eq_true rfl, Or.inr (Nat.le_of_ble_eq_true rfl)⟩
set_option maxRecDepth 20000 in
theorem gmk_20 : gmok 20 := ⟨(gin_4 (k := 148) rfl rfl), (gin_1 (k := 10) rfl rfl), ⟨(gin_4 (k := 146) rfl rfl), (gin_4 (k := 147) rfl rfl)⟩, rfl, gpn_1, ⟨gne_1.1, gne_1.2, gpd_8⟩, Nat.le_of_ble_eq_true rfl, Or.inr (Nat.le_of_ble_eq_true rfl)⟩
set_option maxRecDepth 20000 in
theorem gmk_21 : gmok 21 := ⟨(gin_1 (k := 190) rfl rfl), (gin_1 (k := 7) rfl rfl), ⟨(gin_1 (k := 189) rfl rfl), rfl⟩, rfl, gpn_2, ⟨gne_2.1, gne_2.2, gpd_2⟩, Nat.le_of_ble_eq_true rfl, Or.inr (Nat.le_of_ble_eq_true rfl)⟩
set_option maxRecDepth 20000 in
theorem gmk_22 : gmok 22 := ⟨(gin_2 (k := 175) rfl rfl), (gin_1 (k := 7) rfl rfl), ⟨(gin_2 (k := 173) rfl rfl), (gin_2 (k := 174) rfl rfl)⟩, rfl, gpn_2, ⟨gne_2.1, gne_2.2, gpd_2⟩, Nat.le_of_ble_eq_true rfl, Or.inr (Nat.le_of_ble_eq_true rfl)⟩
set_option maxRecDepth 20000 in
theorem gmk_23 : gmok 23 := ⟨(gin_5 (k := 56) rfl rfl), (gin_1 (k := 7) rfl rfl), ⟨(gin_5 (k := 54) rfl rfl), (gin_5 (k := 55) rfl rfl)⟩, rfl, gpn_2, ⟨gne_2.1, gne_2.2, gpd_4⟩, Nat.le_of_ble_eq_true rfl, Or.inr (Nat.le_of_ble_eq_true rfl)⟩
set_option maxRecDepth 20000 in
theorem gmk_24 : gmok 24 := ⟨(gin_5 (k := 52) rfl rfl), (gin_1 (k := 7) rfl rfl), ⟨(gin_5 (k := 50) rfl rfl), (gin_5 (k := 51) rfl rfl)⟩, rfl, gpn_2, ⟨gne_2.1, gne_2.2, gpd_7⟩, Nat.le_of_ble_eq_true rfl, Or.inr (Nat.le_of_ble_eq_true rfl)⟩
set_option maxRecDepth 20000 in
theorem gmk_25 : gmok 25 := ⟨(gin_5 (k := 85) rfl rfl), (gin_1 (k := 7) rfl rfl), ⟨(gin_5 (k := 83) rfl rfl), (gin_5 (k := 84) rfl rfl)⟩, rfl, gpn_2, ⟨gne_2.1, gne_2.2, gpd_8⟩, Nat.le_of_ble_eq_true rfl, Or.inr (Nat.le_of_ble_eq_true rfl)⟩
set_option maxRecDepth 20000 in
theorem gmk_26 : gmok 26 := ⟨(gin_2 (k := 183) rfl rfl), (gin_1 (k := 7) rfl rfl), ⟨(gin_2 (k := 181) rfl rfl), (gin_2 (k := 182) rfl rfl)⟩, rfl, gpn_2, ⟨gne_2.1, gne_2.2, gpd_10⟩, Nat.le_of_ble_eq_true rfl, Or.inr (Nat.le_of_ble_eq_true rfl)⟩
set_option maxRecDepth 20000 in
theorem gmk_27 : gmok 27 := ⟨(gin_5 (k := 65) rfl rfl), (gin_1 (k := 7) rfl rfl), ⟨(gin_5 (k := 63) rfl rfl), (gin_5 (k := 64) rfl rfl)⟩, rfl, gpn_2, ⟨gne_2.1, gne_2.2, gpd_6⟩, Nat.le_of_ble_eq_true rfl, Or.inr (Nat.le_of_ble_eq_true rfl)⟩
set_option maxRecDepth 20000 in
theorem gmk_28 : gmok 28 := ⟨(gin_5 (k := 119) rfl rfl), (gin_1 (k := 7) rfl rfl), ⟨(gin_5 (k := 117) rfl rfl), (gin_5 (k := 118) rfl rfl)⟩, rfl, gpn_2, ⟨gne_2.1, gne_2.2, gpd_46⟩, Nat.le_of_ble_eq_true rfl, Or.inr (Nat.le_of_ble_eq_true rfl)⟩
set_option maxRecDepth 20000 in
theorem gmk_29 : gmok 29 := ⟨(gin_3 (k := 99) rfl rfl), (gin_1 (k := 17) rfl rfl), (gin_3 (k := 98) rfl rfl), rfl, gpn_12, ⟨gne_12.1, gne_12.2, gpd_34⟩, Nat.le_of_ble_eq_true rfl, Or.inl rfl⟩
set_option maxRecDepth 20000 in
theorem gmk_30 : gmok 30 := ⟨(gin_3 (k := 96) rfl rfl), (gin_1 (k := 17) rfl rfl), (gin_3 (k := 95) rfl rfl), rfl, gpn_12, ⟨gne_12.1, gne_12.2, gpd_30⟩, Nat.le_of_ble_eq_true rfl, Or.inl rfl⟩
set_option maxRecDepth 20000 in
theorem gmk_31 : gmok 31 := ⟨(gin_3 (k := 138) rfl rfl), (gin_1 (k := 17) rfl rfl), (gin_3 (k := 137) rfl rfl), rfl, gpn_12, ⟨gne_12.1, gne_12.2, gpd_35⟩, Nat.le_of_ble_eq_true rfl, Or.inl rfl⟩
set_option maxRecDepth 20000 in
theorem gmk_32 : gmok 32 := ⟨(gin_3 (k := 163) rfl rfl), (gin_1 (k := 17) rfl rfl), (gin_3 (k := 162) rfl rfl), rfl, gpn_12, ⟨gne_12.1, gne_12.2, gpd_35⟩, Nat.le_of_ble_eq_true rfl, Or.inl rfl⟩
set_option maxRecDepth 20000 in
theorem gmk_33 : gmok 33 := ⟨(gin_5 (k := 11) rfl rfl), (gin_1 (k := 17) rfl rfl), (gin_5 (k := 10) rfl rfl), rfl, gpn_12, ⟨gne_12.1, gne_12.2, gpd_40⟩, Nat.le_of_ble_eq_true rfl, Or.inl rfl⟩
set_option maxRecDepth 20000 in
theorem gmk_34 : gmok 34 := ⟨(gin_3 (k := 79) rfl rfl), (gin_1 (k := 17) rfl rfl), (gin_3 (k := 78) rfl rfl), rfl, gpn_12, ⟨gne_12.1, gne_12.2, gpd_12⟩, Nat.le_of_ble_eq_true rfl, Or.inl rfl⟩
set_option maxRecDepth 20000 in
theorem gmk_35 : gmok 35 := ⟨(gin_3 (k := 82) rfl rfl), (gin_1 (k := 17) rfl rfl), (gin_3 (k := 81) rfl rfl), rfl, gpn_12, ⟨gne_12.1, gne_12.2, gpd_7⟩, Nat.le_of_ble_eq_true rfl, Or.inl rfl⟩
set_option maxRecDepth 20000 in
theorem gmk_36 : gmok 36 := ⟨(gin_3 (k := 216) rfl rfl), (gin_1 (k := 17) rfl rfl), (gin_3 (k := 215) rfl rfl), rfl, gpn_12, ⟨gne_12.1, gne_12.2, gpd_8⟩, Nat.le_of_ble_eq_true rfl, Or.inl rfl⟩
set_option maxRecDepth 20000 in
theorem gmk_37 : gmok 37 := ⟨(gin_2 (k := 6) rfl rfl), (gin_1 (k := 8) rfl rfl), ⟨(gin_2 (k := 5) rfl rfl), rfl⟩, rfl, gpn_3, ⟨gne_3.1, gne_3.2, gpd_49⟩, Nat.le_of_ble_eq_true rfl, Or.inr (Nat.le_of_ble_eq_true rfl)⟩
set_option maxRecDepth 20000 in
theorem gmk_38 : gmok 38 := ⟨(gin_3 (k := 178) rfl rfl), (gin_1 (k := 8) rfl rfl), ⟨(gin_3 (k := 176) rfl rfl), (gin_3 (k := 177) rfl rfl)⟩, rfl, gpn_3, ⟨gne_3.1, gne_3.2, gpd_6⟩, Nat.le_of_ble_eq_true rfl, Or.inr (Nat.le_of_ble_eq_true rfl)⟩
set_option maxRecDepth 20000 in
theorem gmk_39 : gmok 39 := ⟨(gin_3 (k := 183) rfl rfl), (gin_1 (k := 8) rfl rfl), ⟨(gin_3 (k := 182) rfl rfl), (gin_p1 (k := 14) (q := (yX4_insert, 5)) rfl rfl)⟩, rfl, gpn_3, ⟨gne_3.1, gne_3.2, gpd_36⟩, Nat.le_of_ble_eq_true rfl, Or.inr (Nat.le_of_ble_eq_true rfl)⟩
set_option maxRecDepth 20000 in
theorem gmk_40 : gmok 40 := ⟨(gin_3 (k := 187) rfl rfl), (gin_1 (k := 8) rfl rfl), ⟨(gin_3 (k := 185) rfl rfl), (gin_3 (k := 186) rfl rfl)⟩, rfl, gpn_3, ⟨gne_3.1, gne_3.2, gpd_30⟩, Nat.le_of_ble_eq_true rfl, Or.inr (Nat.le_of_ble_eq_true rfl)⟩
set_option maxRecDepth 20000 in
theorem gmk_41 : gmok 41 := ⟨(gin_3 (k := 197) rfl rfl), (gin_1 (k := 8) rfl rfl), ⟨(gin_3 (k := 195) rfl rfl), (gin_3 (k := 196) rfl rfl)⟩, rfl, gpn_3, ⟨gne_3.1, gne_3.2, gpd_30⟩, Nat.le_of_ble_eq_true rfl, Or.inr (Nat.le_of_ble_eq_true rfl)⟩
set_option maxRecDepth 20000 in
theorem gmk_42 : gmok 42 := ⟨(gin_4 (k := 74) rfl rfl), (gin_1 (k := 8) rfl rfl), ⟨(gin_4 (k := 72) rfl rfl), (gin_4 (k := 73) rfl rfl)⟩, rfl, gpn_3, ⟨gne_3.1, gne_3.2, gpd_5⟩, Nat.le_of_ble_eq_true rfl, Or.inr (Nat.le_of_ble_eq_true rfl)⟩
set_option maxRecDepth 20000 in
theorem gmk_43 : gmok 43 := ⟨(gin_4 (k := 87) rfl rfl), (gin_1 (k := 8) rfl rfl), ⟨(gin_4 (k := 85) rfl rfl), (gin_4 (k := 86) rfl rfl)⟩, rfl, gpn_3, ⟨gne_3.1, gne_3.2, gpd_30⟩, Nat.le_of_ble_eq_true rfl, Or.inr (Nat.le_of_ble_eq_true rfl)⟩
set_option maxRecDepth 20000 in
theorem gmk_44 : gmok 44 := ⟨(gin_3 (k := 201) rfl rfl), (gin_1 (k := 8) rfl rfl), ⟨(gin_3 (k := 199) rfl rfl), (gin_3 (k := 200) rfl rfl)⟩, rfl, gpn_3, ⟨gne_3.1, gne_3.2, gpd_30⟩, Nat.le_of_ble_eq_true rfl, Or.inr (Nat.le_of_ble_eq_true rfl)⟩
set_option maxRecDepth 20000 in
theorem gmk_45 : gmok 45 := ⟨(gin_3 (k := 207) rfl rfl), (gin_1 (k := 8) rfl rfl), ⟨(gin_3 (k := 206) rfl rfl), (gin_p1 (k := 15) (q := (yX4_reaches, 5)) rfl rfl)⟩, rfl, gpn_3, ⟨gne_3.1, gne_3.2, gpd_37⟩, Nat.le_of_ble_eq_true rfl, Or.inr (Nat.le_of_ble_eq_true rfl)⟩
set_option maxRecDepth 20000 in
theorem gmk_46 : gmok 46 := ⟨(gin_4 (k := 26) rfl rfl), (gin_1 (k := 8) rfl rfl), ⟨(gin_4 (k := 24) rfl rfl), (gin_4 (k := 25) rfl rfl)⟩, rfl, gpn_3, ⟨gne_3.1, gne_3.2, gpd_31⟩, Nat.le_of_ble_eq_true rfl, Or.inr (Nat.le_of_ble_eq_true rfl)⟩
set_option maxRecDepth 20000 in
theorem gmk_47 : gmok 47 := ⟨(gin_4 (k := 16) rfl rfl), (gin_1 (k := 8) rfl rfl), ⟨(gin_4 (k := 14) rfl rfl), (gin_4 (k := 15) rfl rfl)⟩, rfl, gpn_3, ⟨gne_3.1, gne_3.2, gpd_34⟩, Nat.le_of_ble_eq_true rfl, Or.inr (Nat.le_of_ble_eq_true rfl)⟩
set_option maxRecDepth 20000 in
theorem gmk_48 : gmok 48 := ⟨(gin_4 (k := 21) rfl rfl), (gin_1 (k := 8) rfl rfl), ⟨(gin_4 (k := 20) rfl rfl), (gin_p2 (k := 1) (q := (yX4_hasSort, 5)) rfl rfl)⟩, rfl, gpn_3, ⟨gne_3.1, gne_3.2, gpd_11⟩, Nat.le_of_ble_eq_true rfl, Or.inr (Nat.le_of_ble_eq_true rfl)⟩
set_option maxRecDepth 20000 in
theorem gmk_49 : gmok 49 := ⟨(gin_2 (k := 34) rfl rfl), (gin_1 (k := 9) rfl rfl), ⟨(gin_2 (k := 33) rfl rfl), rfl⟩, rfl, gpn_4, ⟨gne_4.1, gne_4.2, gpd_50⟩, Nat.le_of_ble_eq_true rfl, Or.inr (Nat.le_of_ble_eq_true rfl)⟩
set_option maxRecDepth 20000 in
theorem gmk_50 : gmok 50 := ⟨(gin_4 (k := 122) rfl rfl), (gin_1 (k := 9) rfl rfl), ⟨(gin_4 (k := 120) rfl rfl), (gin_4 (k := 121) rfl rfl)⟩, rfl, gpn_4, ⟨gne_4.1, gne_4.2, gpd_4⟩, Nat.le_of_ble_eq_true rfl, Or.inr (Nat.le_of_ble_eq_true rfl)⟩
set_option maxRecDepth 20000 in
theorem gmk_51 : gmok 51 := ⟨(gin_4 (k := 40) rfl rfl), (gin_1 (k := 9) rfl rfl), ⟨(gin_4 (k := 38) rfl rfl), (gin_4 (k := 39) rfl rfl)⟩, rfl, gpn_4, ⟨gne_4.1, gne_4.2, gpd_36⟩, Nat.le_of_ble_eq_true rfl, Or.inr (Nat.le_of_ble_eq_true rfl)⟩
set_option maxRecDepth 20000 in
theorem gmk_52 : gmok 52 := ⟨(gin_4 (k := 45) rfl rfl), (gin_1 (k := 9) rfl rfl), ⟨(gin_4 (k := 44) rfl rfl), (gin_p2 (k := 2) (q := (yX5_addChain, 10)) rfl rfl)⟩, rfl, gpn_4, ⟨gne_4.1, gne_4.2, gpd_3⟩, Nat.le_of_ble_eq_true rfl, Or.inr (Nat.le_of_ble_eq_true rfl)⟩
set_option maxRecDepth 20000 in
theorem gmk_53 : gmok 53 := ⟨(gin_4 (k := 82) rfl rfl), (gin_1 (k := 9) rfl rfl), ⟨(gin_4 (k := 81) rfl rfl), (gin_p2 (k := 7) (q := (yX5_addAnswer, 10)) rfl rfl)⟩, rfl, gpn_4, ⟨gne_4.1, gne_4.2, gpd_2⟩, Nat.le_of_ble_eq_true rfl, Or.inr (Nat.le_of_ble_eq_true rfl)⟩
set_option maxRecDepth 20000 in
theorem gmk_54 : gmok 54 := ⟨(gin_4 (k := 53) rfl rfl), (gin_1 (k := 9) rfl rfl), ⟨(gin_4 (k := 52) rfl rfl), (gin_p2 (k := 4) (q := (yX5_fresh, 10)) rfl rfl)⟩, rfl, gpn_4, ⟨gne_4.1, gne_4.2, gpd_16⟩, Nat.le_of_ble_eq_true rfl, Or.inr (Nat.le_of_ble_eq_true rfl)⟩
set_option maxRecDepth 20000 in
theorem gmk_55 : gmok 55 := ⟨(gin_4 (k := 49) rfl rfl), (gin_1 (k := 9) rfl rfl), ⟨(gin_4 (k := 48) rfl rfl), (gin_p2 (k := 3) (q := (yX5_addKeys, 10)) rfl rfl)⟩, rfl, gpn_4, ⟨gne_4.1, gne_4.2, gpd_6⟩, Nat.le_of_ble_eq_true rfl, Or.inr (Nat.le_of_ble_eq_true rfl)⟩
set_option maxRecDepth 20000 in
theorem gmk_56 : gmok 56 := ⟨(gin_4 (k := 78) rfl rfl), (gin_1 (k := 9) rfl rfl), ⟨(gin_4 (k := 77) rfl rfl), (gin_p2 (k := 6) (q := (yX5_addDigests, 10)) rfl rfl)⟩, rfl, gpn_4, ⟨gne_4.1, gne_4.2, gpd_10⟩, Nat.le_of_ble_eq_true rfl, Or.inr (Nat.le_of_ble_eq_true rfl)⟩
set_option maxRecDepth 20000 in
theorem gmk_57 : gmok 57 := ⟨(gin_4 (k := 92) rfl rfl), (gin_1 (k := 9) rfl rfl), ⟨(gin_4 (k := 91) rfl rfl), (gin_p2 (k := 8) (q := (yX5_addRecord, 10)) rfl rfl)⟩, rfl, gpn_4, ⟨gne_4.1, gne_4.2, gpd_32⟩, Nat.le_of_ble_eq_true rfl, Or.inr (Nat.le_of_ble_eq_true rfl)⟩
set_option maxRecDepth 20000 in
theorem gmk_58 : gmok 58 := ⟨(gin_4 (k := 70) rfl rfl), (gin_1 (k := 9) rfl rfl), ⟨(gin_4 (k := 69) rfl rfl), (gin_p2 (k := 5) (q := (yX5_addLink, 10)) rfl rfl)⟩, rfl, gpn_4, ⟨gne_4.1, gne_4.2, gpd_10⟩, Nat.le_of_ble_eq_true rfl, Or.inr (Nat.le_of_ble_eq_true rfl)⟩
set_option maxRecDepth 20000 in
theorem gmk_59 : gmok 59 := ⟨(gin_4 (k := 134) rfl rfl), (gin_1 (k := 9) rfl rfl), ⟨(gin_4 (k := 132) rfl rfl), (gin_4 (k := 133) rfl rfl)⟩, rfl, gpn_4, ⟨gne_4.1, gne_4.2, gpd_6⟩, Nat.le_of_ble_eq_true rfl, Or.inr (Nat.le_of_ble_eq_true rfl)⟩
set_option maxRecDepth 20000 in
theorem gmk_60 : gmok 60 := ⟨(gin_1 (k := 31) rfl rfl), (gin_1 (k := 2) rfl rfl), ⟨(gin_1 (k := 30) rfl rfl), rfl⟩, rfl, gpn_5, ⟨gne_5.1, gne_5.2, gpd_2⟩, Nat.le_of_ble_eq_true rfl, Or.inr (Nat.le_of_ble_eq_true rfl)⟩
set_option maxRecDepth 20000 in
theorem gmk_61 : gmok 61 := ⟨(gin_2 (k := 227) rfl rfl), (gin_1 (k := 2) rfl rfl), ⟨(gin_2 (k := 225) rfl rfl), (gin_2 (k := 226) rfl rfl)⟩, rfl, gpn_5, ⟨gne_5.1, gne_5.2, gpd_0⟩, Nat.le_of_ble_eq_true rfl, Or.inr (Nat.le_of_ble_eq_true rfl)⟩
set_option maxRecDepth 20000 in
theorem gmk_62 : gmok 62 := ⟨(gin_3 (k := 3) rfl rfl), (gin_1 (k := 2) rfl rfl), ⟨(gin_3 (k := 2) rfl rfl), (gin_p1 (k := 3) (q := (yX6_fail, 11)) rfl rfl)⟩, rfl, gpn_5, ⟨gne_5.1, gne_5.2, gpd_11⟩, Nat.le_of_ble_eq_true rfl, Or.inr (Nat.le_of_ble_eq_true rfl)⟩
set_option maxRecDepth 20000 in
theorem gmk_63 : gmok 63 := ⟨(gin_2 (k := 232) rfl rfl), (gin_1 (k := 2) rfl rfl), ⟨(gin_2 (k := 231) rfl rfl), (gin_p1 (k := 1) (q := (yX6_advance, 11)) rfl rfl)⟩, rfl, gpn_5, ⟨gne_5.1, gne_5.2, gpd_3⟩, Nat.le_of_ble_eq_true rfl, Or.inr (Nat.le_of_ble_eq_true rfl)⟩
set_option maxRecDepth 20000 in
theorem gmk_64 : gmok 64 := ⟨(gin_2 (k := 235) rfl rfl), (gin_1 (k := 2) rfl rfl), (gin_2 (k := 234) rfl rfl), rfl, gpn_5, ⟨gne_5.1, gne_5.2, gpd_14⟩, Nat.le_of_ble_eq_true rfl, Or.inl rfl⟩
set_option maxRecDepth 20000 in
theorem gmk_65 : gmok 65 := ⟨(gin_2 (k := 239) rfl rfl), (gin_1 (k := 2) rfl rfl), ⟨(gin_2 (k := 238) rfl rfl), (gin_p1 (k := 2) (q := (yX6_skip, 11)) rfl rfl)⟩, rfl, gpn_5, ⟨gne_5.1, gne_5.2, gpd_10⟩, Nat.le_of_ble_eq_true rfl, Or.inr (Nat.le_of_ble_eq_true rfl)⟩
set_option maxRecDepth 20000 in
theorem gmk_66 : gmok 66 := ⟨(gin_3 (k := 113) rfl rfl), (gin_1 (k := 2) rfl rfl), ⟨(gin_3 (k := 112) rfl rfl), (gin_p1 (k := 11) (q := (yX6_advanceTo, 11)) rfl rfl)⟩, rfl, gpn_5, ⟨gne_5.1, gne_5.2, gpd_7⟩, Nat.le_of_ble_eq_true rfl, Or.inr (Nat.le_of_ble_eq_true rfl)⟩
set_option maxRecDepth 20000 in
theorem gmk_67 : gmok 67 := ⟨(gin_3 (k := 12) rfl rfl), (gin_1 (k := 2) rfl rfl), ⟨(gin_3 (k := 11) rfl rfl), (gin_p1 (k := 5) (q := (yX6_isWord, 11)) rfl rfl)⟩, rfl, gpn_5, ⟨gne_5.1, gne_5.2, gpd_53⟩, Nat.le_of_ble_eq_true rfl, Or.inr (Nat.le_of_ble_eq_true rfl)⟩
set_option maxRecDepth 20000 in
theorem gmk_68 : gmok 68 := ⟨(gin_3 (k := 7) rfl rfl), (gin_1 (k := 2) rfl rfl), ⟨(gin_3 (k := 6) rfl rfl), (gin_p1 (k := 4) (q := (yX6_readLine, 11)) rfl rfl)⟩, rfl, gpn_5, ⟨gne_5.1, gne_5.2, gpd_3⟩, Nat.le_of_ble_eq_true rfl, Or.inr (Nat.le_of_ble_eq_true rfl)⟩
set_option maxRecDepth 20000 in
theorem gmk_69 : gmok 69 := ⟨(gin_3 (k := 64) rfl rfl), (gin_1 (k := 2) rfl rfl), ⟨(gin_3 (k := 63) rfl rfl), (gin_p1 (k := 6) (q := (yX6_readZone, 11)) rfl rfl)⟩, rfl, gpn_5, ⟨gne_5.1, gne_5.2, gpd_55⟩, Nat.le_of_ble_eq_true rfl, Or.inr (Nat.le_of_ble_eq_true rfl)⟩
set_option maxRecDepth 20000 in
theorem gmk_70 : gmok 70 := ⟨(gin_3 (k := 106) rfl rfl), (gin_1 (k := 2) rfl rfl), ⟨(gin_3 (k := 105) rfl rfl), (gin_p1 (k := 10) (q := (yX6_readRecord, 11)) rfl rfl)⟩, rfl, gpn_5, ⟨gne_5.1, gne_5.2, gpd_3⟩, Nat.le_of_ble_eq_true rfl, Or.inr (Nat.le_of_ble_eq_true rfl)⟩
set_option maxRecDepth 20000 in
theorem gmk_71 : gmok 71 := ⟨(gin_3 (k := 131) rfl rfl), (gin_1 (k := 2) rfl rfl), ⟨(gin_3 (k := 130) rfl rfl), (gin_p1 (k := 13) (q := (yX6_readSpan, 11)) rfl rfl)⟩, rfl, gpn_5, ⟨gne_5.1, gne_5.2, gpd_3⟩, Nat.le_of_ble_eq_true rfl, Or.inr (Nat.le_of_ble_eq_true rfl)⟩
set_option maxRecDepth 20000 in
theorem gmk_72 : gmok 72 := ⟨(gin_3 (k := 117) rfl rfl), (gin_1 (k := 2) rfl rfl), ⟨(gin_3 (k := 116) rfl rfl), (gin_p1 (k := 12) (q := (yX6_number, 11)) rfl rfl)⟩, rfl, gpn_5, ⟨gne_5.1, gne_5.2, gpd_0⟩, Nat.le_of_ble_eq_true rfl, Or.inr (Nat.le_of_ble_eq_true rfl)⟩
set_option maxRecDepth 20000 in
theorem gmk_73 : gmok 73 := ⟨(gin_3 (k := 68) rfl rfl), (gin_1 (k := 2) rfl rfl), ⟨(gin_3 (k := 67) rfl rfl), (gin_p1 (k := 7) (q := (yX6_readName, 11)) rfl rfl)⟩, rfl, gpn_5, ⟨gne_5.1, gne_5.2, gpd_3⟩, Nat.le_of_ble_eq_true rfl, Or.inr (Nat.le_of_ble_eq_true rfl)⟩
set_option maxRecDepth 20000 in
theorem gmk_74 : gmok 74 := ⟨(gin_3 (k := 85) rfl rfl), (gin_1 (k := 2) rfl rfl), (gin_3 (k := 84) rfl rfl), rfl, gpn_5, ⟨gne_5.1, gne_5.2, gpd_21⟩, Nat.le_of_ble_eq_true rfl, Or.inl rfl⟩
set_option maxRecDepth 20000 in
theorem gmk_75 : gmok 75 := ⟨(gin_3 (k := 72) rfl rfl), (gin_1 (k := 2) rfl rfl), ⟨(gin_3 (k := 71) rfl rfl), (gin_p1 (k := 8) (q := (yX6_labelRead, 11)) rfl rfl)⟩, rfl, gpn_5, ⟨gne_5.1, gne_5.2, gpd_0⟩, Nat.le_of_ble_eq_true rfl, Or.inr (Nat.le_of_ble_eq_true rfl)⟩
set_option maxRecDepth 20000 in
theorem gmk_76 : gmok 76 := ⟨(gin_3 (k := 76) rfl rfl), (gin_1 (k := 2) rfl rfl), ⟨(gin_3 (k := 75) rfl rfl), (gin_p1 (k := 9) (q := (yX6_letterRead, 11)) rfl rfl)⟩, rfl, gpn_5, ⟨gne_5.1, gne_5.2, gpd_4⟩, Nat.le_of_ble_eq_true rfl, Or.inr (Nat.le_of_ble_eq_true rfl)⟩
set_option maxRecDepth 20000 in
theorem gmk_77 : gmok 77 := ⟨(gin_1 (k := 88) rfl rfl), (gin_1 (k := 4) rfl rfl), ⟨(gin_1 (k := 87) rfl rfl), rfl⟩, rfl, gpn_6, ⟨gne_6.1, gne_6.2, gpd_2⟩, Nat.le_of_ble_eq_true rfl, Or.inr (Nat.le_of_ble_eq_true rfl)⟩
set_option maxRecDepth 20000 in
theorem gmk_78 : gmok 78 := ⟨(gin_3 (k := 121) rfl rfl), (gin_1 (k := 4) rfl rfl), ⟨(gin_3 (k := 119) rfl rfl), (gin_3 (k := 120) rfl rfl)⟩, rfl, gpn_6, ⟨gne_6.1, gne_6.2, gpd_34⟩, Nat.le_of_ble_eq_true rfl, Or.inr (Nat.le_of_ble_eq_true rfl)⟩
set_option maxRecDepth 20000 in
theorem gmk_79 : gmok 79 := ⟨(gin_4 (k := 31) rfl rfl), (gin_1 (k := 4) rfl rfl), ⟨(gin_4 (k := 29) rfl rfl), (gin_4 (k := 30) rfl rfl)⟩, rfl, gpn_6, ⟨gne_6.1, gne_6.2, gpd_34⟩, Nat.le_of_ble_eq_true rfl, Or.inr (Nat.le_of_ble_eq_true rfl)⟩
set_option maxRecDepth 20000 in
theorem gmk_80 : gmok 80 := ⟨(gin_3 (k := 125) rfl rfl), (gin_1 (k := 4) rfl rfl), ⟨(gin_3 (k := 123) rfl rfl), (gin_3 (k := 124) rfl rfl)⟩, rfl, gpn_6, ⟨gne_6.1, gne_6.2, gpd_38⟩, Nat.le_of_ble_eq_true rfl, Or.inr (Nat.le_of_ble_eq_true rfl)⟩
set_option maxRecDepth 20000 in
theorem gmk_81 : gmok 81 := ⟨(gin_5 (k := 102) rfl rfl), (gin_1 (k := 4) rfl rfl), ⟨(gin_5 (k := 100) rfl rfl), (gin_5 (k := 101) rfl rfl)⟩, rfl, gpn_6, ⟨gne_6.1, gne_6.2, gpd_36⟩, Nat.le_of_ble_eq_true rfl, Or.inr (Nat.le_of_ble_eq_true rfl)⟩
set_option maxRecDepth 20000 in
theorem gmk_82 : gmok 82 := ⟨(gin_3 (k := 150) rfl rfl), (gin_1 (k := 4) rfl rfl), ⟨(gin_3 (k := 148) rfl rfl), (gin_3 (k := 149) rfl rfl)⟩, rfl, gpn_6, ⟨gne_6.1, gne_6.2, gpd_47⟩, Nat.le_of_ble_eq_true rfl, Or.inr (Nat.le_of_ble_eq_true rfl)⟩
set_option maxRecDepth 20000 in
theorem gmk_83 : gmok 83 := ⟨(gin_1 (k := 37) rfl rfl), (gin_1 (k := 3) rfl rfl), ⟨(gin_1 (k := 36) rfl rfl), rfl⟩, rfl, gpn_7, ⟨gne_7.1, gne_7.2, gpd_2⟩, Nat.le_of_ble_eq_true rfl, Or.inr (Nat.le_of_ble_eq_true rfl)⟩
set_option maxRecDepth 20000 in
theorem gmk_84 : gmok 84 := ⟨(gin_1 (k := 42) rfl rfl), (gin_1 (k := 3) rfl rfl), ⟨(gin_1 (k := 40) rfl rfl), (gin_1 (k := 41) rfl rfl)⟩, rfl, gpn_7, ⟨gne_7.1, gne_7.2, gpd_2⟩, Nat.le_of_ble_eq_true rfl, Or.inr (Nat.le_of_ble_eq_true rfl)⟩
set_option maxRecDepth 20000 in
theorem gmk_85 : gmok 85 := ⟨(gin_2 (k := 179) rfl rfl), (gin_1 (k := 3) rfl rfl), ⟨(gin_2 (k := 177) rfl rfl), (gin_2 (k := 178) rfl rfl)⟩, rfl, gpn_7, ⟨gne_7.1, gne_7.2, gpd_7⟩, Nat.le_of_ble_eq_true rfl, Or.inr (Nat.le_of_ble_eq_true rfl)⟩
set_option maxRecDepth 20000 in
theorem gmk_86 : gmok 86 := ⟨(gin_3 (k := 89) rfl rfl), (gin_1 (k := 3) rfl rfl), ⟨(gin_3 (k := 87) rfl rfl), (gin_3 (k := 88) rfl rfl)⟩, rfl, gpn_7, ⟨gne_7.1, gne_7.2, gpd_33⟩, Nat.le_of_ble_eq_true rfl, Or.inr (Nat.le_of_ble_eq_true rfl)⟩
set_option maxRecDepth 20000 in
theorem gmk_87 : gmok 87 := ⟨(gin_3 (k := 93) rfl rfl), (gin_1 (k := 3) rfl rfl), ⟨(gin_3 (k := 91) rfl rfl), (gin_3 (k := 92) rfl rfl)⟩, rfl, gpn_7, ⟨gne_7.1, gne_7.2, gpd_43⟩, Nat.le_of_ble_eq_true rfl, Or.inr (Nat.le_of_ble_eq_true rfl)⟩
set_option maxRecDepth 20000 in
theorem gmk_88 : gmok 88 := ⟨(gin_3 (k := 135) rfl rfl), (gin_1 (k := 3) rfl rfl), ⟨(gin_3 (k := 133) rfl rfl), (gin_3 (k := 134) rfl rfl)⟩, rfl, gpn_7, ⟨gne_7.1, gne_7.2, gpd_2⟩, Nat.le_of_ble_eq_true rfl, Or.inr (Nat.le_of_ble_eq_true rfl)⟩
set_option maxRecDepth 20000 in
theorem gmk_89 : gmok 89 := ⟨(gin_3 (k := 142) rfl rfl), (gin_1 (k := 3) rfl rfl), ⟨(gin_3 (k := 140) rfl rfl), (gin_3 (k := 141) rfl rfl)⟩, rfl, gpn_7, ⟨gne_7.1, gne_7.2, gpd_30⟩, Nat.le_of_ble_eq_true rfl, Or.inr (Nat.le_of_ble_eq_true rfl)⟩
set_option maxRecDepth 20000 in
theorem gmk_90 : gmok 90 := ⟨(gin_4 (k := 64) rfl rfl), (gin_1 (k := 3) rfl rfl), ⟨(gin_4 (k := 62) rfl rfl), (gin_4 (k := 63) rfl rfl)⟩, rfl, gpn_7, ⟨gne_7.1, gne_7.2, gpd_8⟩, Nat.le_of_ble_eq_true rfl, Or.inr (Nat.le_of_ble_eq_true rfl)⟩
set_option maxRecDepth 20000 in
theorem gmk_91 : gmok 91 := ⟨(gin_4 (k := 11) rfl rfl), (gin_1 (k := 3) rfl rfl), ⟨(gin_4 (k := 9) rfl rfl), (gin_4 (k := 10) rfl rfl)⟩, rfl, gpn_7, ⟨gne_7.1, gne_7.2, gpd_7⟩, Nat.le_of_ble_eq_true rfl, Or.inr (Nat.le_of_ble_eq_true rfl)⟩
set_option maxRecDepth 20000 in
theorem gmk_92 : gmok 92 := ⟨(gin_3 (k := 146) rfl rfl), (gin_1 (k := 3) rfl rfl), ⟨(gin_3 (k := 144) rfl rfl), (gin_3 (k := 145) rfl rfl)⟩, rfl, gpn_7, ⟨gne_7.1, gne_7.2, gpd_48⟩, Nat.le_of_ble_eq_true rfl, Or.inr (Nat.le_of_ble_eq_true rfl)⟩
set_option maxRecDepth 20000 in
theorem gmk_93 : gmok 93 := ⟨(gin_2 (k := 127) rfl rfl), (gin_1 (k := 11) rfl rfl), ⟨(gin_2 (k := 126) rfl rfl), rfl⟩, rfl, gpn_8, ⟨gne_8.1, gne_8.2, gpd_51⟩, Nat.le_of_ble_eq_true rfl, Or.inr (Nat.le_of_ble_eq_true rfl)⟩
set_option maxRecDepth 20000 in
theorem gmk_94 : gmok 94 := ⟨(gin_4 (k := 166) rfl rfl), (gin_1 (k := 11) rfl rfl), ⟨(gin_4 (k := 164) rfl rfl), (gin_4 (k := 165) rfl rfl)⟩, rfl, gpn_8, ⟨gne_8.1, gne_8.2, gpd_0⟩, Nat.le_of_ble_eq_true rfl, Or.inr (Nat.le_of_ble_eq_true rfl)⟩
set_option maxRecDepth 20000 in
theorem gmk_95 : gmok 95 := ⟨(gin_4 (k := 215) rfl rfl), (gin_1 (k := 11) rfl rfl), (gin_4 (k := 214) rfl rfl), rfl, gpn_8, ⟨gne_8.1, gne_8.2, gpd_4⟩, Nat.le_of_ble_eq_true rfl, Or.inl rfl⟩
set_option maxRecDepth 20000 in
theorem gmk_96 : gmok 96 := ⟨(gin_4 (k := 171) rfl rfl), (gin_1 (k := 11) rfl rfl), ⟨(gin_4 (k := 170) rfl rfl), (gin_p2 (k := 9) (q := (yX9_learn, 10)) rfl rfl)⟩, rfl, gpn_8, ⟨gne_8.1, gne_8.2, gpd_4⟩, Nat.le_of_ble_eq_true rfl, Or.inr (Nat.le_of_ble_eq_true rfl)⟩
set_option maxRecDepth 20000 in
theorem gmk_97 : gmok 97 := ⟨(gin_4 (k := 184) rfl rfl), (gin_1 (k := 11) rfl rfl), ⟨(gin_4 (k := 183) rfl rfl), (gin_p2 (k := 10) (q := (yX9_learnDigests, 10)) rfl rfl)⟩, rfl, gpn_8, ⟨gne_8.1, gne_8.2, gpd_4⟩, Nat.le_of_ble_eq_true rfl, Or.inr (Nat.le_of_ble_eq_true rfl)⟩
set_option maxRecDepth 20000 in
theorem gmk_98 : gmok 98 := ⟨(gin_4 (k := 212) rfl rfl), (gin_1 (k := 11) rfl rfl), ⟨(gin_4 (k := 211) rfl rfl), (gin_p2 (k := 14) (q := (yX9_isShownPlain, 10)) rfl rfl)⟩, rfl, gpn_8, ⟨gne_8.1, gne_8.2, gpd_7⟩, Nat.le_of_ble_eq_true rfl, Or.inr (Nat.le_of_ble_eq_true rfl)⟩
set_option maxRecDepth 20000 in
theorem gmk_99 : gmok 99 := ⟨(gin_4 (k := 219) rfl rfl), (gin_1 (k := 11) rfl rfl), ⟨(gin_4 (k := 218) rfl rfl), (gin_p2 (k := 15) (q := (yX9_learnKeys, 10)) rfl rfl)⟩, rfl, gpn_8, ⟨gne_8.1, gne_8.2, gpd_4⟩, Nat.le_of_ble_eq_true rfl, Or.inr (Nat.le_of_ble_eq_true rfl)⟩
set_option maxRecDepth 20000 in
theorem gmk_100 : gmok 100 := ⟨(gin_4 (k := 189) rfl rfl), (gin_1 (k := 11) rfl rfl), ⟨(gin_4 (k := 188) rfl rfl), (gin_p2 (k := 11) (q := (yX9_isOf, 10)) rfl rfl)⟩, rfl, gpn_8, ⟨gne_8.1, gne_8.2, gpd_14⟩, Nat.le_of_ble_eq_true rfl, Or.inr (Nat.le_of_ble_eq_true rfl)⟩
set_option maxRecDepth 20000 in
theorem gmk_101 : gmok 101 := ⟨(gin_4 (k := 193) rfl rfl), (gin_1 (k := 11) rfl rfl), ⟨(gin_4 (k := 192) rfl rfl), (gin_p2 (k := 12) (q := (yX9_isRight, 10)) rfl rfl)⟩, rfl, gpn_8, ⟨gne_8.1, gne_8.2, gpd_29⟩, Nat.le_of_ble_eq_true rfl, Or.inr (Nat.le_of_ble_eq_true rfl)⟩
set_option maxRecDepth 20000 in
theorem gmk_102 : gmok 102 := ⟨(gin_4 (k := 200) rfl rfl), (gin_1 (k := 11) rfl rfl), ⟨(gin_4 (k := 199) rfl rfl), (gin_p2 (k := 13) (q := (yX9_takeNumbers, 10)) rfl rfl)⟩, rfl, gpn_8, ⟨gne_8.1, gne_8.2, gpd_28⟩, Nat.le_of_ble_eq_true rfl, Or.inr (Nat.le_of_ble_eq_true rfl)⟩
set_option maxRecDepth 20000 in
theorem gmk_103 : gmok 103 := ⟨(gin_4 (k := 224) rfl rfl), (gin_1 (k := 11) rfl rfl), ⟨(gin_4 (k := 223) rfl rfl), (gin_p3 (k := 0) (q := (yX9_conclude, 10)) rfl rfl)⟩, rfl, gpn_8, ⟨gne_8.1, gne_8.2, gpd_0⟩, Nat.le_of_ble_eq_true rfl, Or.inr (Nat.le_of_ble_eq_true rfl)⟩
set_option maxRecDepth 20000 in
theorem gmk_104 : gmok 104 := ⟨(gin_4 (k := 232) rfl rfl), (gin_1 (k := 11) rfl rfl), ⟨(gin_4 (k := 231) rfl rfl), (gin_p3 (k := 2) (q := (yX9_isUsable, 10)) rfl rfl)⟩, rfl, gpn_8, ⟨gne_8.1, gne_8.2, gpd_11⟩, Nat.le_of_ble_eq_true rfl, Or.inr (Nat.le_of_ble_eq_true rfl)⟩
set_option maxRecDepth 20000 in
theorem gmk_105 : gmok 105 := ⟨(gin_4 (k := 228) rfl rfl), (gin_1 (k := 11) rfl rfl), ⟨(gin_4 (k := 227) rfl rfl), (gin_p3 (k := 1) (q := (yX9_findRecord, 10)) rfl rfl)⟩, rfl, gpn_8, ⟨gne_8.1, gne_8.2, gpd_33⟩, Nat.le_of_ble_eq_true rfl, Or.inr (Nat.le_of_ble_eq_true rfl)⟩
set_option maxRecDepth 20000 in
theorem gmk_106 : gmok 106 := ⟨(gin_4 (k := 236) rfl rfl), (gin_1 (k := 11) rfl rfl), ⟨(gin_4 (k := 235) rfl rfl), (gin_p3 (k := 3) (q := (yX9_findLinkWithout, 10)) rfl rfl)⟩, rfl, gpn_8, ⟨gne_8.1, gne_8.2, gpd_33⟩, Nat.le_of_ble_eq_true rfl, Or.inr (Nat.le_of_ble_eq_true rfl)⟩
set_option maxRecDepth 20000 in
theorem gmk_107 : gmok 107 := ⟨(gin_5 (k := 4) rfl rfl), (gin_1 (k := 11) rfl rfl), ⟨(gin_5 (k := 3) rfl rfl), (gin_p3 (k := 4) (q := (yX9_findLinkTo, 10)) rfl rfl)⟩, rfl, gpn_8, ⟨gne_8.1, gne_8.2, gpd_33⟩, Nat.le_of_ble_eq_true rfl, Or.inr (Nat.le_of_ble_eq_true rfl)⟩
set_option maxRecDepth 20000 in
theorem gmk_108 : gmok 108 := ⟨(gin_5 (k := 16) rfl rfl), (gin_1 (k := 11) rfl rfl), ⟨(gin_5 (k := 15) rfl rfl), (gin_p3 (k := 5) (q := (yX9_findCover, 10)) rfl rfl)⟩, rfl, gpn_8, ⟨gne_8.1, gne_8.2, gpd_30⟩, Nat.le_of_ble_eq_true rfl, Or.inr (Nat.le_of_ble_eq_true rfl)⟩
set_option maxRecDepth 20000 in
theorem gmk_109 : gmok 109 := ⟨(gin_5 (k := 20) rfl rfl), (gin_1 (k := 11) rfl rfl), ⟨(gin_5 (k := 19) rfl rfl), (gin_p3 (k := 6) (q := (yX9_starBy, 10)) rfl rfl)⟩, rfl, gpn_8, ⟨gne_8.1, gne_8.2, gpd_45⟩, Nat.le_of_ble_eq_true rfl, Or.inr (Nat.le_of_ble_eq_true rfl)⟩
set_option maxRecDepth 20000 in
theorem gmk_110 : gmok 110 := ⟨(gin_5 (k := 25) rfl rfl), (gin_1 (k := 11) rfl rfl), (gin_5 (k := 24) rfl rfl), rfl, gpn_8, ⟨gne_8.1, gne_8.2, gpd_39⟩, Nat.le_of_ble_eq_true rfl, Or.inl rfl⟩
set_option maxRecDepth 20000 in
theorem gmk_111 : gmok 111 := ⟨(gin_1 (k := 155) rfl rfl), (gin_1 (k := 5) rfl rfl), ⟨(gin_1 (k := 154) rfl rfl), rfl⟩, rfl, gpn_9, ⟨gne_9.1, gne_9.2, gpd_2⟩, Nat.le_of_ble_eq_true rfl, Or.inr (Nat.le_of_ble_eq_true rfl)⟩
set_option maxRecDepth 20000 in
theorem gmk_112 : gmok 112 := ⟨(gin_2 (k := 171) rfl rfl), (gin_1 (k := 5) rfl rfl), ⟨(gin_2 (k := 169) rfl rfl), (gin_2 (k := 170) rfl rfl)⟩, rfl, gpn_9, ⟨gne_9.1, gne_9.2, gpd_48⟩, Nat.le_of_ble_eq_true rfl, Or.inr (Nat.le_of_ble_eq_true rfl)⟩
set_option maxRecDepth 20000 in
theorem gmk_113 : gmok 113 := ⟨(gin_5 (k := 110) rfl rfl), (gin_1 (k := 5) rfl rfl), ⟨(gin_5 (k := 108) rfl rfl), (gin_5 (k := 109) rfl rfl)⟩, rfl, gpn_9, ⟨gne_9.1, gne_9.2, gpd_52⟩, Nat.le_of_ble_eq_true rfl, Or.inr (Nat.le_of_ble_eq_true rfl)⟩
set_option maxRecDepth 20000 in
theorem gmk_114 : gmok 114 := ⟨(gin_1 (k := 23) rfl rfl), (gin_1 (k := 1) rfl rfl), ⟨(gin_1 (k := 22) rfl rfl), rfl⟩, rfl, gpn_10, ⟨gne_10.1, gne_10.2, gpd_2⟩, Nat.le_of_ble_eq_true rfl, Or.inr (Nat.le_of_ble_eq_true rfl)⟩
set_option maxRecDepth 20000 in
theorem gmk_115 : gmok 115 := ⟨(gin_2 (k := 215) rfl rfl), (gin_1 (k := 1) rfl rfl), ⟨(gin_2 (k := 213) rfl rfl), (gin_2 (k := 214) rfl rfl)⟩, rfl, gpn_10, ⟨gne_10.1, gne_10.2, gpd_4⟩, Nat.le_of_ble_eq_true rfl, Or.inr (Nat.le_of_ble_eq_true rfl)⟩
set_option maxRecDepth 20000 in
theorem gmk_116 : gmok 116 := ⟨(gin_2 (k := 219) rfl rfl), (gin_1 (k := 1) rfl rfl), ⟨(gin_2 (k := 217) rfl rfl), (gin_2 (k := 218) rfl rfl)⟩, rfl, gpn_10, ⟨gne_10.1, gne_10.2, gpd_4⟩, Nat.le_of_ble_eq_true rfl, Or.inr (Nat.le_of_ble_eq_true rfl)⟩
set_option maxRecDepth 20000 in
theorem gmk_117 : gmok 117 := ⟨(gin_2 (k := 223) rfl rfl), (gin_1 (k := 1) rfl rfl), ⟨(gin_2 (k := 221) rfl rfl), (gin_2 (k := 222) rfl rfl)⟩, rfl, gpn_10, ⟨gne_10.1, gne_10.2, gpd_0⟩, Nat.le_of_ble_eq_true rfl, Or.inr (Nat.le_of_ble_eq_true rfl)⟩
set_option maxRecDepth 20000 in
theorem gmk_118 : gmok 118 := ⟨(gin_3 (k := 154) rfl rfl), (gin_1 (k := 1) rfl rfl), ⟨(gin_3 (k := 152) rfl rfl), (gin_3 (k := 153) rfl rfl)⟩, rfl, gpn_10, ⟨gne_10.1, gne_10.2, gpd_0⟩, Nat.le_of_ble_eq_true rfl, Or.inr (Nat.le_of_ble_eq_true rfl)⟩
set_option maxRecDepth 20000 in
theorem gmk_119 : gmok 119 := ⟨(gin_2 (k := 167) rfl rfl), (gin_1 (k := 1) rfl rfl), ⟨(gin_2 (k := 166) rfl rfl), (gin_p1 (k := 0) (q := (yX11_startAnew, 9)) rfl rfl)⟩, rfl, gpn_10, ⟨gne_10.1, gne_10.2, gpd_2⟩, Nat.le_of_ble_eq_true rfl, Or.inr (Nat.le_of_ble_eq_true rfl)⟩
set_option maxRecDepth 20000 in
theorem gmk_120 : gmok 120 := ⟨(gin_3 (k := 158) rfl rfl), (gin_1 (k := 1) rfl rfl), ⟨(gin_3 (k := 156) rfl rfl), (gin_3 (k := 157) rfl rfl)⟩, rfl, gpn_10, ⟨gne_10.1, gne_10.2, gpd_12⟩, Nat.le_of_ble_eq_true rfl, Or.inr (Nat.le_of_ble_eq_true rfl)⟩
set_option maxRecDepth 20000 in
theorem gmk_121 : gmok 121 := ⟨(gin_3 (k := 168) rfl rfl), (gin_1 (k := 1) rfl rfl), ⟨(gin_3 (k := 166) rfl rfl), (gin_3 (k := 167) rfl rfl)⟩, rfl, gpn_10, ⟨gne_10.1, gne_10.2, gpd_4⟩, Nat.le_of_ble_eq_true rfl, Or.inr (Nat.le_of_ble_eq_true rfl)⟩
set_option maxRecDepth 20000 in
theorem gmk_122 : gmok 122 := ⟨(gin_3 (k := 173) rfl rfl), (gin_1 (k := 1) rfl rfl), ⟨(gin_3 (k := 171) rfl rfl), (gin_3 (k := 172) rfl rfl)⟩, rfl, gpn_10, ⟨gne_10.1, gne_10.2, gpd_8⟩, Nat.le_of_ble_eq_true rfl, Or.inr (Nat.le_of_ble_eq_true rfl)⟩
set_option maxRecDepth 20000 in
theorem gmk_123 : gmok 123 := ⟨(gin_3 (k := 192) rfl rfl), (gin_1 (k := 1) rfl rfl), ⟨(gin_3 (k := 190) rfl rfl), (gin_3 (k := 191) rfl rfl)⟩, rfl, gpn_10, ⟨gne_10.1, gne_10.2, gpd_4⟩, Nat.le_of_ble_eq_true rfl, Or.inr (Nat.le_of_ble_eq_true rfl)⟩
set_option maxRecDepth 20000 in
theorem gmk_124 : gmok 124 := ⟨(gin_3 (k := 212) rfl rfl), (gin_1 (k := 1) rfl rfl), ⟨(gin_3 (k := 210) rfl rfl), (gin_3 (k := 211) rfl rfl)⟩, rfl, gpn_10, ⟨gne_10.1, gne_10.2, gpd_8⟩, Nat.le_of_ble_eq_true rfl, Or.inr (Nat.le_of_ble_eq_true rfl)⟩
set_option maxRecDepth 20000 in
theorem gmk_125 : gmok 125 := ⟨(gin_3 (k := 220) rfl rfl), (gin_1 (k := 1) rfl rfl), ⟨(gin_3 (k := 218) rfl rfl), (gin_3 (k := 219) rfl rfl)⟩, rfl, gpn_10, ⟨gne_10.1, gne_10.2, gpd_8⟩, Nat.le_of_ble_eq_true rfl, Or.inr (Nat.le_of_ble_eq_true rfl)⟩
set_option maxRecDepth 20000 in
theorem gmk_126 : gmok 126 := ⟨(gin_3 (k := 224) rfl rfl), (gin_1 (k := 1) rfl rfl), ⟨(gin_3 (k := 223) rfl rfl), (gin_p2 (k := 0) (q := (yX11_recordsIn, 9)) rfl rfl)⟩, rfl, gpn_10, ⟨gne_10.1, gne_10.2, gpd_4⟩, Nat.le_of_ble_eq_true rfl, Or.inr (Nat.le_of_ble_eq_true rfl)⟩
set_option maxRecDepth 20000 in
theorem gmk_127 : gmok 127 := ⟨(gin_3 (k := 228) rfl rfl), (gin_1 (k := 1) rfl rfl), ⟨(gin_3 (k := 226) rfl rfl), (gin_3 (k := 227) rfl rfl)⟩, rfl, gpn_10, ⟨gne_10.1, gne_10.2, gpd_12⟩, Nat.le_of_ble_eq_true rfl, Or.inr (Nat.le_of_ble_eq_true rfl)⟩
set_option maxRecDepth 20000 in
theorem gmk_128 : gmok 128 := ⟨(gin_3 (k := 232) rfl rfl), (gin_1 (k := 1) rfl rfl), ⟨(gin_3 (k := 230) rfl rfl), (gin_3 (k := 231) rfl rfl)⟩, rfl, gpn_10, ⟨gne_10.1, gne_10.2, gpd_4⟩, Nat.le_of_ble_eq_true rfl, Or.inr (Nat.le_of_ble_eq_true rfl)⟩
set_option maxRecDepth 20000 in
theorem gmk_129 : gmok 129 := ⟨(gin_4 (k := 4) rfl rfl), (gin_1 (k := 1) rfl rfl), ⟨(gin_4 (k := 2) rfl rfl), (gin_4 (k := 3) rfl rfl)⟩, rfl, gpn_10, ⟨gne_10.1, gne_10.2, gpd_8⟩, Nat.le_of_ble_eq_true rfl, Or.inr (Nat.le_of_ble_eq_true rfl)⟩
set_option maxRecDepth 20000 in
theorem gmk_130 : gmok 130 := ⟨(gin_4 (k := 36) rfl rfl), (gin_1 (k := 1) rfl rfl), ⟨(gin_4 (k := 34) rfl rfl), (gin_4 (k := 35) rfl rfl)⟩, rfl, gpn_10, ⟨gne_10.1, gne_10.2, gpd_4⟩, Nat.le_of_ble_eq_true rfl, Or.inr (Nat.le_of_ble_eq_true rfl)⟩
set_option maxRecDepth 20000 in
theorem gmk_131 : gmok 131 := ⟨(gin_4 (k := 118) rfl rfl), (gin_1 (k := 1) rfl rfl), ⟨(gin_4 (k := 116) rfl rfl), (gin_4 (k := 117) rfl rfl)⟩, rfl, gpn_10, ⟨gne_10.1, gne_10.2, gpd_8⟩, Nat.le_of_ble_eq_true rfl, Or.inr (Nat.le_of_ble_eq_true rfl)⟩
set_option maxRecDepth 20000 in
theorem gmk_132 : gmok 132 := ⟨(gin_4 (k := 130) rfl rfl), (gin_1 (k := 1) rfl rfl), ⟨(gin_4 (k := 128) rfl rfl), (gin_4 (k := 129) rfl rfl)⟩, rfl, gpn_10, ⟨gne_10.1, gne_10.2, gpd_4⟩, Nat.le_of_ble_eq_true rfl, Or.inr (Nat.le_of_ble_eq_true rfl)⟩
set_option maxRecDepth 20000 in
theorem gmk_133 : gmok 133 := ⟨(gin_4 (k := 138) rfl rfl), (gin_1 (k := 1) rfl rfl), ⟨(gin_4 (k := 136) rfl rfl), (gin_4 (k := 137) rfl rfl)⟩, rfl, gpn_10, ⟨gne_10.1, gne_10.2, gpd_12⟩, Nat.le_of_ble_eq_true rfl, Or.inr (Nat.le_of_ble_eq_true rfl)⟩
set_option maxRecDepth 20000 in
theorem gmk_134 : gmok 134 := ⟨(gin_4 (k := 141) rfl rfl), (gin_1 (k := 1) rfl rfl), (gin_4 (k := 140) rfl rfl), rfl, gpn_10, ⟨gne_10.1, gne_10.2, gpd_11⟩, Nat.le_of_ble_eq_true rfl, Or.inl rfl⟩
set_option maxRecDepth 20000 in
theorem gmk_135 : gmok 135 := ⟨(gin_4 (k := 153) rfl rfl), (gin_1 (k := 1) rfl rfl), ⟨(gin_4 (k := 151) rfl rfl), (gin_4 (k := 152) rfl rfl)⟩, rfl, gpn_10, ⟨gne_10.1, gne_10.2, gpd_8⟩, Nat.le_of_ble_eq_true rfl, Or.inr (Nat.le_of_ble_eq_true rfl)⟩
set_option maxRecDepth 20000 in
theorem gmk_136 : gmok 136 := ⟨(gin_4 (k := 157) rfl rfl), (gin_1 (k := 1) rfl rfl), ⟨(gin_4 (k := 155) rfl rfl), (gin_4 (k := 156) rfl rfl)⟩, rfl, gpn_10, ⟨gne_10.1, gne_10.2, gpd_4⟩, Nat.le_of_ble_eq_true rfl, Or.inr (Nat.le_of_ble_eq_true rfl)⟩
set_option maxRecDepth 20000 in
theorem gmk_137 : gmok 137 := ⟨(gin_4 (k := 162) rfl rfl), (gin_1 (k := 1) rfl rfl), ⟨(gin_4 (k := 160) rfl rfl), (gin_4 (k := 161) rfl rfl)⟩, rfl, gpn_10, ⟨gne_10.1, gne_10.2, gpd_0⟩, Nat.le_of_ble_eq_true rfl, Or.inr (Nat.le_of_ble_eq_true rfl)⟩
set_option maxRecDepth 20000 in
theorem gmk_138 : gmok 138 := ⟨(gin_5 (k := 30) rfl rfl), (gin_1 (k := 1) rfl rfl), ⟨(gin_5 (k := 28) rfl rfl), (gin_5 (k := 29) rfl rfl)⟩, rfl, gpn_10, ⟨gne_10.1, gne_10.2, gpd_4⟩, Nat.le_of_ble_eq_true rfl, Or.inr (Nat.le_of_ble_eq_true rfl)⟩
set_option maxRecDepth 20000 in
theorem gmk_139 : gmok 139 := ⟨(gin_5 (k := 34) rfl rfl), (gin_1 (k := 1) rfl rfl), ⟨(gin_5 (k := 32) rfl rfl), (gin_5 (k := 33) rfl rfl)⟩, rfl, gpn_10, ⟨gne_10.1, gne_10.2, gpd_8⟩, Nat.le_of_ble_eq_true rfl, Or.inr (Nat.le_of_ble_eq_true rfl)⟩
set_option maxRecDepth 20000 in
theorem gmk_140 : gmok 140 := ⟨(gin_5 (k := 42) rfl rfl), (gin_1 (k := 1) rfl rfl), ⟨(gin_5 (k := 40) rfl rfl), (gin_5 (k := 41) rfl rfl)⟩, rfl, gpn_10, ⟨gne_10.1, gne_10.2, gpd_4⟩, Nat.le_of_ble_eq_true rfl, Or.inr (Nat.le_of_ble_eq_true rfl)⟩
set_option maxRecDepth 20000 in
theorem gmk_141 : gmok 141 := ⟨(gin_5 (k := 48) rfl rfl), (gin_1 (k := 1) rfl rfl), ⟨(gin_5 (k := 46) rfl rfl), (gin_5 (k := 47) rfl rfl)⟩, rfl, gpn_10, ⟨gne_10.1, gne_10.2, gpd_8⟩, Nat.le_of_ble_eq_true rfl, Or.inr (Nat.le_of_ble_eq_true rfl)⟩
set_option maxRecDepth 20000 in
theorem gmk_142 : gmok 142 := ⟨(gin_5 (k := 61) rfl rfl), (gin_1 (k := 1) rfl rfl), ⟨(gin_5 (k := 59) rfl rfl), (gin_5 (k := 60) rfl rfl)⟩, rfl, gpn_10, ⟨gne_10.1, gne_10.2, gpd_8⟩, Nat.le_of_ble_eq_true rfl, Or.inr (Nat.le_of_ble_eq_true rfl)⟩
set_option maxRecDepth 20000 in
theorem gmk_143 : gmok 143 := ⟨(gin_5 (k := 69) rfl rfl), (gin_1 (k := 1) rfl rfl), ⟨(gin_5 (k := 67) rfl rfl), (gin_5 (k := 68) rfl rfl)⟩, rfl, gpn_10, ⟨gne_10.1, gne_10.2, gpd_8⟩, Nat.le_of_ble_eq_true rfl, Or.inr (Nat.le_of_ble_eq_true rfl)⟩
set_option maxRecDepth 20000 in
theorem gmk_144 : gmok 144 := ⟨(gin_5 (k := 73) rfl rfl), (gin_1 (k := 1) rfl rfl), ⟨(gin_5 (k := 71) rfl rfl), (gin_5 (k := 72) rfl rfl)⟩, rfl, gpn_10, ⟨gne_10.1, gne_10.2, gpd_8⟩, Nat.le_of_ble_eq_true rfl, Or.inr (Nat.le_of_ble_eq_true rfl)⟩
set_option maxRecDepth 20000 in
theorem gmk_145 : gmok 145 := ⟨(gin_5 (k := 77) rfl rfl), (gin_1 (k := 1) rfl rfl), ⟨(gin_5 (k := 75) rfl rfl), (gin_5 (k := 76) rfl rfl)⟩, rfl, gpn_10, ⟨gne_10.1, gne_10.2, gpd_8⟩, Nat.le_of_ble_eq_true rfl, Or.inr (Nat.le_of_ble_eq_true rfl)⟩
set_option maxRecDepth 20000 in
theorem gmk_146 : gmok 146 := ⟨(gin_5 (k := 89) rfl rfl), (gin_1 (k := 1) rfl rfl), ⟨(gin_5 (k := 87) rfl rfl), (gin_5 (k := 88) rfl rfl)⟩, rfl, gpn_10, ⟨gne_10.1, gne_10.2, gpd_8⟩, Nat.le_of_ble_eq_true rfl, Or.inr (Nat.le_of_ble_eq_true rfl)⟩
set_option maxRecDepth 20000 in
theorem gmk_147 : gmok 147 := ⟨(gin_5 (k := 81) rfl rfl), (gin_1 (k := 1) rfl rfl), ⟨(gin_5 (k := 80) rfl rfl), (gin_p3 (k := 7) (q := (yX11_obstacle, 9)) rfl rfl)⟩, rfl, gpn_10, ⟨gne_10.1, gne_10.2, gpd_8⟩, Nat.le_of_ble_eq_true rfl, Or.inr (Nat.le_of_ble_eq_true rfl)⟩
set_option maxRecDepth 20000 in
theorem gmk_148 : gmok 148 := ⟨(gin_5 (k := 93) rfl rfl), (gin_1 (k := 1) rfl rfl), ⟨(gin_5 (k := 91) rfl rfl), (gin_5 (k := 92) rfl rfl)⟩, rfl, gpn_10, ⟨gne_10.1, gne_10.2, gpd_8⟩, Nat.le_of_ble_eq_true rfl, Or.inr (Nat.le_of_ble_eq_true rfl)⟩
set_option maxRecDepth 20000 in
theorem gmk_149 : gmok 149 := ⟨(gin_5 (k := 98) rfl rfl), (gin_1 (k := 1) rfl rfl), ⟨(gin_5 (k := 96) rfl rfl), (gin_5 (k := 97) rfl rfl)⟩, rfl, gpn_10, ⟨gne_10.1, gne_10.2, gpd_4⟩, Nat.le_of_ble_eq_true rfl, Or.inr (Nat.le_of_ble_eq_true rfl)⟩
set_option maxRecDepth 20000 in
theorem gmk_150 : gmok 150 := ⟨(gin_5 (k := 106) rfl rfl), (gin_1 (k := 1) rfl rfl), ⟨(gin_5 (k := 104) rfl rfl), (gin_5 (k := 105) rfl rfl)⟩, rfl, gpn_10, ⟨gne_10.1, gne_10.2, gpd_4⟩, Nat.le_of_ble_eq_true rfl, Or.inr (Nat.le_of_ble_eq_true rfl)⟩
set_option maxRecDepth 20000 in
theorem gmk_151 : gmok 151 := ⟨(gin_5 (k := 123) rfl rfl), (gin_1 (k := 1) rfl rfl), ⟨(gin_5 (k := 121) rfl rfl), (gin_5 (k := 122) rfl rfl)⟩, rfl, gpn_10, ⟨gne_10.1, gne_10.2, gpd_4⟩, Nat.le_of_ble_eq_true rfl, Or.inr (Nat.le_of_ble_eq_true rfl)⟩
set_option maxRecDepth 20000 in
theorem gmk_152 : gmok 152 := ⟨(gin_4 (k := 7) rfl rfl), (gin_1 (k := 1) rfl rfl), (gin_4 (k := 6) rfl rfl), rfl, gpn_10, ⟨gne_10.1, gne_10.2, gpd_7⟩, Nat.le_of_ble_eq_true rfl, Or.inl rfl⟩
set_option maxRecDepth 20000 in
theorem gmk_153 : gmok 153 := ⟨(gin_4 (k := 144) rfl rfl), (gin_1 (k := 1) rfl rfl), (gin_4 (k := 143) rfl rfl), rfl, gpn_10, ⟨gne_10.1, gne_10.2, gpd_7⟩, Nat.le_of_ble_eq_true rfl, Or.inl rfl⟩
set_option maxRecDepth 20000 in
theorem gmk_154 : gmok 154 := ⟨(gin_4 (k := 196) rfl rfl), (gin_1 (k := 1) rfl rfl), (gin_4 (k := 195) rfl rfl), rfl, gpn_10, ⟨gne_10.1, gne_10.2, gpd_57⟩, Nat.le_of_ble_eq_true rfl, Or.inl rfl⟩
set_option maxRecDepth 20000 in
theorem gmk_155 : gmok 155 := ⟨(gin_5 (k := 128) rfl rfl), (gin_1 (k := 12) rfl rfl), ⟨(gin_5 (k := 127) rfl rfl), rfl⟩, rfl, gpn_11, ⟨gne_11.1, gne_11.2, gpd_2⟩, Nat.le_of_ble_eq_true rfl, Or.inr (Nat.le_of_ble_eq_true rfl)⟩
set_option maxRecDepth 20000 in
theorem gmk_156 : gmok 156 := ⟨(gin_6 (k := 106) rfl rfl), (gin_1 (k := 12) rfl rfl), (gin_6 (k := 105) rfl rfl), rfl, gpn_11, ⟨gne_11.1, gne_11.2, gpd_42⟩, Nat.le_of_ble_eq_true rfl, Or.inl rfl⟩
set_option maxRecDepth 20000 in
theorem gmk_157 : gmok 157 := ⟨(gin_5 (k := 133) rfl rfl), (gin_1 (k := 12) rfl rfl), ⟨(gin_5 (k := 132) rfl rfl), (gin_p3 (k := 8) (q := (yX12_anew, 68)) rfl rfl)⟩, rfl, gpn_11, ⟨gne_11.1, gne_11.2, gpd_2⟩, Nat.le_of_ble_eq_true rfl, Or.inr (Nat.le_of_ble_eq_true rfl)⟩
set_option maxRecDepth 20000 in
theorem gmk_158 : gmok 158 := ⟨(gin_6 (k := 174) rfl rfl), (gin_1 (k := 12) rfl rfl), (gin_6 (k := 173) rfl rfl), rfl, gpn_11, ⟨gne_11.1, gne_11.2, gpd_4⟩, Nat.le_of_ble_eq_true rfl, Or.inl rfl⟩
set_option maxRecDepth 20000 in
theorem gmk_159 : gmok 159 := ⟨(gin_6 (k := 171) rfl rfl), (gin_1 (k := 12) rfl rfl), (gin_6 (k := 170) rfl rfl), rfl, gpn_11, ⟨gne_11.1, gne_11.2, gpd_34⟩, Nat.le_of_ble_eq_true rfl, Or.inl rfl⟩
set_option maxRecDepth 20000 in
theorem gmk_160 : gmok 160 := ⟨(gin_6 (k := 168) rfl rfl), (gin_1 (k := 12) rfl rfl), (gin_6 (k := 167) rfl rfl), rfl, gpn_11, ⟨gne_11.1, gne_11.2, gpd_30⟩, Nat.le_of_ble_eq_true rfl, Or.inl rfl⟩
set_option maxRecDepth 20000 in
theorem gmk_161 : gmok 161 := ⟨(gin_6 (k := 214) rfl rfl), (gin_1 (k := 12) rfl rfl), (gin_6 (k := 213) rfl rfl), rfl, gpn_11, ⟨gne_11.1, gne_11.2, gpd_35⟩, Nat.le_of_ble_eq_true rfl, Or.inl rfl⟩
set_option maxRecDepth 20000 in
theorem gmk_162 : gmok 162 := ⟨(gin_6 (k := 165) rfl rfl), (gin_1 (k := 12) rfl rfl), (gin_6 (k := 164) rfl rfl), rfl, gpn_11, ⟨gne_11.1, gne_11.2, gpd_35⟩, Nat.le_of_ble_eq_true rfl, Or.inl rfl⟩
set_option maxRecDepth 20000 in
theorem gmk_163 : gmok 163 := ⟨(gin_6 (k := 238) rfl rfl), (gin_1 (k := 12) rfl rfl), (gin_6 (k := 237) rfl rfl), rfl, gpn_11, ⟨gne_11.1, gne_11.2, gpd_40⟩, Nat.le_of_ble_eq_true rfl, Or.inl rfl⟩
set_option maxRecDepth 20000 in
theorem gmk_164 : gmok 164 := ⟨(gin_7 (k := 45) rfl rfl), (gin_1 (k := 12) rfl rfl), (gin_7 (k := 44) rfl rfl), rfl, gpn_11, ⟨gne_11.1, gne_11.2, gpd_8⟩, Nat.le_of_ble_eq_true rfl, Or.inl rfl⟩
set_option maxRecDepth 20000 in
theorem gmk_165 : gmok 165 := ⟨(gin_6 (k := 235) rfl rfl), (gin_1 (k := 12) rfl rfl), ⟨(gin_6 (k := 234) rfl rfl), (gin_p4 (k := 12) (q := (yX12_zoneIn, 68)) rfl rfl)⟩, rfl, gpn_11, ⟨gne_11.1, gne_11.2, gpd_30⟩, Nat.le_of_ble_eq_true rfl, Or.inr (Nat.le_of_ble_eq_true rfl)⟩
set_option maxRecDepth 20000 in
theorem gmk_166 : gmok 166 := ⟨(gin_7 (k := 5) rfl rfl), (gin_1 (k := 12) rfl rfl), ⟨(gin_7 (k := 4) rfl rfl), (gin_p4 (k := 13) (q := (yX12_parentOf, 68)) rfl rfl)⟩, rfl, gpn_11, ⟨gne_11.1, gne_11.2, gpd_4⟩, Nat.le_of_ble_eq_true rfl, Or.inr (Nat.le_of_ble_eq_true rfl)⟩
set_option maxRecDepth 20000 in
theorem gmk_167 : gmok 167 := ⟨(gin_7 (k := 29) rfl rfl), (gin_1 (k := 12) rfl rfl), ⟨(gin_7 (k := 28) rfl rfl), (gin_p5 (k := 2) (q := (yX12_childAt, 68)) rfl rfl)⟩, rfl, gpn_11, ⟨gne_11.1, gne_11.2, gpd_20⟩, Nat.le_of_ble_eq_true rfl, Or.inr (Nat.le_of_ble_eq_true rfl)⟩
set_option maxRecDepth 20000 in
theorem gmk_168 : gmok 168 := ⟨(gin_7 (k := 25) rfl rfl), (gin_1 (k := 12) rfl rfl), ⟨(gin_7 (k := 24) rfl rfl), (gin_p5 (k := 1) (q := (yX12_sortsOf, 68)) rfl rfl)⟩, rfl, gpn_11, ⟨gne_11.1, gne_11.2, gpd_20⟩, Nat.le_of_ble_eq_true rfl, Or.inr (Nat.le_of_ble_eq_true rfl)⟩
set_option maxRecDepth 20000 in
theorem gmk_169 : gmok 169 := ⟨(gin_7 (k := 21) rfl rfl), (gin_1 (k := 12) rfl rfl), ⟨(gin_7 (k := 20) rfl rfl), (gin_p5 (k := 0) (q := (yX12_isOwner, 68)) rfl rfl)⟩, rfl, gpn_11, ⟨gne_11.1, gne_11.2, gpd_23⟩, Nat.le_of_ble_eq_true rfl, Or.inr (Nat.le_of_ble_eq_true rfl)⟩
set_option maxRecDepth 20000 in
theorem gmk_170 : gmok 170 := ⟨(gin_6 (k := 230) rfl rfl), (gin_1 (k := 12) rfl rfl), ⟨(gin_6 (k := 229) rfl rfl), (gin_p4 (k := 11) (q := (yX12_ownerBehind, 68)) rfl rfl)⟩, rfl, gpn_11, ⟨gne_11.1, gne_11.2, gpd_21⟩, Nat.le_of_ble_eq_true rfl, Or.inr (Nat.le_of_ble_eq_true rfl)⟩
set_option maxRecDepth 20000 in
theorem gmk_171 : gmok 171 := ⟨(gin_7 (k := 1) rfl rfl), (gin_1 (k := 12) rfl rfl), (gin_7 (k := 0) rfl rfl), rfl, gpn_11, ⟨gne_11.1, gne_11.2, gpd_41⟩, Nat.le_of_ble_eq_true rfl, Or.inl rfl⟩
set_option maxRecDepth 20000 in
theorem gmk_172 : gmok 172 := ⟨(gin_6 (k := 226) rfl rfl), (gin_1 (k := 12) rfl rfl), ⟨(gin_6 (k := 225) rfl rfl), (gin_p4 (k := 10) (q := (yX12_ownersOf, 68)) rfl rfl)⟩, rfl, gpn_11, ⟨gne_11.1, gne_11.2, gpd_4⟩, Nat.le_of_ble_eq_true rfl, Or.inr (Nat.le_of_ble_eq_true rfl)⟩
set_option maxRecDepth 20000 in
theorem gmk_173 : gmok 173 := ⟨(gin_7 (k := 33) rfl rfl), (gin_1 (k := 12) rfl rfl), ⟨(gin_7 (k := 32) rfl rfl), (gin_p5 (k := 3) (q := (yX12_ownersAhead, 68)) rfl rfl)⟩, rfl, gpn_11, ⟨gne_11.1, gne_11.2, gpd_20⟩, Nat.le_of_ble_eq_true rfl, Or.inr (Nat.le_of_ble_eq_true rfl)⟩
set_option maxRecDepth 20000 in
theorem gmk_174 : gmok 174 := ⟨(gin_7 (k := 9) rfl rfl), (gin_1 (k := 12) rfl rfl), ⟨(gin_7 (k := 8) rfl rfl), (gin_p4 (k := 14) (q := (yX12_ownerAt, 68)) rfl rfl)⟩, rfl, gpn_11, ⟨gne_11.1, gne_11.2, gpd_9⟩, Nat.le_of_ble_eq_true rfl, Or.inr (Nat.le_of_ble_eq_true rfl)⟩
set_option maxRecDepth 20000 in
theorem gmk_175 : gmok 175 := ⟨(gin_7 (k := 136) rfl rfl), (gin_1 (k := 12) rfl rfl), ⟨(gin_7 (k := 135) rfl rfl), (gin_p6 (k := 4) (q := (yX12_nextOf, 68)) rfl rfl)⟩, rfl, gpn_11, ⟨gne_11.1, gne_11.2, gpd_21⟩, Nat.le_of_ble_eq_true rfl, Or.inr (Nat.le_of_ble_eq_true rfl)⟩
set_option maxRecDepth 20000 in
theorem gmk_176 : gmok 176 := ⟨(gin_7 (k := 17) rfl rfl), (gin_1 (k := 12) rfl rfl), ⟨(gin_7 (k := 16) rfl rfl), (gin_p4 (k := 15) (q := (yX12_isThere, 68)) rfl rfl)⟩, rfl, gpn_11, ⟨gne_11.1, gne_11.2, gpd_23⟩, Nat.le_of_ble_eq_true rfl, Or.inr (Nat.le_of_ble_eq_true rfl)⟩
set_option maxRecDepth 20000 in
theorem gmk_177 : gmok 177 := ⟨(gin_7 (k := 37) rfl rfl), (gin_1 (k := 12) rfl rfl), ⟨(gin_7 (k := 36) rfl rfl), (gin_p5 (k := 4) (q := (yX12_closestOf, 68)) rfl rfl)⟩, rfl, gpn_11, ⟨gne_11.1, gne_11.2, gpd_21⟩, Nat.le_of_ble_eq_true rfl, Or.inr (Nat.le_of_ble_eq_true rfl)⟩
set_option maxRecDepth 20000 in
theorem gmk_178 : gmok 178 := ⟨(gin_7 (k := 78) rfl rfl), (gin_1 (k := 12) rfl rfl), ⟨(gin_7 (k := 77) rfl rfl), (gin_p5 (k := 8) (q := (yX12_recordOf, 68)) rfl rfl)⟩, rfl, gpn_11, ⟨gne_11.1, gne_11.2, gpd_34⟩, Nat.le_of_ble_eq_true rfl, Or.inr (Nat.le_of_ble_eq_true rfl)⟩
set_option maxRecDepth 20000 in
theorem gmk_179 : gmok 179 := ⟨(gin_6 (k := 102) rfl rfl), (gin_1 (k := 12) rfl rfl), ⟨(gin_6 (k := 100) rfl rfl), (gin_6 (k := 101) rfl rfl)⟩, rfl, gpn_11, ⟨gne_11.1, gne_11.2, gpd_4⟩, Nat.le_of_ble_eq_true rfl, Or.inr (Nat.le_of_ble_eq_true rfl)⟩
set_option maxRecDepth 20000 in
theorem gmk_180 : gmok 180 := ⟨(gin_6 (k := 110) rfl rfl), (gin_1 (k := 12) rfl rfl), ⟨(gin_6 (k := 108) rfl rfl), (gin_6 (k := 109) rfl rfl)⟩, rfl, gpn_11, ⟨gne_11.1, gne_11.2, gpd_4⟩, Nat.le_of_ble_eq_true rfl, Or.inr (Nat.le_of_ble_eq_true rfl)⟩
set_option maxRecDepth 20000 in
theorem gmk_181 : gmok 181 := ⟨(gin_6 (k := 122) rfl rfl), (gin_1 (k := 12) rfl rfl), ⟨(gin_6 (k := 121) rfl rfl), (gin_p3 (k := 10) (q := (yX12_byteAt, 68)) rfl rfl)⟩, rfl, gpn_11, ⟨gne_11.1, gne_11.2, gpd_4⟩, Nat.le_of_ble_eq_true rfl, Or.inr (Nat.le_of_ble_eq_true rfl)⟩
set_option maxRecDepth 20000 in
theorem gmk_182 : gmok 182 := ⟨(gin_6 (k := 130) rfl rfl), (gin_1 (k := 12) rfl rfl), ⟨(gin_6 (k := 129) rfl rfl), (gin_p3 (k := 11) (q := (yX12_must, 68)) rfl rfl)⟩, rfl, gpn_11, ⟨gne_11.1, gne_11.2, gpd_56⟩, Nat.le_of_ble_eq_true rfl, Or.inr (Nat.le_of_ble_eq_true rfl)⟩
set_option maxRecDepth 20000 in
theorem gmk_183 : gmok 183 := ⟨(gin_6 (k := 118) rfl rfl), (gin_1 (k := 12) rfl rfl), ⟨(gin_6 (k := 117) rfl rfl), (gin_p3 (k := 9) (q := (yX12_reads, 68)) rfl rfl)⟩, rfl, gpn_11, ⟨gne_11.1, gne_11.2, gpd_2⟩, Nat.le_of_ble_eq_true rfl, Or.inr (Nat.le_of_ble_eq_true rfl)⟩
set_option maxRecDepth 20000 in
theorem gmk_184 : gmok 184 := ⟨(gin_6 (k := 158) rfl rfl), (gin_1 (k := 12) rfl rfl), ⟨(gin_6 (k := 157) rfl rfl), (gin_p4 (k := 2) (q := (yX12_isSign, 68)) rfl rfl)⟩, rfl, gpn_11, ⟨gne_11.1, gne_11.2, gpd_7⟩, Nat.le_of_ble_eq_true rfl, Or.inr (Nat.le_of_ble_eq_true rfl)⟩
set_option maxRecDepth 20000 in
theorem gmk_185 : gmok 185 := ⟨(gin_6 (k := 142) rfl rfl), (gin_1 (k := 12) rfl rfl), ⟨(gin_6 (k := 141) rfl rfl), (gin_p3 (k := 14) (q := (yX12_isWord, 68)) rfl rfl)⟩, rfl, gpn_11, ⟨gne_11.1, gne_11.2, gpd_7⟩, Nat.le_of_ble_eq_true rfl, Or.inr (Nat.le_of_ble_eq_true rfl)⟩
set_option maxRecDepth 20000 in
theorem gmk_186 : gmok 186 := ⟨(gin_6 (k := 138) rfl rfl), (gin_1 (k := 12) rfl rfl), ⟨(gin_6 (k := 137) rfl rfl), (gin_p3 (k := 13) (q := (yX12_wordNow, 68)) rfl rfl)⟩, rfl, gpn_11, ⟨gne_11.1, gne_11.2, gpd_0⟩, Nat.le_of_ble_eq_true rfl, Or.inr (Nat.le_of_ble_eq_true rfl)⟩
set_option maxRecDepth 20000 in
theorem gmk_187 : gmok 187 := ⟨(gin_6 (k := 183) rfl rfl), (gin_1 (k := 12) rfl rfl), ⟨(gin_6 (k := 182) rfl rfl), (gin_p4 (k := 5) (q := (yX12_number, 68)) rfl rfl)⟩, rfl, gpn_11, ⟨gne_11.1, gne_11.2, gpd_8⟩, Nat.le_of_ble_eq_true rfl, Or.inr (Nat.le_of_ble_eq_true rfl)⟩
set_option maxRecDepth 20000 in
theorem gmk_188 : gmok 188 := ⟨(gin_6 (k := 162) rfl rfl), (gin_1 (k := 12) rfl rfl), ⟨(gin_6 (k := 161) rfl rfl), (gin_p4 (k := 3) (q := (yX12_readsLabel, 68)) rfl rfl)⟩, rfl, gpn_11, ⟨gne_11.1, gne_11.2, gpd_6⟩, Nat.le_of_ble_eq_true rfl, Or.inr (Nat.le_of_ble_eq_true rfl)⟩
set_option maxRecDepth 20000 in
theorem gmk_189 : gmok 189 := ⟨(gin_6 (k := 154) rfl rfl), (gin_1 (k := 12) rfl rfl), ⟨(gin_6 (k := 153) rfl rfl), (gin_p4 (k := 1) (q := (yX12_readsName, 68)) rfl rfl)⟩, rfl, gpn_11, ⟨gne_11.1, gne_11.2, gpd_1⟩, Nat.le_of_ble_eq_true rfl, Or.inr (Nat.le_of_ble_eq_true rfl)⟩
set_option maxRecDepth 20000 in
theorem gmk_190 : gmok 190 := ⟨(gin_6 (k := 187) rfl rfl), (gin_1 (k := 12) rfl rfl), ⟨(gin_6 (k := 186) rfl rfl), (gin_p4 (k := 6) (q := (yX12_ends, 68)) rfl rfl)⟩, rfl, gpn_11, ⟨gne_11.1, gne_11.2, gpd_2⟩, Nat.le_of_ble_eq_true rfl, Or.inr (Nat.le_of_ble_eq_true rfl)⟩
set_option maxRecDepth 20000 in
theorem gmk_191 : gmok 191 := ⟨(gin_6 (k := 191) rfl rfl), (gin_1 (k := 12) rfl rfl), ⟨(gin_6 (k := 190) rfl rfl), (gin_p4 (k := 7) (q := (yX12_readsZone, 68)) rfl rfl)⟩, rfl, gpn_11, ⟨gne_11.1, gne_11.2, gpd_54⟩, Nat.le_of_ble_eq_true rfl, Or.inr (Nat.le_of_ble_eq_true rfl)⟩
set_option maxRecDepth 20000 in
theorem gmk_192 : gmok 192 := ⟨(gin_6 (k := 179) rfl rfl), (gin_1 (k := 12) rfl rfl), ⟨(gin_6 (k := 178) rfl rfl), (gin_p4 (k := 4) (q := (yX12_readsSort, 68)) rfl rfl)⟩, rfl, gpn_11, ⟨gne_11.1, gne_11.2, gpd_0⟩, Nat.le_of_ble_eq_true rfl, Or.inr (Nat.le_of_ble_eq_true rfl)⟩
set_option maxRecDepth 20000 in
theorem gmk_193 : gmok 193 := ⟨(gin_6 (k := 150) rfl rfl), (gin_1 (k := 12) rfl rfl), ⟨(gin_6 (k := 149) rfl rfl), (gin_p4 (k := 0) (q := (yX12_readsRecord, 68)) rfl rfl)⟩, rfl, gpn_11, ⟨gne_11.1, gne_11.2, gpd_2⟩, Nat.le_of_ble_eq_true rfl, Or.inr (Nat.le_of_ble_eq_true rfl)⟩
set_option maxRecDepth 20000 in
theorem gmk_194 : gmok 194 := ⟨(gin_6 (k := 146) rfl rfl), (gin_1 (k := 12) rfl rfl), ⟨(gin_6 (k := 145) rfl rfl), (gin_p3 (k := 15) (q := (yX12_isRoomFor, 68)) rfl rfl)⟩, rfl, gpn_11, ⟨gne_11.1, gne_11.2, gpd_7⟩, Nat.le_of_ble_eq_true rfl, Or.inr (Nat.le_of_ble_eq_true rfl)⟩
set_option maxRecDepth 20000 in
theorem gmk_195 : gmok 195 := ⟨(gin_6 (k := 134) rfl rfl), (gin_1 (k := 12) rfl rfl), ⟨(gin_6 (k := 133) rfl rfl), (gin_p3 (k := 12) (q := (yX12_readsLine, 68)) rfl rfl)⟩, rfl, gpn_11, ⟨gne_11.1, gne_11.2, gpd_2⟩, Nat.le_of_ble_eq_true rfl, Or.inr (Nat.le_of_ble_eq_true rfl)⟩
set_option maxRecDepth 20000 in
theorem gmk_196 : gmok 196 := ⟨(gin_6 (k := 195) rfl rfl), (gin_1 (k := 12) rfl rfl), ⟨(gin_6 (k := 194) rfl rfl), (gin_p4 (k := 8) (q := (yX12_takesDraft, 68)) rfl rfl)⟩, rfl, gpn_11, ⟨gne_11.1, gne_11.2, gpd_2⟩, Nat.le_of_ble_eq_true rfl, Or.inr (Nat.le_of_ble_eq_true rfl)⟩
set_option maxRecDepth 20000 in
theorem gmk_197 : gmok 197 := ⟨(gin_6 (k := 114) rfl rfl), (gin_1 (k := 12) rfl rfl), ⟨(gin_6 (k := 112) rfl rfl), (gin_6 (k := 113) rfl rfl)⟩, rfl, gpn_11, ⟨gne_11.1, gne_11.2, gpd_0⟩, Nat.le_of_ble_eq_true rfl, Or.inr (Nat.le_of_ble_eq_true rfl)⟩
set_option maxRecDepth 20000 in
theorem gmk_198 : gmok 198 := ⟨(gin_6 (k := 199) rfl rfl), (gin_1 (k := 12) rfl rfl), ⟨(gin_6 (k := 197) rfl rfl), (gin_6 (k := 198) rfl rfl)⟩, rfl, gpn_11, ⟨gne_11.1, gne_11.2, gpd_0⟩, Nat.le_of_ble_eq_true rfl, Or.inr (Nat.le_of_ble_eq_true rfl)⟩
set_option maxRecDepth 20000 in
theorem gmk_199 : gmok 199 := ⟨(gin_6 (k := 206) rfl rfl), (gin_1 (k := 12) rfl rfl), (gin_6 (k := 205) rfl rfl), rfl, gpn_11, ⟨gne_11.1, gne_11.2, gpd_14⟩, Nat.le_of_ble_eq_true rfl, Or.inl rfl⟩
set_option maxRecDepth 20000 in
theorem gmk_200 : gmok 200 := ⟨(gin_6 (k := 203) rfl rfl), (gin_1 (k := 12) rfl rfl), ⟨(gin_6 (k := 201) rfl rfl), (gin_6 (k := 202) rfl rfl)⟩, rfl, gpn_11, ⟨gne_11.1, gne_11.2, gpd_12⟩, Nat.le_of_ble_eq_true rfl, Or.inr (Nat.le_of_ble_eq_true rfl)⟩
set_option maxRecDepth 20000 in
theorem gmk_201 : gmok 201 := ⟨(gin_6 (k := 211) rfl rfl), (gin_1 (k := 12) rfl rfl), ⟨(gin_6 (k := 209) rfl rfl), (gin_6 (k := 210) rfl rfl)⟩, rfl, gpn_11, ⟨gne_11.1, gne_11.2, gpd_4⟩, Nat.le_of_ble_eq_true rfl, Or.inr (Nat.le_of_ble_eq_true rfl)⟩
set_option maxRecDepth 20000 in
theorem gmk_202 : gmok 202 := ⟨(gin_6 (k := 222) rfl rfl), (gin_1 (k := 12) rfl rfl), ⟨(gin_6 (k := 221) rfl rfl), (gin_p4 (k := 9) (q := (yX12_isZone, 68)) rfl rfl)⟩, rfl, gpn_11, ⟨gne_11.1, gne_11.2, gpd_7⟩, Nat.le_of_ble_eq_true rfl, Or.inr (Nat.le_of_ble_eq_true rfl)⟩
set_option maxRecDepth 20000 in
theorem gmk_203 : gmok 203 := ⟨(gin_6 (k := 218) rfl rfl), (gin_1 (k := 12) rfl rfl), ⟨(gin_6 (k := 216) rfl rfl), (gin_6 (k := 217) rfl rfl)⟩, rfl, gpn_11, ⟨gne_11.1, gne_11.2, gpd_8⟩, Nat.le_of_ble_eq_true rfl, Or.inr (Nat.le_of_ble_eq_true rfl)⟩
set_option maxRecDepth 20000 in
theorem gmk_204 : gmok 204 := ⟨(gin_7 (k := 13) rfl rfl), (gin_1 (k := 12) rfl rfl), ⟨(gin_7 (k := 11) rfl rfl), (gin_7 (k := 12) rfl rfl)⟩, rfl, gpn_11, ⟨gne_11.1, gne_11.2, gpd_4⟩, Nat.le_of_ble_eq_true rfl, Or.inr (Nat.le_of_ble_eq_true rfl)⟩
set_option maxRecDepth 20000 in
theorem gmk_205 : gmok 205 := ⟨(gin_7 (k := 41) rfl rfl), (gin_1 (k := 12) rfl rfl), ⟨(gin_7 (k := 39) rfl rfl), (gin_7 (k := 40) rfl rfl)⟩, rfl, gpn_11, ⟨gne_11.1, gne_11.2, gpd_8⟩, Nat.le_of_ble_eq_true rfl, Or.inr (Nat.le_of_ble_eq_true rfl)⟩
set_option maxRecDepth 20000 in
theorem gmk_206 : gmok 206 := ⟨(gin_7 (k := 53) rfl rfl), (gin_1 (k := 12) rfl rfl), ⟨(gin_7 (k := 52) rfl rfl), (gin_p5 (k := 5) (q := (yX12_recordsIn, 68)) rfl rfl)⟩, rfl, gpn_11, ⟨gne_11.1, gne_11.2, gpd_4⟩, Nat.le_of_ble_eq_true rfl, Or.inr (Nat.le_of_ble_eq_true rfl)⟩
set_option maxRecDepth 20000 in
theorem gmk_207 : gmok 207 := ⟨(gin_7 (k := 49) rfl rfl), (gin_1 (k := 12) rfl rfl), ⟨(gin_7 (k := 47) rfl rfl), (gin_7 (k := 48) rfl rfl)⟩, rfl, gpn_11, ⟨gne_11.1, gne_11.2, gpd_8⟩, Nat.le_of_ble_eq_true rfl, Or.inr (Nat.le_of_ble_eq_true rfl)⟩
set_option maxRecDepth 20000 in
theorem gmk_208 : gmok 208 := ⟨(gin_7 (k := 57) rfl rfl), (gin_1 (k := 12) rfl rfl), ⟨(gin_7 (k := 55) rfl rfl), (gin_7 (k := 56) rfl rfl)⟩, rfl, gpn_11, ⟨gne_11.1, gne_11.2, gpd_12⟩, Nat.le_of_ble_eq_true rfl, Or.inr (Nat.le_of_ble_eq_true rfl)⟩
set_option maxRecDepth 20000 in
theorem gmk_209 : gmok 209 := ⟨(gin_7 (k := 66) rfl rfl), (gin_1 (k := 12) rfl rfl), ⟨(gin_7 (k := 65) rfl rfl), (gin_p5 (k := 6) (q := (yX12_alive, 68)) rfl rfl)⟩, rfl, gpn_11, ⟨gne_11.1, gne_11.2, gpd_0⟩, Nat.le_of_ble_eq_true rfl, Or.inr (Nat.le_of_ble_eq_true rfl)⟩
set_option maxRecDepth 20000 in
theorem gmk_210 : gmok 210 := ⟨(gin_7 (k := 62) rfl rfl), (gin_1 (k := 12) rfl rfl), ⟨(gin_7 (k := 60) rfl rfl), (gin_7 (k := 61) rfl rfl)⟩, rfl, gpn_11, ⟨gne_11.1, gne_11.2, gpd_4⟩, Nat.le_of_ble_eq_true rfl, Or.inr (Nat.le_of_ble_eq_true rfl)⟩
set_option maxRecDepth 20000 in
theorem gmk_211 : gmok 211 := ⟨(gin_7 (k := 82) rfl rfl), (gin_1 (k := 12) rfl rfl), ⟨(gin_7 (k := 81) rfl rfl), (gin_p5 (k := 9) (q := (yX12_starOf, 68)) rfl rfl)⟩, rfl, gpn_11, ⟨gne_11.1, gne_11.2, gpd_21⟩, Nat.le_of_ble_eq_true rfl, Or.inr (Nat.le_of_ble_eq_true rfl)⟩
set_option maxRecDepth 20000 in
theorem gmk_212 : gmok 212 := ⟨(gin_7 (k := 74) rfl rfl), (gin_1 (k := 12) rfl rfl), ⟨(gin_7 (k := 73) rfl rfl), (gin_p5 (k := 7) (q := (yX12_answerTo, 68)) rfl rfl)⟩, rfl, gpn_11, ⟨gne_11.1, gne_11.2, gpd_24⟩, Nat.le_of_ble_eq_true rfl, Or.inr (Nat.le_of_ble_eq_true rfl)⟩
set_option maxRecDepth 20000 in
theorem gmk_213 : gmok 213 := ⟨(gin_7 (k := 86) rfl rfl), (gin_1 (k := 12) rfl rfl), ⟨(gin_7 (k := 85) rfl rfl), (gin_p5 (k := 10) (q := (yX12_valueBy, 68)) rfl rfl)⟩, rfl, gpn_11, ⟨gne_11.1, gne_11.2, gpd_12⟩, Nat.le_of_ble_eq_true rfl, Or.inr (Nat.le_of_ble_eq_true rfl)⟩
set_option maxRecDepth 20000 in
theorem gmk_214 : gmok 214 := ⟨(gin_7 (k := 90) rfl rfl), (gin_1 (k := 12) rfl rfl), ⟨(gin_7 (k := 89) rfl rfl), (gin_p5 (k := 11) (q := (yX12_areSigned, 68)) rfl rfl)⟩, rfl, gpn_11, ⟨gne_11.1, gne_11.2, gpd_7⟩, Nat.le_of_ble_eq_true rfl, Or.inr (Nat.le_of_ble_eq_true rfl)⟩
set_option maxRecDepth 20000 in
theorem gmk_215 : gmok 215 := ⟨(gin_7 (k := 70) rfl rfl), (gin_1 (k := 12) rfl rfl), ⟨(gin_7 (k := 68) rfl rfl), (gin_7 (k := 69) rfl rfl)⟩, rfl, gpn_11, ⟨gne_11.1, gne_11.2, gpd_8⟩, Nat.le_of_ble_eq_true rfl, Or.inr (Nat.le_of_ble_eq_true rfl)⟩
set_option maxRecDepth 20000 in
theorem gmk_216 : gmok 216 := ⟨(gin_7 (k := 125) rfl rfl), (gin_1 (k := 12) rfl rfl), (gin_7 (k := 124) rfl rfl), rfl, gpn_11, ⟨gne_11.1, gne_11.2, gpd_8⟩, Nat.le_of_ble_eq_true rfl, Or.inl rfl⟩
set_option maxRecDepth 20000 in
theorem gmk_217 : gmok 217 := ⟨(gin_7 (k := 128) rfl rfl), (gin_1 (k := 12) rfl rfl), (gin_7 (k := 127) rfl rfl), rfl, gpn_11, ⟨gne_11.1, gne_11.2, gpd_20⟩, Nat.le_of_ble_eq_true rfl, Or.inl rfl⟩
set_option maxRecDepth 20000 in
theorem gmk_218 : gmok 218 := ⟨(gin_7 (k := 122) rfl rfl), (gin_1 (k := 12) rfl rfl), ⟨(gin_7 (k := 121) rfl rfl), (gin_p6 (k := 2) (q := (yX12_contentOf, 68)) rfl rfl)⟩, rfl, gpn_11, ⟨gne_11.1, gne_11.2, gpd_4⟩, Nat.le_of_ble_eq_true rfl, Or.inr (Nat.le_of_ble_eq_true rfl)⟩
set_option maxRecDepth 20000 in
theorem gmk_219 : gmok 219 := ⟨(gin_7 (k := 118) rfl rfl), (gin_1 (k := 12) rfl rfl), ⟨(gin_7 (k := 117) rfl rfl), (gin_p6 (k := 1) (q := (yX12_markBy, 68)) rfl rfl)⟩, rfl, gpn_11, ⟨gne_11.1, gne_11.2, gpd_8⟩, Nat.le_of_ble_eq_true rfl, Or.inr (Nat.le_of_ble_eq_true rfl)⟩
set_option maxRecDepth 20000 in
theorem gmk_220 : gmok 220 := ⟨(gin_7 (k := 110) rfl rfl), (gin_1 (k := 12) rfl rfl), ⟨(gin_7 (k := 109) rfl rfl), (gin_p5 (k := 15) (q := (yX12_comes, 68)) rfl rfl)⟩, rfl, gpn_11, ⟨gne_11.1, gne_11.2, gpd_18⟩, Nat.le_of_ble_eq_true rfl, Or.inr (Nat.le_of_ble_eq_true rfl)⟩
set_option maxRecDepth 20000 in
theorem gmk_221 : gmok 221 := ⟨(gin_7 (k := 114) rfl rfl), (gin_1 (k := 12) rfl rfl), ⟨(gin_7 (k := 113) rfl rfl), (gin_p6 (k := 0) (q := (yX12_signs, 68)) rfl rfl)⟩, rfl, gpn_11, ⟨gne_11.1, gne_11.2, gpd_2⟩, Nat.le_of_ble_eq_true rfl, Or.inr (Nat.le_of_ble_eq_true rfl)⟩
set_option maxRecDepth 20000 in
theorem gmk_222 : gmok 222 := ⟨(gin_7 (k := 106) rfl rfl), (gin_1 (k := 12) rfl rfl), ⟨(gin_7 (k := 105) rfl rfl), (gin_p5 (k := 14) (q := (yX12_keysCome, 68)) rfl rfl)⟩, rfl, gpn_11, ⟨gne_11.1, gne_11.2, gpd_6⟩, Nat.le_of_ble_eq_true rfl, Or.inr (Nat.le_of_ble_eq_true rfl)⟩
set_option maxRecDepth 20000 in
theorem gmk_223 : gmok 223 := ⟨(gin_7 (k := 140) rfl rfl), (gin_1 (k := 12) rfl rfl), ⟨(gin_7 (k := 139) rfl rfl), (gin_p6 (k := 5) (q := (yX12_digestsCome, 68)) rfl rfl)⟩, rfl, gpn_11, ⟨gne_11.1, gne_11.2, gpd_6⟩, Nat.le_of_ble_eq_true rfl, Or.inr (Nat.le_of_ble_eq_true rfl)⟩
set_option maxRecDepth 20000 in
theorem gmk_224 : gmok 224 := ⟨(gin_7 (k := 132) rfl rfl), (gin_1 (k := 12) rfl rfl), ⟨(gin_7 (k := 131) rfl rfl), (gin_p6 (k := 3) (q := (yX12_linkComes, 68)) rfl rfl)⟩, rfl, gpn_11, ⟨gne_11.1, gne_11.2, gpd_22⟩, Nat.le_of_ble_eq_true rfl, Or.inr (Nat.le_of_ble_eq_true rfl)⟩
set_option maxRecDepth 20000 in
theorem gmk_225 : gmok 225 := ⟨(gin_7 (k := 148) rfl rfl), (gin_1 (k := 12) rfl rfl), ⟨(gin_7 (k := 147) rfl rfl), (gin_p6 (k := 7) (q := (yX12_recordComes, 68)) rfl rfl)⟩, rfl, gpn_11, ⟨gne_11.1, gne_11.2, gpd_25⟩, Nat.le_of_ble_eq_true rfl, Or.inr (Nat.le_of_ble_eq_true rfl)⟩
set_option maxRecDepth 20000 in
theorem gmk_226 : gmok 226 := ⟨(gin_7 (k := 152) rfl rfl), (gin_1 (k := 12) rfl rfl), ⟨(gin_7 (k := 151) rfl rfl), (gin_p6 (k := 8) (q := (yX12_covering, 68)) rfl rfl)⟩, rfl, gpn_11, ⟨gne_11.1, gne_11.2, gpd_21⟩, Nat.le_of_ble_eq_true rfl, Or.inr (Nat.le_of_ble_eq_true rfl)⟩
set_option maxRecDepth 20000 in
theorem gmk_227 : gmok 227 := ⟨(gin_7 (k := 102) rfl rfl), (gin_1 (k := 12) rfl rfl), ⟨(gin_7 (k := 101) rfl rfl), (gin_p5 (k := 13) (q := (yX12_chains, 68)) rfl rfl)⟩, rfl, gpn_11, ⟨gne_11.1, gne_11.2, gpd_6⟩, Nat.le_of_ble_eq_true rfl, Or.inr (Nat.le_of_ble_eq_true rfl)⟩
set_option maxRecDepth 20000 in
theorem gmk_228 : gmok 228 := ⟨(gin_7 (k := 98) rfl rfl), (gin_1 (k := 12) rfl rfl), ⟨(gin_7 (k := 97) rfl rfl), (gin_p5 (k := 12) (q := (yX12_chainComes, 68)) rfl rfl)⟩, rfl, gpn_11, ⟨gne_11.1, gne_11.2, gpd_7⟩, Nat.le_of_ble_eq_true rfl, Or.inr (Nat.le_of_ble_eq_true rfl)⟩
set_option maxRecDepth 20000 in
theorem gmk_229 : gmok 229 := ⟨(gin_7 (k := 144) rfl rfl), (gin_1 (k := 12) rfl rfl), ⟨(gin_7 (k := 143) rfl rfl), (gin_p6 (k := 6) (q := (yX12_answerComes, 68)) rfl rfl)⟩, rfl, gpn_11, ⟨gne_11.1, gne_11.2, gpd_25⟩, Nat.le_of_ble_eq_true rfl, Or.inr (Nat.le_of_ble_eq_true rfl)⟩
set_option maxRecDepth 20000 in
theorem gmk_230 : gmok 230 := ⟨(gin_7 (k := 94) rfl rfl), (gin_1 (k := 12) rfl rfl), ⟨(gin_7 (k := 92) rfl rfl), (gin_7 (k := 93) rfl rfl)⟩, rfl, gpn_11, ⟨gne_11.1, gne_11.2, gpd_4⟩, Nat.le_of_ble_eq_true rfl, Or.inr (Nat.le_of_ble_eq_true rfl)⟩
set_option maxRecDepth 20000 in
theorem gmk_231 : gmok 231 := ⟨(gin_7 (k := 161) rfl rfl), (gin_1 (k := 12) rfl rfl), ⟨(gin_7 (k := 160) rfl rfl), (gin_p6 (k := 9) (q := (yX12_wrong, 68)) rfl rfl)⟩, rfl, gpn_11, ⟨gne_11.1, gne_11.2, gpd_27⟩, Nat.le_of_ble_eq_true rfl, Or.inr (Nat.le_of_ble_eq_true rfl)⟩
set_option maxRecDepth 20000 in
theorem gmk_232 : gmok 232 := ⟨(gin_7 (k := 156) rfl rfl), (gin_1 (k := 12) rfl rfl), ⟨(gin_7 (k := 154) rfl rfl), (gin_7 (k := 155) rfl rfl)⟩, rfl, gpn_11, ⟨gne_11.1, gne_11.2, gpd_8⟩, Nat.le_of_ble_eq_true rfl, Or.inr (Nat.le_of_ble_eq_true rfl)⟩
set_option maxRecDepth 20000 in
theorem gmk_233 : gmok 233 := ⟨(gin_7 (k := 169) rfl rfl), (gin_1 (k := 12) rfl rfl), ⟨(gin_7 (k := 168) rfl rfl), (gin_p6 (k := 10) (q := (yX12_copiesItem, 68)) rfl rfl)⟩, rfl, gpn_11, ⟨gne_11.1, gne_11.2, gpd_10⟩, Nat.le_of_ble_eq_true rfl, Or.inr (Nat.le_of_ble_eq_true rfl)⟩
set_option maxRecDepth 20000 in
theorem gmk_234 : gmok 234 := ⟨(gin_7 (k := 165) rfl rfl), (gin_1 (k := 12) rfl rfl), ⟨(gin_7 (k := 163) rfl rfl), (gin_7 (k := 164) rfl rfl)⟩, rfl, gpn_11, ⟨gne_11.1, gne_11.2, gpd_4⟩, Nat.le_of_ble_eq_true rfl, Or.inr (Nat.le_of_ble_eq_true rfl)⟩
set_option maxRecDepth 20000 in
theorem gmk_235 : gmok 235 := ⟨(gin_7 (k := 176) rfl rfl), (gin_1 (k := 12) rfl rfl), (gin_7 (k := 175) rfl rfl), rfl, gpn_11, ⟨gne_11.1, gne_11.2, gpd_11⟩, Nat.le_of_ble_eq_true rfl, Or.inl rfl⟩
set_option maxRecDepth 20000 in
theorem gmk_236 : gmok 236 := ⟨(gin_7 (k := 184) rfl rfl), (gin_1 (k := 12) rfl rfl), ⟨(gin_7 (k := 183) rfl rfl), (gin_p6 (k := 11) (q := (yX12_alters, 68)) rfl rfl)⟩, rfl, gpn_11, ⟨gne_11.1, gne_11.2, gpd_13⟩, Nat.le_of_ble_eq_true rfl, Or.inr (Nat.le_of_ble_eq_true rfl)⟩
set_option maxRecDepth 20000 in
theorem gmk_237 : gmok 237 := ⟨(gin_7 (k := 173) rfl rfl), (gin_1 (k := 12) rfl rfl), ⟨(gin_7 (k := 171) rfl rfl), (gin_7 (k := 172) rfl rfl)⟩, rfl, gpn_11, ⟨gne_11.1, gne_11.2, gpd_12⟩, Nat.le_of_ble_eq_true rfl, Or.inr (Nat.le_of_ble_eq_true rfl)⟩
set_option maxRecDepth 20000 in
theorem gmk_238 : gmok 238 := ⟨(gin_7 (k := 188) rfl rfl), (gin_1 (k := 12) rfl rfl), ⟨(gin_7 (k := 186) rfl rfl), (gin_7 (k := 187) rfl rfl)⟩, rfl, gpn_11, ⟨gne_11.1, gne_11.2, gpd_8⟩, Nat.le_of_ble_eq_true rfl, Or.inr (Nat.le_of_ble_eq_true rfl)⟩
set_option maxRecDepth 20000 in
theorem gmk_239 : gmok 239 := ⟨(gin_7 (k := 192) rfl rfl), (gin_1 (k := 12) rfl rfl), ⟨(gin_7 (k := 190) rfl rfl), (gin_7 (k := 191) rfl rfl)⟩, rfl, gpn_11, ⟨gne_11.1, gne_11.2, gpd_4⟩, Nat.le_of_ble_eq_true rfl, Or.inr (Nat.le_of_ble_eq_true rfl)⟩
set_option maxRecDepth 20000 in
theorem gmk_240 : gmok 240 := ⟨(gin_7 (k := 223) rfl rfl), (gin_1 (k := 12) rfl rfl), (gin_7 (k := 222) rfl rfl), rfl, gpn_11, ⟨gne_11.1, gne_11.2, gpd_57⟩, Nat.le_of_ble_eq_true rfl, Or.inl rfl⟩
set_option maxRecDepth 20000 in
theorem gmk_241 : gmok 241 := ⟨(gin_7 (k := 220) rfl rfl), (gin_1 (k := 12) rfl rfl), ⟨(gin_7 (k := 219) rfl rfl), (gin_p7 (k := 1) (q := (yX12_isRight, 68)) rfl rfl)⟩, rfl, gpn_11, ⟨gne_11.1, gne_11.2, gpd_29⟩, Nat.le_of_ble_eq_true rfl, Or.inr (Nat.le_of_ble_eq_true rfl)⟩
set_option maxRecDepth 20000 in
theorem gmk_242 : gmok 242 := ⟨(gin_7 (k := 208) rfl rfl), (gin_1 (k := 12) rfl rfl), ⟨(gin_7 (k := 207) rfl rfl), (gin_p6 (k := 14) (q := (yX12_entryOf, 68)) rfl rfl)⟩, rfl, gpn_11, ⟨gne_11.1, gne_11.2, gpd_8⟩, Nat.le_of_ble_eq_true rfl, Or.inr (Nat.le_of_ble_eq_true rfl)⟩
set_option maxRecDepth 20000 in
theorem gmk_243 : gmok 243 := ⟨(gin_7 (k := 204) rfl rfl), (gin_1 (k := 12) rfl rfl), ⟨(gin_7 (k := 203) rfl rfl), (gin_p6 (k := 13) (q := (yX12_aliveEntry, 68)) rfl rfl)⟩, rfl, gpn_11, ⟨gne_11.1, gne_11.2, gpd_8⟩, Nat.le_of_ble_eq_true rfl, Or.inr (Nat.le_of_ble_eq_true rfl)⟩
set_option maxRecDepth 20000 in
theorem gmk_244 : gmok 244 := ⟨(gin_7 (k := 235) rfl rfl), (gin_1 (k := 12) rfl rfl), ⟨(gin_7 (k := 234) rfl rfl), (gin_p7 (k := 4) (q := (yX12_leaves, 68)) rfl rfl)⟩, rfl, gpn_11, ⟨gne_11.1, gne_11.2, gpd_6⟩, Nat.le_of_ble_eq_true rfl, Or.inr (Nat.le_of_ble_eq_true rfl)⟩
set_option maxRecDepth 20000 in
theorem gmk_245 : gmok 245 := ⟨(gin_7 (k := 231) rfl rfl), (gin_1 (k := 12) rfl rfl), ⟨(gin_7 (k := 230) rfl rfl), (gin_p7 (k := 3) (q := (yX12_entryComes, 68)) rfl rfl)⟩, rfl, gpn_11, ⟨gne_11.1, gne_11.2, gpd_13⟩, Nat.le_of_ble_eq_true rfl, Or.inr (Nat.le_of_ble_eq_true rfl)⟩
set_option maxRecDepth 20000 in
theorem gmk_246 : gmok 246 := ⟨(gin_7 (k := 212) rfl rfl), (gin_1 (k := 12) rfl rfl), ⟨(gin_7 (k := 211) rfl rfl), (gin_p6 (k := 15) (q := (yX12_takesEntry, 68)) rfl rfl)⟩, rfl, gpn_11, ⟨gne_11.1, gne_11.2, gpd_28⟩, Nat.le_of_ble_eq_true rfl, Or.inr (Nat.le_of_ble_eq_true rfl)⟩
set_option maxRecDepth 20000 in
theorem gmk_247 : gmok 247 := ⟨(gin_7 (k := 227) rfl rfl), (gin_1 (k := 12) rfl rfl), ⟨(gin_7 (k := 226) rfl rfl), (gin_p7 (k := 2) (q := (yX12_takesItem, 68)) rfl rfl)⟩, rfl, gpn_11, ⟨gne_11.1, gne_11.2, gpd_28⟩, Nat.le_of_ble_eq_true rfl, Or.inr (Nat.le_of_ble_eq_true rfl)⟩
set_option maxRecDepth 20000 in
theorem gmk_248 : gmok 248 := ⟨(gin_7 (k := 216) rfl rfl), (gin_1 (k := 12) rfl rfl), ⟨(gin_7 (k := 215) rfl rfl), (gin_p7 (k := 0) (q := (yX12_findsDigests, 68)) rfl rfl)⟩, rfl, gpn_11, ⟨gne_11.1, gne_11.2, gpd_8⟩, Nat.le_of_ble_eq_true rfl, Or.inr (Nat.le_of_ble_eq_true rfl)⟩
set_option maxRecDepth 20000 in
theorem gmk_249 : gmok 249 := ⟨(gin_7 (k := 200) rfl rfl), (gin_1 (k := 12) rfl rfl), ⟨(gin_7 (k := 199) rfl rfl), (gin_p6 (k := 12) (q := (yX12_findsKeys, 68)) rfl rfl)⟩, rfl, gpn_11, ⟨gne_11.1, gne_11.2, gpd_8⟩, Nat.le_of_ble_eq_true rfl, Or.inr (Nat.le_of_ble_eq_true rfl)⟩
set_option maxRecDepth 20000 in
theorem gmk_250 : gmok 250 := ⟨(gin_8 (k := 7) rfl rfl), (gin_1 (k := 12) rfl rfl), ⟨(gin_8 (k := 6) rfl rfl), (gin_p7 (k := 7) (q := (yX12_isOf, 68)) rfl rfl)⟩, rfl, gpn_11, ⟨gne_11.1, gne_11.2, gpd_14⟩, Nat.le_of_ble_eq_true rfl, Or.inr (Nat.le_of_ble_eq_true rfl)⟩
set_option maxRecDepth 20000 in
theorem gmk_251 : gmok 251 := ⟨(gin_8 (k := 19) rfl rfl), (gin_1 (k := 12) rfl rfl), ⟨(gin_8 (k := 18) rfl rfl), (gin_p7 (k := 10) (q := (yX12_covers, 68)) rfl rfl)⟩, rfl, gpn_11, ⟨gne_11.1, gne_11.2, gpd_23⟩, Nat.le_of_ble_eq_true rfl, Or.inr (Nat.le_of_ble_eq_true rfl)⟩
set_option maxRecDepth 20000 in
theorem gmk_252 : gmok 252 := ⟨(gin_8 (k := 3) rfl rfl), (gin_1 (k := 12) rfl rfl), ⟨(gin_8 (k := 2) rfl rfl), (gin_p7 (k := 6) (q := (yX12_recordItem, 68)) rfl rfl)⟩, rfl, gpn_11, ⟨gne_11.1, gne_11.2, gpd_20⟩, Nat.le_of_ble_eq_true rfl, Or.inr (Nat.le_of_ble_eq_true rfl)⟩
set_option maxRecDepth 20000 in
theorem gmk_253 : gmok 253 := ⟨(gin_8 (k := 11) rfl rfl), (gin_1 (k := 12) rfl rfl), ⟨(gin_8 (k := 10) rfl rfl), (gin_p7 (k := 8) (q := (yX12_isWithout, 68)) rfl rfl)⟩, rfl, gpn_11, ⟨gne_11.1, gne_11.2, gpd_23⟩, Nat.le_of_ble_eq_true rfl, Or.inr (Nat.le_of_ble_eq_true rfl)⟩
set_option maxRecDepth 20000 in
theorem gmk_254 : gmok 254 := ⟨(gin_8 (k := 15) rfl rfl), (gin_1 (k := 12) rfl rfl), ⟨(gin_8 (k := 14) rfl rfl), (gin_p7 (k := 9) (q := (yX12_coveringItem, 68)) rfl rfl)⟩, rfl, gpn_11, ⟨gne_11.1, gne_11.2, gpd_26⟩, Nat.le_of_ble_eq_true rfl, Or.inr (Nat.le_of_ble_eq_true rfl)⟩
set_option maxRecDepth 20000 in
theorem gmk_255 : gmok 255 := ⟨(gin_8 (k := 23) rfl rfl), (gin_1 (k := 12) rfl rfl), ⟨(gin_8 (k := 22) rfl rfl), (gin_p7 (k := 11) (q := (yX12_starBy, 68)) rfl rfl)⟩, rfl, gpn_11, ⟨gne_11.1, gne_11.2, gpd_35⟩, Nat.le_of_ble_eq_true rfl, Or.inr (Nat.le_of_ble_eq_true rfl)⟩
set_option maxRecDepth 20000 in
theorem gmk_256 : gmok 256 := ⟨(gin_7 (k := 239) rfl rfl), (gin_1 (k := 12) rfl rfl), ⟨(gin_7 (k := 238) rfl rfl), (gin_p7 (k := 5) (q := (yX12_shows, 68)) rfl rfl)⟩, rfl, gpn_11, ⟨gne_11.1, gne_11.2, gpd_4⟩, Nat.le_of_ble_eq_true rfl, Or.inr (Nat.le_of_ble_eq_true rfl)⟩
set_option maxRecDepth 20000 in
theorem gmk_257 : gmok 257 := ⟨(gin_7 (k := 196) rfl rfl), (gin_1 (k := 12) rfl rfl), ⟨(gin_7 (k := 194) rfl rfl), (gin_7 (k := 195) rfl rfl)⟩, rfl, gpn_11, ⟨gne_11.1, gne_11.2, gpd_0⟩, Nat.le_of_ble_eq_true rfl, Or.inr (Nat.le_of_ble_eq_true rfl)⟩
set_option maxRecDepth 20000 in
theorem gmk_258 : gmok 258 := ⟨(gin_8 (k := 27) rfl rfl), (gin_1 (k := 12) rfl rfl), ⟨(gin_8 (k := 25) rfl rfl), (gin_8 (k := 26) rfl rfl)⟩, rfl, gpn_11, ⟨gne_11.1, gne_11.2, gpd_4⟩, Nat.le_of_ble_eq_true rfl, Or.inr (Nat.le_of_ble_eq_true rfl)⟩
set_option maxRecDepth 20000 in
theorem gmk_259 : gmok 259 := ⟨(gin_8 (k := 31) rfl rfl), (gin_1 (k := 12) rfl rfl), ⟨(gin_8 (k := 29) rfl rfl), (gin_8 (k := 30) rfl rfl)⟩, rfl, gpn_11, ⟨gne_11.1, gne_11.2, gpd_8⟩, Nat.le_of_ble_eq_true rfl, Or.inr (Nat.le_of_ble_eq_true rfl)⟩
set_option maxRecDepth 20000 in
theorem gmk_260 : gmok 260 := ⟨(gin_8 (k := 36) rfl rfl), (gin_1 (k := 12) rfl rfl), ⟨(gin_8 (k := 34) rfl rfl), (gin_8 (k := 35) rfl rfl)⟩, rfl, gpn_11, ⟨gne_11.1, gne_11.2, gpd_4⟩, Nat.le_of_ble_eq_true rfl, Or.inr (Nat.le_of_ble_eq_true rfl)⟩
set_option maxRecDepth 20000 in
theorem gmk_261 : gmok 261 := ⟨(gin_8 (k := 45) rfl rfl), (gin_1 (k := 12) rfl rfl), (gin_8 (k := 44) rfl rfl), rfl, gpn_11, ⟨gne_11.1, gne_11.2, gpd_7⟩, Nat.le_of_ble_eq_true rfl, Or.inl rfl⟩
set_option maxRecDepth 20000 in
theorem gmk_262 : gmok 262 := ⟨(gin_8 (k := 49) rfl rfl), (gin_1 (k := 12) rfl rfl), ⟨(gin_8 (k := 48) rfl rfl), (gin_p7 (k := 12) (q := (yX12_keyAt, 68)) rfl rfl)⟩, rfl, gpn_11, ⟨gne_11.1, gne_11.2, gpd_8⟩, Nat.le_of_ble_eq_true rfl, Or.inr (Nat.le_of_ble_eq_true rfl)⟩
set_option maxRecDepth 20000 in
theorem gmk_263 : gmok 263 := ⟨(gin_8 (k := 61) rfl rfl), (gin_1 (k := 12) rfl rfl), ⟨(gin_8 (k := 60) rfl rfl), (gin_p7 (k := 13) (q := (yX12_digestAt, 68)) rfl rfl)⟩, rfl, gpn_11, ⟨gne_11.1, gne_11.2, gpd_8⟩, Nat.le_of_ble_eq_true rfl, Or.inr (Nat.le_of_ble_eq_true rfl)⟩
set_option maxRecDepth 20000 in
theorem gmk_264 : gmok 264 := ⟨(gin_8 (k := 42) rfl rfl), (gin_1 (k := 12) rfl rfl), ⟨(gin_8 (k := 40) rfl rfl), (gin_8 (k := 41) rfl rfl)⟩, rfl, gpn_11, ⟨gne_11.1, gne_11.2, gpd_8⟩, Nat.le_of_ble_eq_true rfl, Or.inr (Nat.le_of_ble_eq_true rfl)⟩
set_option maxRecDepth 20000 in
theorem gmk_265 : gmok 265 := ⟨(gin_8 (k := 53) rfl rfl), (gin_1 (k := 12) rfl rfl), ⟨(gin_8 (k := 51) rfl rfl), (gin_8 (k := 52) rfl rfl)⟩, rfl, gpn_11, ⟨gne_11.1, gne_11.2, gpd_8⟩, Nat.le_of_ble_eq_true rfl, Or.inr (Nat.le_of_ble_eq_true rfl)⟩
set_option maxRecDepth 20000 in
theorem gmk_266 : gmok 266 := ⟨(gin_8 (k := 57) rfl rfl), (gin_1 (k := 12) rfl rfl), ⟨(gin_8 (k := 55) rfl rfl), (gin_8 (k := 56) rfl rfl)⟩, rfl, gpn_11, ⟨gne_11.1, gne_11.2, gpd_8⟩, Nat.le_of_ble_eq_true rfl, Or.inr (Nat.le_of_ble_eq_true rfl)⟩
set_option maxRecDepth 20000 in
theorem gmk_267 : gmok 267 := ⟨(gin_8 (k := 65) rfl rfl), (gin_1 (k := 12) rfl rfl), ⟨(gin_8 (k := 63) rfl rfl), (gin_8 (k := 64) rfl rfl)⟩, rfl, gpn_11, ⟨gne_11.1, gne_11.2, gpd_8⟩, Nat.le_of_ble_eq_true rfl, Or.inr (Nat.le_of_ble_eq_true rfl)⟩
set_option maxRecDepth 20000 in
theorem gmk_268 : gmok 268 := ⟨(gin_8 (k := 73) rfl rfl), (gin_1 (k := 12) rfl rfl), ⟨(gin_8 (k := 72) rfl rfl), (gin_p7 (k := 14) (q := (yX12_against, 68)) rfl rfl)⟩, rfl, gpn_11, ⟨gne_11.1, gne_11.2, gpd_8⟩, Nat.le_of_ble_eq_true rfl, Or.inr (Nat.le_of_ble_eq_true rfl)⟩
set_option maxRecDepth 20000 in
theorem gmk_269 : gmok 269 := ⟨(gin_8 (k := 69) rfl rfl), (gin_1 (k := 12) rfl rfl), ⟨(gin_8 (k := 67) rfl rfl), (gin_8 (k := 68) rfl rfl)⟩, rfl, gpn_11, ⟨gne_11.1, gne_11.2, gpd_8⟩, Nat.le_of_ble_eq_true rfl, Or.inr (Nat.le_of_ble_eq_true rfl)⟩
set_option maxRecDepth 20000 in
theorem gmk_270 : gmok 270 := ⟨(gin_8 (k := 77) rfl rfl), (gin_1 (k := 12) rfl rfl), ⟨(gin_8 (k := 75) rfl rfl), (gin_8 (k := 76) rfl rfl)⟩, rfl, gpn_11, ⟨gne_11.1, gne_11.2, gpd_8⟩, Nat.le_of_ble_eq_true rfl, Or.inr (Nat.le_of_ble_eq_true rfl)⟩
set_option maxRecDepth 20000 in
theorem gmk_271 : gmok 271 := ⟨(gin_8 (k := 81) rfl rfl), (gin_1 (k := 12) rfl rfl), ⟨(gin_8 (k := 79) rfl rfl), (gin_8 (k := 80) rfl rfl)⟩, rfl, gpn_11, ⟨gne_11.1, gne_11.2, gpd_8⟩, Nat.le_of_ble_eq_true rfl, Or.inr (Nat.le_of_ble_eq_true rfl)⟩
set_option maxRecDepth 20000 in
theorem gmk_272 : gmok 272 := ⟨(gin_8 (k := 86) rfl rfl), (gin_1 (k := 12) rfl rfl), ⟨(gin_8 (k := 84) rfl rfl), (gin_8 (k := 85) rfl rfl)⟩, rfl, gpn_11, ⟨gne_11.1, gne_11.2, gpd_4⟩, Nat.le_of_ble_eq_true rfl, Or.inr (Nat.le_of_ble_eq_true rfl)⟩
set_option maxRecDepth 20000 in
theorem gmk_273 : gmok 273 := ⟨(gin_8 (k := 94) rfl rfl), (gin_1 (k := 12) rfl rfl), ⟨(gin_8 (k := 93) rfl rfl), (gin_p7 (k := 15) (q := (yX12_keepsPart, 68)) rfl rfl)⟩, rfl, gpn_11, ⟨gne_11.1, gne_11.2, gpd_58⟩, Nat.le_of_ble_eq_true rfl, Or.inr (Nat.le_of_ble_eq_true rfl)⟩
set_option maxRecDepth 20000 in
theorem gmk_274 : gmok 274 := ⟨(gin_8 (k := 102) rfl rfl), (gin_1 (k := 12) rfl rfl), ⟨(gin_8 (k := 101) rfl rfl), (gin_p8 (k := 0) (q := (yX12_bringsPart, 68)) rfl rfl)⟩, rfl, gpn_11, ⟨gne_11.1, gne_11.2, gpd_58⟩, Nat.le_of_ble_eq_true rfl, Or.inr (Nat.le_of_ble_eq_true rfl)⟩
set_option maxRecDepth 20000 in
theorem gmk_275 : gmok 275 := ⟨(gin_8 (k := 90) rfl rfl), (gin_1 (k := 12) rfl rfl), ⟨(gin_8 (k := 88) rfl rfl), (gin_8 (k := 89) rfl rfl)⟩, rfl, gpn_11, ⟨gne_11.1, gne_11.2, gpd_4⟩, Nat.le_of_ble_eq_true rfl, Or.inr (Nat.le_of_ble_eq_true rfl)⟩
set_option maxRecDepth 20000 in
theorem gmk_276 : gmok 276 := ⟨(gin_8 (k := 98) rfl rfl), (gin_1 (k := 12) rfl rfl), ⟨(gin_8 (k := 96) rfl rfl), (gin_8 (k := 97) rfl rfl)⟩, rfl, gpn_11, ⟨gne_11.1, gne_11.2, gpd_4⟩, Nat.le_of_ble_eq_true rfl, Or.inr (Nat.le_of_ble_eq_true rfl)⟩
