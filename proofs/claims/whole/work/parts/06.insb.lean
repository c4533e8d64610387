set_option maxRecDepth 100000 in
theorem gq_49_0 : gi_49_0.all (gqc 49) = true := by decide +kernel
set_option maxRecDepth 100000 in
theorem gq_49_1 : gi_49_1.all (gqc 49) = true := by decide +kernel
theorem gqm_49 : ∀ l ∈ gi_49, l.all (gqc 49) = true := (List.forall_mem_cons.mpr ⟨gq_49_0, (List.forall_mem_cons.mpr ⟨gq_49_1, (fun _ h => absurd h List.not_mem_nil)⟩)⟩)
set_option maxRecDepth 100000 in
theorem gq_50_0 : gi_50_0.all (gqc 50) = true := by decide +kernel
theorem gqm_50 : ∀ l ∈ gi_50, l.all (gqc 50) = true := (List.forall_mem_cons.mpr ⟨gq_50_0, (fun _ h => absurd h List.not_mem_nil)⟩)
set_option maxRecDepth 100000 in
theorem gq_51_0 : gi_51_0.all (gqc 51) = true := by decide +kernel
set_option maxRecDepth 100000 in
theorem gq_51_1 : gi_51_1.all (gqc 51) = true := by decide +kernel
set_option maxRecDepth 100000 in
theorem gq_51_2 : gi_51_2.all (gqc 51) = true := by decide +kernel
theorem gqm_51 : ∀ l ∈ gi_51, l.all (gqc 51) = true := (List.forall_mem_cons.mpr ⟨gq_51_0, (List.forall_mem_cons.mpr ⟨gq_51_1, (List.forall_mem_cons.mpr ⟨gq_51_2, (fun _ h => absurd h List.not_mem_nil)⟩)⟩)⟩)
set_option maxRecDepth 100000 in
theorem gq_52_0 : gi_52_0.all (gqc 52) = true := by decide +kernel
set_option maxRecDepth 100000 in
theorem gq_52_1 : gi_52_1.all (gqc 52) = true := by decide +kernel
set_option maxRecDepth 100000 in
theorem gq_52_2 : gi_52_2.all (gqc 52) = true := by decide +kernel
set_option maxRecDepth 100000 in
theorem gq_52_3 : gi_52_3.all (gqc 52) = true := by decide +kernel
theorem gqm_52 : ∀ l ∈ gi_52, l.all (gqc 52) = true := (List.forall_mem_cons.mpr ⟨gq_52_0, (List.forall_mem_cons.mpr ⟨gq_52_1, (List.forall_mem_cons.mpr ⟨gq_52_2, (List.forall_mem_cons.mpr ⟨gq_52_3, (fun _ h => absurd h List.not_mem_nil)⟩)⟩)⟩)⟩)
set_option maxRecDepth 100000 in
theorem gq_53_0 : gi_53_0.all (gqc 53) = true := by decide +kernel
set_option maxRecDepth 100000 in
theorem gq_53_1 : gi_53_1.all (gqc 53) = true := by decide +kernel
set_option maxRecDepth 100000 in
theorem gq_53_2 : gi_53_2.all (gqc 53) = true := by decide +kernel
set_option maxRecDepth 100000 in
theorem gq_53_3 : gi_53_3.all (gqc 53) = true := by decide +kernel
set_option maxRecDepth 100000 in
theorem gq_53_4 : gi_53_4.all (gqc 53) = true := by decide +kernel
set_option maxRecDepth 100000 in
theorem gq_53_5 : gi_53_5.all (gqc 53) = true := by decide +kernel
set_option maxRecDepth 100000 in
theorem gq_53_6 : gi_53_6.all (gqc 53) = true := by decide +kernel
theorem gqm_53 : ∀ l ∈ gi_53, l.all (gqc 53) = true := (List.forall_mem_cons.mpr ⟨gq_53_0, (List.forall_mem_cons.mpr ⟨gq_53_1, (List.forall_mem_cons.mpr ⟨gq_53_2, (List.forall_mem_cons.mpr ⟨gq_53_3, (List.forall_mem_cons.mpr ⟨gq_53_4, (List.forall_mem_cons.mpr ⟨gq_53_5, (List.forall_mem_cons.mpr ⟨gq_53_6, (fun _ h => absurd h List.not_mem_nil)⟩)⟩)⟩)⟩)⟩)⟩)⟩)
set_option maxRecDepth 100000 in
theorem gq_54_0 : gi_54_0.all (gqc 54) = true := by decide +kernel
set_option maxRecDepth 100000 in
theorem gq_54_1 : gi_54_1.all (gqc 54) = true := by decide +kernel
theorem gqm_54 : ∀ l ∈ gi_54, l.all (gqc 54) = true := (List.forall_mem_cons.mpr ⟨gq_54_0, (List.forall_mem_cons.mpr ⟨gq_54_1, (fun _ h => absurd h List.not_mem_nil)⟩)⟩)
set_option maxRecDepth 100000 in
theorem gq_55_0 : gi_55_0.all (gqc 55) = true := by decide +kernel
set_option maxRecDepth 100000 in
theorem gq_55_1 : gi_55_1.all (gqc 55) = true := by decide +kernel
theorem gqm_55 : ∀ l ∈ gi_55, l.all (gqc 55) = true := (List.forall_mem_cons.mpr ⟨gq_55_0, (List.forall_mem_cons.mpr ⟨gq_55_1, (fun _ h => absurd h List.not_mem_nil)⟩)⟩)
set_option maxRecDepth 100000 in
theorem gq_56_0 : gi_56_0.all (gqc 56) = true := by decide +kernel
set_option maxRecDepth 100000 in
theorem gq_56_1 : gi_56_1.all (gqc 56) = true := by decide +kernel
theorem gqm_56 : ∀ l ∈ gi_56, l.all (gqc 56) = true := (List.forall_mem_cons.mpr ⟨gq_56_0, (List.forall_mem_cons.mpr ⟨gq_56_1, (fun _ h => absurd h List.not_mem_nil)⟩)⟩)
set_option maxRecDepth 100000 in
theorem gq_57_0 : gi_57_0.all (gqc 57) = true := by decide +kernel
set_option maxRecDepth 100000 in
theorem gq_57_1 : gi_57_1.all (gqc 57) = true := by decide +kernel
theorem gqm_57 : ∀ l ∈ gi_57, l.all (gqc 57) = true := (List.forall_mem_cons.mpr ⟨gq_57_0, (List.forall_mem_cons.mpr ⟨gq_57_1, (fun _ h => absurd h List.not_mem_nil)⟩)⟩)
set_option maxRecDepth 100000 in
theorem gq_58_0 : gi_58_0.all (gqc 58) = true := by decide +kernel
set_option maxRecDepth 100000 in
theorem gq_58_1 : gi_58_1.all (gqc 58) = true := by decide +kernel
set_option maxRecDepth 100000 in
theorem gq_58_2 : gi_58_2.all (gqc 58) = true := by decide +kernel
theorem gqm_58 : ∀ l ∈ gi_58, l.all (gqc 58) = true := (List.forall_mem_cons.mpr ⟨gq_58_0, (List.forall_mem_cons.mpr ⟨gq_58_1, (List.forall_mem_cons.mpr ⟨gq_58_2, (fun _ h => absurd h List.not_mem_nil)⟩)⟩)⟩)
set_option maxRecDepth 100000 in
theorem gq_59_0 : gi_59_0.all (gqc 59) = true := by decide +kernel
set_option maxRecDepth 100000 in
theorem gq_59_1 : gi_59_1.all (gqc 59) = true := by decide +kernel
set_option maxRecDepth 100000 in
theorem gq_59_2 : gi_59_2.all (gqc 59) = true := by decide +kernel
theorem gqm_59 : ∀ l ∈ gi_59, l.all (gqc 59) = true := (List.forall_mem_cons.mpr ⟨gq_59_0, (List.forall_mem_cons.mpr ⟨gq_59_1, (List.forall_mem_cons.mpr ⟨gq_59_2, (fun _ h => absurd h List.not_mem_nil)⟩)⟩)⟩)
set_option maxRecDepth 100000 in
theorem gq_60_0 : gi_60_0.all (gqc 60) = true := by decide +kernel
set_option maxRecDepth 100000 in
theorem gq_60_1 : gi_60_1.all (gqc 60) = true := by decide +kernel
theorem gqm_60 : ∀ l ∈ gi_60, l.all (gqc 60) = true := (List.forall_mem_cons.mpr ⟨gq_60_0, (List.forall_mem_cons.mpr ⟨gq_60_1, (fun _ h => absurd h List.not_mem_nil)⟩)⟩)
set_option maxRecDepth 100000 in
theorem gq_61_0 : gi_61_0.all (gqc 61) = true := by decide +kernel
set_option maxRecDepth 100000 in
theorem gq_61_1 : gi_61_1.all (gqc 61) = true := by decide +kernel
set_option maxRecDepth 100000 in
theorem gq_61_2 : gi_61_2.all (gqc 61) = true := by decide +kernel
theorem gqm_61 : ∀ l ∈ gi_61, l.all (gqc 61) = true := (List.forall_mem_cons.mpr ⟨gq_61_0, (List.forall_mem_cons.mpr ⟨gq_61_1, (List.forall_mem_cons.mpr ⟨gq_61_2, (fun _ h => absurd h List.not_mem_nil)⟩)⟩)⟩)
set_option maxRecDepth 100000 in
theorem gq_62_0 : gi_62_0.all (gqc 62) = true := by decide +kernel
theorem gqm_62 : ∀ l ∈ gi_62, l.all (gqc 62) = true := (List.forall_mem_cons.mpr ⟨gq_62_0, (fun _ h => absurd h List.not_mem_nil)⟩)
set_option maxRecDepth 100000 in
theorem gq_63_0 : gi_63_0.all (gqc 63) = true := by decide +kernel
set_option maxRecDepth 100000 in
theorem gq_63_1 : gi_63_1.all (gqc 63) = true := by decide +kernel
set_option maxRecDepth 100000 in
theorem gq_63_2 : gi_63_2.all (gqc 63) = true := by decide +kernel
set_option maxRecDepth 100000 in
theorem gq_63_3 : gi_63_3.all (gqc 63) = true := by decide +kernel
set_option maxRecDepth 100000 in
theorem gq_63_4 : gi_63_4.all (gqc 63) = true := by decide +kernel
set_option maxRecDepth 100000 in
theorem gq_63_5 : gi_63_5.all (gqc 63) = true := by decide +kernel
set_option maxRecDepth 100000 in
theorem gq_63_6 : gi_63_6.all (gqc 63) = true := by decide +kernel
set_option maxRecDepth 100000 in
theorem gq_63_7 : gi_63_7.all (gqc 63) = true := by decide +kernel
theorem gqm_63 : ∀ l ∈ gi_63, l.all (gqc 63) = true := (List.forall_mem_cons.mpr ⟨gq_63_0, (List.forall_mem_cons.mpr ⟨gq_63_1, (List.forall_mem_cons.mpr ⟨gq_63_2, (List.forall_mem_cons.mpr ⟨gq_63_3, (List.forall_mem_cons.mpr ⟨gq_63_4, (List.forall_mem_cons.mpr ⟨gq_63_5, (List.forall_mem_cons.mpr ⟨gq_63_6, (List.forall_mem_cons.mpr ⟨gq_63_7, (fun _ h => absurd h List.not_mem_nil)⟩)⟩)⟩)⟩)⟩)⟩)⟩)⟩)
set_option maxRecDepth 100000 in
theorem gq_64_0 : gi_64_0.all (gqc 64) = true := by decide +kernel
theorem gqm_64 : ∀ l ∈ gi_64, l.all (gqc 64) = true := (List.forall_mem_cons.mpr ⟨gq_64_0, (fun _ h => absurd h List.not_mem_nil)⟩)
set_option maxRecDepth 100000 in
theorem gq_65_0 : gi_65_0.all (gqc 65) = true := by decide +kernel
set_option maxRecDepth 100000 in
theorem gq_65_1 : gi_65_1.all (gqc 65) = true := by decide +kernel
theorem gqm_65 : ∀ l ∈ gi_65, l.all (gqc 65) = true := (List.forall_mem_cons.mpr ⟨gq_65_0, (List.forall_mem_cons.mpr ⟨gq_65_1, (fun _ h => absurd h List.not_mem_nil)⟩)⟩)
set_option maxRecDepth 100000 in
theorem gq_66_0 : gi_66_0.all (gqc 66) = true := by decide +kernel
set_option maxRecDepth 100000 in
theorem gq_66_1 : gi_66_1.all (gqc 66) = true := by decide +kernel
theorem gqm_66 : ∀ l ∈ gi_66, l.all (gqc 66) = true := (List.forall_mem_cons.mpr ⟨gq_66_0, (List.forall_mem_cons.mpr ⟨gq_66_1, (fun _ h => absurd h List.not_mem_nil)⟩)⟩)
set_option maxRecDepth 100000 in
theorem gq_67_0 : gi_67_0.all (gqc 67) = true := by decide +kernel
set_option maxRecDepth 100000 in
theorem gq_67_1 : gi_67_1.all (gqc 67) = true := by decide +kernel
set_option maxRecDepth 100000 in
theorem gq_67_2 : gi_67_2.all (gqc 67) = true := by decide +kernel
theorem gqm_67 : ∀ l ∈ gi_67, l.all (gqc 67) = true := (List.forall_mem_cons.mpr ⟨gq_67_0, (List.forall_mem_cons.mpr ⟨gq_67_1, (List.forall_mem_cons.mpr ⟨gq_67_2, (fun _ h => absurd h List.not_mem_nil)⟩)⟩)⟩)
set_option maxRecDepth 100000 in
theorem gq_68_0 : gi_68_0.all (gqc 68) = true := by decide +kernel
set_option maxRecDepth 100000 in
theorem gq_68_1 : gi_68_1.all (gqc 68) = true := by decide +kernel
set_option maxRecDepth 100000 in
theorem gq_68_2 : gi_68_2.all (gqc 68) = true := by decide +kernel
theorem gqm_68 : ∀ l ∈ gi_68, l.all (gqc 68) = true := (List.forall_mem_cons.mpr ⟨gq_68_0, (List.forall_mem_cons.mpr ⟨gq_68_1, (List.forall_mem_cons.mpr ⟨gq_68_2, (fun _ h => absurd h List.not_mem_nil)⟩)⟩)⟩)
set_option maxRecDepth 100000 in
theorem gq_69_0 : gi_69_0.all (gqc 69) = true := by decide +kernel
set_option maxRecDepth 100000 in
theorem gq_69_1 : gi_69_1.all (gqc 69) = true := by decide +kernel
set_option maxRecDepth 100000 in
theorem gq_69_2 : gi_69_2.all (gqc 69) = true := by decide +kernel
theorem gqm_69 : ∀ l ∈ gi_69, l.all (gqc 69) = true := (List.forall_mem_cons.mpr ⟨gq_69_0, (List.forall_mem_cons.mpr ⟨gq_69_1, (List.forall_mem_cons.mpr ⟨gq_69_2, (fun _ h => absurd h List.not_mem_nil)⟩)⟩)⟩)
set_option maxRecDepth 100000 in
theorem gq_70_0 : gi_70_0.all (gqc 70) = true := by decide +kernel
set_option maxRecDepth 100000 in
theorem gq_70_1 : gi_70_1.all (gqc 70) = true := by decide +kernel
set_option maxRecDepth 100000 in
theorem gq_70_2 : gi_70_2.all (gqc 70) = true := by decide +kernel
set_option maxRecDepth 100000 in
theorem gq_70_3 : gi_70_3.all (gqc 70) = true := by decide +kernel
set_option maxRecDepth 100000 in
theorem gq_70_4 : gi_70_4.all (gqc 70) = true := by decide +kernel
theorem gqm_70 : ∀ l ∈ gi_70, l.all (gqc 70) = true := (List.forall_mem_cons.mpr ⟨gq_70_0, (List.forall_mem_cons.mpr ⟨gq_70_1, (List.forall_mem_cons.mpr ⟨gq_70_2, (List.forall_mem_cons.mpr ⟨gq_70_3, (List.forall_mem_cons.mpr ⟨gq_70_4, (fun _ h => absurd h List.not_mem_nil)⟩)⟩)⟩)⟩)⟩)
set_option maxRecDepth 100000 in
theorem gq_71_0 : gi_71_0.all (gqc 71) = true := by decide +kernel
set_option maxRecDepth 100000 in
theorem gq_71_1 : gi_71_1.all (gqc 71) = true := by decide +kernel
set_option maxRecDepth 100000 in
theorem gq_71_2 : gi_71_2.all (gqc 71) = true := by decide +kernel
theorem gqm_71 : ∀ l ∈ gi_71, l.all (gqc 71) = true := (List.forall_mem_cons.mpr ⟨gq_71_0, (List.forall_mem_cons.mpr ⟨gq_71_1, (List.forall_mem_cons.mpr ⟨gq_71_2, (fun _ h => absurd h List.not_mem_nil)⟩)⟩)⟩)
set_option maxRecDepth 100000 in
theorem gq_72_0 : gi_72_0.all (gqc 72) = true := by decide +kernel
set_option maxRecDepth 100000 in
theorem gq_72_1 : gi_72_1.all (gqc 72) = true := by decide +kernel
theorem gqm_72 : ∀ l ∈ gi_72, l.all (gqc 72) = true := (List.forall_mem_cons.mpr ⟨gq_72_0, (List.forall_mem_cons.mpr ⟨gq_72_1, (fun _ h => absurd h List.not_mem_nil)⟩)⟩)
set_option maxRecDepth 100000 in
theorem gq_73_0 : gi_73_0.all (gqc 73) = true := by decide +kernel
set_option maxRecDepth 100000 in
theorem gq_73_1 : gi_73_1.all (gqc 73) = true := by decide +kernel
set_option maxRecDepth 100000 in
theorem gq_73_2 : gi_73_2.all (gqc 73) = true := by decide +kernel
set_option maxRecDepth 100000 in
theorem gq_73_3 : gi_73_3.all (gqc 73) = true := by decide +kernel
set_option maxRecDepth 100000 in
theorem gq_73_4 : gi_73_4.all (gqc 73) = true := by decide +kernel
theorem gqm_73 : ∀ l ∈ gi_73, l.all (gqc 73) = true := (List.forall_mem_cons.mpr ⟨gq_73_0, (List.forall_mem_cons.mpr ⟨gq_73_1, (List.forall_mem_cons.mpr ⟨gq_73_2, (List.forall_mem_cons.mpr ⟨gq_73_3, (List.forall_mem_cons.mpr ⟨gq_73_4, (fun _ h => absurd h List.not_mem_nil)⟩)⟩)⟩)⟩)⟩)
set_option maxRecDepth 100000 in
theorem gq_74_0 : gi_74_0.all (gqc 74) = true := by decide +kernel
theorem gqm_74 : ∀ l ∈ gi_74, l.all (gqc 74) = true := (List.forall_mem_cons.mpr ⟨gq_74_0, (fun _ h => absurd h List.not_mem_nil)⟩)
set_option maxRecDepth 100000 in
theorem gq_75_0 : gi_75_0.all (gqc 75) = true := by decide +kernel
theorem gqm_75 : ∀ l ∈ gi_75, l.all (gqc 75) = true := (List.forall_mem_cons.mpr ⟨gq_75_0, (fun _ h => absurd h List.not_mem_nil)⟩)
set_option maxRecDepth 100000 in
theorem gq_76_0 : gi_76_0.all (gqc 76) = true := by decide +kernel
set_option maxRecDepth 100000 in
theorem gq_76_1 : gi_76_1.all (gqc 76) = true := by decide +kernel
theorem gqm_76 : ∀ l ∈ gi_76, l.all (gqc 76) = true := (List.forall_mem_cons.mpr ⟨gq_76_0, (List.forall_mem_cons.mpr ⟨gq_76_1, (fun _ h => absurd h List.not_mem_nil)⟩)⟩)
set_option maxRecDepth 100000 in
theorem gq_77_0 : gi_77_0.all (gqc 77) = true := by decide +kernel
theorem gqm_77 : ∀ l ∈ gi_77, l.all (gqc 77) = true := (List.forall_mem_cons.mpr ⟨gq_77_0, (fun _ h => absurd h List.not_mem_nil)⟩)
set_option maxRecDepth 100000 in
theorem gq_78_0 : gi_78_0.all (gqc 78) = true := by decide +kernel
set_option maxRecDepth 100000 in
theorem gq_78_1 : gi_78_1.all (gqc 78) = true := by decide +kernel
theorem gqm_78 : ∀ l ∈ gi_78, l.all (gqc 78) = true := (List.forall_mem_cons.mpr ⟨gq_78_0, (List.forall_mem_cons.mpr ⟨gq_78_1, (fun _ h => absurd h List.not_mem_nil)⟩)⟩)
set_option maxRecDepth 100000 in
theorem gq_79_0 : gi_79_0.all (gqc 79) = true := by decide +kernel
theorem gqm_79 : ∀ l ∈ gi_79, l.all (gqc 79) = true := (List.forall_mem_cons.mpr ⟨gq_79_0, (fun _ h => absurd h List.not_mem_nil)⟩)
set_option maxRecDepth 100000 in
theorem gq_80_0 : gi_80_0.all (gqc 80) = true := by decide +kernel
set_option maxRecDepth 100000 in
theorem gq_80_1 : gi_80_1.all (gqc 80) = true := by decide +kernel
set_option maxRecDepth 100000 in
theorem gq_80_2 : gi_80_2.all (gqc 80) = true := by decide +kernel
theorem gqm_80 : ∀ l ∈ gi_80, l.all (gqc 80) = true := (List.forall_mem_cons.mpr ⟨gq_80_0, (List.forall_mem_cons.mpr ⟨gq_80_1, (List.forall_mem_cons.mpr ⟨gq_80_2, (fun _ h => absurd h List.not_mem_nil)⟩)⟩)⟩)
set_option maxRecDepth 100000 in
theorem gq_81_0 : gi_81_0.all (gqc 81) = true := by decide +kernel
set_option maxRecDepth 100000 in
theorem gq_81_1 : gi_81_1.all (gqc 81) = true := by decide +kernel
set_option maxRecDepth 100000 in
theorem gq_81_2 : gi_81_2.all (gqc 81) = true := by decide +kernel
theorem gqm_81 : ∀ l ∈ gi_81, l.all (gqc 81) = true := (List.forall_mem_cons.mpr ⟨gq_81_0, (List.forall_mem_cons.mpr ⟨gq_81_1, (List.forall_mem_cons.mpr ⟨gq_81_2, (fun _ h => absurd h List.not_mem_nil)⟩)⟩)⟩)
set_option maxRecDepth 100000 in
theorem gq_82_0 : gi_82_0.all (gqc 82) = true := by decide +kernel
set_option maxRecDepth 100000 in
theorem gq_82_1 : gi_82_1.all (gqc 82) = true := by decide +kernel
theorem gqm_82 : ∀ l ∈ gi_82, l.all (gqc 82) = true := (List.forall_mem_cons.mpr ⟨gq_82_0, (List.forall_mem_cons.mpr ⟨gq_82_1, (fun _ h => absurd h List.not_mem_nil)⟩)⟩)
set_option maxRecDepth 100000 in
theorem gq_83_0 : gi_83_0.all (gqc 83) = true := by decide +kernel
set_option maxRecDepth 100000 in
theorem gq_83_1 : gi_83_1.all (gqc 83) = true := by decide +kernel
theorem gqm_83 : ∀ l ∈ gi_83, l.all (gqc 83) = true := (List.forall_mem_cons.mpr ⟨gq_83_0, (List.forall_mem_cons.mpr ⟨gq_83_1, (fun _ h => absurd h List.not_mem_nil)⟩)⟩)
set_option maxRecDepth 100000 in
theorem gq_84_0 : gi_84_0.all (gqc 84) = true := by decide +kernel
set_option maxRecDepth 100000 in
theorem gq_84_1 : gi_84_1.all (gqc 84) = true := by decide +kernel
theorem gqm_84 : ∀ l ∈ gi_84, l.all (gqc 84) = true := (List.forall_mem_cons.mpr ⟨gq_84_0, (List.forall_mem_cons.mpr ⟨gq_84_1, (fun _ h => absurd h List.not_mem_nil)⟩)⟩)
set_option maxRecDepth 100000 in
theorem gq_85_0 : gi_85_0.all (gqc 85) = true := by decide +kernel
theorem gqm_85 : ∀ l ∈ gi_85, l.all (gqc 85) = true := (List.forall_mem_cons.mpr ⟨gq_85_0, (fun _ h => absurd h List.not_mem_nil)⟩)
set_option maxRecDepth 100000 in
theorem gq_86_0 : gi_86_0.all (gqc 86) = true := by decide +kernel
theorem gqm_86 : ∀ l ∈ gi_86, l.all (gqc 86) = true := (List.forall_mem_cons.mpr ⟨gq_86_0, (fun _ h => absurd h List.not_mem_nil)⟩)
set_option maxRecDepth 100000 in
theorem gq_87_0 : gi_87_0.all (gqc 87) = true := by decide +kernel
set_option maxRecDepth 100000 in
theorem gq_87_1 : gi_87_1.all (gqc 87) = true := by decide +kernel
theorem gqm_87 : ∀ l ∈ gi_87, l.all (gqc 87) = true := (List.forall_mem_cons.mpr ⟨gq_87_0, (List.forall_mem_cons.mpr ⟨gq_87_1, (fun _ h => absurd h List.not_mem_nil)⟩)⟩)
set_option maxRecDepth 100000 in
theorem gq_88_0 : gi_88_0.all (gqc 88) = true := by decide +kernel
set_option maxRecDepth 100000 in
theorem gq_88_1 : gi_88_1.all (gqc 88) = true := by decide +kernel
theorem gqm_88 : ∀ l ∈ gi_88, l.all (gqc 88) = true := (List.forall_mem_cons.mpr ⟨gq_88_0, (List.forall_mem_cons.mpr ⟨gq_88_1, (fun _ h => absurd h List.not_mem_nil)⟩)⟩)
set_option maxRecDepth 100000 in
theorem gq_89_0 : gi_89_0.all (gqc 89) = true := by decide +kernel
set_option maxRecDepth 100000 in
theorem gq_89_1 : gi_89_1.all (gqc 89) = true := by decide +kernel
theorem gqm_89 : ∀ l ∈ gi_89, l.all (gqc 89) = true := (List.forall_mem_cons.mpr ⟨gq_89_0, (List.forall_mem_cons.mpr ⟨gq_89_1, (fun _ h => absurd h List.not_mem_nil)⟩)⟩)
set_option maxRecDepth 100000 in
theorem gq_90_0 : gi_90_0.all (gqc 90) = true := by decide +kernel
set_option maxRecDepth 100000 in
theorem gq_90_1 : gi_90_1.all (gqc 90) = true := by decide +kernel
theorem gqm_90 : ∀ l ∈ gi_90, l.all (gqc 90) = true := (List.forall_mem_cons.mpr ⟨gq_90_0, (List.forall_mem_cons.mpr ⟨gq_90_1, (fun _ h => absurd h List.not_mem_nil)⟩)⟩)
set_option maxRecDepth 100000 in
theorem gq_91_0 : gi_91_0.all (gqc 91) = true := by decide +kernel
set_option maxRecDepth 100000 in
theorem gq_91_1 : gi_91_1.all (gqc 91) = true := by decide +kernel
theorem gqm_91 : ∀ l ∈ gi_91, l.all (gqc 91) = true := (List.forall_mem_cons.mpr ⟨gq_91_0, (List.forall_mem_cons.mpr ⟨gq_91_1, (fun _ h => absurd h List.not_mem_nil)⟩)⟩)
set_option maxRecDepth 100000 in
theorem gq_92_0 : gi_92_0.all (gqc 92) = true := by decide +kernel
set_option maxRecDepth 100000 in
theorem gq_92_1 : gi_92_1.all (gqc 92) = true := by decide +kernel
set_option maxRecDepth 100000 in
theorem gq_92_2 : gi_92_2.all (gqc 92) = true := by decide +kernel
theorem gqm_92 : ∀ l ∈ gi_92, l.all (gqc 92) = true := (List.forall_mem_cons.mpr ⟨gq_92_0, (List.forall_mem_cons.mpr ⟨gq_92_1, (List.forall_mem_cons.mpr ⟨gq_92_2, (fun _ h => absurd h List.not_mem_nil)⟩)⟩)⟩)
set_option maxRecDepth 100000 in
theorem gq_93_0 : gi_93_0.all (gqc 93) = true := by decide +kernel
set_option maxRecDepth 100000 in
theorem gq_93_1 : gi_93_1.all (gqc 93) = true := by decide +kernel
theorem gqm_93 : ∀ l ∈ gi_93, l.all (gqc 93) = true := (List.forall_mem_cons.mpr ⟨gq_93_0, (List.forall_mem_cons.mpr ⟨gq_93_1, (fun _ h => absurd h List.not_mem_nil)⟩)⟩)
set_option maxRecDepth 100000 in
theorem gq_94_0 : gi_94_0.all (gqc 94) = true := by decide +kernel
set_option maxRecDepth 100000 in
theorem gq_94_1 : gi_94_1.all (gqc 94) = true := by decide +kernel
set_option maxRecDepth 100000 in
theorem gq_94_2 : gi_94_2.all (gqc 94) = true := by decide +kernel
set_option maxRecDepth 100000 in
theorem gq_94_3 : gi_94_3.all (gqc 94) = true := by decide +kernel
set_option maxRecDepth 100000 in
theorem gq_94_4 : gi_94_4.all (gqc 94) = true := by decide +kernel
set_option maxRecDepth 100000 in
theorem gq_94_5 : gi_94_5.all (gqc 94) = true := by decide +kernel
theorem gqm_94 : ∀ l ∈ gi_94, l.all (gqc 94) = true := (List.forall_mem_cons.mpr ⟨gq_94_0, (List.forall_mem_cons.mpr ⟨gq_94_1, (List.forall_mem_cons.mpr ⟨gq_94_2, (List.forall_mem_cons.mpr ⟨gq_94_3, (List.forall_mem_cons.mpr ⟨gq_94_4, (List.forall_mem_cons.mpr ⟨gq_94_5, (fun _ h => absurd h List.not_mem_nil)⟩)⟩)⟩)⟩)⟩)⟩)
set_option maxRecDepth 100000 in
theorem gq_95_0 : gi_95_0.all (gqc 95) = true := by decide +kernel
theorem gqm_95 : ∀ l ∈ gi_95, l.all (gqc 95) = true := (List.forall_mem_cons.mpr ⟨gq_95_0, (fun _ h => absurd h List.not_mem_nil)⟩)
set_option maxRecDepth 100000 in
theorem gq_96_0 : gi_96_0.all (gqc 96) = true := by decide +kernel
set_option maxRecDepth 100000 in
theorem gq_96_1 : gi_96_1.all (gqc 96) = true := by decide +kernel
theorem gqm_96 : ∀ l ∈ gi_96, l.all (gqc 96) = true := (List.forall_mem_cons.mpr ⟨gq_96_0, (List.forall_mem_cons.mpr ⟨gq_96_1, (fun _ h => absurd h List.not_mem_nil)⟩)⟩)
set_option maxRecDepth 100000 in
theorem gq_97_0 : gi_97_0.all (gqc 97) = true := by decide +kernel
set_option maxRecDepth 100000 in
theorem gq_97_1 : gi_97_1.all (gqc 97) = true := by decide +kernel
set_option maxRecDepth 100000 in
theorem gq_97_2 : gi_97_2.all (gqc 97) = true := by decide +kernel
set_option maxRecDepth 100000 in
theorem gq_97_3 : gi_97_3.all (gqc 97) = true := by decide +kernel
set_option maxRecDepth 100000 in
theorem gq_97_4 : gi_97_4.all (gqc 97) = true := by decide +kernel
theorem gqm_97 : ∀ l ∈ gi_97, l.all (gqc 97) = true := (List.forall_mem_cons.mpr ⟨gq_97_0, (List.forall_mem_cons.mpr ⟨gq_97_1, (List.forall_mem_cons.mpr ⟨gq_97_2, (List.forall_mem_cons.mpr ⟨gq_97_3, (List.forall_mem_cons.mpr ⟨gq_97_4, (fun _ h => absurd h List.not_mem_nil)⟩)⟩)⟩)⟩)⟩)
set_option maxRecDepth 100000 in
theorem gq_98_0 : gi_98_0.all (gqc 98) = true := by decide +kernel
set_option maxRecDepth 100000 in
theorem gq_98_1 : gi_98_1.all (gqc 98) = true := by decide +kernel
