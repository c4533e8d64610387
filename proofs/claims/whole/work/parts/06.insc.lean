set_option maxRecDepth 100000 in
theorem gq_98_2 : gi_98_2.all (gqc 98) = true := by decide +kernel
set_option maxRecDepth 100000 in
theorem gq_98_3 : gi_98_3.all (gqc 98) = true := by decide +kernel
theorem gqm_98 : ∀ l ∈ gi_98, l.all (gqc 98) = true := (List.forall_mem_cons.mpr ⟨gq_98_0, (List.forall_mem_cons.mpr ⟨gq_98_1, (List.forall_mem_cons.mpr ⟨gq_98_2, (List.forall_mem_cons.mpr ⟨gq_98_3, (fun _ h => absurd h List.not_mem_nil)⟩)⟩)⟩)⟩)
set_option maxRecDepth 100000 in
theorem gq_99_0 : gi_99_0.all (gqc 99) = true := by decide +kernel
set_option maxRecDepth 100000 in
theorem gq_99_1 : gi_99_1.all (gqc 99) = true := by decide +kernel
set_option maxRecDepth 100000 in
theorem gq_99_2 : gi_99_2.all (gqc 99) = true := by decide +kernel
theorem gqm_99 : ∀ l ∈ gi_99, l.all (gqc 99) = true := (List.forall_mem_cons.mpr ⟨gq_99_0, (List.forall_mem_cons.mpr ⟨gq_99_1, (List.forall_mem_cons.mpr ⟨gq_99_2, (fun _ h => absurd h List.not_mem_nil)⟩)⟩)⟩)
set_option maxRecDepth 100000 in
theorem gq_100_0 : gi_100_0.all (gqc 100) = true := by decide +kernel
set_option maxRecDepth 100000 in
theorem gq_100_1 : gi_100_1.all (gqc 100) = true := by decide +kernel
theorem gqm_100 : ∀ l ∈ gi_100, l.all (gqc 100) = true := (List.forall_mem_cons.mpr ⟨gq_100_0, (List.forall_mem_cons.mpr ⟨gq_100_1, (fun _ h => absurd h List.not_mem_nil)⟩)⟩)
set_option maxRecDepth 100000 in
theorem gq_101_0 : gi_101_0.all (gqc 101) = true := by decide +kernel
set_option maxRecDepth 100000 in
theorem gq_101_1 : gi_101_1.all (gqc 101) = true := by decide +kernel
theorem gqm_101 : ∀ l ∈ gi_101, l.all (gqc 101) = true := (List.forall_mem_cons.mpr ⟨gq_101_0, (List.forall_mem_cons.mpr ⟨gq_101_1, (fun _ h => absurd h List.not_mem_nil)⟩)⟩)
set_option maxRecDepth 100000 in
theorem gq_102_0 : gi_102_0.all (gqc 102) = true := by decide +kernel
set_option maxRecDepth 100000 in
theorem gq_102_1 : gi_102_1.all (gqc 102) = true := by decide +kernel
set_option maxRecDepth 100000 in
theorem gq_102_2 : gi_102_2.all (gqc 102) = true := by decide +kernel
set_option maxRecDepth 100000 in
theorem gq_102_3 : gi_102_3.all (gqc 102) = true := by decide +kernel
theorem gqm_102 : ∀ l ∈ gi_102, l.all (gqc 102) = true := (List.forall_mem_cons.mpr ⟨gq_102_0, (List.forall_mem_cons.mpr ⟨gq_102_1, (List.forall_mem_cons.mpr ⟨gq_102_2, (List.forall_mem_cons.mpr ⟨gq_102_3, (fun _ h => absurd h List.not_mem_nil)⟩)⟩)⟩)⟩)
set_option maxRecDepth 100000 in
theorem gq_103_0 : gi_103_0.all (gqc 103) = true := by decide +kernel
set_option maxRecDepth 100000 in
theorem gq_103_1 : gi_103_1.all (gqc 103) = true := by decide +kernel
set_option maxRecDepth 100000 in
theorem gq_103_2 : gi_103_2.all (gqc 103) = true := by decide +kernel
set_option maxRecDepth 100000 in
theorem gq_103_3 : gi_103_3.all (gqc 103) = true := by decide +kernel
theorem gqm_103 : ∀ l ∈ gi_103, l.all (gqc 103) = true := (List.forall_mem_cons.mpr ⟨gq_103_0, (List.forall_mem_cons.mpr ⟨gq_103_1, (List.forall_mem_cons.mpr ⟨gq_103_2, (List.forall_mem_cons.mpr ⟨gq_103_3, (fun _ h => absurd h List.not_mem_nil)⟩)⟩)⟩)⟩)
set_option maxRecDepth 100000 in
theorem gq_104_0 : gi_104_0.all (gqc 104) = true := by decide +kernel
set_option maxRecDepth 100000 in
theorem gq_104_1 : gi_104_1.all (gqc 104) = true := by decide +kernel
theorem gqm_104 : ∀ l ∈ gi_104, l.all (gqc 104) = true := (List.forall_mem_cons.mpr ⟨gq_104_0, (List.forall_mem_cons.mpr ⟨gq_104_1, (fun _ h => absurd h List.not_mem_nil)⟩)⟩)
set_option maxRecDepth 100000 in
theorem gq_105_0 : gi_105_0.all (gqc 105) = true := by decide +kernel
set_option maxRecDepth 100000 in
theorem gq_105_1 : gi_105_1.all (gqc 105) = true := by decide +kernel
set_option maxRecDepth 100000 in
theorem gq_105_2 : gi_105_2.all (gqc 105) = true := by decide +kernel
theorem gqm_105 : ∀ l ∈ gi_105, l.all (gqc 105) = true := (List.forall_mem_cons.mpr ⟨gq_105_0, (List.forall_mem_cons.mpr ⟨gq_105_1, (List.forall_mem_cons.mpr ⟨gq_105_2, (fun _ h => absurd h List.not_mem_nil)⟩)⟩)⟩)
set_option maxRecDepth 100000 in
theorem gq_106_0 : gi_106_0.all (gqc 106) = true := by decide +kernel
set_option maxRecDepth 100000 in
theorem gq_106_1 : gi_106_1.all (gqc 106) = true := by decide +kernel
set_option maxRecDepth 100000 in
theorem gq_106_2 : gi_106_2.all (gqc 106) = true := by decide +kernel
theorem gqm_106 : ∀ l ∈ gi_106, l.all (gqc 106) = true := (List.forall_mem_cons.mpr ⟨gq_106_0, (List.forall_mem_cons.mpr ⟨gq_106_1, (List.forall_mem_cons.mpr ⟨gq_106_2, (fun _ h => absurd h List.not_mem_nil)⟩)⟩)⟩)
set_option maxRecDepth 100000 in
theorem gq_107_0 : gi_107_0.all (gqc 107) = true := by decide +kernel
set_option maxRecDepth 100000 in
theorem gq_107_1 : gi_107_1.all (gqc 107) = true := by decide +kernel
set_option maxRecDepth 100000 in
theorem gq_107_2 : gi_107_2.all (gqc 107) = true := by decide +kernel
theorem gqm_107 : ∀ l ∈ gi_107, l.all (gqc 107) = true := (List.forall_mem_cons.mpr ⟨gq_107_0, (List.forall_mem_cons.mpr ⟨gq_107_1, (List.forall_mem_cons.mpr ⟨gq_107_2, (fun _ h => absurd h List.not_mem_nil)⟩)⟩)⟩)
set_option maxRecDepth 100000 in
theorem gq_108_0 : gi_108_0.all (gqc 108) = true := by decide +kernel
set_option maxRecDepth 100000 in
theorem gq_108_1 : gi_108_1.all (gqc 108) = true := by decide +kernel
theorem gqm_108 : ∀ l ∈ gi_108, l.all (gqc 108) = true := (List.forall_mem_cons.mpr ⟨gq_108_0, (List.forall_mem_cons.mpr ⟨gq_108_1, (fun _ h => absurd h List.not_mem_nil)⟩)⟩)
set_option maxRecDepth 100000 in
theorem gq_109_0 : gi_109_0.all (gqc 109) = true := by decide +kernel
set_option maxRecDepth 100000 in
theorem gq_109_1 : gi_109_1.all (gqc 109) = true := by decide +kernel
theorem gqm_109 : ∀ l ∈ gi_109, l.all (gqc 109) = true := (List.forall_mem_cons.mpr ⟨gq_109_0, (List.forall_mem_cons.mpr ⟨gq_109_1, (fun _ h => absurd h List.not_mem_nil)⟩)⟩)
set_option maxRecDepth 100000 in
theorem gq_110_0 : gi_110_0.all (gqc 110) = true := by decide +kernel
theorem gqm_110 : ∀ l ∈ gi_110, l.all (gqc 110) = true := (List.forall_mem_cons.mpr ⟨gq_110_0, (fun _ h => absurd h List.not_mem_nil)⟩)
set_option maxRecDepth 100000 in
theorem gq_111_0 : gi_111_0.all (gqc 111) = true := by decide +kernel
set_option maxRecDepth 100000 in
theorem gq_111_1 : gi_111_1.all (gqc 111) = true := by decide +kernel
set_option maxRecDepth 100000 in
theorem gq_111_2 : gi_111_2.all (gqc 111) = true := by decide +kernel
theorem gqm_111 : ∀ l ∈ gi_111, l.all (gqc 111) = true := (List.forall_mem_cons.mpr ⟨gq_111_0, (List.forall_mem_cons.mpr ⟨gq_111_1, (List.forall_mem_cons.mpr ⟨gq_111_2, (fun _ h => absurd h List.not_mem_nil)⟩)⟩)⟩)
set_option maxRecDepth 100000 in
theorem gq_112_0 : gi_112_0.all (gqc 112) = true := by decide +kernel
set_option maxRecDepth 100000 in
theorem gq_112_1 : gi_112_1.all (gqc 112) = true := by decide +kernel
set_option maxRecDepth 100000 in
theorem gq_112_2 : gi_112_2.all (gqc 112) = true := by decide +kernel
set_option maxRecDepth 100000 in
theorem gq_112_3 : gi_112_3.all (gqc 112) = true := by decide +kernel
theorem gqm_112 : ∀ l ∈ gi_112, l.all (gqc 112) = true := (List.forall_mem_cons.mpr ⟨gq_112_0, (List.forall_mem_cons.mpr ⟨gq_112_1, (List.forall_mem_cons.mpr ⟨gq_112_2, (List.forall_mem_cons.mpr ⟨gq_112_3, (fun _ h => absurd h List.not_mem_nil)⟩)⟩)⟩)⟩)
set_option maxRecDepth 100000 in
theorem gq_113_0 : gi_113_0.all (gqc 113) = true := by decide +kernel
set_option maxRecDepth 100000 in
theorem gq_113_1 : gi_113_1.all (gqc 113) = true := by decide +kernel
set_option maxRecDepth 100000 in
theorem gq_113_2 : gi_113_2.all (gqc 113) = true := by decide +kernel
theorem gqm_113 : ∀ l ∈ gi_113, l.all (gqc 113) = true := (List.forall_mem_cons.mpr ⟨gq_113_0, (List.forall_mem_cons.mpr ⟨gq_113_1, (List.forall_mem_cons.mpr ⟨gq_113_2, (fun _ h => absurd h List.not_mem_nil)⟩)⟩)⟩)
set_option maxRecDepth 100000 in
theorem gq_114_0 : gi_114_0.all (gqc 114) = true := by decide +kernel
set_option maxRecDepth 100000 in
theorem gq_114_1 : gi_114_1.all (gqc 114) = true := by decide +kernel
set_option maxRecDepth 100000 in
theorem gq_114_2 : gi_114_2.all (gqc 114) = true := by decide +kernel
set_option maxRecDepth 100000 in
theorem gq_114_3 : gi_114_3.all (gqc 114) = true := by decide +kernel
set_option maxRecDepth 100000 in
theorem gq_114_4 : gi_114_4.all (gqc 114) = true := by decide +kernel
theorem gqm_114 : ∀ l ∈ gi_114, l.all (gqc 114) = true := (List.forall_mem_cons.mpr ⟨gq_114_0, (List.forall_mem_cons.mpr ⟨gq_114_1, (List.forall_mem_cons.mpr ⟨gq_114_2, (List.forall_mem_cons.mpr ⟨gq_114_3, (List.forall_mem_cons.mpr ⟨gq_114_4, (fun _ h => absurd h List.not_mem_nil)⟩)⟩)⟩)⟩)⟩)
set_option maxRecDepth 100000 in
theorem gq_115_0 : gi_115_0.all (gqc 115) = true := by decide +kernel
set_option maxRecDepth 100000 in
theorem gq_115_1 : gi_115_1.all (gqc 115) = true := by decide +kernel
set_option maxRecDepth 100000 in
theorem gq_115_2 : gi_115_2.all (gqc 115) = true := by decide +kernel
theorem gqm_115 : ∀ l ∈ gi_115, l.all (gqc 115) = true := (List.forall_mem_cons.mpr ⟨gq_115_0, (List.forall_mem_cons.mpr ⟨gq_115_1, (List.forall_mem_cons.mpr ⟨gq_115_2, (fun _ h => absurd h List.not_mem_nil)⟩)⟩)⟩)
set_option maxRecDepth 100000 in
theorem gq_116_0 : gi_116_0.all (gqc 116) = true := by decide +kernel
theorem gqm_116 : ∀ l ∈ gi_116, l.all (gqc 116) = true := (List.forall_mem_cons.mpr ⟨gq_116_0, (fun _ h => absurd h List.not_mem_nil)⟩)
set_option maxRecDepth 100000 in
theorem gq_117_0 : gi_117_0.all (gqc 117) = true := by decide +kernel
set_option maxRecDepth 100000 in
theorem gq_117_1 : gi_117_1.all (gqc 117) = true := by decide +kernel
set_option maxRecDepth 100000 in
theorem gq_117_2 : gi_117_2.all (gqc 117) = true := by decide +kernel
theorem gqm_117 : ∀ l ∈ gi_117, l.all (gqc 117) = true := (List.forall_mem_cons.mpr ⟨gq_117_0, (List.forall_mem_cons.mpr ⟨gq_117_1, (List.forall_mem_cons.mpr ⟨gq_117_2, (fun _ h => absurd h List.not_mem_nil)⟩)⟩)⟩)
set_option maxRecDepth 100000 in
theorem gq_118_0 : gi_118_0.all (gqc 118) = true := by decide +kernel
theorem gqm_118 : ∀ l ∈ gi_118, l.all (gqc 118) = true := (List.forall_mem_cons.mpr ⟨gq_118_0, (fun _ h => absurd h List.not_mem_nil)⟩)
set_option maxRecDepth 100000 in
theorem gq_119_0 : gi_119_0.all (gqc 119) = true := by decide +kernel
set_option maxRecDepth 100000 in
theorem gq_119_1 : gi_119_1.all (gqc 119) = true := by decide +kernel
theorem gqm_119 : ∀ l ∈ gi_119, l.all (gqc 119) = true := (List.forall_mem_cons.mpr ⟨gq_119_0, (List.forall_mem_cons.mpr ⟨gq_119_1, (fun _ h => absurd h List.not_mem_nil)⟩)⟩)
set_option maxRecDepth 100000 in
theorem gq_120_0 : gi_120_0.all (gqc 120) = true := by decide +kernel
set_option maxRecDepth 100000 in
theorem gq_120_1 : gi_120_1.all (gqc 120) = true := by decide +kernel
theorem gqm_120 : ∀ l ∈ gi_120, l.all (gqc 120) = true := (List.forall_mem_cons.mpr ⟨gq_120_0, (List.forall_mem_cons.mpr ⟨gq_120_1, (fun _ h => absurd h List.not_mem_nil)⟩)⟩)
set_option maxRecDepth 100000 in
theorem gq_121_0 : gi_121_0.all (gqc 121) = true := by decide +kernel
set_option maxRecDepth 100000 in
theorem gq_121_1 : gi_121_1.all (gqc 121) = true := by decide +kernel
theorem gqm_121 : ∀ l ∈ gi_121, l.all (gqc 121) = true := (List.forall_mem_cons.mpr ⟨gq_121_0, (List.forall_mem_cons.mpr ⟨gq_121_1, (fun _ h => absurd h List.not_mem_nil)⟩)⟩)
set_option maxRecDepth 100000 in
theorem gq_122_0 : gi_122_0.all (gqc 122) = true := by decide +kernel
set_option maxRecDepth 100000 in
theorem gq_122_1 : gi_122_1.all (gqc 122) = true := by decide +kernel
theorem gqm_122 : ∀ l ∈ gi_122, l.all (gqc 122) = true := (List.forall_mem_cons.mpr ⟨gq_122_0, (List.forall_mem_cons.mpr ⟨gq_122_1, (fun _ h => absurd h List.not_mem_nil)⟩)⟩)
set_option maxRecDepth 100000 in
theorem gq_123_0 : gi_123_0.all (gqc 123) = true := by decide +kernel
set_option maxRecDepth 100000 in
theorem gq_123_1 : gi_123_1.all (gqc 123) = true := by decide +kernel
set_option maxRecDepth 100000 in
theorem gq_123_2 : gi_123_2.all (gqc 123) = true := by decide +kernel
set_option maxRecDepth 100000 in
theorem gq_123_3 : gi_123_3.all (gqc 123) = true := by decide +kernel
set_option maxRecDepth 100000 in
theorem gq_123_4 : gi_123_4.all (gqc 123) = true := by decide +kernel
set_option maxRecDepth 100000 in
theorem gq_123_5 : gi_123_5.all (gqc 123) = true := by decide +kernel
theorem gqm_123 : ∀ l ∈ gi_123, l.all (gqc 123) = true := (List.forall_mem_cons.mpr ⟨gq_123_0, (List.forall_mem_cons.mpr ⟨gq_123_1, (List.forall_mem_cons.mpr ⟨gq_123_2, (List.forall_mem_cons.mpr ⟨gq_123_3, (List.forall_mem_cons.mpr ⟨gq_123_4, (List.forall_mem_cons.mpr ⟨gq_123_5, (fun _ h => absurd h List.not_mem_nil)⟩)⟩)⟩)⟩)⟩)⟩)
set_option maxRecDepth 100000 in
theorem gq_124_0 : gi_124_0.all (gqc 124) = true := by decide +kernel
set_option maxRecDepth 100000 in
theorem gq_124_1 : gi_124_1.all (gqc 124) = true := by decide +kernel
theorem gqm_124 : ∀ l ∈ gi_124, l.all (gqc 124) = true := (List.forall_mem_cons.mpr ⟨gq_124_0, (List.forall_mem_cons.mpr ⟨gq_124_1, (fun _ h => absurd h List.not_mem_nil)⟩)⟩)
set_option maxRecDepth 100000 in
theorem gq_125_0 : gi_125_0.all (gqc 125) = true := by decide +kernel
set_option maxRecDepth 100000 in
theorem gq_125_1 : gi_125_1.all (gqc 125) = true := by decide +kernel
set_option maxRecDepth 100000 in
theorem gq_125_2 : gi_125_2.all (gqc 125) = true := by decide +kernel
set_option maxRecDepth 100000 in
theorem gq_125_3 : gi_125_3.all (gqc 125) = true := by decide +kernel
set_option maxRecDepth 100000 in
theorem gq_125_4 : gi_125_4.all (gqc 125) = true := by decide +kernel
set_option maxRecDepth 100000 in
theorem gq_125_5 : gi_125_5.all (gqc 125) = true := by decide +kernel
theorem gqm_125 : ∀ l ∈ gi_125, l.all (gqc 125) = true := (List.forall_mem_cons.mpr ⟨gq_125_0, (List.forall_mem_cons.mpr ⟨gq_125_1, (List.forall_mem_cons.mpr ⟨gq_125_2, (List.forall_mem_cons.mpr ⟨gq_125_3, (List.forall_mem_cons.mpr ⟨gq_125_4, (List.forall_mem_cons.mpr ⟨gq_125_5, (fun _ h => absurd h List.not_mem_nil)⟩)⟩)⟩)⟩)⟩)⟩)
set_option maxRecDepth 100000 in
theorem gq_126_0 : gi_126_0.all (gqc 126) = true := by decide +kernel
set_option maxRecDepth 100000 in
theorem gq_126_1 : gi_126_1.all (gqc 126) = true := by decide +kernel
theorem gqm_126 : ∀ l ∈ gi_126, l.all (gqc 126) = true := (List.forall_mem_cons.mpr ⟨gq_126_0, (List.forall_mem_cons.mpr ⟨gq_126_1, (fun _ h => absurd h List.not_mem_nil)⟩)⟩)
set_option maxRecDepth 100000 in
theorem gq_127_0 : gi_127_0.all (gqc 127) = true := by decide +kernel
set_option maxRecDepth 100000 in
theorem gq_127_1 : gi_127_1.all (gqc 127) = true := by decide +kernel
set_option maxRecDepth 100000 in
theorem gq_127_2 : gi_127_2.all (gqc 127) = true := by decide +kernel
set_option maxRecDepth 100000 in
theorem gq_127_3 : gi_127_3.all (gqc 127) = true := by decide +kernel
theorem gqm_127 : ∀ l ∈ gi_127, l.all (gqc 127) = true := (List.forall_mem_cons.mpr ⟨gq_127_0, (List.forall_mem_cons.mpr ⟨gq_127_1, (List.forall_mem_cons.mpr ⟨gq_127_2, (List.forall_mem_cons.mpr ⟨gq_127_3, (fun _ h => absurd h List.not_mem_nil)⟩)⟩)⟩)⟩)
set_option maxRecDepth 100000 in
theorem gq_128_0 : gi_128_0.all (gqc 128) = true := by decide +kernel
set_option maxRecDepth 100000 in
theorem gq_128_1 : gi_128_1.all (gqc 128) = true := by decide +kernel
set_option maxRecDepth 100000 in
theorem gq_128_2 : gi_128_2.all (gqc 128) = true := by decide +kernel
set_option maxRecDepth 100000 in
theorem gq_128_3 : gi_128_3.all (gqc 128) = true := by decide +kernel
set_option maxRecDepth 100000 in
theorem gq_128_4 : gi_128_4.all (gqc 128) = true := by decide +kernel
set_option maxRecDepth 100000 in
theorem gq_128_5 : gi_128_5.all (gqc 128) = true := by decide +kernel
theorem gqm_128 : ∀ l ∈ gi_128, l.all (gqc 128) = true := (List.forall_mem_cons.mpr ⟨gq_128_0, (List.forall_mem_cons.mpr ⟨gq_128_1, (List.forall_mem_cons.mpr ⟨gq_128_2, (List.forall_mem_cons.mpr ⟨gq_128_3, (List.forall_mem_cons.mpr ⟨gq_128_4, (List.forall_mem_cons.mpr ⟨gq_128_5, (fun _ h => absurd h List.not_mem_nil)⟩)⟩)⟩)⟩)⟩)⟩)
set_option maxRecDepth 100000 in
theorem gq_129_0 : gi_129_0.all (gqc 129) = true := by decide +kernel
set_option maxRecDepth 100000 in
theorem gq_129_1 : gi_129_1.all (gqc 129) = true := by decide +kernel
set_option maxRecDepth 100000 in
theorem gq_129_2 : gi_129_2.all (gqc 129) = true := by decide +kernel
set_option maxRecDepth 100000 in
theorem gq_129_3 : gi_129_3.all (gqc 129) = true := by decide +kernel
set_option maxRecDepth 100000 in
theorem gq_129_4 : gi_129_4.all (gqc 129) = true := by decide +kernel
theorem gqm_129 : ∀ l ∈ gi_129, l.all (gqc 129) = true := (List.forall_mem_cons.mpr ⟨gq_129_0, (List.forall_mem_cons.mpr ⟨gq_129_1, (List.forall_mem_cons.mpr ⟨gq_129_2, (List.forall_mem_cons.mpr ⟨gq_129_3, (List.forall_mem_cons.mpr ⟨gq_129_4, (fun _ h => absurd h List.not_mem_nil)⟩)⟩)⟩)⟩)⟩)
set_option maxRecDepth 100000 in
theorem gq_130_0 : gi_130_0.all (gqc 130) = true := by decide +kernel
theorem gqm_130 : ∀ l ∈ gi_130, l.all (gqc 130) = true := (List.forall_mem_cons.mpr ⟨gq_130_0, (fun _ h => absurd h List.not_mem_nil)⟩)
set_option maxRecDepth 100000 in
theorem gq_131_0 : gi_131_0.all (gqc 131) = true := by decide +kernel
set_option maxRecDepth 100000 in
theorem gq_131_1 : gi_131_1.all (gqc 131) = true := by decide +kernel
theorem gqm_131 : ∀ l ∈ gi_131, l.all (gqc 131) = true := (List.forall_mem_cons.mpr ⟨gq_131_0, (List.forall_mem_cons.mpr ⟨gq_131_1, (fun _ h => absurd h List.not_mem_nil)⟩)⟩)
set_option maxRecDepth 100000 in
theorem gq_132_0 : gi_132_0.all (gqc 132) = true := by decide +kernel
set_option maxRecDepth 100000 in
theorem gq_132_1 : gi_132_1.all (gqc 132) = true := by decide +kernel
theorem gqm_132 : ∀ l ∈ gi_132, l.all (gqc 132) = true := (List.forall_mem_cons.mpr ⟨gq_132_0, (List.forall_mem_cons.mpr ⟨gq_132_1, (fun _ h => absurd h List.not_mem_nil)⟩)⟩)
set_option maxRecDepth 100000 in
theorem gq_133_0 : gi_133_0.all (gqc 133) = true := by decide +kernel
set_option maxRecDepth 100000 in
theorem gq_133_1 : gi_133_1.all (gqc 133) = true := by decide +kernel
theorem gqm_133 : ∀ l ∈ gi_133, l.all (gqc 133) = true := (List.forall_mem_cons.mpr ⟨gq_133_0, (List.forall_mem_cons.mpr ⟨gq_133_1, (fun _ h => absurd h List.not_mem_nil)⟩)⟩)
set_option maxRecDepth 100000 in
theorem gq_134_0 : gi_134_0.all (gqc 134) = true := by decide +kernel
set_option maxRecDepth 100000 in
theorem gq_134_1 : gi_134_1.all (gqc 134) = true := by decide +kernel
set_option maxRecDepth 100000 in
theorem gq_134_2 : gi_134_2.all (gqc 134) = true := by decide +kernel
set_option maxRecDepth 100000 in
theorem gq_134_3 : gi_134_3.all (gqc 134) = true := by decide +kernel
theorem gqm_134 : ∀ l ∈ gi_134, l.all (gqc 134) = true := (List.forall_mem_cons.mpr ⟨gq_134_0, (List.forall_mem_cons.mpr ⟨gq_134_1, (List.forall_mem_cons.mpr ⟨gq_134_2, (List.forall_mem_cons.mpr ⟨gq_134_3, (fun _ h => absurd h List.not_mem_nil)⟩)⟩)⟩)⟩)
set_option maxRecDepth 100000 in
theorem gq_135_0 : gi_135_0.all (gqc 135) = true := by decide +kernel
set_option maxRecDepth 100000 in
theorem gq_135_1 : gi_135_1.all (gqc 135) = true := by decide +kernel
set_option maxRecDepth 100000 in
theorem gq_135_2 : gi_135_2.all (gqc 135) = true := by decide +kernel
set_option maxRecDepth 100000 in
theorem gq_135_3 : gi_135_3.all (gqc 135) = true := by decide +kernel
theorem gqm_135 : ∀ l ∈ gi_135, l.all (gqc 135) = true := (List.forall_mem_cons.mpr ⟨gq_135_0, (List.forall_mem_cons.mpr ⟨gq_135_1, (List.forall_mem_cons.mpr ⟨gq_135_2, (List.forall_mem_cons.mpr ⟨gq_135_3, (fun _ h => absurd h List.not_mem_nil)⟩)⟩)⟩)⟩)
set_option maxRecDepth 100000 in
theorem gq_136_0 : gi_136_0.all (gqc 136) = true := by decide +kernel
set_option maxRecDepth 100000 in
theorem gq_136_1 : gi_136_1.all (gqc 136) = true := by decide +kernel
theorem gqm_136 : ∀ l ∈ gi_136, l.all (gqc 136) = true := (List.forall_mem_cons.mpr ⟨gq_136_0, (List.forall_mem_cons.mpr ⟨gq_136_1, (fun _ h => absurd h List.not_mem_nil)⟩)⟩)
set_option maxRecDepth 100000 in
theorem gq_137_0 : gi_137_0.all (gqc 137) = true := by decide +kernel
theorem gqm_137 : ∀ l ∈ gi_137, l.all (gqc 137) = true := (List.forall_mem_cons.mpr ⟨gq_137_0, (fun _ h => absurd h List.not_mem_nil)⟩)
set_option maxRecDepth 100000 in
theorem gq_138_0 : gi_138_0.all (gqc 138) = true := by decide +kernel
set_option maxRecDepth 100000 in
theorem gq_138_1 : gi_138_1.all (gqc 138) = true := by decide +kernel
set_option maxRecDepth 100000 in
theorem gq_138_2 : gi_138_2.all (gqc 138) = true := by decide +kernel
theorem gqm_138 : ∀ l ∈ gi_138, l.all (gqc 138) = true := (List.forall_mem_cons.mpr ⟨gq_138_0, (List.forall_mem_cons.mpr ⟨gq_138_1, (List.forall_mem_cons.mpr ⟨gq_138_2, (fun _ h => absurd h List.not_mem_nil)⟩)⟩)⟩)
set_option maxRecDepth 100000 in
theorem gq_139_0 : gi_139_0.all (gqc 139) = true := by decide +kernel
set_option maxRecDepth 100000 in
theorem gq_139_1 : gi_139_1.all (gqc 139) = true := by decide +kernel
theorem gqm_139 : ∀ l ∈ gi_139, l.all (gqc 139) = true := (List.forall_mem_cons.mpr ⟨gq_139_0, (List.forall_mem_cons.mpr ⟨gq_139_1, (fun _ h => absurd h List.not_mem_nil)⟩)⟩)
set_option maxRecDepth 100000 in
theorem gq_140_0 : gi_140_0.all (gqc 140) = true := by decide +kernel
set_option maxRecDepth 100000 in
theorem gq_140_1 : gi_140_1.all (gqc 140) = true := by decide +kernel
theorem gqm_140 : ∀ l ∈ gi_140, l.all (gqc 140) = true := (List.forall_mem_cons.mpr ⟨gq_140_0, (List.forall_mem_cons.mpr ⟨gq_140_1, (fun _ h => absurd h List.not_mem_nil)⟩)⟩)
set_option maxRecDepth 100000 in
theorem gq_141_0 : gi_141_0.all (gqc 141) = true := by decide +kernel
set_option maxRecDepth 100000 in
theorem gq_141_1 : gi_141_1.all (gqc 141) = true := by decide +kernel
set_option maxRecDepth 100000 in
theorem gq_141_2 : gi_141_2.all (gqc 141) = true := by decide +kernel
theorem gqm_141 : ∀ l ∈ gi_141, l.all (gqc 141) = true := (List.forall_mem_cons.mpr ⟨gq_141_0, (List.forall_mem_cons.mpr ⟨gq_141_1, (List.forall_mem_cons.mpr ⟨gq_141_2, (fun _ h => absurd h List.not_mem_nil)⟩)⟩)⟩)
set_option maxRecDepth 100000 in
theorem gq_142_0 : gi_142_0.all (gqc 142) = true := by decide +kernel
set_option maxRecDepth 100000 in
theorem gq_142_1 : gi_142_1.all (gqc 142) = true := by decide +kernel
set_option maxRecDepth 100000 in
theorem gq_142_2 : gi_142_2.all (gqc 142) = true := by decide +kernel
theorem gqm_142 : ∀ l ∈ gi_142, l.all (gqc 142) = true := (List.forall_mem_cons.mpr ⟨gq_142_0, (List.forall_mem_cons.mpr ⟨gq_142_1, (List.forall_mem_cons.mpr ⟨gq_142_2, (fun _ h => absurd h List.not_mem_nil)⟩)⟩)⟩)
set_option maxRecDepth 100000 in
theorem gq_143_0 : gi_143_0.all (gqc 143) = true := by decide +kernel
set_option maxRecDepth 100000 in
theorem gq_143_1 : gi_143_1.all (gqc 143) = true := by decide +kernel
set_option maxRecDepth 100000 in
theorem gq_143_2 : gi_143_2.all (gqc 143) = true := by decide +kernel
theorem gqm_143 : ∀ l ∈ gi_143, l.all (gqc 143) = true := (List.forall_mem_cons.mpr ⟨gq_143_0, (List.forall_mem_cons.mpr ⟨gq_143_1, (List.forall_mem_cons.mpr ⟨gq_143_2, (fun _ h => absurd h List.not_mem_nil)⟩)⟩)⟩)
set_option maxRecDepth 100000 in
theorem gq_144_0 : gi_144_0.all (gqc 144) = true := by decide +kernel
