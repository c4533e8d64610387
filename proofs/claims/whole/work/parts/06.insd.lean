set_option maxRecDepth 100000 in
theorem gq_144_1 : gi_144_1.all (gqc 144) = true := by decide +kernel
set_option maxRecDepth 100000 in
theorem gq_144_2 : gi_144_2.all (gqc 144) = true := by decide +kernel
theorem gqm_144 : ∀ l ∈ gi_144, l.all (gqc 144) = true := (List.forall_mem_cons.mpr ⟨gq_144_0, (List.forall_mem_cons.mpr ⟨gq_144_1, (List.forall_mem_cons.mpr ⟨gq_144_2, (fun _ h => absurd h List.not_mem_nil)⟩)⟩)⟩)
set_option maxRecDepth 100000 in
theorem gq_145_0 : gi_145_0.all (gqc 145) = true := by decide +kernel
set_option maxRecDepth 100000 in
theorem gq_145_1 : gi_145_1.all (gqc 145) = true := by decide +kernel
theorem gqm_145 : ∀ l ∈ gi_145, l.all (gqc 145) = true := (List.forall_mem_cons.mpr ⟨gq_145_0, (List.forall_mem_cons.mpr ⟨gq_145_1, (fun _ h => absurd h List.not_mem_nil)⟩)⟩)
set_option maxRecDepth 100000 in
theorem gq_146_0 : gi_146_0.all (gqc 146) = true := by decide +kernel
set_option maxRecDepth 100000 in
theorem gq_146_1 : gi_146_1.all (gqc 146) = true := by decide +kernel
set_option maxRecDepth 100000 in
theorem gq_146_2 : gi_146_2.all (gqc 146) = true := by decide +kernel
theorem gqm_146 : ∀ l ∈ gi_146, l.all (gqc 146) = true := (List.forall_mem_cons.mpr ⟨gq_146_0, (List.forall_mem_cons.mpr ⟨gq_146_1, (List.forall_mem_cons.mpr ⟨gq_146_2, (fun _ h => absurd h List.not_mem_nil)⟩)⟩)⟩)
set_option maxRecDepth 100000 in
theorem gq_147_0 : gi_147_0.all (gqc 147) = true := by decide +kernel
set_option maxRecDepth 100000 in
theorem gq_147_1 : gi_147_1.all (gqc 147) = true := by decide +kernel
set_option maxRecDepth 100000 in
theorem gq_147_2 : gi_147_2.all (gqc 147) = true := by decide +kernel
set_option maxRecDepth 100000 in
theorem gq_147_3 : gi_147_3.all (gqc 147) = true := by decide +kernel
theorem gqm_147 : ∀ l ∈ gi_147, l.all (gqc 147) = true := (List.forall_mem_cons.mpr ⟨gq_147_0, (List.forall_mem_cons.mpr ⟨gq_147_1, (List.forall_mem_cons.mpr ⟨gq_147_2, (List.forall_mem_cons.mpr ⟨gq_147_3, (fun _ h => absurd h List.not_mem_nil)⟩)⟩)⟩)⟩)
set_option maxRecDepth 100000 in
theorem gq_148_0 : gi_148_0.all (gqc 148) = true := by decide +kernel
set_option maxRecDepth 100000 in
theorem gq_148_1 : gi_148_1.all (gqc 148) = true := by decide +kernel
set_option maxRecDepth 100000 in
theorem gq_148_2 : gi_148_2.all (gqc 148) = true := by decide +kernel
theorem gqm_148 : ∀ l ∈ gi_148, l.all (gqc 148) = true := (List.forall_mem_cons.mpr ⟨gq_148_0, (List.forall_mem_cons.mpr ⟨gq_148_1, (List.forall_mem_cons.mpr ⟨gq_148_2, (fun _ h => absurd h List.not_mem_nil)⟩)⟩)⟩)
set_option maxRecDepth 100000 in
theorem gq_149_0 : gi_149_0.all (gqc 149) = true := by decide +kernel
set_option maxRecDepth 100000 in
theorem gq_149_1 : gi_149_1.all (gqc 149) = true := by decide +kernel
theorem gqm_149 : ∀ l ∈ gi_149, l.all (gqc 149) = true := (List.forall_mem_cons.mpr ⟨gq_149_0, (List.forall_mem_cons.mpr ⟨gq_149_1, (fun _ h => absurd h List.not_mem_nil)⟩)⟩)
set_option maxRecDepth 100000 in
theorem gq_150_0 : gi_150_0.all (gqc 150) = true := by decide +kernel
set_option maxRecDepth 100000 in
theorem gq_150_1 : gi_150_1.all (gqc 150) = true := by decide +kernel
theorem gqm_150 : ∀ l ∈ gi_150, l.all (gqc 150) = true := (List.forall_mem_cons.mpr ⟨gq_150_0, (List.forall_mem_cons.mpr ⟨gq_150_1, (fun _ h => absurd h List.not_mem_nil)⟩)⟩)
set_option maxRecDepth 100000 in
theorem gq_151_0 : gi_151_0.all (gqc 151) = true := by decide +kernel
set_option maxRecDepth 100000 in
theorem gq_151_1 : gi_151_1.all (gqc 151) = true := by decide +kernel
theorem gqm_151 : ∀ l ∈ gi_151, l.all (gqc 151) = true := (List.forall_mem_cons.mpr ⟨gq_151_0, (List.forall_mem_cons.mpr ⟨gq_151_1, (fun _ h => absurd h List.not_mem_nil)⟩)⟩)
set_option maxRecDepth 100000 in
theorem gq_152_0 : gi_152_0.all (gqc 152) = true := by decide +kernel
theorem gqm_152 : ∀ l ∈ gi_152, l.all (gqc 152) = true := (List.forall_mem_cons.mpr ⟨gq_152_0, (fun _ h => absurd h List.not_mem_nil)⟩)
set_option maxRecDepth 100000 in
theorem gq_153_0 : gi_153_0.all (gqc 153) = true := by decide +kernel
theorem gqm_153 : ∀ l ∈ gi_153, l.all (gqc 153) = true := (List.forall_mem_cons.mpr ⟨gq_153_0, (fun _ h => absurd h List.not_mem_nil)⟩)
set_option maxRecDepth 100000 in
theorem gq_154_0 : gi_154_0.all (gqc 154) = true := by decide +kernel
theorem gqm_154 : ∀ l ∈ gi_154, l.all (gqc 154) = true := (List.forall_mem_cons.mpr ⟨gq_154_0, (fun _ h => absurd h List.not_mem_nil)⟩)
set_option maxRecDepth 100000 in
theorem gq_155_0 : gi_155_0.all (gqc 155) = true := by decide +kernel
set_option maxRecDepth 100000 in
theorem gq_155_1 : gi_155_1.all (gqc 155) = true := by decide +kernel
set_option maxRecDepth 100000 in
theorem gq_155_2 : gi_155_2.all (gqc 155) = true := by decide +kernel
set_option maxRecDepth 100000 in
theorem gq_155_3 : gi_155_3.all (gqc 155) = true := by decide +kernel
set_option maxRecDepth 100000 in
theorem gq_155_4 : gi_155_4.all (gqc 155) = true := by decide +kernel
set_option maxRecDepth 100000 in
theorem gq_155_5 : gi_155_5.all (gqc 155) = true := by decide +kernel
set_option maxRecDepth 100000 in
theorem gq_155_6 : gi_155_6.all (gqc 155) = true := by decide +kernel
set_option maxRecDepth 100000 in
theorem gq_155_7 : gi_155_7.all (gqc 155) = true := by decide +kernel
set_option maxRecDepth 100000 in
theorem gq_155_8 : gi_155_8.all (gqc 155) = true := by decide +kernel
set_option maxRecDepth 100000 in
theorem gq_155_9 : gi_155_9.all (gqc 155) = true := by decide +kernel
set_option maxRecDepth 100000 in
theorem gq_155_10 : gi_155_10.all (gqc 155) = true := by decide +kernel
set_option maxRecDepth 100000 in
theorem gq_155_11 : gi_155_11.all (gqc 155) = true := by decide +kernel
set_option maxRecDepth 100000 in
theorem gq_155_12 : gi_155_12.all (gqc 155) = true := by decide +kernel
set_option maxRecDepth 100000 in
theorem gq_155_13 : gi_155_13.all (gqc 155) = true := by decide +kernel
set_option maxRecDepth 100000 in
theorem gq_155_14 : gi_155_14.all (gqc 155) = true := by decide +kernel
theorem gqm_155 : ∀ l ∈ gi_155, l.all (gqc 155) = true := (List.forall_mem_cons.mpr ⟨gq_155_0, (List.forall_mem_cons.mpr ⟨gq_155_1, (List.forall_mem_cons.mpr ⟨gq_155_2, (List.forall_mem_cons.mpr ⟨gq_155_3, (List.forall_mem_cons.mpr ⟨gq_155_4, (List.forall_mem_cons.mpr ⟨gq_155_5, (List.forall_mem_cons.mpr ⟨gq_155_6, (List.forall_mem_cons.mpr ⟨gq_155_7, (List.forall_mem_cons.mpr ⟨gq_155_8, (List.forall_mem_cons.mpr ⟨gq_155_9, (List.forall_mem_cons.mpr ⟨gq_155_10, (List.forall_mem_cons.mpr ⟨gq_155_11, (List.forall_mem_cons.mpr ⟨gq_155_12, (List.forall_mem_cons.mpr ⟨gq_155_13, (List.forall_mem_cons.mpr ⟨gq_155_14, (fun _ h => absurd h List.not_mem_nil)⟩)⟩)⟩)⟩)⟩)⟩)⟩)⟩)⟩)⟩)⟩)⟩)⟩)⟩)⟩)
set_option maxRecDepth 100000 in
theorem gq_156_0 : gi_156_0.all (gqc 156) = true := by decide +kernel
theorem gqm_156 : ∀ l ∈ gi_156, l.all (gqc 156) = true := (List.forall_mem_cons.mpr ⟨gq_156_0, (fun _ h => absurd h List.not_mem_nil)⟩)
set_option maxRecDepth 100000 in
theorem gq_157_0 : gi_157_0.all (gqc 157) = true := by decide +kernel
set_option maxRecDepth 100000 in
theorem gq_157_1 : gi_157_1.all (gqc 157) = true := by decide +kernel
set_option maxRecDepth 100000 in
theorem gq_157_2 : gi_157_2.all (gqc 157) = true := by decide +kernel
set_option maxRecDepth 100000 in
theorem gq_157_3 : gi_157_3.all (gqc 157) = true := by decide +kernel
set_option maxRecDepth 100000 in
theorem gq_157_4 : gi_157_4.all (gqc 157) = true := by decide +kernel
theorem gqm_157 : ∀ l ∈ gi_157, l.all (gqc 157) = true := (List.forall_mem_cons.mpr ⟨gq_157_0, (List.forall_mem_cons.mpr ⟨gq_157_1, (List.forall_mem_cons.mpr ⟨gq_157_2, (List.forall_mem_cons.mpr ⟨gq_157_3, (List.forall_mem_cons.mpr ⟨gq_157_4, (fun _ h => absurd h List.not_mem_nil)⟩)⟩)⟩)⟩)⟩)
set_option maxRecDepth 100000 in
theorem gq_158_0 : gi_158_0.all (gqc 158) = true := by decide +kernel
theorem gqm_158 : ∀ l ∈ gi_158, l.all (gqc 158) = true := (List.forall_mem_cons.mpr ⟨gq_158_0, (fun _ h => absurd h List.not_mem_nil)⟩)
set_option maxRecDepth 100000 in
theorem gq_159_0 : gi_159_0.all (gqc 159) = true := by decide +kernel
theorem gqm_159 : ∀ l ∈ gi_159, l.all (gqc 159) = true := (List.forall_mem_cons.mpr ⟨gq_159_0, (fun _ h => absurd h List.not_mem_nil)⟩)
set_option maxRecDepth 100000 in
theorem gq_160_0 : gi_160_0.all (gqc 160) = true := by decide +kernel
theorem gqm_160 : ∀ l ∈ gi_160, l.all (gqc 160) = true := (List.forall_mem_cons.mpr ⟨gq_160_0, (fun _ h => absurd h List.not_mem_nil)⟩)
set_option maxRecDepth 100000 in
theorem gq_161_0 : gi_161_0.all (gqc 161) = true := by decide +kernel
set_option maxRecDepth 100000 in
theorem gq_161_1 : gi_161_1.all (gqc 161) = true := by decide +kernel
theorem gqm_161 : ∀ l ∈ gi_161, l.all (gqc 161) = true := (List.forall_mem_cons.mpr ⟨gq_161_0, (List.forall_mem_cons.mpr ⟨gq_161_1, (fun _ h => absurd h List.not_mem_nil)⟩)⟩)
set_option maxRecDepth 100000 in
theorem gq_162_0 : gi_162_0.all (gqc 162) = true := by decide +kernel
theorem gqm_162 : ∀ l ∈ gi_162, l.all (gqc 162) = true := (List.forall_mem_cons.mpr ⟨gq_162_0, (fun _ h => absurd h List.not_mem_nil)⟩)
set_option maxRecDepth 100000 in
theorem gq_163_0 : gi_163_0.all (gqc 163) = true := by decide +kernel
theorem gqm_163 : ∀ l ∈ gi_163, l.all (gqc 163) = true := (List.forall_mem_cons.mpr ⟨gq_163_0, (fun _ h => absurd h List.not_mem_nil)⟩)
set_option maxRecDepth 100000 in
theorem gq_164_0 : gi_164_0.all (gqc 164) = true := by decide +kernel
set_option maxRecDepth 100000 in
theorem gq_164_1 : gi_164_1.all (gqc 164) = true := by decide +kernel
theorem gqm_164 : ∀ l ∈ gi_164, l.all (gqc 164) = true := (List.forall_mem_cons.mpr ⟨gq_164_0, (List.forall_mem_cons.mpr ⟨gq_164_1, (fun _ h => absurd h List.not_mem_nil)⟩)⟩)
set_option maxRecDepth 100000 in
theorem gq_165_0 : gi_165_0.all (gqc 165) = true := by decide +kernel
set_option maxRecDepth 100000 in
theorem gq_165_1 : gi_165_1.all (gqc 165) = true := by decide +kernel
set_option maxRecDepth 100000 in
theorem gq_165_2 : gi_165_2.all (gqc 165) = true := by decide +kernel
theorem gqm_165 : ∀ l ∈ gi_165, l.all (gqc 165) = true := (List.forall_mem_cons.mpr ⟨gq_165_0, (List.forall_mem_cons.mpr ⟨gq_165_1, (List.forall_mem_cons.mpr ⟨gq_165_2, (fun _ h => absurd h List.not_mem_nil)⟩)⟩)⟩)
set_option maxRecDepth 100000 in
theorem gq_166_0 : gi_166_0.all (gqc 166) = true := by decide +kernel
set_option maxRecDepth 100000 in
theorem gq_166_1 : gi_166_1.all (gqc 166) = true := by decide +kernel
theorem gqm_166 : ∀ l ∈ gi_166, l.all (gqc 166) = true := (List.forall_mem_cons.mpr ⟨gq_166_0, (List.forall_mem_cons.mpr ⟨gq_166_1, (fun _ h => absurd h List.not_mem_nil)⟩)⟩)
set_option maxRecDepth 100000 in
theorem gq_167_0 : gi_167_0.all (gqc 167) = true := by decide +kernel
set_option maxRecDepth 100000 in
theorem gq_167_1 : gi_167_1.all (gqc 167) = true := by decide +kernel
theorem gqm_167 : ∀ l ∈ gi_167, l.all (gqc 167) = true := (List.forall_mem_cons.mpr ⟨gq_167_0, (List.forall_mem_cons.mpr ⟨gq_167_1, (fun _ h => absurd h List.not_mem_nil)⟩)⟩)
set_option maxRecDepth 100000 in
theorem gq_168_0 : gi_168_0.all (gqc 168) = true := by decide +kernel
set_option maxRecDepth 100000 in
theorem gq_168_1 : gi_168_1.all (gqc 168) = true := by decide +kernel
set_option maxRecDepth 100000 in
theorem gq_168_2 : gi_168_2.all (gqc 168) = true := by decide +kernel
set_option maxRecDepth 100000 in
theorem gq_168_3 : gi_168_3.all (gqc 168) = true := by decide +kernel
theorem gqm_168 : ∀ l ∈ gi_168, l.all (gqc 168) = true := (List.forall_mem_cons.mpr ⟨gq_168_0, (List.forall_mem_cons.mpr ⟨gq_168_1, (List.forall_mem_cons.mpr ⟨gq_168_2, (List.forall_mem_cons.mpr ⟨gq_168_3, (fun _ h => absurd h List.not_mem_nil)⟩)⟩)⟩)⟩)
set_option maxRecDepth 100000 in
theorem gq_169_0 : gi_169_0.all (gqc 169) = true := by decide +kernel
theorem gqm_169 : ∀ l ∈ gi_169, l.all (gqc 169) = true := (List.forall_mem_cons.mpr ⟨gq_169_0, (fun _ h => absurd h List.not_mem_nil)⟩)
set_option maxRecDepth 100000 in
theorem gq_170_0 : gi_170_0.all (gqc 170) = true := by decide +kernel
set_option maxRecDepth 100000 in
theorem gq_170_1 : gi_170_1.all (gqc 170) = true := by decide +kernel
set_option maxRecDepth 100000 in
theorem gq_170_2 : gi_170_2.all (gqc 170) = true := by decide +kernel
set_option maxRecDepth 100000 in
theorem gq_170_3 : gi_170_3.all (gqc 170) = true := by decide +kernel
theorem gqm_170 : ∀ l ∈ gi_170, l.all (gqc 170) = true := (List.forall_mem_cons.mpr ⟨gq_170_0, (List.forall_mem_cons.mpr ⟨gq_170_1, (List.forall_mem_cons.mpr ⟨gq_170_2, (List.forall_mem_cons.mpr ⟨gq_170_3, (fun _ h => absurd h List.not_mem_nil)⟩)⟩)⟩)⟩)
set_option maxRecDepth 100000 in
theorem gq_171_0 : gi_171_0.all (gqc 171) = true := by decide +kernel
theorem gqm_171 : ∀ l ∈ gi_171, l.all (gqc 171) = true := (List.forall_mem_cons.mpr ⟨gq_171_0, (fun _ h => absurd h List.not_mem_nil)⟩)
set_option maxRecDepth 100000 in
theorem gq_172_0 : gi_172_0.all (gqc 172) = true := by decide +kernel
set_option maxRecDepth 100000 in
theorem gq_172_1 : gi_172_1.all (gqc 172) = true := by decide +kernel
theorem gqm_172 : ∀ l ∈ gi_172, l.all (gqc 172) = true := (List.forall_mem_cons.mpr ⟨gq_172_0, (List.forall_mem_cons.mpr ⟨gq_172_1, (fun _ h => absurd h List.not_mem_nil)⟩)⟩)
set_option maxRecDepth 100000 in
theorem gq_173_0 : gi_173_0.all (gqc 173) = true := by decide +kernel
set_option maxRecDepth 100000 in
theorem gq_173_1 : gi_173_1.all (gqc 173) = true := by decide +kernel
theorem gqm_173 : ∀ l ∈ gi_173, l.all (gqc 173) = true := (List.forall_mem_cons.mpr ⟨gq_173_0, (List.forall_mem_cons.mpr ⟨gq_173_1, (fun _ h => absurd h List.not_mem_nil)⟩)⟩)
set_option maxRecDepth 100000 in
theorem gq_174_0 : gi_174_0.all (gqc 174) = true := by decide +kernel
set_option maxRecDepth 100000 in
theorem gq_174_1 : gi_174_1.all (gqc 174) = true := by decide +kernel
theorem gqm_174 : ∀ l ∈ gi_174, l.all (gqc 174) = true := (List.forall_mem_cons.mpr ⟨gq_174_0, (List.forall_mem_cons.mpr ⟨gq_174_1, (fun _ h => absurd h List.not_mem_nil)⟩)⟩)
set_option maxRecDepth 100000 in
theorem gq_175_0 : gi_175_0.all (gqc 175) = true := by decide +kernel
theorem gqm_175 : ∀ l ∈ gi_175, l.all (gqc 175) = true := (List.forall_mem_cons.mpr ⟨gq_175_0, (fun _ h => absurd h List.not_mem_nil)⟩)
set_option maxRecDepth 100000 in
theorem gq_176_0 : gi_176_0.all (gqc 176) = true := by decide +kernel
set_option maxRecDepth 100000 in
theorem gq_176_1 : gi_176_1.all (gqc 176) = true := by decide +kernel
set_option maxRecDepth 100000 in
theorem gq_176_2 : gi_176_2.all (gqc 176) = true := by decide +kernel
theorem gqm_176 : ∀ l ∈ gi_176, l.all (gqc 176) = true := (List.forall_mem_cons.mpr ⟨gq_176_0, (List.forall_mem_cons.mpr ⟨gq_176_1, (List.forall_mem_cons.mpr ⟨gq_176_2, (fun _ h => absurd h List.not_mem_nil)⟩)⟩)⟩)
set_option maxRecDepth 100000 in
theorem gq_177_0 : gi_177_0.all (gqc 177) = true := by decide +kernel
set_option maxRecDepth 100000 in
theorem gq_177_1 : gi_177_1.all (gqc 177) = true := by decide +kernel
theorem gqm_177 : ∀ l ∈ gi_177, l.all (gqc 177) = true := (List.forall_mem_cons.mpr ⟨gq_177_0, (List.forall_mem_cons.mpr ⟨gq_177_1, (fun _ h => absurd h List.not_mem_nil)⟩)⟩)
set_option maxRecDepth 100000 in
theorem gq_178_0 : gi_178_0.all (gqc 178) = true := by decide +kernel
set_option maxRecDepth 100000 in
theorem gq_178_1 : gi_178_1.all (gqc 178) = true := by decide +kernel
theorem gqm_178 : ∀ l ∈ gi_178, l.all (gqc 178) = true := (List.forall_mem_cons.mpr ⟨gq_178_0, (List.forall_mem_cons.mpr ⟨gq_178_1, (fun _ h => absurd h List.not_mem_nil)⟩)⟩)
set_option maxRecDepth 100000 in
theorem gq_179_0 : gi_179_0.all (gqc 179) = true := by decide +kernel
set_option maxRecDepth 100000 in
theorem gq_179_1 : gi_179_1.all (gqc 179) = true := by decide +kernel
theorem gqm_179 : ∀ l ∈ gi_179, l.all (gqc 179) = true := (List.forall_mem_cons.mpr ⟨gq_179_0, (List.forall_mem_cons.mpr ⟨gq_179_1, (fun _ h => absurd h List.not_mem_nil)⟩)⟩)
set_option maxRecDepth 100000 in
theorem gq_180_0 : gi_180_0.all (gqc 180) = true := by decide +kernel
theorem gqm_180 : ∀ l ∈ gi_180, l.all (gqc 180) = true := (List.forall_mem_cons.mpr ⟨gq_180_0, (fun _ h => absurd h List.not_mem_nil)⟩)
set_option maxRecDepth 100000 in
theorem gq_181_0 : gi_181_0.all (gqc 181) = true := by decide +kernel
theorem gqm_181 : ∀ l ∈ gi_181, l.all (gqc 181) = true := (List.forall_mem_cons.mpr ⟨gq_181_0, (fun _ h => absurd h List.not_mem_nil)⟩)
set_option maxRecDepth 100000 in
theorem gq_182_0 : gi_182_0.all (gqc 182) = true := by decide +kernel
set_option maxRecDepth 100000 in
theorem gq_182_1 : gi_182_1.all (gqc 182) = true := by decide +kernel
theorem gqm_182 : ∀ l ∈ gi_182, l.all (gqc 182) = true := (List.forall_mem_cons.mpr ⟨gq_182_0, (List.forall_mem_cons.mpr ⟨gq_182_1, (fun _ h => absurd h List.not_mem_nil)⟩)⟩)
set_option maxRecDepth 100000 in
theorem gq_183_0 : gi_183_0.all (gqc 183) = true := by decide +kernel
set_option maxRecDepth 100000 in
theorem gq_183_1 : gi_183_1.all (gqc 183) = true := by decide +kernel
set_option maxRecDepth 100000 in
theorem gq_183_2 : gi_183_2.all (gqc 183) = true := by decide +kernel
set_option maxRecDepth 100000 in
theorem gq_183_3 : gi_183_3.all (gqc 183) = true := by decide +kernel
set_option maxRecDepth 100000 in
theorem gq_183_4 : gi_183_4.all (gqc 183) = true := by decide +kernel
set_option maxRecDepth 100000 in
theorem gq_183_5 : gi_183_5.all (gqc 183) = true := by decide +kernel
set_option maxRecDepth 100000 in
theorem gq_183_6 : gi_183_6.all (gqc 183) = true := by decide +kernel
set_option maxRecDepth 100000 in
theorem gq_183_7 : gi_183_7.all (gqc 183) = true := by decide +kernel
set_option maxRecDepth 100000 in
theorem gq_183_8 : gi_183_8.all (gqc 183) = true := by decide +kernel
set_option maxRecDepth 100000 in
theorem gq_183_9 : gi_183_9.all (gqc 183) = true := by decide +kernel
theorem gqm_183 : ∀ l ∈ gi_183, l.all (gqc 183) = true := (List.forall_mem_cons.mpr ⟨gq_183_0, (List.forall_mem_cons.mpr ⟨gq_183_1, (List.forall_mem_cons.mpr ⟨gq_183_2, (List.forall_mem_cons.mpr ⟨gq_183_3, (List.forall_mem_cons.mpr ⟨gq_183_4, (List.forall_mem_cons.mpr ⟨gq_183_5, (List.forall_mem_cons.mpr ⟨gq_183_6, (List.forall_mem_cons.mpr ⟨gq_183_7, (List.forall_mem_cons.mpr ⟨gq_183_8, (List.forall_mem_cons.mpr ⟨gq_183_9, (fun _ h => absurd h List.not_mem_nil)⟩)⟩)⟩)⟩)⟩)⟩)⟩)⟩)⟩)⟩)
set_option maxRecDepth 100000 in
theorem gq_184_0 : gi_184_0.all (gqc 184) = true := by decide +kernel
theorem gqm_184 : ∀ l ∈ gi_184, l.all (gqc 184) = true := (List.forall_mem_cons.mpr ⟨gq_184_0, (fun _ h => absurd h List.not_mem_nil)⟩)
set_option maxRecDepth 100000 in
theorem gq_185_0 : gi_185_0.all (gqc 185) = true := by decide +kernel
set_option maxRecDepth 100000 in
theorem gq_185_1 : gi_185_1.all (gqc 185) = true := by decide +kernel
set_option maxRecDepth 100000 in
theorem gq_185_2 : gi_185_2.all (gqc 185) = true := by decide +kernel
set_option maxRecDepth 100000 in
theorem gq_185_3 : gi_185_3.all (gqc 185) = true := by decide +kernel
theorem gqm_185 : ∀ l ∈ gi_185, l.all (gqc 185) = true := (List.forall_mem_cons.mpr ⟨gq_185_0, (List.forall_mem_cons.mpr ⟨gq_185_1, (List.forall_mem_cons.mpr ⟨gq_185_2, (List.forall_mem_cons.mpr ⟨gq_185_3, (fun _ h => absurd h List.not_mem_nil)⟩)⟩)⟩)⟩)
set_option maxRecDepth 100000 in
theorem gq_186_0 : gi_186_0.all (gqc 186) = true := by decide +kernel
theorem gqm_186 : ∀ l ∈ gi_186, l.all (gqc 186) = true := (List.forall_mem_cons.mpr ⟨gq_186_0, (fun _ h => absurd h List.not_mem_nil)⟩)
set_option maxRecDepth 100000 in
theorem gq_187_0 : gi_187_0.all (gqc 187) = true := by decide +kernel
set_option maxRecDepth 100000 in
theorem gq_187_1 : gi_187_1.all (gqc 187) = true := by decide +kernel
set_option maxRecDepth 100000 in
theorem gq_187_2 : gi_187_2.all (gqc 187) = true := by decide +kernel
theorem gqm_187 : ∀ l ∈ gi_187, l.all (gqc 187) = true := (List.forall_mem_cons.mpr ⟨gq_187_0, (List.forall_mem_cons.mpr ⟨gq_187_1, (List.forall_mem_cons.mpr ⟨gq_187_2, (fun _ h => absurd h List.not_mem_nil)⟩)⟩)⟩)
set_option maxRecDepth 100000 in
theorem gq_188_0 : gi_188_0.all (gqc 188) = true := by decide +kernel
set_option maxRecDepth 100000 in
theorem gq_188_1 : gi_188_1.all (gqc 188) = true := by decide +kernel
set_option maxRecDepth 100000 in
theorem gq_188_2 : gi_188_2.all (gqc 188) = true := by decide +kernel
set_option maxRecDepth 100000 in
theorem gq_188_3 : gi_188_3.all (gqc 188) = true := by decide +kernel
set_option maxRecDepth 100000 in
theorem gq_188_4 : gi_188_4.all (gqc 188) = true := by decide +kernel
theorem gqm_188 : ∀ l ∈ gi_188, l.all (gqc 188) = true := (List.forall_mem_cons.mpr ⟨gq_188_0, (List.forall_mem_cons.mpr ⟨gq_188_1, (List.forall_mem_cons.mpr ⟨gq_188_2, (List.forall_mem_cons.mpr ⟨gq_188_3, (List.forall_mem_cons.mpr ⟨gq_188_4, (fun _ h => absurd h List.not_mem_nil)⟩)⟩)⟩)⟩)⟩)
set_option maxRecDepth 100000 in
theorem gq_189_0 : gi_189_0.all (gqc 189) = true := by decide +kernel
set_option maxRecDepth 100000 in
theorem gq_189_1 : gi_189_1.all (gqc 189) = true := by decide +kernel
set_option maxRecDepth 100000 in
theorem gq_189_2 : gi_189_2.all (gqc 189) = true := by decide +kernel
set_option maxRecDepth 100000 in
theorem gq_189_3 : gi_189_3.all (gqc 189) = true := by decide +kernel
theorem gqm_189 : ∀ l ∈ gi_189, l.all (gqc 189) = true := (List.forall_mem_cons.mpr ⟨gq_189_0, (List.forall_mem_cons.mpr ⟨gq_189_1, (List.forall_mem_cons.mpr ⟨gq_189_2, (List.forall_mem_cons.mpr ⟨gq_189_3, (fun _ h => absurd h List.not_mem_nil)⟩)⟩)⟩)⟩)
set_option maxRecDepth 100000 in
theorem gq_190_0 : gi_190_0.all (gqc 190) = true := by decide +kernel
theorem gqm_190 : ∀ l ∈ gi_190, l.all (gqc 190) = true := (List.forall_mem_cons.mpr ⟨gq_190_0, (fun _ h => absurd h List.not_mem_nil)⟩)
set_option maxRecDepth 100000 in
theorem gq_191_0 : gi_191_0.all (gqc 191) = true := by decide +kernel
set_option maxRecDepth 100000 in
theorem gq_191_1 : gi_191_1.all (gqc 191) = true := by decide +kernel
set_option maxRecDepth 100000 in
theorem gq_191_2 : gi_191_2.all (gqc 191) = true := by decide +kernel
set_option maxRecDepth 100000 in
theorem gq_191_3 : gi_191_3.all (gqc 191) = true := by decide +kernel
theorem gqm_191 : ∀ l ∈ gi_191, l.all (gqc 191) = true := (List.forall_mem_cons.mpr ⟨gq_191_0, (List.forall_mem_cons.mpr ⟨gq_191_1, (List.forall_mem_cons.mpr ⟨gq_191_2, (List.forall_mem_cons.mpr ⟨gq_191_3, (fun _ h => absurd h List.not_mem_nil)⟩)⟩)⟩)⟩)
set_option maxRecDepth 100000 in
theorem gq_192_0 : gi_192_0.all (gqc 192) = true := by decide +kernel
set_option maxRecDepth 100000 in
theorem gq_192_1 : gi_192_1.all (gqc 192) = true := by decide +kernel
set_option maxRecDepth 100000 in
theorem gq_192_2 : gi_192_2.all (gqc 192) = true := by decide +kernel
set_option maxRecDepth 100000 in
theorem gq_192_3 : gi_192_3.all (gqc 192) = true := by decide +kernel
theorem gqm_192 : ∀ l ∈ gi_192, l.all (gqc 192) = true := (List.forall_mem_cons.mpr ⟨gq_192_0, (List.forall_mem_cons.mpr ⟨gq_192_1, (List.forall_mem_cons.mpr ⟨gq_192_2, (List.forall_mem_cons.mpr ⟨gq_192_3, (fun _ h => absurd h List.not_mem_nil)⟩)⟩)⟩)⟩)
