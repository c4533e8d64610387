set_option maxRecDepth 100000 in
theorem gq_193_0 : gi_193_0.all (gqc 193) = true := by decide +kernel
set_option maxRecDepth 100000 in
theorem gq_193_1 : gi_193_1.all (gqc 193) = true := by decide +kernel
set_option maxRecDepth 100000 in
theorem gq_193_2 : gi_193_2.all (gqc 193) = true := by decide +kernel
set_option maxRecDepth 100000 in
theorem gq_193_3 : gi_193_3.all (gqc 193) = true := by decide +kernel
set_option maxRecDepth 100000 in
theorem gq_193_4 : gi_193_4.all (gqc 193) = true := by decide +kernel
set_option maxRecDepth 100000 in
theorem gq_193_5 : gi_193_5.all (gqc 193) = true := by decide +kernel
theorem gqm_193 : ∀ l ∈ gi_193, l.all (gqc 193) = true := (List.forall_mem_cons.mpr ⟨gq_193_0, (List.forall_mem_cons.mpr ⟨gq_193_1, (List.forall_mem_cons.mpr ⟨gq_193_2, (List.forall_mem_cons.mpr ⟨gq_193_3, (List.forall_mem_cons.mpr ⟨gq_193_4, (List.forall_mem_cons.mpr ⟨gq_193_5, (fun _ h => absurd h List.not_mem_nil)⟩)⟩)⟩)⟩)⟩)⟩)
set_option maxRecDepth 100000 in
theorem gq_194_0 : gi_194_0.all (gqc 194) = true := by decide +kernel
set_option maxRecDepth 100000 in
theorem gq_194_1 : gi_194_1.all (gqc 194) = true := by decide +kernel
theorem gqm_194 : ∀ l ∈ gi_194, l.all (gqc 194) = true := (List.forall_mem_cons.mpr ⟨gq_194_0, (List.forall_mem_cons.mpr ⟨gq_194_1, (fun _ h => absurd h List.not_mem_nil)⟩)⟩)
set_option maxRecDepth 100000 in
theorem gq_195_0 : gi_195_0.all (gqc 195) = true := by decide +kernel
set_option maxRecDepth 100000 in
theorem gq_195_1 : gi_195_1.all (gqc 195) = true := by decide +kernel
set_option maxRecDepth 100000 in
theorem gq_195_2 : gi_195_2.all (gqc 195) = true := by decide +kernel
set_option maxRecDepth 100000 in
theorem gq_195_3 : gi_195_3.all (gqc 195) = true := by decide +kernel
theorem gqm_195 : ∀ l ∈ gi_195, l.all (gqc 195) = true := (List.forall_mem_cons.mpr ⟨gq_195_0, (List.forall_mem_cons.mpr ⟨gq_195_1, (List.forall_mem_cons.mpr ⟨gq_195_2, (List.forall_mem_cons.mpr ⟨gq_195_3, (fun _ h => absurd h List.not_mem_nil)⟩)⟩)⟩)⟩)
set_option maxRecDepth 100000 in
theorem gq_196_0 : gi_196_0.all (gqc 196) = true := by decide +kernel
set_option maxRecDepth 100000 in
theorem gq_196_1 : gi_196_1.all (gqc 196) = true := by decide +kernel
set_option maxRecDepth 100000 in
theorem gq_196_2 : gi_196_2.all (gqc 196) = true := by decide +kernel
set_option maxRecDepth 100000 in
theorem gq_196_3 : gi_196_3.all (gqc 196) = true := by decide +kernel
theorem gqm_196 : ∀ l ∈ gi_196, l.all (gqc 196) = true := (List.forall_mem_cons.mpr ⟨gq_196_0, (List.forall_mem_cons.mpr ⟨gq_196_1, (List.forall_mem_cons.mpr ⟨gq_196_2, (List.forall_mem_cons.mpr ⟨gq_196_3, (fun _ h => absurd h List.not_mem_nil)⟩)⟩)⟩)⟩)
set_option maxRecDepth 100000 in
theorem gq_197_0 : gi_197_0.all (gqc 197) = true := by decide +kernel
set_option maxRecDepth 100000 in
theorem gq_197_1 : gi_197_1.all (gqc 197) = true := by decide +kernel
set_option maxRecDepth 100000 in
theorem gq_197_2 : gi_197_2.all (gqc 197) = true := by decide +kernel
theorem gqm_197 : ∀ l ∈ gi_197, l.all (gqc 197) = true := (List.forall_mem_cons.mpr ⟨gq_197_0, (List.forall_mem_cons.mpr ⟨gq_197_1, (List.forall_mem_cons.mpr ⟨gq_197_2, (fun _ h => absurd h List.not_mem_nil)⟩)⟩)⟩)
set_option maxRecDepth 100000 in
theorem gq_198_0 : gi_198_0.all (gqc 198) = true := by decide +kernel
theorem gqm_198 : ∀ l ∈ gi_198, l.all (gqc 198) = true := (List.forall_mem_cons.mpr ⟨gq_198_0, (fun _ h => absurd h List.not_mem_nil)⟩)
set_option maxRecDepth 100000 in
theorem gq_199_0 : gi_199_0.all (gqc 199) = true := by decide +kernel
set_option maxRecDepth 100000 in
theorem gq_199_1 : gi_199_1.all (gqc 199) = true := by decide +kernel
set_option maxRecDepth 100000 in
theorem gq_199_2 : gi_199_2.all (gqc 199) = true := by decide +kernel
theorem gqm_199 : ∀ l ∈ gi_199, l.all (gqc 199) = true := (List.forall_mem_cons.mpr ⟨gq_199_0, (List.forall_mem_cons.mpr ⟨gq_199_1, (List.forall_mem_cons.mpr ⟨gq_199_2, (fun _ h => absurd h List.not_mem_nil)⟩)⟩)⟩)
set_option maxRecDepth 100000 in
theorem gq_200_0 : gi_200_0.all (gqc 200) = true := by decide +kernel
set_option maxRecDepth 100000 in
theorem gq_200_1 : gi_200_1.all (gqc 200) = true := by decide +kernel
set_option maxRecDepth 100000 in
theorem gq_200_2 : gi_200_2.all (gqc 200) = true := by decide +kernel
theorem gqm_200 : ∀ l ∈ gi_200, l.all (gqc 200) = true := (List.forall_mem_cons.mpr ⟨gq_200_0, (List.forall_mem_cons.mpr ⟨gq_200_1, (List.forall_mem_cons.mpr ⟨gq_200_2, (fun _ h => absurd h List.not_mem_nil)⟩)⟩)⟩)
set_option maxRecDepth 100000 in
theorem gq_201_0 : gi_201_0.all (gqc 201) = true := by decide +kernel
set_option maxRecDepth 100000 in
theorem gq_201_1 : gi_201_1.all (gqc 201) = true := by decide +kernel
theorem gqm_201 : ∀ l ∈ gi_201, l.all (gqc 201) = true := (List.forall_mem_cons.mpr ⟨gq_201_0, (List.forall_mem_cons.mpr ⟨gq_201_1, (fun _ h => absurd h List.not_mem_nil)⟩)⟩)
set_option maxRecDepth 100000 in
theorem gq_202_0 : gi_202_0.all (gqc 202) = true := by decide +kernel
theorem gqm_202 : ∀ l ∈ gi_202, l.all (gqc 202) = true := (List.forall_mem_cons.mpr ⟨gq_202_0, (fun _ h => absurd h List.not_mem_nil)⟩)
set_option maxRecDepth 100000 in
theorem gq_203_0 : gi_203_0.all (gqc 203) = true := by decide +kernel
set_option maxRecDepth 100000 in
theorem gq_203_1 : gi_203_1.all (gqc 203) = true := by decide +kernel
theorem gqm_203 : ∀ l ∈ gi_203, l.all (gqc 203) = true := (List.forall_mem_cons.mpr ⟨gq_203_0, (List.forall_mem_cons.mpr ⟨gq_203_1, (fun _ h => absurd h List.not_mem_nil)⟩)⟩)
set_option maxRecDepth 100000 in
theorem gq_204_0 : gi_204_0.all (gqc 204) = true := by decide +kernel
set_option maxRecDepth 100000 in
theorem gq_204_1 : gi_204_1.all (gqc 204) = true := by decide +kernel
set_option maxRecDepth 100000 in
theorem gq_204_2 : gi_204_2.all (gqc 204) = true := by decide +kernel
set_option maxRecDepth 100000 in
theorem gq_204_3 : gi_204_3.all (gqc 204) = true := by decide +kernel
set_option maxRecDepth 100000 in
theorem gq_204_4 : gi_204_4.all (gqc 204) = true := by decide +kernel
theorem gqm_204 : ∀ l ∈ gi_204, l.all (gqc 204) = true := (List.forall_mem_cons.mpr ⟨gq_204_0, (List.forall_mem_cons.mpr ⟨gq_204_1, (List.forall_mem_cons.mpr ⟨gq_204_2, (List.forall_mem_cons.mpr ⟨gq_204_3, (List.forall_mem_cons.mpr ⟨gq_204_4, (fun _ h => absurd h List.not_mem_nil)⟩)⟩)⟩)⟩)⟩)
set_option maxRecDepth 100000 in
theorem gq_205_0 : gi_205_0.all (gqc 205) = true := by decide +kernel
set_option maxRecDepth 100000 in
theorem gq_205_1 : gi_205_1.all (gqc 205) = true := by decide +kernel
theorem gqm_205 : ∀ l ∈ gi_205, l.all (gqc 205) = true := (List.forall_mem_cons.mpr ⟨gq_205_0, (List.forall_mem_cons.mpr ⟨gq_205_1, (fun _ h => absurd h List.not_mem_nil)⟩)⟩)
set_option maxRecDepth 100000 in
theorem gq_206_0 : gi_206_0.all (gqc 206) = true := by decide +kernel
set_option maxRecDepth 100000 in
theorem gq_206_1 : gi_206_1.all (gqc 206) = true := by decide +kernel
theorem gqm_206 : ∀ l ∈ gi_206, l.all (gqc 206) = true := (List.forall_mem_cons.mpr ⟨gq_206_0, (List.forall_mem_cons.mpr ⟨gq_206_1, (fun _ h => absurd h List.not_mem_nil)⟩)⟩)
set_option maxRecDepth 100000 in
theorem gq_207_0 : gi_207_0.all (gqc 207) = true := by decide +kernel
set_option maxRecDepth 100000 in
theorem gq_207_1 : gi_207_1.all (gqc 207) = true := by decide +kernel
set_option maxRecDepth 100000 in
theorem gq_207_2 : gi_207_2.all (gqc 207) = true := by decide +kernel
set_option maxRecDepth 100000 in
theorem gq_207_3 : gi_207_3.all (gqc 207) = true := by decide +kernel
theorem gqm_207 : ∀ l ∈ gi_207, l.all (gqc 207) = true := (List.forall_mem_cons.mpr ⟨gq_207_0, (List.forall_mem_cons.mpr ⟨gq_207_1, (List.forall_mem_cons.mpr ⟨gq_207_2, (List.forall_mem_cons.mpr ⟨gq_207_3, (fun _ h => absurd h List.not_mem_nil)⟩)⟩)⟩)⟩)
set_option maxRecDepth 100000 in
theorem gq_208_0 : gi_208_0.all (gqc 208) = true := by decide +kernel
set_option maxRecDepth 100000 in
theorem gq_208_1 : gi_208_1.all (gqc 208) = true := by decide +kernel
set_option maxRecDepth 100000 in
theorem gq_208_2 : gi_208_2.all (gqc 208) = true := by decide +kernel
set_option maxRecDepth 100000 in
theorem gq_208_3 : gi_208_3.all (gqc 208) = true := by decide +kernel
set_option maxRecDepth 100000 in
theorem gq_208_4 : gi_208_4.all (gqc 208) = true := by decide +kernel
theorem gqm_208 : ∀ l ∈ gi_208, l.all (gqc 208) = true := (List.forall_mem_cons.mpr ⟨gq_208_0, (List.forall_mem_cons.mpr ⟨gq_208_1, (List.forall_mem_cons.mpr ⟨gq_208_2, (List.forall_mem_cons.mpr ⟨gq_208_3, (List.forall_mem_cons.mpr ⟨gq_208_4, (fun _ h => absurd h List.not_mem_nil)⟩)⟩)⟩)⟩)⟩)
set_option maxRecDepth 100000 in
theorem gq_209_0 : gi_209_0.all (gqc 209) = true := by decide +kernel
set_option maxRecDepth 100000 in
theorem gq_209_1 : gi_209_1.all (gqc 209) = true := by decide +kernel
theorem gqm_209 : ∀ l ∈ gi_209, l.all (gqc 209) = true := (List.forall_mem_cons.mpr ⟨gq_209_0, (List.forall_mem_cons.mpr ⟨gq_209_1, (fun _ h => absurd h List.not_mem_nil)⟩)⟩)
set_option maxRecDepth 100000 in
theorem gq_210_0 : gi_210_0.all (gqc 210) = true := by decide +kernel
set_option maxRecDepth 100000 in
theorem gq_210_1 : gi_210_1.all (gqc 210) = true := by decide +kernel
set_option maxRecDepth 100000 in
theorem gq_210_2 : gi_210_2.all (gqc 210) = true := by decide +kernel
set_option maxRecDepth 100000 in
theorem gq_210_3 : gi_210_3.all (gqc 210) = true := by decide +kernel
set_option maxRecDepth 100000 in
theorem gq_210_4 : gi_210_4.all (gqc 210) = true := by decide +kernel
theorem gqm_210 : ∀ l ∈ gi_210, l.all (gqc 210) = true := (List.forall_mem_cons.mpr ⟨gq_210_0, (List.forall_mem_cons.mpr ⟨gq_210_1, (List.forall_mem_cons.mpr ⟨gq_210_2, (List.forall_mem_cons.mpr ⟨gq_210_3, (List.forall_mem_cons.mpr ⟨gq_210_4, (fun _ h => absurd h List.not_mem_nil)⟩)⟩)⟩)⟩)⟩)
set_option maxRecDepth 100000 in
theorem gq_211_0 : gi_211_0.all (gqc 211) = true := by decide +kernel
theorem gqm_211 : ∀ l ∈ gi_211, l.all (gqc 211) = true := (List.forall_mem_cons.mpr ⟨gq_211_0, (fun _ h => absurd h List.not_mem_nil)⟩)
set_option maxRecDepth 100000 in
theorem gq_212_0 : gi_212_0.all (gqc 212) = true := by decide +kernel
set_option maxRecDepth 100000 in
theorem gq_212_1 : gi_212_1.all (gqc 212) = true := by decide +kernel
set_option maxRecDepth 100000 in
theorem gq_212_2 : gi_212_2.all (gqc 212) = true := by decide +kernel
theorem gqm_212 : ∀ l ∈ gi_212, l.all (gqc 212) = true := (List.forall_mem_cons.mpr ⟨gq_212_0, (List.forall_mem_cons.mpr ⟨gq_212_1, (List.forall_mem_cons.mpr ⟨gq_212_2, (fun _ h => absurd h List.not_mem_nil)⟩)⟩)⟩)
set_option maxRecDepth 100000 in
theorem gq_213_0 : gi_213_0.all (gqc 213) = true := by decide +kernel
set_option maxRecDepth 100000 in
theorem gq_213_1 : gi_213_1.all (gqc 213) = true := by decide +kernel
theorem gqm_213 : ∀ l ∈ gi_213, l.all (gqc 213) = true := (List.forall_mem_cons.mpr ⟨gq_213_0, (List.forall_mem_cons.mpr ⟨gq_213_1, (fun _ h => absurd h List.not_mem_nil)⟩)⟩)
set_option maxRecDepth 100000 in
theorem gq_214_0 : gi_214_0.all (gqc 214) = true := by decide +kernel
set_option maxRecDepth 100000 in
theorem gq_214_1 : gi_214_1.all (gqc 214) = true := by decide +kernel
theorem gqm_214 : ∀ l ∈ gi_214, l.all (gqc 214) = true := (List.forall_mem_cons.mpr ⟨gq_214_0, (List.forall_mem_cons.mpr ⟨gq_214_1, (fun _ h => absurd h List.not_mem_nil)⟩)⟩)
set_option maxRecDepth 100000 in
theorem gq_215_0 : gi_215_0.all (gqc 215) = true := by decide +kernel
set_option maxRecDepth 100000 in
theorem gq_215_1 : gi_215_1.all (gqc 215) = true := by decide +kernel
set_option maxRecDepth 100000 in
theorem gq_215_2 : gi_215_2.all (gqc 215) = true := by decide +kernel
theorem gqm_215 : ∀ l ∈ gi_215, l.all (gqc 215) = true := (List.forall_mem_cons.mpr ⟨gq_215_0, (List.forall_mem_cons.mpr ⟨gq_215_1, (List.forall_mem_cons.mpr ⟨gq_215_2, (fun _ h => absurd h List.not_mem_nil)⟩)⟩)⟩)
set_option maxRecDepth 100000 in
theorem gq_216_0 : gi_216_0.all (gqc 216) = true := by decide +kernel
theorem gqm_216 : ∀ l ∈ gi_216, l.all (gqc 216) = true := (List.forall_mem_cons.mpr ⟨gq_216_0, (fun _ h => absurd h List.not_mem_nil)⟩)
set_option maxRecDepth 100000 in
theorem gq_217_0 : gi_217_0.all (gqc 217) = true := by decide +kernel
set_option maxRecDepth 100000 in
theorem gq_217_1 : gi_217_1.all (gqc 217) = true := by decide +kernel
set_option maxRecDepth 100000 in
theorem gq_217_2 : gi_217_2.all (gqc 217) = true := by decide +kernel
theorem gqm_217 : ∀ l ∈ gi_217, l.all (gqc 217) = true := (List.forall_mem_cons.mpr ⟨gq_217_0, (List.forall_mem_cons.mpr ⟨gq_217_1, (List.forall_mem_cons.mpr ⟨gq_217_2, (fun _ h => absurd h List.not_mem_nil)⟩)⟩)⟩)
set_option maxRecDepth 100000 in
theorem gq_218_0 : gi_218_0.all (gqc 218) = true := by decide +kernel
set_option maxRecDepth 100000 in
theorem gq_218_1 : gi_218_1.all (gqc 218) = true := by decide +kernel
set_option maxRecDepth 100000 in
theorem gq_218_2 : gi_218_2.all (gqc 218) = true := by decide +kernel
theorem gqm_218 : ∀ l ∈ gi_218, l.all (gqc 218) = true := (List.forall_mem_cons.mpr ⟨gq_218_0, (List.forall_mem_cons.mpr ⟨gq_218_1, (List.forall_mem_cons.mpr ⟨gq_218_2, (fun _ h => absurd h List.not_mem_nil)⟩)⟩)⟩)
set_option maxRecDepth 100000 in
theorem gq_219_0 : gi_219_0.all (gqc 219) = true := by decide +kernel
theorem gqm_219 : ∀ l ∈ gi_219, l.all (gqc 219) = true := (List.forall_mem_cons.mpr ⟨gq_219_0, (fun _ h => absurd h List.not_mem_nil)⟩)
set_option maxRecDepth 100000 in
theorem gq_220_0 : gi_220_0.all (gqc 220) = true := by decide +kernel
set_option maxRecDepth 100000 in
theorem gq_220_1 : gi_220_1.all (gqc 220) = true := by decide +kernel
set_option maxRecDepth 100000 in
theorem gq_220_2 : gi_220_2.all (gqc 220) = true := by decide +kernel
set_option maxRecDepth 100000 in
theorem gq_220_3 : gi_220_3.all (gqc 220) = true := by decide +kernel
theorem gqm_220 : ∀ l ∈ gi_220, l.all (gqc 220) = true := (List.forall_mem_cons.mpr ⟨gq_220_0, (List.forall_mem_cons.mpr ⟨gq_220_1, (List.forall_mem_cons.mpr ⟨gq_220_2, (List.forall_mem_cons.mpr ⟨gq_220_3, (fun _ h => absurd h List.not_mem_nil)⟩)⟩)⟩)⟩)
set_option maxRecDepth 100000 in
theorem gq_221_0 : gi_221_0.all (gqc 221) = true := by decide +kernel
set_option maxRecDepth 100000 in
theorem gq_221_1 : gi_221_1.all (gqc 221) = true := by decide +kernel
theorem gqm_221 : ∀ l ∈ gi_221, l.all (gqc 221) = true := (List.forall_mem_cons.mpr ⟨gq_221_0, (List.forall_mem_cons.mpr ⟨gq_221_1, (fun _ h => absurd h List.not_mem_nil)⟩)⟩)
set_option maxRecDepth 100000 in
theorem gq_222_0 : gi_222_0.all (gqc 222) = true := by decide +kernel
set_option maxRecDepth 100000 in
theorem gq_222_1 : gi_222_1.all (gqc 222) = true := by decide +kernel
set_option maxRecDepth 100000 in
theorem gq_222_2 : gi_222_2.all (gqc 222) = true := by decide +kernel
theorem gqm_222 : ∀ l ∈ gi_222, l.all (gqc 222) = true := (List.forall_mem_cons.mpr ⟨gq_222_0, (List.forall_mem_cons.mpr ⟨gq_222_1, (List.forall_mem_cons.mpr ⟨gq_222_2, (fun _ h => absurd h List.not_mem_nil)⟩)⟩)⟩)
set_option maxRecDepth 100000 in
theorem gq_223_0 : gi_223_0.all (gqc 223) = true := by decide +kernel
set_option maxRecDepth 100000 in
theorem gq_223_1 : gi_223_1.all (gqc 223) = true := by decide +kernel
set_option maxRecDepth 100000 in
theorem gq_223_2 : gi_223_2.all (gqc 223) = true := by decide +kernel
theorem gqm_223 : ∀ l ∈ gi_223, l.all (gqc 223) = true := (List.forall_mem_cons.mpr ⟨gq_223_0, (List.forall_mem_cons.mpr ⟨gq_223_1, (List.forall_mem_cons.mpr ⟨gq_223_2, (fun _ h => absurd h List.not_mem_nil)⟩)⟩)⟩)
set_option maxRecDepth 100000 in
theorem gq_224_0 : gi_224_0.all (gqc 224) = true := by decide +kernel
theorem gqm_224 : ∀ l ∈ gi_224, l.all (gqc 224) = true := (List.forall_mem_cons.mpr ⟨gq_224_0, (fun _ h => absurd h List.not_mem_nil)⟩)
set_option maxRecDepth 100000 in
theorem gq_225_0 : gi_225_0.all (gqc 225) = true := by decide +kernel
set_option maxRecDepth 100000 in
theorem gq_225_1 : gi_225_1.all (gqc 225) = true := by decide +kernel
theorem gqm_225 : ∀ l ∈ gi_225, l.all (gqc 225) = true := (List.forall_mem_cons.mpr ⟨gq_225_0, (List.forall_mem_cons.mpr ⟨gq_225_1, (fun _ h => absurd h List.not_mem_nil)⟩)⟩)
set_option maxRecDepth 100000 in
theorem gq_226_0 : gi_226_0.all (gqc 226) = true := by decide +kernel
set_option maxRecDepth 100000 in
theorem gq_226_1 : gi_226_1.all (gqc 226) = true := by decide +kernel
theorem gqm_226 : ∀ l ∈ gi_226, l.all (gqc 226) = true := (List.forall_mem_cons.mpr ⟨gq_226_0, (List.forall_mem_cons.mpr ⟨gq_226_1, (fun _ h => absurd h List.not_mem_nil)⟩)⟩)
set_option maxRecDepth 100000 in
theorem gq_227_0 : gi_227_0.all (gqc 227) = true := by decide +kernel
set_option maxRecDepth 100000 in
theorem gq_227_1 : gi_227_1.all (gqc 227) = true := by decide +kernel
set_option maxRecDepth 100000 in
theorem gq_227_2 : gi_227_2.all (gqc 227) = true := by decide +kernel
theorem gqm_227 : ∀ l ∈ gi_227, l.all (gqc 227) = true := (List.forall_mem_cons.mpr ⟨gq_227_0, (List.forall_mem_cons.mpr ⟨gq_227_1, (List.forall_mem_cons.mpr ⟨gq_227_2, (fun _ h => absurd h List.not_mem_nil)⟩)⟩)⟩)
set_option maxRecDepth 100000 in
theorem gq_228_0 : gi_228_0.all (gqc 228) = true := by decide +kernel
set_option maxRecDepth 100000 in
theorem gq_228_1 : gi_228_1.all (gqc 228) = true := by decide +kernel
set_option maxRecDepth 100000 in
theorem gq_228_2 : gi_228_2.all (gqc 228) = true := by decide +kernel
theorem gqm_228 : ∀ l ∈ gi_228, l.all (gqc 228) = true := (List.forall_mem_cons.mpr ⟨gq_228_0, (List.forall_mem_cons.mpr ⟨gq_228_1, (List.forall_mem_cons.mpr ⟨gq_228_2, (fun _ h => absurd h List.not_mem_nil)⟩)⟩)⟩)
set_option maxRecDepth 100000 in
theorem gq_229_0 : gi_229_0.all (gqc 229) = true := by decide +kernel
set_option maxRecDepth 100000 in
theorem gq_229_1 : gi_229_1.all (gqc 229) = true := by decide +kernel
set_option maxRecDepth 100000 in
theorem gq_229_2 : gi_229_2.all (gqc 229) = true := by decide +kernel
set_option maxRecDepth 100000 in
theorem gq_229_3 : gi_229_3.all (gqc 229) = true := by decide +kernel
set_option maxRecDepth 100000 in
theorem gq_229_4 : gi_229_4.all (gqc 229) = true := by decide +kernel
set_option maxRecDepth 100000 in
theorem gq_229_5 : gi_229_5.all (gqc 229) = true := by decide +kernel
theorem gqm_229 : ∀ l ∈ gi_229, l.all (gqc 229) = true := (List.forall_mem_cons.mpr ⟨gq_229_0, (List.forall_mem_cons.mpr ⟨gq_229_1, (List.forall_mem_cons.mpr ⟨gq_229_2, (List.forall_mem_cons.mpr ⟨gq_229_3, (List.forall_mem_cons.mpr ⟨gq_229_4, (List.forall_mem_cons.mpr ⟨gq_229_5, (fun _ h => absurd h List.not_mem_nil)⟩)⟩)⟩)⟩)⟩)⟩)
set_option maxRecDepth 100000 in
theorem gq_230_0 : gi_230_0.all (gqc 230) = true := by decide +kernel
set_option maxRecDepth 100000 in
theorem gq_230_1 : gi_230_1.all (gqc 230) = true := by decide +kernel
set_option maxRecDepth 100000 in
theorem gq_230_2 : gi_230_2.all (gqc 230) = true := by decide +kernel
theorem gqm_230 : ∀ l ∈ gi_230, l.all (gqc 230) = true := (List.forall_mem_cons.mpr ⟨gq_230_0, (List.forall_mem_cons.mpr ⟨gq_230_1, (List.forall_mem_cons.mpr ⟨gq_230_2, (fun _ h => absurd h List.not_mem_nil)⟩)⟩)⟩)
set_option maxRecDepth 100000 in
theorem gq_231_0 : gi_231_0.all (gqc 231) = true := by decide +kernel
set_option maxRecDepth 100000 in
theorem gq_231_1 : gi_231_1.all (gqc 231) = true := by decide +kernel
theorem gqm_231 : ∀ l ∈ gi_231, l.all (gqc 231) = true := (List.forall_mem_cons.mpr ⟨gq_231_0, (List.forall_mem_cons.mpr ⟨gq_231_1, (fun _ h => absurd h List.not_mem_nil)⟩)⟩)
set_option maxRecDepth 100000 in
theorem gq_232_0 : gi_232_0.all (gqc 232) = true := by decide +kernel
set_option maxRecDepth 100000 in
theorem gq_232_1 : gi_232_1.all (gqc 232) = true := by decide +kernel
set_option maxRecDepth 100000 in
theorem gq_232_2 : gi_232_2.all (gqc 232) = true := by decide +kernel
set_option maxRecDepth 100000 in
theorem gq_232_3 : gi_232_3.all (gqc 232) = true := by decide +kernel
set_option maxRecDepth 100000 in
theorem gq_232_4 : gi_232_4.all (gqc 232) = true := by decide +kernel
set_option maxRecDepth 100000 in
theorem gq_232_5 : gi_232_5.all (gqc 232) = true := by decide +kernel
theorem gqm_232 : ∀ l ∈ gi_232, l.all (gqc 232) = true := (List.forall_mem_cons.mpr ⟨gq_232_0, (List.forall_mem_cons.mpr ⟨gq_232_1, (List.forall_mem_cons.mpr ⟨gq_232_2, (List.forall_mem_cons.mpr ⟨gq_232_3, (List.forall_mem_cons.mpr ⟨gq_232_4, (List.forall_mem_cons.mpr ⟨gq_232_5, (fun _ h => absurd h List.not_mem_nil)⟩)⟩)⟩)⟩)⟩)⟩)
set_option maxRecDepth 100000 in
theorem gq_233_0 : gi_233_0.all (gqc 233) = true := by decide +kernel
set_option maxRecDepth 100000 in
theorem gq_233_1 : gi_233_1.all (gqc 233) = true := by decide +kernel
set_option maxRecDepth 100000 in
theorem gq_233_2 : gi_233_2.all (gqc 233) = true := by decide +kernel
set_option maxRecDepth 100000 in
theorem gq_233_3 : gi_233_3.all (gqc 233) = true := by decide +kernel
theorem gqm_233 : ∀ l ∈ gi_233, l.all (gqc 233) = true := (List.forall_mem_cons.mpr ⟨gq_233_0, (List.forall_mem_cons.mpr ⟨gq_233_1, (List.forall_mem_cons.mpr ⟨gq_233_2, (List.forall_mem_cons.mpr ⟨gq_233_3, (fun _ h => absurd h List.not_mem_nil)⟩)⟩)⟩)⟩)
set_option maxRecDepth 100000 in
theorem gq_234_0 : gi_234_0.all (gqc 234) = true := by decide +kernel
set_option maxRecDepth 100000 in
theorem gq_234_1 : gi_234_1.all (gqc 234) = true := by decide +kernel
theorem gqm_234 : ∀ l ∈ gi_234, l.all (gqc 234) = true := (List.forall_mem_cons.mpr ⟨gq_234_0, (List.forall_mem_cons.mpr ⟨gq_234_1, (fun _ h => absurd h List.not_mem_nil)⟩)⟩)
set_option maxRecDepth 100000 in
theorem gq_235_0 : gi_235_0.all (gqc 235) = true := by decide +kernel
set_option maxRecDepth 100000 in
theorem gq_235_1 : gi_235_1.all (gqc 235) = true := by decide +kernel
set_option maxRecDepth 100000 in
theorem gq_235_2 : gi_235_2.all (gqc 235) = true := by decide +kernel
theorem gqm_235 : ∀ l ∈ gi_235, l.all (gqc 235) = true := (List.forall_mem_cons.mpr ⟨gq_235_0, (List.forall_mem_cons.mpr ⟨gq_235_1, (List.forall_mem_cons.mpr ⟨gq_235_2, (fun _ h => absurd h List.not_mem_nil)⟩)⟩)⟩)
set_option maxRecDepth 100000 in
theorem gq_236_0 : gi_236_0.all (gqc 236) = true := by decide +kernel
set_option maxRecDepth 100000 in
theorem gq_236_1 : gi_236_1.all (gqc 236) = true := by decide +kernel
set_option maxRecDepth 100000 in
theorem gq_236_2 : gi_236_2.all (gqc 236) = true := by decide +kernel
theorem gqm_236 : ∀ l ∈ gi_236, l.all (gqc 236) = true := (List.forall_mem_cons.mpr ⟨gq_236_0, (List.forall_mem_cons.mpr ⟨gq_236_1, (List.forall_mem_cons.mpr ⟨gq_236_2, (fun _ h => absurd h List.not_mem_nil)⟩)⟩)⟩)
set_option maxRecDepth 100000 in
theorem gq_237_0 : gi_237_0.all (gqc 237) = true := by decide +kernel
set_option maxRecDepth 100000 in
theorem gq_237_1 : gi_237_1.all (gqc 237) = true := by decide +kernel
theorem gqm_237 : ∀ l ∈ gi_237, l.all (gqc 237) = true := (List.forall_mem_cons.mpr ⟨gq_237_0, (List.forall_mem_cons.mpr ⟨gq_237_1, (fun _ h => absurd h List.not_mem_nil)⟩)⟩)
set_option maxRecDepth 100000 in
theorem gq_238_0 : gi_238_0.all (gqc 238) = true := by decide +kernel
set_option maxRecDepth 100000 in
theorem gq_238_1 : gi_238_1.all (gqc 238) = true := by decide +kernel
