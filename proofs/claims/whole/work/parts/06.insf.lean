set_option maxRecDepth 100000 in
theorem gq_238_2 : gi_238_2.all (gqc 238) = true := by decide +kernel
theorem gqm_238 : ∀ l ∈ gi_238, l.all (gqc 238) = true := (List.forall_mem_cons.mpr ⟨gq_238_0, (List.forall_mem_cons.mpr ⟨gq_238_1, (List.forall_mem_cons.mpr ⟨gq_238_2, (fun _ h => absurd h List.not_mem_nil)⟩)⟩)⟩)
set_option maxRecDepth 100000 in
theorem gq_239_0 : gi_239_0.all (gqc 239) = true := by decide +kernel
set_option maxRecDepth 100000 in
theorem gq_239_1 : gi_239_1.all (gqc 239) = true := by decide +kernel
theorem gqm_239 : ∀ l ∈ gi_239, l.all (gqc 239) = true := (List.forall_mem_cons.mpr ⟨gq_239_0, (List.forall_mem_cons.mpr ⟨gq_239_1, (fun _ h => absurd h List.not_mem_nil)⟩)⟩)
set_option maxRecDepth 100000 in
theorem gq_240_0 : gi_240_0.all (gqc 240) = true := by decide +kernel
theorem gqm_240 : ∀ l ∈ gi_240, l.all (gqc 240) = true := (List.forall_mem_cons.mpr ⟨gq_240_0, (fun _ h => absurd h List.not_mem_nil)⟩)
set_option maxRecDepth 100000 in
theorem gq_241_0 : gi_241_0.all (gqc 241) = true := by decide +kernel
set_option maxRecDepth 100000 in
theorem gq_241_1 : gi_241_1.all (gqc 241) = true := by decide +kernel
theorem gqm_241 : ∀ l ∈ gi_241, l.all (gqc 241) = true := (List.forall_mem_cons.mpr ⟨gq_241_0, (List.forall_mem_cons.mpr ⟨gq_241_1, (fun _ h => absurd h List.not_mem_nil)⟩)⟩)
set_option maxRecDepth 100000 in
theorem gq_242_0 : gi_242_0.all (gqc 242) = true := by decide +kernel
set_option maxRecDepth 100000 in
theorem gq_242_1 : gi_242_1.all (gqc 242) = true := by decide +kernel
theorem gqm_242 : ∀ l ∈ gi_242, l.all (gqc 242) = true := (List.forall_mem_cons.mpr ⟨gq_242_0, (List.forall_mem_cons.mpr ⟨gq_242_1, (fun _ h => absurd h List.not_mem_nil)⟩)⟩)
set_option maxRecDepth 100000 in
theorem gq_243_0 : gi_243_0.all (gqc 243) = true := by decide +kernel
set_option maxRecDepth 100000 in
theorem gq_243_1 : gi_243_1.all (gqc 243) = true := by decide +kernel
theorem gqm_243 : ∀ l ∈ gi_243, l.all (gqc 243) = true := (List.forall_mem_cons.mpr ⟨gq_243_0, (List.forall_mem_cons.mpr ⟨gq_243_1, (fun _ h => absurd h List.not_mem_nil)⟩)⟩)
set_option maxRecDepth 100000 in
theorem gq_244_0 : gi_244_0.all (gqc 244) = true := by decide +kernel
set_option maxRecDepth 100000 in
theorem gq_244_1 : gi_244_1.all (gqc 244) = true := by decide +kernel
set_option maxRecDepth 100000 in
theorem gq_244_2 : gi_244_2.all (gqc 244) = true := by decide +kernel
set_option maxRecDepth 100000 in
theorem gq_244_3 : gi_244_3.all (gqc 244) = true := by decide +kernel
theorem gqm_244 : ∀ l ∈ gi_244, l.all (gqc 244) = true := (List.forall_mem_cons.mpr ⟨gq_244_0, (List.forall_mem_cons.mpr ⟨gq_244_1, (List.forall_mem_cons.mpr ⟨gq_244_2, (List.forall_mem_cons.mpr ⟨gq_244_3, (fun _ h => absurd h List.not_mem_nil)⟩)⟩)⟩)⟩)
set_option maxRecDepth 100000 in
theorem gq_245_0 : gi_245_0.all (gqc 245) = true := by decide +kernel
set_option maxRecDepth 100000 in
theorem gq_245_1 : gi_245_1.all (gqc 245) = true := by decide +kernel
set_option maxRecDepth 100000 in
theorem gq_245_2 : gi_245_2.all (gqc 245) = true := by decide +kernel
set_option maxRecDepth 100000 in
theorem gq_245_3 : gi_245_3.all (gqc 245) = true := by decide +kernel
set_option maxRecDepth 100000 in
theorem gq_245_4 : gi_245_4.all (gqc 245) = true := by decide +kernel
set_option maxRecDepth 100000 in
theorem gq_245_5 : gi_245_5.all (gqc 245) = true := by decide +kernel
theorem gqm_245 : ∀ l ∈ gi_245, l.all (gqc 245) = true := (List.forall_mem_cons.mpr ⟨gq_245_0, (List.forall_mem_cons.mpr ⟨gq_245_1, (List.forall_mem_cons.mpr ⟨gq_245_2, (List.forall_mem_cons.mpr ⟨gq_245_3, (List.forall_mem_cons.mpr ⟨gq_245_4, (List.forall_mem_cons.mpr ⟨gq_245_5, (fun _ h => absurd h List.not_mem_nil)⟩)⟩)⟩)⟩)⟩)⟩)
set_option maxRecDepth 100000 in
theorem gq_246_0 : gi_246_0.all (gqc 246) = true := by decide +kernel
theorem gqm_246 : ∀ l ∈ gi_246, l.all (gqc 246) = true := (List.forall_mem_cons.mpr ⟨gq_246_0, (fun _ h => absurd h List.not_mem_nil)⟩)
set_option maxRecDepth 100000 in
theorem gq_247_0 : gi_247_0.all (gqc 247) = true := by decide +kernel
theorem gqm_247 : ∀ l ∈ gi_247, l.all (gqc 247) = true := (List.forall_mem_cons.mpr ⟨gq_247_0, (fun _ h => absurd h List.not_mem_nil)⟩)
set_option maxRecDepth 100000 in
theorem gq_248_0 : gi_248_0.all (gqc 248) = true := by decide +kernel
set_option maxRecDepth 100000 in
theorem gq_248_1 : gi_248_1.all (gqc 248) = true := by decide +kernel
set_option maxRecDepth 100000 in
theorem gq_248_2 : gi_248_2.all (gqc 248) = true := by decide +kernel
set_option maxRecDepth 100000 in
theorem gq_248_3 : gi_248_3.all (gqc 248) = true := by decide +kernel
set_option maxRecDepth 100000 in
theorem gq_248_4 : gi_248_4.all (gqc 248) = true := by decide +kernel
set_option maxRecDepth 100000 in
theorem gq_248_5 : gi_248_5.all (gqc 248) = true := by decide +kernel
set_option maxRecDepth 100000 in
theorem gq_248_6 : gi_248_6.all (gqc 248) = true := by decide +kernel
set_option maxRecDepth 100000 in
theorem gq_248_7 : gi_248_7.all (gqc 248) = true := by decide +kernel
set_option maxRecDepth 100000 in
theorem gq_248_8 : gi_248_8.all (gqc 248) = true := by decide +kernel
theorem gqm_248 : ∀ l ∈ gi_248, l.all (gqc 248) = true := (List.forall_mem_cons.mpr ⟨gq_248_0, (List.forall_mem_cons.mpr ⟨gq_248_1, (List.forall_mem_cons.mpr ⟨gq_248_2, (List.forall_mem_cons.mpr ⟨gq_248_3, (List.forall_mem_cons.mpr ⟨gq_248_4, (List.forall_mem_cons.mpr ⟨gq_248_5, (List.forall_mem_cons.mpr ⟨gq_248_6, (List.forall_mem_cons.mpr ⟨gq_248_7, (List.forall_mem_cons.mpr ⟨gq_248_8, (fun _ h => absurd h List.not_mem_nil)⟩)⟩)⟩)⟩)⟩)⟩)⟩)⟩)⟩)
set_option maxRecDepth 100000 in
theorem gq_249_0 : gi_249_0.all (gqc 249) = true := by decide +kernel
set_option maxRecDepth 100000 in
theorem gq_249_1 : gi_249_1.all (gqc 249) = true := by decide +kernel
set_option maxRecDepth 100000 in
theorem gq_249_2 : gi_249_2.all (gqc 249) = true := by decide +kernel
set_option maxRecDepth 100000 in
theorem gq_249_3 : gi_249_3.all (gqc 249) = true := by decide +kernel
set_option maxRecDepth 100000 in
theorem gq_249_4 : gi_249_4.all (gqc 249) = true := by decide +kernel
theorem gqm_249 : ∀ l ∈ gi_249, l.all (gqc 249) = true := (List.forall_mem_cons.mpr ⟨gq_249_0, (List.forall_mem_cons.mpr ⟨gq_249_1, (List.forall_mem_cons.mpr ⟨gq_249_2, (List.forall_mem_cons.mpr ⟨gq_249_3, (List.forall_mem_cons.mpr ⟨gq_249_4, (fun _ h => absurd h List.not_mem_nil)⟩)⟩)⟩)⟩)⟩)
set_option maxRecDepth 100000 in
theorem gq_250_0 : gi_250_0.all (gqc 250) = true := by decide +kernel
set_option maxRecDepth 100000 in
theorem gq_250_1 : gi_250_1.all (gqc 250) = true := by decide +kernel
theorem gqm_250 : ∀ l ∈ gi_250, l.all (gqc 250) = true := (List.forall_mem_cons.mpr ⟨gq_250_0, (List.forall_mem_cons.mpr ⟨gq_250_1, (fun _ h => absurd h List.not_mem_nil)⟩)⟩)
set_option maxRecDepth 100000 in
theorem gq_251_0 : gi_251_0.all (gqc 251) = true := by decide +kernel
set_option maxRecDepth 100000 in
theorem gq_251_1 : gi_251_1.all (gqc 251) = true := by decide +kernel
theorem gqm_251 : ∀ l ∈ gi_251, l.all (gqc 251) = true := (List.forall_mem_cons.mpr ⟨gq_251_0, (List.forall_mem_cons.mpr ⟨gq_251_1, (fun _ h => absurd h List.not_mem_nil)⟩)⟩)
set_option maxRecDepth 100000 in
theorem gq_252_0 : gi_252_0.all (gqc 252) = true := by decide +kernel
set_option maxRecDepth 100000 in
theorem gq_252_1 : gi_252_1.all (gqc 252) = true := by decide +kernel
theorem gqm_252 : ∀ l ∈ gi_252, l.all (gqc 252) = true := (List.forall_mem_cons.mpr ⟨gq_252_0, (List.forall_mem_cons.mpr ⟨gq_252_1, (fun _ h => absurd h List.not_mem_nil)⟩)⟩)
set_option maxRecDepth 100000 in
theorem gq_253_0 : gi_253_0.all (gqc 253) = true := by decide +kernel
set_option maxRecDepth 100000 in
theorem gq_253_1 : gi_253_1.all (gqc 253) = true := by decide +kernel
set_option maxRecDepth 100000 in
theorem gq_253_2 : gi_253_2.all (gqc 253) = true := by decide +kernel
theorem gqm_253 : ∀ l ∈ gi_253, l.all (gqc 253) = true := (List.forall_mem_cons.mpr ⟨gq_253_0, (List.forall_mem_cons.mpr ⟨gq_253_1, (List.forall_mem_cons.mpr ⟨gq_253_2, (fun _ h => absurd h List.not_mem_nil)⟩)⟩)⟩)
set_option maxRecDepth 100000 in
theorem gq_254_0 : gi_254_0.all (gqc 254) = true := by decide +kernel
set_option maxRecDepth 100000 in
theorem gq_254_1 : gi_254_1.all (gqc 254) = true := by decide +kernel
theorem gqm_254 : ∀ l ∈ gi_254, l.all (gqc 254) = true := (List.forall_mem_cons.mpr ⟨gq_254_0, (List.forall_mem_cons.mpr ⟨gq_254_1, (fun _ h => absurd h List.not_mem_nil)⟩)⟩)
set_option maxRecDepth 100000 in
theorem gq_255_0 : gi_255_0.all (gqc 255) = true := by decide +kernel
set_option maxRecDepth 100000 in
theorem gq_255_1 : gi_255_1.all (gqc 255) = true := by decide +kernel
set_option maxRecDepth 100000 in
theorem gq_255_2 : gi_255_2.all (gqc 255) = true := by decide +kernel
set_option maxRecDepth 100000 in
theorem gq_255_3 : gi_255_3.all (gqc 255) = true := by decide +kernel
theorem gqm_255 : ∀ l ∈ gi_255, l.all (gqc 255) = true := (List.forall_mem_cons.mpr ⟨gq_255_0, (List.forall_mem_cons.mpr ⟨gq_255_1, (List.forall_mem_cons.mpr ⟨gq_255_2, (List.forall_mem_cons.mpr ⟨gq_255_3, (fun _ h => absurd h List.not_mem_nil)⟩)⟩)⟩)⟩)
set_option maxRecDepth 100000 in
theorem gq_256_0 : gi_256_0.all (gqc 256) = true := by decide +kernel
set_option maxRecDepth 100000 in
theorem gq_256_1 : gi_256_1.all (gqc 256) = true := by decide +kernel
set_option maxRecDepth 100000 in
theorem gq_256_2 : gi_256_2.all (gqc 256) = true := by decide +kernel
set_option maxRecDepth 100000 in
theorem gq_256_3 : gi_256_3.all (gqc 256) = true := by decide +kernel
set_option maxRecDepth 100000 in
theorem gq_256_4 : gi_256_4.all (gqc 256) = true := by decide +kernel
theorem gqm_256 : ∀ l ∈ gi_256, l.all (gqc 256) = true := (List.forall_mem_cons.mpr ⟨gq_256_0, (List.forall_mem_cons.mpr ⟨gq_256_1, (List.forall_mem_cons.mpr ⟨gq_256_2, (List.forall_mem_cons.mpr ⟨gq_256_3, (List.forall_mem_cons.mpr ⟨gq_256_4, (fun _ h => absurd h List.not_mem_nil)⟩)⟩)⟩)⟩)⟩)
set_option maxRecDepth 100000 in
theorem gq_257_0 : gi_257_0.all (gqc 257) = true := by decide +kernel
set_option maxRecDepth 100000 in
theorem gq_257_1 : gi_257_1.all (gqc 257) = true := by decide +kernel
set_option maxRecDepth 100000 in
theorem gq_257_2 : gi_257_2.all (gqc 257) = true := by decide +kernel
set_option maxRecDepth 100000 in
theorem gq_257_3 : gi_257_3.all (gqc 257) = true := by decide +kernel
set_option maxRecDepth 100000 in
theorem gq_257_4 : gi_257_4.all (gqc 257) = true := by decide +kernel
theorem gqm_257 : ∀ l ∈ gi_257, l.all (gqc 257) = true := (List.forall_mem_cons.mpr ⟨gq_257_0, (List.forall_mem_cons.mpr ⟨gq_257_1, (List.forall_mem_cons.mpr ⟨gq_257_2, (List.forall_mem_cons.mpr ⟨gq_257_3, (List.forall_mem_cons.mpr ⟨gq_257_4, (fun _ h => absurd h List.not_mem_nil)⟩)⟩)⟩)⟩)⟩)
set_option maxRecDepth 100000 in
theorem gq_258_0 : gi_258_0.all (gqc 258) = true := by decide +kernel
set_option maxRecDepth 100000 in
theorem gq_258_1 : gi_258_1.all (gqc 258) = true := by decide +kernel
theorem gqm_258 : ∀ l ∈ gi_258, l.all (gqc 258) = true := (List.forall_mem_cons.mpr ⟨gq_258_0, (List.forall_mem_cons.mpr ⟨gq_258_1, (fun _ h => absurd h List.not_mem_nil)⟩)⟩)
set_option maxRecDepth 100000 in
theorem gq_259_0 : gi_259_0.all (gqc 259) = true := by decide +kernel
set_option maxRecDepth 100000 in
theorem gq_259_1 : gi_259_1.all (gqc 259) = true := by decide +kernel
set_option maxRecDepth 100000 in
theorem gq_259_2 : gi_259_2.all (gqc 259) = true := by decide +kernel
set_option maxRecDepth 100000 in
theorem gq_259_3 : gi_259_3.all (gqc 259) = true := by decide +kernel
set_option maxRecDepth 100000 in
theorem gq_259_4 : gi_259_4.all (gqc 259) = true := by decide +kernel
theorem gqm_259 : ∀ l ∈ gi_259, l.all (gqc 259) = true := (List.forall_mem_cons.mpr ⟨gq_259_0, (List.forall_mem_cons.mpr ⟨gq_259_1, (List.forall_mem_cons.mpr ⟨gq_259_2, (List.forall_mem_cons.mpr ⟨gq_259_3, (List.forall_mem_cons.mpr ⟨gq_259_4, (fun _ h => absurd h List.not_mem_nil)⟩)⟩)⟩)⟩)⟩)
set_option maxRecDepth 100000 in
theorem gq_260_0 : gi_260_0.all (gqc 260) = true := by decide +kernel
set_option maxRecDepth 100000 in
theorem gq_260_1 : gi_260_1.all (gqc 260) = true := by decide +kernel
theorem gqm_260 : ∀ l ∈ gi_260, l.all (gqc 260) = true := (List.forall_mem_cons.mpr ⟨gq_260_0, (List.forall_mem_cons.mpr ⟨gq_260_1, (fun _ h => absurd h List.not_mem_nil)⟩)⟩)
set_option maxRecDepth 100000 in
theorem gq_261_0 : gi_261_0.all (gqc 261) = true := by decide +kernel
theorem gqm_261 : ∀ l ∈ gi_261, l.all (gqc 261) = true := (List.forall_mem_cons.mpr ⟨gq_261_0, (fun _ h => absurd h List.not_mem_nil)⟩)
set_option maxRecDepth 100000 in
theorem gq_262_0 : gi_262_0.all (gqc 262) = true := by decide +kernel
set_option maxRecDepth 100000 in
theorem gq_262_1 : gi_262_1.all (gqc 262) = true := by decide +kernel
theorem gqm_262 : ∀ l ∈ gi_262, l.all (gqc 262) = true := (List.forall_mem_cons.mpr ⟨gq_262_0, (List.forall_mem_cons.mpr ⟨gq_262_1, (fun _ h => absurd h List.not_mem_nil)⟩)⟩)
set_option maxRecDepth 100000 in
theorem gq_263_0 : gi_263_0.all (gqc 263) = true := by decide +kernel
set_option maxRecDepth 100000 in
theorem gq_263_1 : gi_263_1.all (gqc 263) = true := by decide +kernel
theorem gqm_263 : ∀ l ∈ gi_263, l.all (gqc 263) = true := (List.forall_mem_cons.mpr ⟨gq_263_0, (List.forall_mem_cons.mpr ⟨gq_263_1, (fun _ h => absurd h List.not_mem_nil)⟩)⟩)
set_option maxRecDepth 100000 in
theorem gq_264_0 : gi_264_0.all (gqc 264) = true := by decide +kernel
set_option maxRecDepth 100000 in
theorem gq_264_1 : gi_264_1.all (gqc 264) = true := by decide +kernel
set_option maxRecDepth 100000 in
theorem gq_264_2 : gi_264_2.all (gqc 264) = true := by decide +kernel
set_option maxRecDepth 100000 in
theorem gq_264_3 : gi_264_3.all (gqc 264) = true := by decide +kernel
set_option maxRecDepth 100000 in
theorem gq_264_4 : gi_264_4.all (gqc 264) = true := by decide +kernel
set_option maxRecDepth 100000 in
theorem gq_264_5 : gi_264_5.all (gqc 264) = true := by decide +kernel
theorem gqm_264 : ∀ l ∈ gi_264, l.all (gqc 264) = true := (List.forall_mem_cons.mpr ⟨gq_264_0, (List.forall_mem_cons.mpr ⟨gq_264_1, (List.forall_mem_cons.mpr ⟨gq_264_2, (List.forall_mem_cons.mpr ⟨gq_264_3, (List.forall_mem_cons.mpr ⟨gq_264_4, (List.forall_mem_cons.mpr ⟨gq_264_5, (fun _ h => absurd h List.not_mem_nil)⟩)⟩)⟩)⟩)⟩)⟩)
set_option maxRecDepth 100000 in
theorem gq_265_0 : gi_265_0.all (gqc 265) = true := by decide +kernel
set_option maxRecDepth 100000 in
theorem gq_265_1 : gi_265_1.all (gqc 265) = true := by decide +kernel
set_option maxRecDepth 100000 in
theorem gq_265_2 : gi_265_2.all (gqc 265) = true := by decide +kernel
set_option maxRecDepth 100000 in
theorem gq_265_3 : gi_265_3.all (gqc 265) = true := by decide +kernel
set_option maxRecDepth 100000 in
theorem gq_265_4 : gi_265_4.all (gqc 265) = true := by decide +kernel
theorem gqm_265 : ∀ l ∈ gi_265, l.all (gqc 265) = true := (List.forall_mem_cons.mpr ⟨gq_265_0, (List.forall_mem_cons.mpr ⟨gq_265_1, (List.forall_mem_cons.mpr ⟨gq_265_2, (List.forall_mem_cons.mpr ⟨gq_265_3, (List.forall_mem_cons.mpr ⟨gq_265_4, (fun _ h => absurd h List.not_mem_nil)⟩)⟩)⟩)⟩)⟩)
set_option maxRecDepth 100000 in
theorem gq_266_0 : gi_266_0.all (gqc 266) = true := by decide +kernel
set_option maxRecDepth 100000 in
theorem gq_266_1 : gi_266_1.all (gqc 266) = true := by decide +kernel
set_option maxRecDepth 100000 in
theorem gq_266_2 : gi_266_2.all (gqc 266) = true := by decide +kernel
set_option maxRecDepth 100000 in
theorem gq_266_3 : gi_266_3.all (gqc 266) = true := by decide +kernel
set_option maxRecDepth 100000 in
theorem gq_266_4 : gi_266_4.all (gqc 266) = true := by decide +kernel
theorem gqm_266 : ∀ l ∈ gi_266, l.all (gqc 266) = true := (List.forall_mem_cons.mpr ⟨gq_266_0, (List.forall_mem_cons.mpr ⟨gq_266_1, (List.forall_mem_cons.mpr ⟨gq_266_2, (List.forall_mem_cons.mpr ⟨gq_266_3, (List.forall_mem_cons.mpr ⟨gq_266_4, (fun _ h => absurd h List.not_mem_nil)⟩)⟩)⟩)⟩)⟩)
set_option maxRecDepth 100000 in
theorem gq_267_0 : gi_267_0.all (gqc 267) = true := by decide +kernel
set_option maxRecDepth 100000 in
theorem gq_267_1 : gi_267_1.all (gqc 267) = true := by decide +kernel
set_option maxRecDepth 100000 in
theorem gq_267_2 : gi_267_2.all (gqc 267) = true := by decide +kernel
set_option maxRecDepth 100000 in
theorem gq_267_3 : gi_267_3.all (gqc 267) = true := by decide +kernel
theorem gqm_267 : ∀ l ∈ gi_267, l.all (gqc 267) = true := (List.forall_mem_cons.mpr ⟨gq_267_0, (List.forall_mem_cons.mpr ⟨gq_267_1, (List.forall_mem_cons.mpr ⟨gq_267_2, (List.forall_mem_cons.mpr ⟨gq_267_3, (fun _ h => absurd h List.not_mem_nil)⟩)⟩)⟩)⟩)
set_option maxRecDepth 100000 in
theorem gq_268_0 : gi_268_0.all (gqc 268) = true := by decide +kernel
set_option maxRecDepth 100000 in
theorem gq_268_1 : gi_268_1.all (gqc 268) = true := by decide +kernel
set_option maxRecDepth 100000 in
theorem gq_268_2 : gi_268_2.all (gqc 268) = true := by decide +kernel
set_option maxRecDepth 100000 in
theorem gq_268_3 : gi_268_3.all (gqc 268) = true := by decide +kernel
theorem gqm_268 : ∀ l ∈ gi_268, l.all (gqc 268) = true := (List.forall_mem_cons.mpr ⟨gq_268_0, (List.forall_mem_cons.mpr ⟨gq_268_1, (List.forall_mem_cons.mpr ⟨gq_268_2, (List.forall_mem_cons.mpr ⟨gq_268_3, (fun _ h => absurd h List.not_mem_nil)⟩)⟩)⟩)⟩)
set_option maxRecDepth 100000 in
theorem gq_269_0 : gi_269_0.all (gqc 269) = true := by decide +kernel
set_option maxRecDepth 100000 in
theorem gq_269_1 : gi_269_1.all (gqc 269) = true := by decide +kernel
theorem gqm_269 : ∀ l ∈ gi_269, l.all (gqc 269) = true := (List.forall_mem_cons.mpr ⟨gq_269_0, (List.forall_mem_cons.mpr ⟨gq_269_1, (fun _ h => absurd h List.not_mem_nil)⟩)⟩)
set_option maxRecDepth 100000 in
theorem gq_270_0 : gi_270_0.all (gqc 270) = true := by decide +kernel
set_option maxRecDepth 100000 in
theorem gq_270_1 : gi_270_1.all (gqc 270) = true := by decide +kernel
theorem gqm_270 : ∀ l ∈ gi_270, l.all (gqc 270) = true := (List.forall_mem_cons.mpr ⟨gq_270_0, (List.forall_mem_cons.mpr ⟨gq_270_1, (fun _ h => absurd h List.not_mem_nil)⟩)⟩)
set_option maxRecDepth 100000 in
theorem gq_271_0 : gi_271_0.all (gqc 271) = true := by decide +kernel
set_option maxRecDepth 100000 in
theorem gq_271_1 : gi_271_1.all (gqc 271) = true := by decide +kernel
set_option maxRecDepth 100000 in
theorem gq_271_2 : gi_271_2.all (gqc 271) = true := by decide +kernel
set_option maxRecDepth 100000 in
theorem gq_271_3 : gi_271_3.all (gqc 271) = true := by decide +kernel
set_option maxRecDepth 100000 in
theorem gq_271_4 : gi_271_4.all (gqc 271) = true := by decide +kernel
theorem gqm_271 : ∀ l ∈ gi_271, l.all (gqc 271) = true := (List.forall_mem_cons.mpr ⟨gq_271_0, (List.forall_mem_cons.mpr ⟨gq_271_1, (List.forall_mem_cons.mpr ⟨gq_271_2, (List.forall_mem_cons.mpr ⟨gq_271_3, (List.forall_mem_cons.mpr ⟨gq_271_4, (fun _ h => absurd h List.not_mem_nil)⟩)⟩)⟩)⟩)⟩)
set_option maxRecDepth 100000 in
theorem gq_272_0 : gi_272_0.all (gqc 272) = true := by decide +kernel
set_option maxRecDepth 100000 in
theorem gq_272_1 : gi_272_1.all (gqc 272) = true := by decide +kernel
set_option maxRecDepth 100000 in
theorem gq_272_2 : gi_272_2.all (gqc 272) = true := by decide +kernel
set_option maxRecDepth 100000 in
theorem gq_272_3 : gi_272_3.all (gqc 272) = true := by decide +kernel
theorem gqm_272 : ∀ l ∈ gi_272, l.all (gqc 272) = true := (List.forall_mem_cons.mpr ⟨gq_272_0, (List.forall_mem_cons.mpr ⟨gq_272_1, (List.forall_mem_cons.mpr ⟨gq_272_2, (List.forall_mem_cons.mpr ⟨gq_272_3, (fun _ h => absurd h List.not_mem_nil)⟩)⟩)⟩)⟩)
set_option maxRecDepth 100000 in
theorem gq_273_0 : gi_273_0.all (gqc 273) = true := by decide +kernel
theorem gqm_273 : ∀ l ∈ gi_273, l.all (gqc 273) = true := (List.forall_mem_cons.mpr ⟨gq_273_0, (fun _ h => absurd h List.not_mem_nil)⟩)
set_option maxRecDepth 100000 in
theorem gq_274_0 : gi_274_0.all (gqc 274) = true := by decide +kernel
theorem gqm_274 : ∀ l ∈ gi_274, l.all (gqc 274) = true := (List.forall_mem_cons.mpr ⟨gq_274_0, (fun _ h => absurd h List.not_mem_nil)⟩)
set_option maxRecDepth 100000 in
theorem gq_275_0 : gi_275_0.all (gqc 275) = true := by decide +kernel
set_option maxRecDepth 100000 in
theorem gq_275_1 : gi_275_1.all (gqc 275) = true := by decide +kernel
set_option maxRecDepth 100000 in
theorem gq_275_2 : gi_275_2.all (gqc 275) = true := by decide +kernel
set_option maxRecDepth 100000 in
theorem gq_275_3 : gi_275_3.all (gqc 275) = true := by decide +kernel
set_option maxRecDepth 100000 in
theorem gq_275_4 : gi_275_4.all (gqc 275) = true := by decide +kernel
set_option maxRecDepth 100000 in
theorem gq_275_5 : gi_275_5.all (gqc 275) = true := by decide +kernel
set_option maxRecDepth 100000 in
theorem gq_275_6 : gi_275_6.all (gqc 275) = true := by decide +kernel
set_option maxRecDepth 100000 in
theorem gq_275_7 : gi_275_7.all (gqc 275) = true := by decide +kernel
set_option maxRecDepth 100000 in
theorem gq_275_8 : gi_275_8.all (gqc 275) = true := by decide +kernel
set_option maxRecDepth 100000 in
theorem gq_275_9 : gi_275_9.all (gqc 275) = true := by decide +kernel
theorem gqm_275 : ∀ l ∈ gi_275, l.all (gqc 275) = true := (List.forall_mem_cons.mpr ⟨gq_275_0, (List.forall_mem_cons.mpr ⟨gq_275_1, (List.forall_mem_cons.mpr ⟨gq_275_2, (List.forall_mem_cons.mpr ⟨gq_275_3, (List.forall_mem_cons.mpr ⟨gq_275_4, (List.forall_mem_cons.mpr ⟨gq_275_5, (List.forall_mem_cons.mpr ⟨gq_275_6, (List.forall_mem_cons.mpr ⟨gq_275_7, (List.forall_mem_cons.mpr ⟨gq_275_8, (List.forall_mem_cons.mpr ⟨gq_275_9, (fun _ h => absurd h List.not_mem_nil)⟩)⟩)⟩)⟩)⟩)⟩)⟩)⟩)⟩)⟩)
set_option maxRecDepth 100000 in
theorem gq_276_0 : gi_276_0.all (gqc 276) = true := by decide +kernel
set_option maxRecDepth 100000 in
theorem gq_276_1 : gi_276_1.all (gqc 276) = true := by decide +kernel
set_option maxRecDepth 100000 in
theorem gq_276_2 : gi_276_2.all (gqc 276) = true := by decide +kernel
set_option maxRecDepth 100000 in
theorem gq_276_3 : gi_276_3.all (gqc 276) = true := by decide +kernel
set_option maxRecDepth 100000 in
theorem gq_276_4 : gi_276_4.all (gqc 276) = true := by decide +kernel
set_option maxRecDepth 100000 in
theorem gq_276_5 : gi_276_5.all (gqc 276) = true := by decide +kernel
set_option maxRecDepth 100000 in
theorem gq_276_6 : gi_276_6.all (gqc 276) = true := by decide +kernel
set_option maxRecDepth 100000 in
theorem gq_276_7 : gi_276_7.all (gqc 276) = true := by decide +kernel
set_option maxRecDepth 100000 in
theorem gq_276_8 : gi_276_8.all (gqc 276) = true := by decide +kernel
set_option maxRecDepth 100000 in
theorem gq_276_9 : gi_276_9.all (gqc 276) = true := by decide +kernel
theorem gqm_276 : ∀ l ∈ gi_276, l.all (gqc 276) = true := (List.forall_mem_cons.mpr ⟨gq_276_0, (List.forall_mem_cons.mpr ⟨gq_276_1, (List.forall_mem_cons.mpr ⟨gq_276_2, (List.forall_mem_cons.mpr ⟨gq_276_3, (List.forall_mem_cons.mpr ⟨gq_276_4, (List.forall_mem_cons.mpr ⟨gq_276_5, (List.forall_mem_cons.mpr ⟨gq_276_6, (List.forall_mem_cons.mpr ⟨gq_276_7, (List.forall_mem_cons.mpr ⟨gq_276_8, (List.forall_mem_cons.mpr ⟨gq_276_9, (fun _ h => absurd h List.not_mem_nil)⟩)⟩)⟩)⟩)⟩)⟩)⟩)⟩)⟩)⟩)
