theorem gchkM_ok (y : Nat) (h : y < 277) : gchkM y = true := by
  refine List.all_eq_true.mpr ?_
  have e : y = 16 * (y / 16) + y % 16 := by omega
  have hj : y % 16 < 16 := Nat.mod_lt _ (by decide)
  have hb : y / 16 < 18 := by omega
  generalize y / 16 = b at e hb
  generalize y % 16 = j at e hj
  match b, hb, j, hj with
  | 0, _, 0, _ => subst e; exact gqm_0
  | 0, _, 1, _ => subst e; exact gqm_1
  | 0, _, 2, _ => subst e; exact gqm_2
  | 0, _, 3, _ => subst e; exact gqm_3
  | 0, _, 4, _ => subst e; exact gqm_4
  | 0, _, 5, _ => subst e; exact gqm_5
  | 0, _, 6, _ => subst e; exact gqm_6
  | 0, _, 7, _ => subst e; exact gqm_7
  | 0, _, 8, _ => subst e; exact gqm_8
  | 0, _, 9, _ => subst e; exact gqm_9
  | 0, _, 10, _ => subst e; exact gqm_10
  | 0, _, 11, _ => subst e; exact gqm_11
  | 0, _, 12, _ => subst e; exact gqm_12
  | 0, _, 13, _ => subst e; exact gqm_13
  | 0, _, 14, _ => subst e; exact gqm_14
  | 0, _, 15, _ => subst e; exact gqm_15
  | 1, _, 0, _ => subst e; exact gqm_16
  | 1, _, 1, _ => subst e; exact gqm_17
  | 1, _, 2, _ => subst e; exact gqm_18
  | 1, _, 3, _ => subst e; exact gqm_19
  | 1, _, 4, _ => subst e; exact gqm_20
  | 1, _, 5, _ => subst e; exact gqm_21
  | 1, _, 6, _ => subst e; exact gqm_22
  | 1, _, 7, _ => subst e; exact gqm_23
  | 1, _, 8, _ => subst e; exact gqm_24
  | 1, _, 9, _ => subst e; exact gqm_25
  | 1, _, 10, _ => subst e; exact gqm_26
  | 1, _, 11, _ => subst e; exact gqm_27
  | 1, _, 12, _ => subst e; exact gqm_28
  | 1, _, 13, _ => subst e; exact gqm_29
  | 1, _, 14, _ => subst e; exact gqm_30
  | 1, _, 15, _ => subst e; exact gqm_31
  | 2, _, 0, _ => subst e; exact gqm_32
  | 2, _, 1, _ => subst e; exact gqm_33
  | 2, _, 2, _ => subst e; exact gqm_34
  | 2, _, 3, _ => subst e; exact gqm_35
  | 2, _, 4, _ => subst e; exact gqm_36
  | 2, _, 5, _ => subst e; exact gqm_37
  | 2, _, 6, _ => subst e; exact gqm_38
  | 2, _, 7, _ => subst e; exact gqm_39
  | 2, _, 8, _ => subst e; exact gqm_40
  | 2, _, 9, _ => subst e; exact gqm_41
  | 2, _, 10, _ => subst e; exact gqm_42
  | 2, _, 11, _ => subst e; exact gqm_43
  | 2, _, 12, _ => subst e; exact gqm_44
  | 2, _, 13, _ => subst e; exact gqm_45
  | 2, _, 14, _ => subst e; exact gqm_46
  | 2, _, 15, _ => subst e; exact gqm_47
  | 3, _, 0, _ => subst e; exact gqm_48
  | 3, _, 1, _ => subst e; exact gqm_49
  | 3, _, 2, _ => subst e; exact gqm_50
  | 3, _, 3, _ => subst e; exact gqm_51
  | 3, _, 4, _ => subst e; exact gqm_52
  | 3, _, 5, _ => subst e; exact gqm_53
  | 3, _, 6, _ => subst e; exact gqm_54
  | 3, _, 7, _ => subst e; exact gqm_55
  | 3, _, 8, _ => subst e; exact gqm_56
  | 3, _, 9, _ => subst e; exact gqm_57
  | 3, _, 10, _ => subst e; exact gqm_58
  | 3, _, 11, _ => subst e; exact gqm_59
  | 3, _, 12, _ => subst e; exact gqm_60
  | 3, _, 13, _ => subst e; exact gqm_61
  | 3, _, 14, _ => subst e; exact gqm_62
  | 3, _, 15, _ => subst e; exact gqm_63
  | 4, _, 0, _ => subst e; exact gqm_64
  | 4, _, 1, _ => subst e; exact gqm_65
  | 4, _, 2, _ => subst e; exact gqm_66
  | 4, _, 3, _ => subst e; exact gqm_67
  | 4, _, 4, _ => subst e; exact gqm_68
  | 4, _, 5, _ => subst e; exact gqm_69
  | 4, _, 6, _ => subst e; exact gqm_70
  | 4, _, 7, _ => subst e; exact gqm_71
  | 4, _, 8, _ => subst e; exact gqm_72
  | 4, _, 9, _ => subst e; exact gqm_73
  | 4, _, 10, _ => subst e; exact gqm_74
  | 4, _, 11, _ => subst e; exact gqm_75
  | 4, _, 12, _ => subst e; exact gqm_76
  | 4, _, 13, _ => subst e; exact gqm_77
  | 4, _, 14, _ => subst e; exact gqm_78
  | 4, _, 15, _ => subst e; exact gqm_79
  | 5, _, 0, _ => subst e; exact gqm_80
  | 5, _, 1, _ => subst e; exact gqm_81
  | 5, _, 2, _ => subst e; exact gqm_82
  | 5, _, 3, _ => subst e; exact gqm_83
  | 5, _, 4, _ => subst e; exact gqm_84
  | 5, _, 5, _ => subst e; exact gqm_85
  | 5, _, 6, _ => subst e; exact gqm_86
  | 5, _, 7, _ => subst e; exact gqm_87
  | 5, _, 8, _ => subst e; exact gqm_88
  | 5, _, 9, _ => subst e; exact gqm_89
  | 5, _, 10, _ => subst e; exact gqm_90
  | 5, _, 11, _ => subst e; exact gqm_91
  | 5, _, 12, _ => subst e; exact gqm_92
  | 5, _, 13, _ => subst e; exact gqm_93
  | 5, _, 14, _ => subst e; exact gqm_94
  | 5, _, 15, _ => subst e; exact gqm_95
  | 6, _, 0, _ => subst e; exact gqm_96
  | 6, _, 1, _ => subst e; exact gqm_97
  | 6, _, 2, _ => subst e; exact gqm_98
  | 6, _, 3, _ => subst e; exact gqm_99
  | 6, _, 4, _ => subst e; exact gqm_100
  | 6, _, 5, _ => subst e; exact gqm_101
  | 6, _, 6, _ => subst e; exact gqm_102
  | 6, _, 7, _ => subst e; exact gqm_103
  | 6, _, 8, _ => subst e; exact gqm_104
  | 6, _, 9, _ => subst e; exact gqm_105
  | 6, _, 10, _ => subst e; exact gqm_106
  | 6, _, 11, _ => subst e; exact gqm_107
  | 6, _, 12, _ => subst e; exact gqm_108
  | 6, _, 13, _ => subst e; exact gqm_109
  | 6, _, 14, _ => subst e; exact gqm_110
  | 6, _, 15, _ => subst e; exact gqm_111
  | 7, _, 0, _ => subst e; exact gqm_112
  | 7, _, 1, _ => subst e; exact gqm_113
  | 7, _, 2, _ => subst e; exact gqm_114
  | 7, _, 3, _ => subst e; exact gqm_115
  | 7, _, 4, _ => subst e; exact gqm_116
  | 7, _, 5, _ => subst e; exact gqm_117
  | 7, _, 6, _ => subst e; exact gqm_118
  | 7, _, 7, _ => subst e; exact gqm_119
  | 7, _, 8, _ => subst e; exact gqm_120
  | 7, _, 9, _ => subst e; exact gqm_121
  | 7, _, 10, _ => subst e; exact gqm_122
  | 7, _, 11, _ => subst e; exact gqm_123
  | 7, _, 12, _ => subst e; exact gqm_124
  | 7, _, 13, _ => subst e; exact gqm_125
  | 7, _, 14, _ => subst e; exact gqm_126
  | 7, _, 15, _ => subst e; exact gqm_127
  | 8, _, 0, _ => subst e; exact gqm_128
  | 8, _, 1, _ => subst e; exact gqm_129
  | 8, _, 2, _ => subst e; exact gqm_130
  | 8, _, 3, _ => subst e; exact gqm_131
  | 8, _, 4, _ => subst e; exact gqm_132
  | 8, _, 5, _ => subst e; exact gqm_133
  | 8, _, 6, _ => subst e; exact gqm_134
  | 8, _, 7, _ => subst e; exact gqm_135
  | 8, _, 8, _ => subst e; exact gqm_136
  | 8, _, 9, _ => subst e; exact gqm_137
  | 8, _, 10, _ => subst e; exact gqm_138
  | 8, _, 11, _ => subst e; exact gqm_139
  | 8, _, 12, _ => subst e; exact gqm_140
  | 8, _, 13, _ => subst e; exact gqm_141
  | 8, _, 14, _ => subst e; exact gqm_142
  | 8, _, 15, _ => subst e; exact gqm_143
  | 9, _, 0, _ => subst e; exact gqm_144
  | 9, _, 1, _ => subst e; exact gqm_145
  | 9, _, 2, _ => subst e; exact gqm_146
  | 9, _, 3, _ => subst e; exact gqm_147
  | 9, _, 4, _ => subst e; exact gqm_148
  | 9, _, 5, _ => subst e; exact gqm_149
  | 9, _, 6, _ => subst e; exact gqm_150
  | 9, _, 7, _ => subst e; exact gqm_151
  | 9, _, 8, _ => subst e; exact gqm_152
  | 9, _, 9, _ => subst e; exact gqm_153
  | 9, _, 10, _ => subst e; exact gqm_154
  | 9, _, 11, _ => subst e; exact gqm_155
  | 9, _, 12, _ => subst e; exact gqm_156
  | 9, _, 13, _ => subst e; exact gqm_157
  | 9, _, 14, _ => subst e; exact gqm_158
  | 9, _, 15, _ => subst e; exact gqm_159
  | 10, _, 0, _ => subst e; exact gqm_160
  | 10, _, 1, _ => subst e; exact gqm_161
  | 10, _, 2, _ => subst e; exact gqm_162
  | 10, _, 3, _ => subst e; exact gqm_163
  | 10, _, 4, _ => subst e; exact gqm_164
  | 10, _, 5, _ => subst e; exact gqm_165
  | 10, _, 6, _ => subst e; exact gqm_166
  | 10, _, 7, _ => subst e; exact gqm_167
  | 10, _, 8, _ => subst e; exact gqm_168
  | 10, _, 9, _ => subst e; exact gqm_169
  | 10, _, 10, _ => subst e; exact gqm_170
  | 10, _, 11, _ => subst e; exact gqm_171
  | 10, _, 12, _ => subst e; exact gqm_172
  | 10, _, 13, _ => subst e; exact gqm_173
  | 10, _, 14, _ => subst e; exact gqm_174
  | 10, _, 15, _ => subst e; exact gqm_175
  | 11, _, 0, _ => subst e; exact gqm_176
  | 11, _, 1, _ => subst e; exact gqm_177
  | 11, _, 2, _ => subst e; exact gqm_178
  | 11, _, 3, _ => subst e; exact gqm_179
  | 11, _, 4, _ => subst e; exact gqm_180
  | 11, _, 5, _ => subst e; exact gqm_181
  | 11, _, 6, _ => subst e; exact gqm_182
  | 11, _, 7, _ => subst e; exact gqm_183
  | 11, _, 8, _ => subst e; exact gqm_184
  | 11, _, 9, _ => subst e; exact gqm_185
  | 11, _, 10, _ => subst e; exact gqm_186
  | 11, _, 11, _ => subst e; exact gqm_187
  | 11, _, 12, _ => subst e; exact gqm_188
  | 11, _, 13, _ => subst e; exact gqm_189
  | 11, _, 14, _ => subst e; exact gqm_190
  | 11, _, 15, _ => subst e; exact gqm_191
  | 12, _, 0, _ => subst e; exact gqm_192
  | 12, _, 1, _ => subst e; exact gqm_193
  | 12, _, 2, _ => subst e; exact gqm_194
  | 12, _, 3, _ => subst e; exact gqm_195
  | 12, _, 4, _ => subst e; exact gqm_196
  | 12, _, 5, _ => subst e; exact gqm_197
  | 12, _, 6, _ => subst e; exact gqm_198
  | 12, _, 7, _ => subst e; exact gqm_199
  | 12, _, 8, _ => subst e; exact gqm_200
  | 12, _, 9, _ => subst e; exact gqm_201
  | 12, _, 10, _ => subst e; exact gqm_202
  | 12, _, 11, _ => subst e; exact gqm_203
  | 12, _, 12, _ => subst e; exact gqm_204
  | 12, _, 13, _ => subst e; exact gqm_205
  | 12, _, 14, _ => subst e; exact gqm_206
  | 12, _, 15, _ => subst e; exact gqm_207
  | 13, _, 0, _ => subst e; exact gqm_208
  | 13, _, 1, _ => subst e; exact gqm_209
  | 13, _, 2, _ => subst e; exact gqm_210
  | 13, _, 3, _ => subst e; exact gqm_211
  | 13, _, 4, _ => subst e; exact gqm_212
  | 13, _, 5, _ => subst e; exact gqm_213
  | 13, _, 6, _ => subst e; exact gqm_214
  | 13, _, 7, _ => subst e; exact gqm_215
  | 13, _, 8, _ => subst e; exact gqm_216
  | 13, _, 9, _ => subst e; exact gqm_217
  | 13, _, 10, _ => subst e; exact gqm_218
  | 13, _, 11, _ => subst e; exact gqm_219
  | 13, _, 12, _ => subst e; exact gqm_220
  | 13, _, 13, _ => subst e; exact gqm_221
  | 13, _, 14, _ => subst e; exact gqm_222
  | 13, _, 15, _ => subst e; exact gqm_223
  | 14, _, 0, _ => subst e; exact gqm_224
  | 14, _, 1, _ => subst e; exact gqm_225
  | 14, _, 2, _ => subst e; exact gqm_226
  | 14, _, 3, _ => subst e; exact gqm_227
  | 14, _, 4, _ => subst e; exact gqm_228
  | 14, _, 5, _ => subst e; exact gqm_229
  | 14, _, 6, _ => subst e; exact gqm_230
  | 14, _, 7, _ => subst e; exact gqm_231
  | 14, _, 8, _ => subst e; exact gqm_232
  | 14, _, 9, _ => subst e; exact gqm_233
  | 14, _, 10, _ => subst e; exact gqm_234
  | 14, _, 11, _ => subst e; exact gqm_235
  | 14, _, 12, _ => subst e; exact gqm_236
  | 14, _, 13, _ => subst e; exact gqm_237
  | 14, _, 14, _ => subst e; exact gqm_238
  | 14, _, 15, _ => subst e; exact gqm_239
  | 15, _, 0, _ => subst e; exact gqm_240
  | 15, _, 1, _ => subst e; exact gqm_241
  | 15, _, 2, _ => subst e; exact gqm_242
  | 15, _, 3, _ => subst e; exact gqm_243
  | 15, _, 4, _ => subst e; exact gqm_244
  | 15, _, 5, _ => subst e; exact gqm_245
  | 15, _, 6, _ => subst e; exact gqm_246
  | 15, _, 7, _ => subst e; exact gqm_247
  | 15, _, 8, _ => subst e; exact gqm_248
  | 15, _, 9, _ => subst e; exact gqm_249
  | 15, _, 10, _ => subst e; exact gqm_250
  | 15, _, 11, _ => subst e; exact gqm_251
  | 15, _, 12, _ => subst e; exact gqm_252
  | 15, _, 13, _ => subst e; exact gqm_253
  | 15, _, 14, _ => subst e; exact gqm_254
  | 15, _, 15, _ => subst e; exact gqm_255
  | 16, _, 0, _ => subst e; exact gqm_256
  | 16, _, 1, _ => subst e; exact gqm_257
  | 16, _, 2, _ => subst e; exact gqm_258
  | 16, _, 3, _ => subst e; exact gqm_259
  | 16, _, 4, _ => subst e; exact gqm_260
  | 16, _, 5, _ => subst e; exact gqm_261
  | 16, _, 6, _ => subst e; exact gqm_262
  | 16, _, 7, _ => subst e; exact gqm_263
  | 16, _, 8, _ => subst e; exact gqm_264
  | 16, _, 9, _ => subst e; exact gqm_265
  | 16, _, 10, _ => subst e; exact gqm_266
  | 16, _, 11, _ => subst e; exact gqm_267
  | 16, _, 12, _ => subst e; exact gqm_268
  | 16, _, 13, _ => subst e; exact gqm_269
  | 16, _, 14, _ => subst e; exact gqm_270
  | 16, _, 15, _ => subst e; exact gqm_271
  | 17, _, 0, _ => subst e; exact gqm_272
  | 17, _, 1, _ => subst e; exact gqm_273
  | 17, _, 2, _ => subst e; exact gqm_274
  | 17, _, 3, _ => subst e; exact gqm_275
  | 17, _, 4, _ => subst e; exact gqm_276
  | 17, _, 5, _ => exact absurd h (by omega)
  | 17, _, 6, _ => exact absurd h (by omega)
  | 17, _, 7, _ => exact absurd h (by omega)
  | 17, _, 8, _ => exact absurd h (by omega)
  | 17, _, 9, _ => exact absurd h (by omega)
  | 17, _, 10, _ => exact absurd h (by omega)
  | 17, _, 11, _ => exact absurd h (by omega)
  | 17, _, 12, _ => exact absurd h (by omega)
  | 17, _, 13, _ => exact absurd h (by omega)
  | 17, _, 14, _ => exact absurd h (by omega)
  | 17, _, 15, _ => exact absurd h (by omega)
  | b + 18, h, _, _ => exact absurd h (by omega)
  | _, _, j + 16, h => exact absurd h (by omega)
theorem gfind_mem : ∀ (l : List (Nat × gI)) (i : Nat) (q : gI), gfind l i = some q → (i, q) ∈ l
  | [], _, _, h => by cases h
  | z :: l, i, q, h => by
    unfold gfind at h
    cases hb : Nat.beq z.1 i with
    | true =>
      rw [hb] at h
      have e := Nat.eq_of_beq_eq_true hb
      cases h
      rw [← e]
      exact List.mem_cons_self
    | false =>
      rw [hb] at h
      exact List.mem_cons_of_mem _ (gfind_mem l i q h)
theorem g_tabs_none (y : Nat) (h : 277 ≤ y) (pc : Nat) : g_ins y pc = none := by
  have e : g_tabs y = [] := by
    unfold g_tabs
    by_cases h1 : y / 16 = 17
    · rw [h1]
      have h2 : 5 ≤ y % 16 := by omega
      rw [List.getD_eq_getElem?_getD, List.getElem?_eq_none (show (g_all.getD 17 []).length ≤ y % 16 from h2)]
      rfl
    · rw [List.getD_eq_getElem?_getD (l := g_all), List.getElem?_eq_none (show g_all.length ≤ y / 16 by show 18 ≤ y / 16; omega)]
      rfl
  unfold g_ins
  rw [e]
  rfl
/-- an instruction of the tables is the code's, and what it links is as they say -/
theorem g_ins_ok {y pc : Nat} {q : gI} (h : g_ins y pc = some q) : decode (g_code y) pc = .ok (q.1, q.2.1) ∧ gchk y pc q = true ∧ y < 277 := by
  by_cases hy : y < 277
  · have hc := gchkM_ok y hy
    unfold g_ins at h
    have hm := gfind_mem _ _ _ h
    have hb : (g_tabs y).getD (pc / 32) [] ∈ g_tabs y := by
      by_cases hl : pc / 32 < (g_tabs y).length
      · rw [List.getD_eq_getElem?_getD, List.getElem?_eq_getElem hl]
        exact List.getElem_mem hl
      · rw [List.getD_eq_getElem?_getD, List.getElem?_eq_none (Nat.le_of_not_lt hl)] at hm
        cases hm
    have h1 := List.all_eq_true.mp (List.all_eq_true.mp hc _ hb) _ hm
    simp only [gqc, Bool.and_eq_true, decide_eq_true_eq] at h1
    exact ⟨h1.1, h1.2, hy⟩
  · rw [g_tabs_none y (by omega)] at h
    cases h
