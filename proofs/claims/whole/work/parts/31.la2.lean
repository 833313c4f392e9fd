theorem n_La_law_0 : SiteN k_La_law 0 7 [.null, .null, .null, .null, .null, .null, .null] := ⟨8, 7, R_Pm, F_Pm, t_Pm, t_Pm_ok, by decide +kernel, tx1 19 rfl rfl, tx1 20 rfl rfl, tx1 1 rfl rfl, i_Pm, rfl, rfl⟩
theorem d_La_law_3 : decode k_La_law.code 3 = .ok (.dup, 1) := by decide +kernel
theorem d_La_law_4 : decode k_La_law.code 4 = .ok (.aload_n 0, 1) := by decide +kernel
theorem d_La_law_5 : decode k_La_law.code 5 = .ok (.iconst 0, 1) := by decide +kernel
theorem s_La_law_6 : SiteS k_La_law k_La_cell 6 2 := ⟨77, by decide +kernel, ⟨kw_La_cell, tx1 0 rfl rfl, by decide, by decide⟩, Or.inl (tx2 27 rfl rfl), tx2 28 rfl rfl, ⟨by decide +kernel, by decide +kernel⟩, np_La_cell⟩
theorem d_La_law_9 : decode k_La_law.code 9 = .ok (.aload_n 0, 1) := by decide +kernel
theorem d_La_law_10 : decode k_La_law.code 10 = .ok (.iconst 1, 1) := by decide +kernel
theorem s_La_law_11 : SiteS k_La_law k_La_cell 11 2 := ⟨77, by decide +kernel, ⟨kw_La_cell, tx1 0 rfl rfl, by decide, by decide⟩, Or.inl (tx2 27 rfl rfl), tx2 28 rfl rfl, ⟨by decide +kernel, by decide +kernel⟩, np_La_cell⟩
theorem d_La_law_14 : decode k_La_law.code 14 = .ok (.aload_n 0, 1) := by decide +kernel
theorem d_La_law_15 : decode k_La_law.code 15 = .ok (.iconst 2, 1) := by decide +kernel
theorem s_La_law_16 : SiteS k_La_law k_La_cell 16 2 := ⟨77, by decide +kernel, ⟨kw_La_cell, tx1 0 rfl rfl, by decide, by decide⟩, Or.inl (tx2 27 rfl rfl), tx2 28 rfl rfl, ⟨by decide +kernel, by decide +kernel⟩, np_La_cell⟩
theorem s_La_law_19 : SiteI k_La_law k_Pm_init 19 3 := ⟨83, by decide +kernel, ⟨kw_Pm_init, tx1 1 rfl rfl, by decide, by decide⟩, rfl, rfl, rfl, Or.inl (tx1 21 rfl rfl), tx1 22 rfl rfl, ⟨by decide +kernel, by decide +kernel⟩, np_Pm_init⟩
theorem d_La_law_22 : decode k_La_law.code 22 = .ok (.astore_n 1, 1) := by decide +kernel
theorem n_La_law_23 : SiteN k_La_law 23 8 [.int 0, .int 0, .int 0, .int 0, .null, .int 0, .null, .int 0, .null, .null, .null, .null, .null, .null, .null, .int 0, .int 0, .int 0, .int 0, .null, .null, .null, .int 0, .null, .null, .null, .null, .null] := ⟨86, 28, R_Mo, F_Mo, t_Mo, t_Mo_ok, by decide +kernel, tx4 38 rfl rfl, tx4 39 rfl rfl, tx1 10 rfl rfl, i_Mo, rfl, rfl⟩
theorem d_La_law_26 : decode k_La_law.code 26 = .ok (.dup, 1) := by decide +kernel
theorem d_La_law_27 : decode k_La_law.code 27 = .ok (.aload_n 0, 1) := by decide +kernel
theorem d_La_law_28 : decode k_La_law.code 28 = .ok (.iconst 0, 1) := by decide +kernel
theorem s_La_law_29 : SiteS k_La_law k_La_cell 29 2 := ⟨77, by decide +kernel, ⟨kw_La_cell, tx1 0 rfl rfl, by decide, by decide⟩, Or.inl (tx2 27 rfl rfl), tx2 28 rfl rfl, ⟨by decide +kernel, by decide +kernel⟩, np_La_cell⟩
theorem d_La_law_32 : decode k_La_law.code 32 = .ok (.aload_n 0, 1) := by decide +kernel
theorem d_La_law_33 : decode k_La_law.code 33 = .ok (.iconst 1, 1) := by decide +kernel
theorem s_La_law_34 : SiteS k_La_law k_La_cell 34 2 := ⟨77, by decide +kernel, ⟨kw_La_cell, tx1 0 rfl rfl, by decide, by decide⟩, Or.inl (tx2 27 rfl rfl), tx2 28 rfl rfl, ⟨by decide +kernel, by decide +kernel⟩, np_La_cell⟩
theorem d_La_law_37 : decode k_La_law.code 37 = .ok (.aload_n 0, 1) := by decide +kernel
theorem d_La_law_38 : decode k_La_law.code 38 = .ok (.iconst 2, 1) := by decide +kernel
theorem s_La_law_39 : SiteS k_La_law k_La_cell 39 2 := ⟨77, by decide +kernel, ⟨kw_La_cell, tx1 0 rfl rfl, by decide, by decide⟩, Or.inl (tx2 27 rfl rfl), tx2 28 rfl rfl, ⟨by decide +kernel, by decide +kernel⟩, np_La_cell⟩
theorem s_La_law_42 : SiteI k_La_law k_Mo_init 42 3 := ⟨88, by decide +kernel, ⟨kw_Mo_init, tx1 10 rfl rfl, by decide, by decide⟩, rfl, rfl, rfl, Or.inl (tx4 40 rfl rfl), tx4 41 rfl rfl, ⟨by decide +kernel, by decide +kernel⟩, np_Mo_init⟩
theorem d_La_law_45 : decode k_La_law.code 45 = .ok (.astore_n 2, 1) := by decide +kernel
theorem d_La_law_46 : decode k_La_law.code 46 = .ok (.iconst 1, 1) := by decide +kernel
theorem d_La_law_47 : decode k_La_law.code 47 = .ok (.newarray .long, 2) := by decide +kernel
theorem d_La_law_49 : decode k_La_law.code 49 = .ok (.astore_n 3, 1) := by decide +kernel
theorem d_La_law_50 : decode k_La_law.code 50 = .ok (.iconst 3, 1) := by decide +kernel
theorem d_La_law_51 : decode k_La_law.code 51 = .ok (.istore 4, 2) := by decide +kernel
theorem d_La_law_53 : decode k_La_law.code 53 = .ok (.iload 4, 2) := by decide +kernel
theorem d_La_law_55 : decode k_La_law.code 55 = .ok (.aload_n 0, 1) := by decide +kernel
theorem d_La_law_56 : decode k_La_law.code 56 = .ok (.arraylength, 1) := by decide +kernel
theorem d_La_law_57 : decode k_La_law.code 57 = .ok (.iconst 5, 1) := by decide +kernel
theorem d_La_law_58 : decode k_La_law.code 58 = .ok (.isub, 1) := by decide +kernel
theorem d_La_law_59 : decode k_La_law.code 59 = .ok (.if_icmp .gt 1385, 3) := by decide +kernel
theorem d_La_law_62 : decode k_La_law.code 62 = .ok (.aload_n 0, 1) := by decide +kernel
theorem d_La_law_63 : decode k_La_law.code 63 = .ok (.iload 4, 2) := by decide +kernel
theorem d_La_law_65 : decode k_La_law.code 65 = .ok (.iaload, 1) := by decide +kernel
theorem d_La_law_66 : decode k_La_law.code 66 = .ok (.bipush 31, 2) := by decide +kernel
theorem d_La_law_68 : decode k_La_law.code 68 = .ok (.iand, 1) := by decide +kernel
theorem d_La_law_69 : decode k_La_law.code 69 = .ok (.tableswitch 1369 0 18 #[91, 183, 275, 331, 375, 474, 566, 622, 713, 769, 783, 851, 919, 974, 1054, 1109, 1189, 1257, 1313], 91) := by decide +kernel
theorem d_La_law_160 : decode k_La_law.code 160 = .ok (.aload_n 1, 1) := by decide +kernel
theorem d_La_law_161 : decode k_La_law.code 161 = .ok (.aload_n 0, 1) := by decide +kernel
theorem d_La_law_162 : decode k_La_law.code 162 = .ok (.iload 4, 2) := by decide +kernel
theorem d_La_law_164 : decode k_La_law.code 164 = .ok (.iconst 1, 1) := by decide +kernel
theorem d_La_law_165 : decode k_La_law.code 165 = .ok (.iadd, 1) := by decide +kernel
theorem d_La_law_166 : decode k_La_law.code 166 = .ok (.iaload, 1) := by decide +kernel
theorem d_La_law_167 : decode k_La_law.code 167 = .ok (.aload_n 0, 1) := by decide +kernel
theorem d_La_law_168 : decode k_La_law.code 168 = .ok (.iload 4, 2) := by decide +kernel
theorem d_La_law_170 : decode k_La_law.code 170 = .ok (.iconst 2, 1) := by decide +kernel
theorem d_La_law_171 : decode k_La_law.code 171 = .ok (.iadd, 1) := by decide +kernel
theorem d_La_law_172 : decode k_La_law.code 172 = .ok (.iaload, 1) := by decide +kernel
theorem d_La_law_173 : decode k_La_law.code 173 = .ok (.aload_n 0, 1) := by decide +kernel
theorem d_La_law_174 : decode k_La_law.code 174 = .ok (.iload 4, 2) := by decide +kernel
theorem d_La_law_176 : decode k_La_law.code 176 = .ok (.iconst 3, 1) := by decide +kernel
theorem d_La_law_177 : decode k_La_law.code 177 = .ok (.iadd, 1) := by decide +kernel
theorem d_La_law_178 : decode k_La_law.code 178 = .ok (.iaload, 1) := by decide +kernel
theorem d_La_law_179 : decode k_La_law.code 179 = .ok (.aload_n 0, 1) := by decide +kernel
theorem d_La_law_180 : decode k_La_law.code 180 = .ok (.iload 4, 2) := by decide +kernel
theorem d_La_law_182 : decode k_La_law.code 182 = .ok (.iconst 4, 1) := by decide +kernel
theorem d_La_law_183 : decode k_La_law.code 183 = .ok (.iadd, 1) := by decide +kernel
theorem d_La_law_184 : decode k_La_law.code 184 = .ok (.iaload, 1) := by decide +kernel
theorem d_La_law_185 : decode k_La_law.code 185 = .ok (.aload_n 3, 1) := by decide +kernel
theorem s_La_law_186 : SiteS k_La_law k_La_pixel 186 6 := ⟨89, by decide +kernel, ⟨kw_La_pixel, tx1 0 rfl rfl, by decide, by decide⟩, Or.inl (tx2 30 rfl rfl), tx2 31 rfl rfl, ⟨by decide +kernel, by decide +kernel⟩, np_La_pixel⟩
theorem d_La_law_189 : decode k_La_law.code 189 = .ok (.istore 5, 2) := by decide +kernel
theorem d_La_law_191 : decode k_La_law.code 191 = .ok (.aload_n 2, 1) := by decide +kernel
theorem d_La_law_192 : decode k_La_law.code 192 = .ok (.aload_n 0, 1) := by decide +kernel
theorem d_La_law_193 : decode k_La_law.code 193 = .ok (.iload 4, 2) := by decide +kernel
theorem d_La_law_195 : decode k_La_law.code 195 = .ok (.iconst 1, 1) := by decide +kernel
theorem d_La_law_196 : decode k_La_law.code 196 = .ok (.iadd, 1) := by decide +kernel
theorem d_La_law_197 : decode k_La_law.code 197 = .ok (.iaload, 1) := by decide +kernel
theorem d_La_law_198 : decode k_La_law.code 198 = .ok (.aload_n 0, 1) := by decide +kernel
theorem d_La_law_199 : decode k_La_law.code 199 = .ok (.iload 4, 2) := by decide +kernel
theorem d_La_law_201 : decode k_La_law.code 201 = .ok (.iconst 2, 1) := by decide +kernel
theorem d_La_law_202 : decode k_La_law.code 202 = .ok (.iadd, 1) := by decide +kernel
theorem d_La_law_203 : decode k_La_law.code 203 = .ok (.iaload, 1) := by decide +kernel
theorem d_La_law_204 : decode k_La_law.code 204 = .ok (.aload_n 0, 1) := by decide +kernel
theorem d_La_law_205 : decode k_La_law.code 205 = .ok (.iload 4, 2) := by decide +kernel
theorem d_La_law_207 : decode k_La_law.code 207 = .ok (.iconst 3, 1) := by decide +kernel
theorem d_La_law_208 : decode k_La_law.code 208 = .ok (.iadd, 1) := by decide +kernel
theorem d_La_law_209 : decode k_La_law.code 209 = .ok (.iaload, 1) := by decide +kernel
theorem d_La_law_210 : decode k_La_law.code 210 = .ok (.aload_n 0, 1) := by decide +kernel
theorem d_La_law_211 : decode k_La_law.code 211 = .ok (.iload 4, 2) := by decide +kernel
theorem d_La_law_213 : decode k_La_law.code 213 = .ok (.iconst 4, 1) := by decide +kernel
theorem d_La_law_214 : decode k_La_law.code 214 = .ok (.iadd, 1) := by decide +kernel
theorem d_La_law_215 : decode k_La_law.code 215 = .ok (.iaload, 1) := by decide +kernel
theorem s_La_law_216 : SiteV k_La_law k_Mo_pixel 216 8 4 := ⟨92, (R_Mo, F_Mo, 28), by decide +kernel, ⟨kw_Mo_pixel, tx1 10 rfl rfl, by decide, by decide⟩, tx4 134 rfl rfl, tx4 135 rfl rfl, tx4 136 rfl rfl, rfl, ⟨by decide +kernel, by decide +kernel⟩, np_Mo_pixel⟩
theorem d_La_law_219 : decode k_La_law.code 219 = .ok (.istore 6, 2) := by decide +kernel
theorem d_La_law_221 : decode k_La_law.code 221 = .ok (.aload_n 2, 1) := by decide +kernel
theorem s_La_law_222 : SiteV k_La_law k_Mo_thrown 222 8 0 := ⟨93, (R_Mo, F_Mo, 28), by decide +kernel, ⟨kw_Mo_thrown, tx1 10 rfl rfl, by decide, by decide⟩, tx4 130 rfl rfl, tx4 131 rfl rfl, tx4 132 rfl rfl, rfl, ⟨by decide +kernel, by decide +kernel⟩, np_Mo_thrown⟩
theorem d_La_law_225 : decode k_La_law.code 225 = .ok (.iload 5, 2) := by decide +kernel
theorem d_La_law_227 : decode k_La_law.code 227 = .ok (.if_icmp .eq 5, 3) := by decide +kernel
theorem d_La_law_230 : decode k_La_law.code 230 = .ok (.iconst 0, 1) := by decide +kernel
theorem d_La_law_231 : decode k_La_law.code 231 = .ok (.ireturn, 1) := by decide +kernel
theorem d_La_law_232 : decode k_La_law.code 232 = .ok (.iload 5, 2) := by decide +kernel
theorem d_La_law_234 : decode k_La_law.code 234 = .ok (.ifCond .ne 15, 3) := by decide +kernel
theorem d_La_law_237 : decode k_La_law.code 237 = .ok (.aload_n 3, 1) := by decide +kernel
theorem d_La_law_238 : decode k_La_law.code 238 = .ok (.iconst 0, 1) := by decide +kernel
theorem d_La_law_239 : decode k_La_law.code 239 = .ok (.laload, 1) := by decide +kernel
theorem d_La_law_240 : decode k_La_law.code 240 = .ok (.iload 6, 2) := by decide +kernel
theorem d_La_law_242 : decode k_La_law.code 242 = .ok (.i2l, 1) := by decide +kernel
theorem d_La_law_243 : decode k_La_law.code 243 = .ok (.lcmp, 1) := by decide +kernel
theorem d_La_law_244 : decode k_La_law.code 244 = .ok (.ifCond .eq 5, 3) := by decide +kernel
theorem d_La_law_247 : decode k_La_law.code 247 = .ok (.iconst 0, 1) := by decide +kernel
theorem d_La_law_248 : decode k_La_law.code 248 = .ok (.ireturn, 1) := by decide +kernel
theorem d_La_law_249 : decode k_La_law.code 249 = .ok (.goto 1189, 3) := by decide +kernel
theorem d_La_law_252 : decode k_La_law.code 252 = .ok (.aload_n 1, 1) := by decide +kernel
theorem d_La_law_253 : decode k_La_law.code 253 = .ok (.aload_n 0, 1) := by decide +kernel
theorem d_La_law_254 : decode k_La_law.code 254 = .ok (.iload 4, 2) := by decide +kernel
theorem d_La_law_256 : decode k_La_law.code 256 = .ok (.iconst 1, 1) := by decide +kernel
theorem d_La_law_257 : decode k_La_law.code 257 = .ok (.iadd, 1) := by decide +kernel
theorem d_La_law_258 : decode k_La_law.code 258 = .ok (.iaload, 1) := by decide +kernel
theorem d_La_law_259 : decode k_La_law.code 259 = .ok (.aload_n 0, 1) := by decide +kernel
theorem d_La_law_260 : decode k_La_law.code 260 = .ok (.iload 4, 2) := by decide +kernel
theorem d_La_law_262 : decode k_La_law.code 262 = .ok (.iconst 2, 1) := by decide +kernel
theorem d_La_law_263 : decode k_La_law.code 263 = .ok (.iadd, 1) := by decide +kernel
theorem d_La_law_264 : decode k_La_law.code 264 = .ok (.iaload, 1) := by decide +kernel
theorem d_La_law_265 : decode k_La_law.code 265 = .ok (.aload_n 0, 1) := by decide +kernel
theorem d_La_law_266 : decode k_La_law.code 266 = .ok (.iload 4, 2) := by decide +kernel
theorem d_La_law_268 : decode k_La_law.code 268 = .ok (.iconst 3, 1) := by decide +kernel
theorem d_La_law_269 : decode k_La_law.code 269 = .ok (.iadd, 1) := by decide +kernel
theorem d_La_law_270 : decode k_La_law.code 270 = .ok (.iaload, 1) := by decide +kernel
theorem d_La_law_271 : decode k_La_law.code 271 = .ok (.aload_n 0, 1) := by decide +kernel
theorem d_La_law_272 : decode k_La_law.code 272 = .ok (.iload 4, 2) := by decide +kernel
theorem d_La_law_274 : decode k_La_law.code 274 = .ok (.iconst 4, 1) := by decide +kernel
theorem d_La_law_275 : decode k_La_law.code 275 = .ok (.iadd, 1) := by decide +kernel
theorem d_La_law_276 : decode k_La_law.code 276 = .ok (.iaload, 1) := by decide +kernel
theorem d_La_law_277 : decode k_La_law.code 277 = .ok (.aload_n 3, 1) := by decide +kernel
theorem s_La_law_278 : SiteS k_La_law k_La_match 278 6 := ⟨96, by decide +kernel, ⟨kw_La_match, tx1 0 rfl rfl, by decide, by decide⟩, Or.inl (tx2 148 rfl rfl), tx2 149 rfl rfl, ⟨by decide +kernel, by decide +kernel⟩, np_La_match⟩
theorem d_La_law_281 : decode k_La_law.code 281 = .ok (.istore 5, 2) := by decide +kernel
theorem d_La_law_283 : decode k_La_law.code 283 = .ok (.aload_n 2, 1) := by decide +kernel
theorem d_La_law_284 : decode k_La_law.code 284 = .ok (.aload_n 0, 1) := by decide +kernel
theorem d_La_law_285 : decode k_La_law.code 285 = .ok (.iload 4, 2) := by decide +kernel
theorem d_La_law_287 : decode k_La_law.code 287 = .ok (.iconst 1, 1) := by decide +kernel
theorem d_La_law_288 : decode k_La_law.code 288 = .ok (.iadd, 1) := by decide +kernel
theorem d_La_law_289 : decode k_La_law.code 289 = .ok (.iaload, 1) := by decide +kernel
theorem d_La_law_290 : decode k_La_law.code 290 = .ok (.aload_n 0, 1) := by decide +kernel
theorem d_La_law_291 : decode k_La_law.code 291 = .ok (.iload 4, 2) := by decide +kernel
theorem d_La_law_293 : decode k_La_law.code 293 = .ok (.iconst 2, 1) := by decide +kernel
theorem d_La_law_294 : decode k_La_law.code 294 = .ok (.iadd, 1) := by decide +kernel
theorem d_La_law_295 : decode k_La_law.code 295 = .ok (.iaload, 1) := by decide +kernel
theorem d_La_law_296 : decode k_La_law.code 296 = .ok (.aload_n 0, 1) := by decide +kernel
theorem d_La_law_297 : decode k_La_law.code 297 = .ok (.iload 4, 2) := by decide +kernel
theorem d_La_law_299 : decode k_La_law.code 299 = .ok (.iconst 3, 1) := by decide +kernel
theorem d_La_law_300 : decode k_La_law.code 300 = .ok (.iadd, 1) := by decide +kernel
theorem d_La_law_301 : decode k_La_law.code 301 = .ok (.iaload, 1) := by decide +kernel
theorem d_La_law_302 : decode k_La_law.code 302 = .ok (.aload_n 0, 1) := by decide +kernel
theorem d_La_law_303 : decode k_La_law.code 303 = .ok (.iload 4, 2) := by decide +kernel
theorem d_La_law_305 : decode k_La_law.code 305 = .ok (.iconst 4, 1) := by decide +kernel
theorem d_La_law_306 : decode k_La_law.code 306 = .ok (.iadd, 1) := by decide +kernel
theorem d_La_law_307 : decode k_La_law.code 307 = .ok (.iaload, 1) := by decide +kernel
theorem s_La_law_308 : SiteV k_La_law k_Mo_match 308 8 4 := ⟨98, (R_Mo, F_Mo, 28), by decide +kernel, ⟨kw_Mo_match, tx1 10 rfl rfl, by decide, by decide⟩, tx4 156 rfl rfl, tx4 157 rfl rfl, tx4 158 rfl rfl, rfl, ⟨by decide +kernel, by decide +kernel⟩, np_Mo_match⟩
theorem d_La_law_311 : decode k_La_law.code 311 = .ok (.istore 6, 2) := by decide +kernel
theorem d_La_law_313 : decode k_La_law.code 313 = .ok (.aload_n 2, 1) := by decide +kernel
theorem s_La_law_314 : SiteV k_La_law k_Mo_thrown 314 8 0 := ⟨93, (R_Mo, F_Mo, 28), by decide +kernel, ⟨kw_Mo_thrown, tx1 10 rfl rfl, by decide, by decide⟩, tx4 130 rfl rfl, tx4 131 rfl rfl, tx4 132 rfl rfl, rfl, ⟨by decide +kernel, by decide +kernel⟩, np_Mo_thrown⟩
theorem d_La_law_317 : decode k_La_law.code 317 = .ok (.iload 5, 2) := by decide +kernel
theorem d_La_law_319 : decode k_La_law.code 319 = .ok (.if_icmp .eq 5, 3) := by decide +kernel
theorem d_La_law_322 : decode k_La_law.code 322 = .ok (.iconst 0, 1) := by decide +kernel
theorem d_La_law_323 : decode k_La_law.code 323 = .ok (.ireturn, 1) := by decide +kernel
theorem d_La_law_324 : decode k_La_law.code 324 = .ok (.iload 5, 2) := by decide +kernel
theorem d_La_law_326 : decode k_La_law.code 326 = .ok (.ifCond .ne 15, 3) := by decide +kernel
theorem d_La_law_329 : decode k_La_law.code 329 = .ok (.aload_n 3, 1) := by decide +kernel
theorem d_La_law_330 : decode k_La_law.code 330 = .ok (.iconst 0, 1) := by decide +kernel
theorem d_La_law_331 : decode k_La_law.code 331 = .ok (.laload, 1) := by decide +kernel
theorem d_La_law_332 : decode k_La_law.code 332 = .ok (.iload 6, 2) := by decide +kernel
theorem d_La_law_334 : decode k_La_law.code 334 = .ok (.i2l, 1) := by decide +kernel
theorem d_La_law_335 : decode k_La_law.code 335 = .ok (.lcmp, 1) := by decide +kernel
theorem d_La_law_336 : decode k_La_law.code 336 = .ok (.ifCond .eq 5, 3) := by decide +kernel
theorem d_La_law_339 : decode k_La_law.code 339 = .ok (.iconst 0, 1) := by decide +kernel
theorem d_La_law_340 : decode k_La_law.code 340 = .ok (.ireturn, 1) := by decide +kernel
theorem d_La_law_341 : decode k_La_law.code 341 = .ok (.goto 1097, 3) := by decide +kernel
theorem d_La_law_344 : decode k_La_law.code 344 = .ok (.aload_n 1, 1) := by decide +kernel
theorem d_La_law_345 : decode k_La_law.code 345 = .ok (.aload_n 0, 1) := by decide +kernel
theorem d_La_law_346 : decode k_La_law.code 346 = .ok (.iload 4, 2) := by decide +kernel
theorem d_La_law_348 : decode k_La_law.code 348 = .ok (.iconst 1, 1) := by decide +kernel
theorem d_La_law_349 : decode k_La_law.code 349 = .ok (.iadd, 1) := by decide +kernel
theorem d_La_law_350 : decode k_La_law.code 350 = .ok (.iaload, 1) := by decide +kernel
theorem d_La_law_351 : decode k_La_law.code 351 = .ok (.aload_n 3, 1) := by decide +kernel
theorem s_La_law_352 : SiteS k_La_law k_La_found 352 3 := ⟨99, by decide +kernel, ⟨kw_La_found, tx1 0 rfl rfl, by decide, by decide⟩, Or.inl (tx2 181 rfl rfl), tx2 182 rfl rfl, ⟨by decide +kernel, by decide +kernel⟩, np_La_found⟩
theorem d_La_law_355 : decode k_La_law.code 355 = .ok (.istore 5, 2) := by decide +kernel
theorem d_La_law_357 : decode k_La_law.code 357 = .ok (.aload_n 2, 1) := by decide +kernel
theorem d_La_law_358 : decode k_La_law.code 358 = .ok (.aload_n 0, 1) := by decide +kernel
theorem d_La_law_359 : decode k_La_law.code 359 = .ok (.iload 4, 2) := by decide +kernel
theorem d_La_law_361 : decode k_La_law.code 361 = .ok (.iconst 1, 1) := by decide +kernel
theorem d_La_law_362 : decode k_La_law.code 362 = .ok (.iadd, 1) := by decide +kernel
theorem d_La_law_363 : decode k_La_law.code 363 = .ok (.iaload, 1) := by decide +kernel
theorem s_La_law_364 : SiteV k_La_law k_Mo_found 364 8 1 := ⟨102, (R_Mo, F_Mo, 28), by decide +kernel, ⟨kw_Mo_found, tx1 10 rfl rfl, by decide, by decide⟩, tx4 167 rfl rfl, tx4 168 rfl rfl, tx4 169 rfl rfl, rfl, ⟨by decide +kernel, by decide +kernel⟩, np_Mo_found⟩
theorem d_La_law_367 : decode k_La_law.code 367 = .ok (.istore 6, 2) := by decide +kernel
theorem d_La_law_369 : decode k_La_law.code 369 = .ok (.aload_n 2, 1) := by decide +kernel
theorem s_La_law_370 : SiteV k_La_law k_Mo_thrown 370 8 0 := ⟨93, (R_Mo, F_Mo, 28), by decide +kernel, ⟨kw_Mo_thrown, tx1 10 rfl rfl, by decide, by decide⟩, tx4 130 rfl rfl, tx4 131 rfl rfl, tx4 132 rfl rfl, rfl, ⟨by decide +kernel, by decide +kernel⟩, np_Mo_thrown⟩
theorem d_La_law_373 : decode k_La_law.code 373 = .ok (.iload 5, 2) := by decide +kernel
theorem d_La_law_375 : decode k_La_law.code 375 = .ok (.if_icmp .eq 5, 3) := by decide +kernel
theorem d_La_law_378 : decode k_La_law.code 378 = .ok (.iconst 0, 1) := by decide +kernel
theorem d_La_law_379 : decode k_La_law.code 379 = .ok (.ireturn, 1) := by decide +kernel
theorem d_La_law_380 : decode k_La_law.code 380 = .ok (.iload 5, 2) := by decide +kernel
theorem d_La_law_382 : decode k_La_law.code 382 = .ok (.ifCond .ne 15, 3) := by decide +kernel
theorem d_La_law_385 : decode k_La_law.code 385 = .ok (.aload_n 3, 1) := by decide +kernel
theorem d_La_law_386 : decode k_La_law.code 386 = .ok (.iconst 0, 1) := by decide +kernel
theorem d_La_law_387 : decode k_La_law.code 387 = .ok (.laload, 1) := by decide +kernel
theorem d_La_law_388 : decode k_La_law.code 388 = .ok (.iload 6, 2) := by decide +kernel
theorem d_La_law_390 : decode k_La_law.code 390 = .ok (.i2l, 1) := by decide +kernel
theorem d_La_law_391 : decode k_La_law.code 391 = .ok (.lcmp, 1) := by decide +kernel
theorem d_La_law_392 : decode k_La_law.code 392 = .ok (.ifCond .eq 5, 3) := by decide +kernel
theorem d_La_law_395 : decode k_La_law.code 395 = .ok (.iconst 0, 1) := by decide +kernel
theorem d_La_law_396 : decode k_La_law.code 396 = .ok (.ireturn, 1) := by decide +kernel
theorem d_La_law_397 : decode k_La_law.code 397 = .ok (.goto 1041, 3) := by decide +kernel
theorem d_La_law_400 : decode k_La_law.code 400 = .ok (.aload_n 1, 1) := by decide +kernel
theorem d_La_law_401 : decode k_La_law.code 401 = .ok (.aload_n 3, 1) := by decide +kernel
theorem s_La_law_402 : SiteS k_La_law k_La_place 402 2 := ⟨103, by decide +kernel, ⟨kw_La_place, tx1 0 rfl rfl, by decide, by decide⟩, Or.inl (tx2 216 rfl rfl), tx2 217 rfl rfl, ⟨by decide +kernel, by decide +kernel⟩, np_La_place⟩
theorem d_La_law_405 : decode k_La_law.code 405 = .ok (.istore 5, 2) := by decide +kernel
theorem d_La_law_407 : decode k_La_law.code 407 = .ok (.aload_n 2, 1) := by decide +kernel
theorem s_La_law_408 : SiteV k_La_law k_Mo_place 408 8 0 := ⟨106, (R_Mo, F_Mo, 28), by decide +kernel, ⟨kw_Mo_place, tx1 10 rfl rfl, by decide, by decide⟩, tx4 171 rfl rfl, tx4 172 rfl rfl, tx4 173 rfl rfl, rfl, ⟨by decide +kernel, by decide +kernel⟩, np_Mo_place⟩
theorem d_La_law_411 : decode k_La_law.code 411 = .ok (.istore 6, 2) := by decide +kernel
theorem d_La_law_413 : decode k_La_law.code 413 = .ok (.aload_n 2, 1) := by decide +kernel
theorem s_La_law_414 : SiteV k_La_law k_Mo_thrown 414 8 0 := ⟨93, (R_Mo, F_Mo, 28), by decide +kernel, ⟨kw_Mo_thrown, tx1 10 rfl rfl, by decide, by decide⟩, tx4 130 rfl rfl, tx4 131 rfl rfl, tx4 132 rfl rfl, rfl, ⟨by decide +kernel, by decide +kernel⟩, np_Mo_thrown⟩
theorem d_La_law_417 : decode k_La_law.code 417 = .ok (.iload 5, 2) := by decide +kernel
theorem d_La_law_419 : decode k_La_law.code 419 = .ok (.if_icmp .eq 5, 3) := by decide +kernel
theorem d_La_law_422 : decode k_La_law.code 422 = .ok (.iconst 0, 1) := by decide +kernel
theorem d_La_law_423 : decode k_La_law.code 423 = .ok (.ireturn, 1) := by decide +kernel
theorem d_La_law_424 : decode k_La_law.code 424 = .ok (.iload 5, 2) := by decide +kernel
theorem d_La_law_426 : decode k_La_law.code 426 = .ok (.ifCond .ne 15, 3) := by decide +kernel
theorem d_La_law_429 : decode k_La_law.code 429 = .ok (.aload_n 3, 1) := by decide +kernel
theorem d_La_law_430 : decode k_La_law.code 430 = .ok (.iconst 0, 1) := by decide +kernel
theorem d_La_law_431 : decode k_La_law.code 431 = .ok (.laload, 1) := by decide +kernel
theorem d_La_law_432 : decode k_La_law.code 432 = .ok (.iload 6, 2) := by decide +kernel
theorem d_La_law_434 : decode k_La_law.code 434 = .ok (.i2l, 1) := by decide +kernel
theorem d_La_law_435 : decode k_La_law.code 435 = .ok (.lcmp, 1) := by decide +kernel
theorem d_La_law_436 : decode k_La_law.code 436 = .ok (.ifCond .eq 5, 3) := by decide +kernel
theorem d_La_law_439 : decode k_La_law.code 439 = .ok (.iconst 0, 1) := by decide +kernel
theorem d_La_law_440 : decode k_La_law.code 440 = .ok (.ireturn, 1) := by decide +kernel
theorem d_La_law_441 : decode k_La_law.code 441 = .ok (.goto 997, 3) := by decide +kernel
theorem d_La_law_444 : decode k_La_law.code 444 = .ok (.aload_n 1, 1) := by decide +kernel
theorem d_La_law_445 : decode k_La_law.code 445 = .ok (.aload_n 0, 1) := by decide +kernel
theorem d_La_law_446 : decode k_La_law.code 446 = .ok (.iload 4, 2) := by decide +kernel
theorem d_La_law_448 : decode k_La_law.code 448 = .ok (.iconst 1, 1) := by decide +kernel
theorem d_La_law_449 : decode k_La_law.code 449 = .ok (.iadd, 1) := by decide +kernel
theorem d_La_law_450 : decode k_La_law.code 450 = .ok (.iaload, 1) := by decide +kernel
theorem d_La_law_451 : decode k_La_law.code 451 = .ok (.aload_n 0, 1) := by decide +kernel
theorem d_La_law_452 : decode k_La_law.code 452 = .ok (.iload 4, 2) := by decide +kernel
theorem d_La_law_454 : decode k_La_law.code 454 = .ok (.iconst 2, 1) := by decide +kernel
theorem d_La_law_455 : decode k_La_law.code 455 = .ok (.iadd, 1) := by decide +kernel
theorem d_La_law_456 : decode k_La_law.code 456 = .ok (.iaload, 1) := by decide +kernel
theorem d_La_law_457 : decode k_La_law.code 457 = .ok (.aload_n 0, 1) := by decide +kernel
theorem d_La_law_458 : decode k_La_law.code 458 = .ok (.iload 4, 2) := by decide +kernel
theorem d_La_law_460 : decode k_La_law.code 460 = .ok (.iconst 3, 1) := by decide +kernel
theorem d_La_law_461 : decode k_La_law.code 461 = .ok (.iadd, 1) := by decide +kernel
theorem d_La_law_462 : decode k_La_law.code 462 = .ok (.iaload, 1) := by decide +kernel
theorem d_La_law_463 : decode k_La_law.code 463 = .ok (.aload_n 0, 1) := by decide +kernel
theorem d_La_law_464 : decode k_La_law.code 464 = .ok (.iload 4, 2) := by decide +kernel
theorem d_La_law_466 : decode k_La_law.code 466 = .ok (.iconst 4, 1) := by decide +kernel
theorem d_La_law_467 : decode k_La_law.code 467 = .ok (.iadd, 1) := by decide +kernel
theorem d_La_law_468 : decode k_La_law.code 468 = .ok (.iaload, 1) := by decide +kernel
theorem d_La_law_469 : decode k_La_law.code 469 = .ok (.aload_n 3, 1) := by decide +kernel
theorem s_La_law_470 : SiteS k_La_law k_La_seen 470 6 := ⟨107, by decide +kernel, ⟨kw_La_seen, tx1 0 rfl rfl, by decide, by decide⟩, Or.inl (tx2 228 rfl rfl), tx2 229 rfl rfl, ⟨by decide +kernel, by decide +kernel⟩, np_La_seen⟩
theorem d_La_law_473 : decode k_La_law.code 473 = .ok (.istore 5, 2) := by decide +kernel
theorem d_La_law_475 : decode k_La_law.code 475 = .ok (.aload_n 2, 1) := by decide +kernel
theorem d_La_law_476 : decode k_La_law.code 476 = .ok (.aload_n 0, 1) := by decide +kernel
theorem d_La_law_477 : decode k_La_law.code 477 = .ok (.iload 4, 2) := by decide +kernel
theorem d_La_law_479 : decode k_La_law.code 479 = .ok (.iconst 1, 1) := by decide +kernel
theorem d_La_law_480 : decode k_La_law.code 480 = .ok (.iadd, 1) := by decide +kernel
theorem d_La_law_481 : decode k_La_law.code 481 = .ok (.iaload, 1) := by decide +kernel
theorem d_La_law_482 : decode k_La_law.code 482 = .ok (.aload_n 0, 1) := by decide +kernel
theorem d_La_law_483 : decode k_La_law.code 483 = .ok (.iload 4, 2) := by decide +kernel
theorem d_La_law_485 : decode k_La_law.code 485 = .ok (.iconst 2, 1) := by decide +kernel
theorem d_La_law_486 : decode k_La_law.code 486 = .ok (.iadd, 1) := by decide +kernel
theorem d_La_law_487 : decode k_La_law.code 487 = .ok (.iaload, 1) := by decide +kernel
theorem d_La_law_488 : decode k_La_law.code 488 = .ok (.aload_n 0, 1) := by decide +kernel
theorem d_La_law_489 : decode k_La_law.code 489 = .ok (.iload 4, 2) := by decide +kernel
theorem d_La_law_491 : decode k_La_law.code 491 = .ok (.iconst 3, 1) := by decide +kernel
theorem d_La_law_492 : decode k_La_law.code 492 = .ok (.iadd, 1) := by decide +kernel
theorem d_La_law_493 : decode k_La_law.code 493 = .ok (.iaload, 1) := by decide +kernel
theorem d_La_law_494 : decode k_La_law.code 494 = .ok (.aload_n 0, 1) := by decide +kernel
theorem d_La_law_495 : decode k_La_law.code 495 = .ok (.iload 4, 2) := by decide +kernel
theorem d_La_law_497 : decode k_La_law.code 497 = .ok (.iconst 4, 1) := by decide +kernel
theorem d_La_law_498 : decode k_La_law.code 498 = .ok (.iadd, 1) := by decide +kernel
theorem d_La_law_499 : decode k_La_law.code 499 = .ok (.iaload, 1) := by decide +kernel
theorem s_La_law_500 : SiteV k_La_law k_Mo_seen 500 8 4 := ⟨109, (R_Mo, F_Mo, 28), by decide +kernel, ⟨kw_Mo_seen, tx1 10 rfl rfl, by decide, by decide⟩, tx4 175 rfl rfl, tx4 176 rfl rfl, tx4 177 rfl rfl, rfl, ⟨by decide +kernel, by decide +kernel⟩, np_Mo_seen⟩
theorem d_La_law_503 : decode k_La_law.code 503 = .ok (.istore 6, 2) := by decide +kernel
theorem d_La_law_505 : decode k_La_law.code 505 = .ok (.aload_n 2, 1) := by decide +kernel
theorem s_La_law_506 : SiteV k_La_law k_Mo_thrown 506 8 0 := ⟨93, (R_Mo, F_Mo, 28), by decide +kernel, ⟨kw_Mo_thrown, tx1 10 rfl rfl, by decide, by decide⟩, tx4 130 rfl rfl, tx4 131 rfl rfl, tx4 132 rfl rfl, rfl, ⟨by decide +kernel, by decide +kernel⟩, np_Mo_thrown⟩
theorem d_La_law_509 : decode k_La_law.code 509 = .ok (.iload 5, 2) := by decide +kernel
theorem d_La_law_511 : decode k_La_law.code 511 = .ok (.if_icmp .eq 5, 3) := by decide +kernel
theorem d_La_law_514 : decode k_La_law.code 514 = .ok (.iconst 0, 1) := by decide +kernel
theorem d_La_law_515 : decode k_La_law.code 515 = .ok (.ireturn, 1) := by decide +kernel
theorem d_La_law_516 : decode k_La_law.code 516 = .ok (.iload 5, 2) := by decide +kernel
theorem d_La_law_518 : decode k_La_law.code 518 = .ok (.ifCond .ne 22, 3) := by decide +kernel
theorem d_La_law_521 : decode k_La_law.code 521 = .ok (.aload_n 3, 1) := by decide +kernel
theorem d_La_law_522 : decode k_La_law.code 522 = .ok (.iconst 0, 1) := by decide +kernel
theorem d_La_law_523 : decode k_La_law.code 523 = .ok (.laload, 1) := by decide +kernel
theorem d_La_law_524 : decode k_La_law.code 524 = .ok (.iload 6, 2) := by decide +kernel
theorem d_La_law_526 : decode k_La_law.code 526 = .ok (.ifCond .eq 7, 3) := by decide +kernel
theorem d_La_law_529 : decode k_La_law.code 529 = .ok (.lconst 1, 1) := by decide +kernel
theorem d_La_law_530 : decode k_La_law.code 530 = .ok (.goto 4, 3) := by decide +kernel
theorem d_La_law_533 : decode k_La_law.code 533 = .ok (.lconst 0, 1) := by decide +kernel
theorem d_La_law_534 : decode k_La_law.code 534 = .ok (.lcmp, 1) := by decide +kernel
theorem d_La_law_535 : decode k_La_law.code 535 = .ok (.ifCond .eq 5, 3) := by decide +kernel
theorem d_La_law_538 : decode k_La_law.code 538 = .ok (.iconst 0, 1) := by decide +kernel
theorem d_La_law_539 : decode k_La_law.code 539 = .ok (.ireturn, 1) := by decide +kernel
theorem d_La_law_540 : decode k_La_law.code 540 = .ok (.goto 898, 3) := by decide +kernel
theorem d_La_law_543 : decode k_La_law.code 543 = .ok (.aload_n 1, 1) := by decide +kernel
theorem d_La_law_544 : decode k_La_law.code 544 = .ok (.aload_n 0, 1) := by decide +kernel
theorem d_La_law_545 : decode k_La_law.code 545 = .ok (.iload 4, 2) := by decide +kernel
theorem d_La_law_547 : decode k_La_law.code 547 = .ok (.iconst 1, 1) := by decide +kernel
theorem d_La_law_548 : decode k_La_law.code 548 = .ok (.iadd, 1) := by decide +kernel
theorem d_La_law_549 : decode k_La_law.code 549 = .ok (.iaload, 1) := by decide +kernel
theorem d_La_law_550 : decode k_La_law.code 550 = .ok (.aload_n 0, 1) := by decide +kernel
theorem d_La_law_551 : decode k_La_law.code 551 = .ok (.iload 4, 2) := by decide +kernel
theorem d_La_law_553 : decode k_La_law.code 553 = .ok (.iconst 2, 1) := by decide +kernel
theorem d_La_law_554 : decode k_La_law.code 554 = .ok (.iadd, 1) := by decide +kernel
theorem d_La_law_555 : decode k_La_law.code 555 = .ok (.iaload, 1) := by decide +kernel
theorem d_La_law_556 : decode k_La_law.code 556 = .ok (.aload_n 0, 1) := by decide +kernel
theorem d_La_law_557 : decode k_La_law.code 557 = .ok (.iload 4, 2) := by decide +kernel
theorem d_La_law_559 : decode k_La_law.code 559 = .ok (.iconst 3, 1) := by decide +kernel
theorem d_La_law_560 : decode k_La_law.code 560 = .ok (.iadd, 1) := by decide +kernel
theorem d_La_law_561 : decode k_La_law.code 561 = .ok (.iaload, 1) := by decide +kernel
theorem d_La_law_562 : decode k_La_law.code 562 = .ok (.aload_n 0, 1) := by decide +kernel
theorem d_La_law_563 : decode k_La_law.code 563 = .ok (.iload 4, 2) := by decide +kernel
theorem d_La_law_565 : decode k_La_law.code 565 = .ok (.iconst 4, 1) := by decide +kernel
theorem d_La_law_566 : decode k_La_law.code 566 = .ok (.iadd, 1) := by decide +kernel
theorem d_La_law_567 : decode k_La_law.code 567 = .ok (.iaload, 1) := by decide +kernel
theorem d_La_law_568 : decode k_La_law.code 568 = .ok (.aload_n 3, 1) := by decide +kernel
theorem s_La_law_569 : SiteS k_La_law k_La_relative 569 6 := ⟨110, by decide +kernel, ⟨kw_La_relative, tx1 0 rfl rfl, by decide, by decide⟩, Or.inl (tx3 8 rfl rfl), tx3 9 rfl rfl, ⟨by decide +kernel, by decide +kernel⟩, np_La_relative⟩
theorem d_La_law_572 : decode k_La_law.code 572 = .ok (.istore 5, 2) := by decide +kernel
theorem d_La_law_574 : decode k_La_law.code 574 = .ok (.aload_n 2, 1) := by decide +kernel
theorem d_La_law_575 : decode k_La_law.code 575 = .ok (.aload_n 0, 1) := by decide +kernel
theorem d_La_law_576 : decode k_La_law.code 576 = .ok (.iload 4, 2) := by decide +kernel
theorem d_La_law_578 : decode k_La_law.code 578 = .ok (.iconst 1, 1) := by decide +kernel
theorem d_La_law_579 : decode k_La_law.code 579 = .ok (.iadd, 1) := by decide +kernel
theorem d_La_law_580 : decode k_La_law.code 580 = .ok (.iaload, 1) := by decide +kernel
theorem d_La_law_581 : decode k_La_law.code 581 = .ok (.aload_n 0, 1) := by decide +kernel
theorem d_La_law_582 : decode k_La_law.code 582 = .ok (.iload 4, 2) := by decide +kernel
theorem d_La_law_584 : decode k_La_law.code 584 = .ok (.iconst 2, 1) := by decide +kernel
theorem d_La_law_585 : decode k_La_law.code 585 = .ok (.iadd, 1) := by decide +kernel
theorem d_La_law_586 : decode k_La_law.code 586 = .ok (.iaload, 1) := by decide +kernel
theorem d_La_law_587 : decode k_La_law.code 587 = .ok (.aload_n 0, 1) := by decide +kernel
theorem d_La_law_588 : decode k_La_law.code 588 = .ok (.iload 4, 2) := by decide +kernel
theorem d_La_law_590 : decode k_La_law.code 590 = .ok (.iconst 3, 1) := by decide +kernel
theorem d_La_law_591 : decode k_La_law.code 591 = .ok (.iadd, 1) := by decide +kernel
theorem d_La_law_592 : decode k_La_law.code 592 = .ok (.iaload, 1) := by decide +kernel
theorem d_La_law_593 : decode k_La_law.code 593 = .ok (.aload_n 0, 1) := by decide +kernel
theorem d_La_law_594 : decode k_La_law.code 594 = .ok (.iload 4, 2) := by decide +kernel
theorem d_La_law_596 : decode k_La_law.code 596 = .ok (.iconst 4, 1) := by decide +kernel
theorem d_La_law_597 : decode k_La_law.code 597 = .ok (.iadd, 1) := by decide +kernel
theorem d_La_law_598 : decode k_La_law.code 598 = .ok (.iaload, 1) := by decide +kernel
theorem s_La_law_599 : SiteV k_La_law k_Mo_relative 599 8 4 := ⟨112, (R_Mo, F_Mo, 28), by decide +kernel, ⟨kw_Mo_relative, tx1 10 rfl rfl, by decide, by decide⟩, tx4 183 rfl rfl, tx4 184 rfl rfl, tx4 185 rfl rfl, rfl, ⟨by decide +kernel, by decide +kernel⟩, np_Mo_relative⟩
theorem d_La_law_602 : decode k_La_law.code 602 = .ok (.istore 6, 2) := by decide +kernel
theorem d_La_law_604 : decode k_La_law.code 604 = .ok (.aload_n 2, 1) := by decide +kernel
theorem s_La_law_605 : SiteV k_La_law k_Mo_thrown 605 8 0 := ⟨93, (R_Mo, F_Mo, 28), by decide +kernel, ⟨kw_Mo_thrown, tx1 10 rfl rfl, by decide, by decide⟩, tx4 130 rfl rfl, tx4 131 rfl rfl, tx4 132 rfl rfl, rfl, ⟨by decide +kernel, by decide +kernel⟩, np_Mo_thrown⟩
theorem d_La_law_608 : decode k_La_law.code 608 = .ok (.iload 5, 2) := by decide +kernel
theorem d_La_law_610 : decode k_La_law.code 610 = .ok (.if_icmp .eq 5, 3) := by decide +kernel
theorem d_La_law_613 : decode k_La_law.code 613 = .ok (.iconst 0, 1) := by decide +kernel
theorem d_La_law_614 : decode k_La_law.code 614 = .ok (.ireturn, 1) := by decide +kernel
theorem d_La_law_615 : decode k_La_law.code 615 = .ok (.iload 5, 2) := by decide +kernel
theorem d_La_law_617 : decode k_La_law.code 617 = .ok (.ifCond .ne 15, 3) := by decide +kernel
theorem d_La_law_620 : decode k_La_law.code 620 = .ok (.aload_n 3, 1) := by decide +kernel
theorem d_La_law_621 : decode k_La_law.code 621 = .ok (.iconst 0, 1) := by decide +kernel
theorem d_La_law_622 : decode k_La_law.code 622 = .ok (.laload, 1) := by decide +kernel
theorem d_La_law_623 : decode k_La_law.code 623 = .ok (.iload 6, 2) := by decide +kernel
theorem d_La_law_625 : decode k_La_law.code 625 = .ok (.i2l, 1) := by decide +kernel
theorem d_La_law_626 : decode k_La_law.code 626 = .ok (.lcmp, 1) := by decide +kernel
theorem d_La_law_627 : decode k_La_law.code 627 = .ok (.ifCond .eq 5, 3) := by decide +kernel
theorem d_La_law_630 : decode k_La_law.code 630 = .ok (.iconst 0, 1) := by decide +kernel
theorem d_La_law_631 : decode k_La_law.code 631 = .ok (.ireturn, 1) := by decide +kernel
theorem d_La_law_632 : decode k_La_law.code 632 = .ok (.goto 806, 3) := by decide +kernel
theorem d_La_law_635 : decode k_La_law.code 635 = .ok (.aload_n 1, 1) := by decide +kernel
theorem d_La_law_636 : decode k_La_law.code 636 = .ok (.aload_n 0, 1) := by decide +kernel
theorem d_La_law_637 : decode k_La_law.code 637 = .ok (.iload 4, 2) := by decide +kernel
theorem d_La_law_639 : decode k_La_law.code 639 = .ok (.iconst 1, 1) := by decide +kernel
theorem d_La_law_640 : decode k_La_law.code 640 = .ok (.iadd, 1) := by decide +kernel
theorem d_La_law_641 : decode k_La_law.code 641 = .ok (.iaload, 1) := by decide +kernel
theorem d_La_law_642 : decode k_La_law.code 642 = .ok (.aload_n 3, 1) := by decide +kernel
theorem s_La_law_643 : SiteS k_La_law k_La_shift 643 3 := ⟨113, by decide +kernel, ⟨kw_La_shift, tx1 0 rfl rfl, by decide, by decide⟩, Or.inl (tx3 36 rfl rfl), tx3 37 rfl rfl, ⟨by decide +kernel, by decide +kernel⟩, np_La_shift⟩
theorem d_La_law_646 : decode k_La_law.code 646 = .ok (.istore 5, 2) := by decide +kernel
theorem d_La_law_648 : decode k_La_law.code 648 = .ok (.aload_n 2, 1) := by decide +kernel
theorem d_La_law_649 : decode k_La_law.code 649 = .ok (.aload_n 0, 1) := by decide +kernel
theorem d_La_law_650 : decode k_La_law.code 650 = .ok (.iload 4, 2) := by decide +kernel
theorem d_La_law_652 : decode k_La_law.code 652 = .ok (.iconst 1, 1) := by decide +kernel
theorem d_La_law_653 : decode k_La_law.code 653 = .ok (.iadd, 1) := by decide +kernel
theorem d_La_law_654 : decode k_La_law.code 654 = .ok (.iaload, 1) := by decide +kernel
theorem s_La_law_655 : SiteV k_La_law k_Mo_shift 655 8 1 := ⟨115, (R_Mo, F_Mo, 28), by decide +kernel, ⟨kw_Mo_shift, tx1 10 rfl rfl, by decide, by decide⟩, tx4 212 rfl rfl, tx4 213 rfl rfl, tx4 214 rfl rfl, rfl, ⟨by decide +kernel, by decide +kernel⟩, np_Mo_shift⟩
theorem d_La_law_658 : decode k_La_law.code 658 = .ok (.istore 6, 2) := by decide +kernel
theorem d_La_law_660 : decode k_La_law.code 660 = .ok (.aload_n 2, 1) := by decide +kernel
theorem s_La_law_661 : SiteV k_La_law k_Mo_thrown 661 8 0 := ⟨93, (R_Mo, F_Mo, 28), by decide +kernel, ⟨kw_Mo_thrown, tx1 10 rfl rfl, by decide, by decide⟩, tx4 130 rfl rfl, tx4 131 rfl rfl, tx4 132 rfl rfl, rfl, ⟨by decide +kernel, by decide +kernel⟩, np_Mo_thrown⟩
theorem d_La_law_664 : decode k_La_law.code 664 = .ok (.iload 5, 2) := by decide +kernel
theorem d_La_law_666 : decode k_La_law.code 666 = .ok (.if_icmp .eq 5, 3) := by decide +kernel
theorem d_La_law_669 : decode k_La_law.code 669 = .ok (.iconst 0, 1) := by decide +kernel
theorem d_La_law_670 : decode k_La_law.code 670 = .ok (.ireturn, 1) := by decide +kernel
theorem d_La_law_671 : decode k_La_law.code 671 = .ok (.iload 5, 2) := by decide +kernel
theorem d_La_law_673 : decode k_La_law.code 673 = .ok (.ifCond .ne 15, 3) := by decide +kernel
theorem d_La_law_676 : decode k_La_law.code 676 = .ok (.aload_n 3, 1) := by decide +kernel
theorem d_La_law_677 : decode k_La_law.code 677 = .ok (.iconst 0, 1) := by decide +kernel
theorem d_La_law_678 : decode k_La_law.code 678 = .ok (.laload, 1) := by decide +kernel
theorem d_La_law_679 : decode k_La_law.code 679 = .ok (.iload 6, 2) := by decide +kernel
theorem d_La_law_681 : decode k_La_law.code 681 = .ok (.i2l, 1) := by decide +kernel
theorem d_La_law_682 : decode k_La_law.code 682 = .ok (.lcmp, 1) := by decide +kernel
theorem d_La_law_683 : decode k_La_law.code 683 = .ok (.ifCond .eq 5, 3) := by decide +kernel
theorem d_La_law_686 : decode k_La_law.code 686 = .ok (.iconst 0, 1) := by decide +kernel
theorem d_La_law_687 : decode k_La_law.code 687 = .ok (.ireturn, 1) := by decide +kernel
theorem d_La_law_688 : decode k_La_law.code 688 = .ok (.goto 750, 3) := by decide +kernel
theorem d_La_law_691 : decode k_La_law.code 691 = .ok (.aload_n 1, 1) := by decide +kernel
theorem d_La_law_692 : decode k_La_law.code 692 = .ok (.aload_n 0, 1) := by decide +kernel
theorem d_La_law_693 : decode k_La_law.code 693 = .ok (.iload 4, 2) := by decide +kernel
theorem d_La_law_695 : decode k_La_law.code 695 = .ok (.iconst 1, 1) := by decide +kernel
theorem d_La_law_696 : decode k_La_law.code 696 = .ok (.iadd, 1) := by decide +kernel
theorem d_La_law_697 : decode k_La_law.code 697 = .ok (.iaload, 1) := by decide +kernel
theorem d_La_law_698 : decode k_La_law.code 698 = .ok (.aload_n 0, 1) := by decide +kernel
theorem d_La_law_699 : decode k_La_law.code 699 = .ok (.iload 4, 2) := by decide +kernel
theorem d_La_law_701 : decode k_La_law.code 701 = .ok (.iconst 2, 1) := by decide +kernel
theorem d_La_law_702 : decode k_La_law.code 702 = .ok (.iadd, 1) := by decide +kernel
theorem d_La_law_703 : decode k_La_law.code 703 = .ok (.iaload, 1) := by decide +kernel
theorem d_La_law_704 : decode k_La_law.code 704 = .ok (.ifCond .eq 7, 3) := by decide +kernel
theorem d_La_law_707 : decode k_La_law.code 707 = .ok (.iconst 1, 1) := by decide +kernel
theorem d_La_law_708 : decode k_La_law.code 708 = .ok (.goto 4, 3) := by decide +kernel
theorem d_La_law_711 : decode k_La_law.code 711 = .ok (.iconst 0, 1) := by decide +kernel
theorem d_La_law_712 : decode k_La_law.code 712 = .ok (.aload_n 3, 1) := by decide +kernel
theorem s_La_law_713 : SiteS k_La_law k_La_spare 713 4 := ⟨116, by decide +kernel, ⟨kw_La_spare, tx1 0 rfl rfl, by decide, by decide⟩, Or.inl (tx3 54 rfl rfl), tx3 55 rfl rfl, ⟨by decide +kernel, by decide +kernel⟩, np_La_spare⟩
theorem d_La_law_716 : decode k_La_law.code 716 = .ok (.istore 5, 2) := by decide +kernel
theorem d_La_law_718 : decode k_La_law.code 718 = .ok (.aload_n 2, 1) := by decide +kernel
theorem d_La_law_719 : decode k_La_law.code 719 = .ok (.aload_n 0, 1) := by decide +kernel
theorem d_La_law_720 : decode k_La_law.code 720 = .ok (.iload 4, 2) := by decide +kernel
theorem d_La_law_722 : decode k_La_law.code 722 = .ok (.iconst 1, 1) := by decide +kernel
theorem d_La_law_723 : decode k_La_law.code 723 = .ok (.iadd, 1) := by decide +kernel
theorem d_La_law_724 : decode k_La_law.code 724 = .ok (.iaload, 1) := by decide +kernel
theorem d_La_law_725 : decode k_La_law.code 725 = .ok (.aload_n 0, 1) := by decide +kernel
theorem d_La_law_726 : decode k_La_law.code 726 = .ok (.iload 4, 2) := by decide +kernel
theorem d_La_law_728 : decode k_La_law.code 728 = .ok (.iconst 2, 1) := by decide +kernel
theorem d_La_law_729 : decode k_La_law.code 729 = .ok (.iadd, 1) := by decide +kernel
theorem d_La_law_730 : decode k_La_law.code 730 = .ok (.iaload, 1) := by decide +kernel
theorem d_La_law_731 : decode k_La_law.code 731 = .ok (.ifCond .eq 7, 3) := by decide +kernel
theorem d_La_law_734 : decode k_La_law.code 734 = .ok (.iconst 1, 1) := by decide +kernel
theorem d_La_law_735 : decode k_La_law.code 735 = .ok (.goto 4, 3) := by decide +kernel
theorem d_La_law_738 : decode k_La_law.code 738 = .ok (.iconst 0, 1) := by decide +kernel
theorem s_La_law_739 : SiteV k_La_law k_Mo_spare 739 8 2 := ⟨119, (R_Mo, F_Mo, 28), by decide +kernel, ⟨kw_Mo_spare, tx1 10 rfl rfl, by decide, by decide⟩, tx4 216 rfl rfl, tx4 217 rfl rfl, tx4 218 rfl rfl, rfl, ⟨by decide +kernel, by decide +kernel⟩, np_Mo_spare⟩
theorem d_La_law_742 : decode k_La_law.code 742 = .ok (.istore 6, 2) := by decide +kernel
theorem d_La_law_744 : decode k_La_law.code 744 = .ok (.aload_n 2, 1) := by decide +kernel
theorem s_La_law_745 : SiteV k_La_law k_Mo_thrown 745 8 0 := ⟨93, (R_Mo, F_Mo, 28), by decide +kernel, ⟨kw_Mo_thrown, tx1 10 rfl rfl, by decide, by decide⟩, tx4 130 rfl rfl, tx4 131 rfl rfl, tx4 132 rfl rfl, rfl, ⟨by decide +kernel, by decide +kernel⟩, np_Mo_thrown⟩
theorem d_La_law_748 : decode k_La_law.code 748 = .ok (.iload 5, 2) := by decide +kernel
theorem d_La_law_750 : decode k_La_law.code 750 = .ok (.if_icmp .eq 5, 3) := by decide +kernel
theorem d_La_law_753 : decode k_La_law.code 753 = .ok (.iconst 0, 1) := by decide +kernel
theorem d_La_law_754 : decode k_La_law.code 754 = .ok (.ireturn, 1) := by decide +kernel
theorem d_La_law_755 : decode k_La_law.code 755 = .ok (.iload 5, 2) := by decide +kernel
theorem d_La_law_757 : decode k_La_law.code 757 = .ok (.ifCond .ne 22, 3) := by decide +kernel
theorem d_La_law_760 : decode k_La_law.code 760 = .ok (.aload_n 3, 1) := by decide +kernel
theorem d_La_law_761 : decode k_La_law.code 761 = .ok (.iconst 0, 1) := by decide +kernel
theorem d_La_law_762 : decode k_La_law.code 762 = .ok (.laload, 1) := by decide +kernel
theorem d_La_law_763 : decode k_La_law.code 763 = .ok (.iload 6, 2) := by decide +kernel
theorem d_La_law_765 : decode k_La_law.code 765 = .ok (.ifCond .eq 7, 3) := by decide +kernel
theorem d_La_law_768 : decode k_La_law.code 768 = .ok (.lconst 1, 1) := by decide +kernel
theorem d_La_law_769 : decode k_La_law.code 769 = .ok (.goto 4, 3) := by decide +kernel
theorem d_La_law_772 : decode k_La_law.code 772 = .ok (.lconst 0, 1) := by decide +kernel
theorem d_La_law_773 : decode k_La_law.code 773 = .ok (.lcmp, 1) := by decide +kernel
theorem d_La_law_774 : decode k_La_law.code 774 = .ok (.ifCond .eq 5, 3) := by decide +kernel
theorem d_La_law_777 : decode k_La_law.code 777 = .ok (.iconst 0, 1) := by decide +kernel
theorem d_La_law_778 : decode k_La_law.code 778 = .ok (.ireturn, 1) := by decide +kernel
theorem d_La_law_779 : decode k_La_law.code 779 = .ok (.goto 659, 3) := by decide +kernel
theorem d_La_law_782 : decode k_La_law.code 782 = .ok (.aload_n 1, 1) := by decide +kernel
theorem d_La_law_783 : decode k_La_law.code 783 = .ok (.aload_n 0, 1) := by decide +kernel
theorem d_La_law_784 : decode k_La_law.code 784 = .ok (.iload 4, 2) := by decide +kernel
theorem d_La_law_786 : decode k_La_law.code 786 = .ok (.iconst 1, 1) := by decide +kernel
theorem d_La_law_787 : decode k_La_law.code 787 = .ok (.iadd, 1) := by decide +kernel
theorem d_La_law_788 : decode k_La_law.code 788 = .ok (.iaload, 1) := by decide +kernel
theorem d_La_law_789 : decode k_La_law.code 789 = .ok (.aload_n 3, 1) := by decide +kernel
theorem s_La_law_790 : SiteS k_La_law k_La_run 790 3 := ⟨120, by decide +kernel, ⟨kw_La_run, tx1 0 rfl rfl, by decide, by decide⟩, Or.inl (tx3 65 rfl rfl), tx3 66 rfl rfl, ⟨by decide +kernel, by decide +kernel⟩, np_La_run⟩
theorem d_La_law_793 : decode k_La_law.code 793 = .ok (.istore 5, 2) := by decide +kernel
theorem d_La_law_795 : decode k_La_law.code 795 = .ok (.aload_n 2, 1) := by decide +kernel
theorem d_La_law_796 : decode k_La_law.code 796 = .ok (.aload_n 0, 1) := by decide +kernel
theorem d_La_law_797 : decode k_La_law.code 797 = .ok (.iload 4, 2) := by decide +kernel
theorem d_La_law_799 : decode k_La_law.code 799 = .ok (.iconst 1, 1) := by decide +kernel
theorem d_La_law_800 : decode k_La_law.code 800 = .ok (.iadd, 1) := by decide +kernel
theorem d_La_law_801 : decode k_La_law.code 801 = .ok (.iaload, 1) := by decide +kernel
theorem s_La_law_802 : SiteV k_La_law k_Mo_run 802 8 1 := ⟨122, (R_Mo, F_Mo, 28), by decide +kernel, ⟨kw_Mo_run, tx1 10 rfl rfl, by decide, by decide⟩, tx4 220 rfl rfl, tx4 221 rfl rfl, tx4 222 rfl rfl, rfl, ⟨by decide +kernel, by decide +kernel⟩, np_Mo_run⟩
theorem d_La_law_805 : decode k_La_law.code 805 = .ok (.istore 6, 2) := by decide +kernel
theorem d_La_law_807 : decode k_La_law.code 807 = .ok (.aload_n 2, 1) := by decide +kernel
theorem s_La_law_808 : SiteV k_La_law k_Mo_thrown 808 8 0 := ⟨93, (R_Mo, F_Mo, 28), by decide +kernel, ⟨kw_Mo_thrown, tx1 10 rfl rfl, by decide, by decide⟩, tx4 130 rfl rfl, tx4 131 rfl rfl, tx4 132 rfl rfl, rfl, ⟨by decide +kernel, by decide +kernel⟩, np_Mo_thrown⟩
theorem d_La_law_811 : decode k_La_law.code 811 = .ok (.iload 5, 2) := by decide +kernel
theorem d_La_law_813 : decode k_La_law.code 813 = .ok (.if_icmp .eq 5, 3) := by decide +kernel
theorem d_La_law_816 : decode k_La_law.code 816 = .ok (.iconst 0, 1) := by decide +kernel
theorem d_La_law_817 : decode k_La_law.code 817 = .ok (.ireturn, 1) := by decide +kernel
theorem d_La_law_818 : decode k_La_law.code 818 = .ok (.iload 5, 2) := by decide +kernel
theorem d_La_law_820 : decode k_La_law.code 820 = .ok (.ifCond .ne 15, 3) := by decide +kernel
theorem d_La_law_823 : decode k_La_law.code 823 = .ok (.aload_n 3, 1) := by decide +kernel
theorem d_La_law_824 : decode k_La_law.code 824 = .ok (.iconst 0, 1) := by decide +kernel
theorem d_La_law_825 : decode k_La_law.code 825 = .ok (.laload, 1) := by decide +kernel
theorem d_La_law_826 : decode k_La_law.code 826 = .ok (.iload 6, 2) := by decide +kernel
theorem d_La_law_828 : decode k_La_law.code 828 = .ok (.i2l, 1) := by decide +kernel
theorem d_La_law_829 : decode k_La_law.code 829 = .ok (.lcmp, 1) := by decide +kernel
theorem d_La_law_830 : decode k_La_law.code 830 = .ok (.ifCond .eq 5, 3) := by decide +kernel
theorem d_La_law_833 : decode k_La_law.code 833 = .ok (.iconst 0, 1) := by decide +kernel
theorem d_La_law_834 : decode k_La_law.code 834 = .ok (.ireturn, 1) := by decide +kernel
theorem d_La_law_835 : decode k_La_law.code 835 = .ok (.goto 603, 3) := by decide +kernel
theorem d_La_law_838 : decode k_La_law.code 838 = .ok (.aload_n 1, 1) := by decide +kernel
theorem s_La_law_839 : SiteV k_La_law k_Pm_sum 839 7 0 := ⟨123, (R_Pm, F_Pm, 7), by decide +kernel, ⟨kw_Pm_sum, tx1 1 rfl rfl, by decide, by decide⟩, tx1 230 rfl rfl, tx1 231 rfl rfl, tx1 232 rfl rfl, rfl, ⟨by decide +kernel, by decide +kernel⟩, np_Pm_sum⟩
theorem d_La_law_842 : decode k_La_law.code 842 = .ok (.aload_n 2, 1) := by decide +kernel
theorem s_La_law_843 : SiteV k_La_law k_Mo_sum 843 8 0 := ⟨127, (R_Mo, F_Mo, 28), by decide +kernel, ⟨kw_Mo_sum, tx1 10 rfl rfl, by decide, by decide⟩, tx5 11 rfl rfl, tx5 12 rfl rfl, tx5 13 rfl rfl, rfl, ⟨by decide +kernel, by decide +kernel⟩, np_Mo_sum⟩
theorem d_La_law_846 : decode k_La_law.code 846 = .ok (.lcmp, 1) := by decide +kernel
theorem d_La_law_847 : decode k_La_law.code 847 = .ok (.ifCond .eq 591, 3) := by decide +kernel
theorem d_La_law_850 : decode k_La_law.code 850 = .ok (.iconst 0, 1) := by decide +kernel
theorem d_La_law_851 : decode k_La_law.code 851 = .ok (.ireturn, 1) := by decide +kernel
theorem d_La_law_852 : decode k_La_law.code 852 = .ok (.aload_n 1, 1) := by decide +kernel
theorem d_La_law_853 : decode k_La_law.code 853 = .ok (.aload_n 0, 1) := by decide +kernel
theorem d_La_law_854 : decode k_La_law.code 854 = .ok (.iload 4, 2) := by decide +kernel
theorem d_La_law_856 : decode k_La_law.code 856 = .ok (.iconst 1, 1) := by decide +kernel
theorem d_La_law_857 : decode k_La_law.code 857 = .ok (.iadd, 1) := by decide +kernel
theorem d_La_law_858 : decode k_La_law.code 858 = .ok (.iaload, 1) := by decide +kernel
theorem d_La_law_859 : decode k_La_law.code 859 = .ok (.aload_n 0, 1) := by decide +kernel
theorem d_La_law_860 : decode k_La_law.code 860 = .ok (.iload 4, 2) := by decide +kernel
theorem d_La_law_862 : decode k_La_law.code 862 = .ok (.iconst 2, 1) := by decide +kernel
theorem d_La_law_863 : decode k_La_law.code 863 = .ok (.iadd, 1) := by decide +kernel
theorem d_La_law_864 : decode k_La_law.code 864 = .ok (.iaload, 1) := by decide +kernel
theorem d_La_law_865 : decode k_La_law.code 865 = .ok (.aload_n 3, 1) := by decide +kernel
theorem s_La_law_866 : SiteS k_La_law k_La_at 866 4 := ⟨128, by decide +kernel, ⟨kw_La_at, tx1 0 rfl rfl, by decide, by decide⟩, Or.inl (tx3 117 rfl rfl), tx3 118 rfl rfl, ⟨by decide +kernel, by decide +kernel⟩, np_La_at⟩
theorem d_La_law_869 : decode k_La_law.code 869 = .ok (.istore 5, 2) := by decide +kernel
theorem d_La_law_871 : decode k_La_law.code 871 = .ok (.aload_n 2, 1) := by decide +kernel
theorem d_La_law_872 : decode k_La_law.code 872 = .ok (.aload_n 0, 1) := by decide +kernel
theorem d_La_law_873 : decode k_La_law.code 873 = .ok (.iload 4, 2) := by decide +kernel
theorem d_La_law_875 : decode k_La_law.code 875 = .ok (.iconst 1, 1) := by decide +kernel
theorem d_La_law_876 : decode k_La_law.code 876 = .ok (.iadd, 1) := by decide +kernel
theorem d_La_law_877 : decode k_La_law.code 877 = .ok (.iaload, 1) := by decide +kernel
theorem d_La_law_878 : decode k_La_law.code 878 = .ok (.aload_n 0, 1) := by decide +kernel
theorem d_La_law_879 : decode k_La_law.code 879 = .ok (.iload 4, 2) := by decide +kernel
theorem d_La_law_881 : decode k_La_law.code 881 = .ok (.iconst 2, 1) := by decide +kernel
theorem d_La_law_882 : decode k_La_law.code 882 = .ok (.iadd, 1) := by decide +kernel
theorem d_La_law_883 : decode k_La_law.code 883 = .ok (.iaload, 1) := by decide +kernel
theorem s_La_law_884 : SiteV k_La_law k_Mo_at 884 8 2 := ⟨131, (R_Mo, F_Mo, 28), by decide +kernel, ⟨kw_Mo_at, tx1 10 rfl rfl, by decide, by decide⟩, tx5 15 rfl rfl, tx5 16 rfl rfl, tx5 17 rfl rfl, rfl, ⟨by decide +kernel, by decide +kernel⟩, np_Mo_at⟩
theorem d_La_law_887 : decode k_La_law.code 887 = .ok (.istore 6, 2) := by decide +kernel
theorem d_La_law_889 : decode k_La_law.code 889 = .ok (.aload_n 2, 1) := by decide +kernel
theorem s_La_law_890 : SiteV k_La_law k_Mo_thrown 890 8 0 := ⟨93, (R_Mo, F_Mo, 28), by decide +kernel, ⟨kw_Mo_thrown, tx1 10 rfl rfl, by decide, by decide⟩, tx4 130 rfl rfl, tx4 131 rfl rfl, tx4 132 rfl rfl, rfl, ⟨by decide +kernel, by decide +kernel⟩, np_Mo_thrown⟩
theorem d_La_law_893 : decode k_La_law.code 893 = .ok (.iload 5, 2) := by decide +kernel
theorem d_La_law_895 : decode k_La_law.code 895 = .ok (.if_icmp .eq 5, 3) := by decide +kernel
theorem d_La_law_898 : decode k_La_law.code 898 = .ok (.iconst 0, 1) := by decide +kernel
theorem d_La_law_899 : decode k_La_law.code 899 = .ok (.ireturn, 1) := by decide +kernel
theorem d_La_law_900 : decode k_La_law.code 900 = .ok (.iload 5, 2) := by decide +kernel
theorem d_La_law_902 : decode k_La_law.code 902 = .ok (.ifCond .ne 15, 3) := by decide +kernel
theorem d_La_law_905 : decode k_La_law.code 905 = .ok (.aload_n 3, 1) := by decide +kernel
theorem d_La_law_906 : decode k_La_law.code 906 = .ok (.iconst 0, 1) := by decide +kernel
theorem d_La_law_907 : decode k_La_law.code 907 = .ok (.laload, 1) := by decide +kernel
theorem d_La_law_908 : decode k_La_law.code 908 = .ok (.iload 6, 2) := by decide +kernel
theorem d_La_law_910 : decode k_La_law.code 910 = .ok (.i2l, 1) := by decide +kernel
theorem d_La_law_911 : decode k_La_law.code 911 = .ok (.lcmp, 1) := by decide +kernel
theorem d_La_law_912 : decode k_La_law.code 912 = .ok (.ifCond .eq 5, 3) := by decide +kernel
theorem d_La_law_915 : decode k_La_law.code 915 = .ok (.iconst 0, 1) := by decide +kernel
theorem d_La_law_916 : decode k_La_law.code 916 = .ok (.ireturn, 1) := by decide +kernel
theorem d_La_law_917 : decode k_La_law.code 917 = .ok (.goto 521, 3) := by decide +kernel
theorem d_La_law_920 : decode k_La_law.code 920 = .ok (.aload_n 1, 1) := by decide +kernel
theorem d_La_law_921 : decode k_La_law.code 921 = .ok (.aload_n 0, 1) := by decide +kernel
theorem d_La_law_922 : decode k_La_law.code 922 = .ok (.iload 4, 2) := by decide +kernel
theorem d_La_law_924 : decode k_La_law.code 924 = .ok (.iconst 1, 1) := by decide +kernel
theorem d_La_law_925 : decode k_La_law.code 925 = .ok (.iadd, 1) := by decide +kernel
theorem d_La_law_926 : decode k_La_law.code 926 = .ok (.iaload, 1) := by decide +kernel
theorem d_La_law_927 : decode k_La_law.code 927 = .ok (.aload_n 0, 1) := by decide +kernel
theorem d_La_law_928 : decode k_La_law.code 928 = .ok (.iload 4, 2) := by decide +kernel
theorem d_La_law_930 : decode k_La_law.code 930 = .ok (.iconst 2, 1) := by decide +kernel
theorem d_La_law_931 : decode k_La_law.code 931 = .ok (.iadd, 1) := by decide +kernel
theorem d_La_law_932 : decode k_La_law.code 932 = .ok (.iaload, 1) := by decide +kernel
theorem d_La_law_933 : decode k_La_law.code 933 = .ok (.aload_n 3, 1) := by decide +kernel
theorem s_La_law_934 : SiteS k_La_law k_La_offset 934 4 := ⟨132, by decide +kernel, ⟨kw_La_offset, tx1 0 rfl rfl, by decide, by decide⟩, Or.inl (tx3 125 rfl rfl), tx3 126 rfl rfl, ⟨by decide +kernel, by decide +kernel⟩, np_La_offset⟩
theorem d_La_law_937 : decode k_La_law.code 937 = .ok (.istore 5, 2) := by decide +kernel
theorem d_La_law_939 : decode k_La_law.code 939 = .ok (.aload_n 2, 1) := by decide +kernel
theorem d_La_law_940 : decode k_La_law.code 940 = .ok (.aload_n 0, 1) := by decide +kernel
theorem d_La_law_941 : decode k_La_law.code 941 = .ok (.iload 4, 2) := by decide +kernel
theorem d_La_law_943 : decode k_La_law.code 943 = .ok (.iconst 1, 1) := by decide +kernel
theorem d_La_law_944 : decode k_La_law.code 944 = .ok (.iadd, 1) := by decide +kernel
theorem d_La_law_945 : decode k_La_law.code 945 = .ok (.iaload, 1) := by decide +kernel
theorem d_La_law_946 : decode k_La_law.code 946 = .ok (.aload_n 0, 1) := by decide +kernel
theorem d_La_law_947 : decode k_La_law.code 947 = .ok (.iload 4, 2) := by decide +kernel
theorem d_La_law_949 : decode k_La_law.code 949 = .ok (.iconst 2, 1) := by decide +kernel
theorem d_La_law_950 : decode k_La_law.code 950 = .ok (.iadd, 1) := by decide +kernel
theorem d_La_law_951 : decode k_La_law.code 951 = .ok (.iaload, 1) := by decide +kernel
theorem s_La_law_952 : SiteV k_La_law k_Mo_offset 952 8 2 := ⟨134, (R_Mo, F_Mo, 28), by decide +kernel, ⟨kw_Mo_offset, tx1 10 rfl rfl, by decide, by decide⟩, tx5 19 rfl rfl, tx5 20 rfl rfl, tx5 21 rfl rfl, rfl, ⟨by decide +kernel, by decide +kernel⟩, np_Mo_offset⟩
theorem d_La_law_955 : decode k_La_law.code 955 = .ok (.istore 6, 2) := by decide +kernel
theorem d_La_law_957 : decode k_La_law.code 957 = .ok (.aload_n 2, 1) := by decide +kernel
theorem s_La_law_958 : SiteV k_La_law k_Mo_thrown 958 8 0 := ⟨93, (R_Mo, F_Mo, 28), by decide +kernel, ⟨kw_Mo_thrown, tx1 10 rfl rfl, by decide, by decide⟩, tx4 130 rfl rfl, tx4 131 rfl rfl, tx4 132 rfl rfl, rfl, ⟨by decide +kernel, by decide +kernel⟩, np_Mo_thrown⟩
theorem d_La_law_961 : decode k_La_law.code 961 = .ok (.iload 5, 2) := by decide +kernel
theorem d_La_law_963 : decode k_La_law.code 963 = .ok (.if_icmp .eq 5, 3) := by decide +kernel
theorem d_La_law_966 : decode k_La_law.code 966 = .ok (.iconst 0, 1) := by decide +kernel
theorem d_La_law_967 : decode k_La_law.code 967 = .ok (.ireturn, 1) := by decide +kernel
theorem d_La_law_968 : decode k_La_law.code 968 = .ok (.iload 5, 2) := by decide +kernel
theorem d_La_law_970 : decode k_La_law.code 970 = .ok (.ifCond .ne 15, 3) := by decide +kernel
theorem d_La_law_973 : decode k_La_law.code 973 = .ok (.aload_n 3, 1) := by decide +kernel
theorem d_La_law_974 : decode k_La_law.code 974 = .ok (.iconst 0, 1) := by decide +kernel
theorem d_La_law_975 : decode k_La_law.code 975 = .ok (.laload, 1) := by decide +kernel
theorem d_La_law_976 : decode k_La_law.code 976 = .ok (.iload 6, 2) := by decide +kernel
theorem d_La_law_978 : decode k_La_law.code 978 = .ok (.i2l, 1) := by decide +kernel
theorem d_La_law_979 : decode k_La_law.code 979 = .ok (.lcmp, 1) := by decide +kernel
theorem d_La_law_980 : decode k_La_law.code 980 = .ok (.ifCond .eq 5, 3) := by decide +kernel
theorem d_La_law_983 : decode k_La_law.code 983 = .ok (.iconst 0, 1) := by decide +kernel
theorem d_La_law_984 : decode k_La_law.code 984 = .ok (.ireturn, 1) := by decide +kernel
theorem d_La_law_985 : decode k_La_law.code 985 = .ok (.goto 453, 3) := by decide +kernel
theorem d_La_law_988 : decode k_La_law.code 988 = .ok (.aload_n 1, 1) := by decide +kernel
theorem d_La_law_989 : decode k_La_law.code 989 = .ok (.aload_n 0, 1) := by decide +kernel
theorem d_La_law_990 : decode k_La_law.code 990 = .ok (.iload 4, 2) := by decide +kernel
theorem d_La_law_992 : decode k_La_law.code 992 = .ok (.iconst 1, 1) := by decide +kernel
theorem d_La_law_993 : decode k_La_law.code 993 = .ok (.iadd, 1) := by decide +kernel
theorem d_La_law_994 : decode k_La_law.code 994 = .ok (.iaload, 1) := by decide +kernel
theorem d_La_law_995 : decode k_La_law.code 995 = .ok (.aload_n 3, 1) := by decide +kernel
theorem s_La_law_996 : SiteS k_La_law k_La_miss 996 3 := ⟨135, by decide +kernel, ⟨kw_La_miss, tx1 0 rfl rfl, by decide, by decide⟩, Or.inl (tx3 133 rfl rfl), tx3 134 rfl rfl, ⟨by decide +kernel, by decide +kernel⟩, np_La_miss⟩
theorem d_La_law_999 : decode k_La_law.code 999 = .ok (.istore 5, 2) := by decide +kernel
theorem d_La_law_1001 : decode k_La_law.code 1001 = .ok (.aload_n 2, 1) := by decide +kernel
theorem d_La_law_1002 : decode k_La_law.code 1002 = .ok (.aload_n 0, 1) := by decide +kernel
theorem d_La_law_1003 : decode k_La_law.code 1003 = .ok (.iload 4, 2) := by decide +kernel
theorem d_La_law_1005 : decode k_La_law.code 1005 = .ok (.iconst 1, 1) := by decide +kernel
theorem d_La_law_1006 : decode k_La_law.code 1006 = .ok (.iadd, 1) := by decide +kernel
theorem d_La_law_1007 : decode k_La_law.code 1007 = .ok (.iaload, 1) := by decide +kernel
theorem s_La_law_1008 : SiteV k_La_law k_Mo_miss 1008 8 1 := ⟨137, (R_Mo, F_Mo, 28), by decide +kernel, ⟨kw_Mo_miss, tx1 10 rfl rfl, by decide, by decide⟩, tx5 23 rfl rfl, tx5 24 rfl rfl, tx5 25 rfl rfl, rfl, ⟨by decide +kernel, by decide +kernel⟩, np_Mo_miss⟩
theorem d_La_law_1011 : decode k_La_law.code 1011 = .ok (.lstore 6, 2) := by decide +kernel
theorem d_La_law_1013 : decode k_La_law.code 1013 = .ok (.aload_n 2, 1) := by decide +kernel
theorem s_La_law_1014 : SiteV k_La_law k_Mo_thrown 1014 8 0 := ⟨93, (R_Mo, F_Mo, 28), by decide +kernel, ⟨kw_Mo_thrown, tx1 10 rfl rfl, by decide, by decide⟩, tx4 130 rfl rfl, tx4 131 rfl rfl, tx4 132 rfl rfl, rfl, ⟨by decide +kernel, by decide +kernel⟩, np_Mo_thrown⟩
theorem d_La_law_1017 : decode k_La_law.code 1017 = .ok (.iload 5, 2) := by decide +kernel
theorem d_La_law_1019 : decode k_La_law.code 1019 = .ok (.if_icmp .eq 5, 3) := by decide +kernel
theorem d_La_law_1022 : decode k_La_law.code 1022 = .ok (.iconst 0, 1) := by decide +kernel
theorem d_La_law_1023 : decode k_La_law.code 1023 = .ok (.ireturn, 1) := by decide +kernel
theorem d_La_law_1024 : decode k_La_law.code 1024 = .ok (.iload 5, 2) := by decide +kernel
theorem d_La_law_1026 : decode k_La_law.code 1026 = .ok (.ifCond .ne 14, 3) := by decide +kernel
theorem d_La_law_1029 : decode k_La_law.code 1029 = .ok (.aload_n 3, 1) := by decide +kernel
theorem d_La_law_1030 : decode k_La_law.code 1030 = .ok (.iconst 0, 1) := by decide +kernel
theorem d_La_law_1031 : decode k_La_law.code 1031 = .ok (.laload, 1) := by decide +kernel
theorem d_La_law_1032 : decode k_La_law.code 1032 = .ok (.lload 6, 2) := by decide +kernel
theorem d_La_law_1034 : decode k_La_law.code 1034 = .ok (.lcmp, 1) := by decide +kernel
theorem d_La_law_1035 : decode k_La_law.code 1035 = .ok (.ifCond .eq 5, 3) := by decide +kernel
theorem d_La_law_1038 : decode k_La_law.code 1038 = .ok (.iconst 0, 1) := by decide +kernel
theorem d_La_law_1039 : decode k_La_law.code 1039 = .ok (.ireturn, 1) := by decide +kernel
theorem d_La_law_1040 : decode k_La_law.code 1040 = .ok (.goto 398, 3) := by decide +kernel
theorem d_La_law_1043 : decode k_La_law.code 1043 = .ok (.aload_n 1, 1) := by decide +kernel
theorem d_La_law_1044 : decode k_La_law.code 1044 = .ok (.aload_n 0, 1) := by decide +kernel
theorem d_La_law_1045 : decode k_La_law.code 1045 = .ok (.iload 4, 2) := by decide +kernel
theorem d_La_law_1047 : decode k_La_law.code 1047 = .ok (.iconst 1, 1) := by decide +kernel
theorem d_La_law_1048 : decode k_La_law.code 1048 = .ok (.iadd, 1) := by decide +kernel
theorem d_La_law_1049 : decode k_La_law.code 1049 = .ok (.iaload, 1) := by decide +kernel
theorem d_La_law_1050 : decode k_La_law.code 1050 = .ok (.aload_n 0, 1) := by decide +kernel
theorem d_La_law_1051 : decode k_La_law.code 1051 = .ok (.iload 4, 2) := by decide +kernel
theorem d_La_law_1053 : decode k_La_law.code 1053 = .ok (.iconst 2, 1) := by decide +kernel
theorem d_La_law_1054 : decode k_La_law.code 1054 = .ok (.iadd, 1) := by decide +kernel
theorem d_La_law_1055 : decode k_La_law.code 1055 = .ok (.iaload, 1) := by decide +kernel
theorem d_La_law_1056 : decode k_La_law.code 1056 = .ok (.aload_n 0, 1) := by decide +kernel
theorem d_La_law_1057 : decode k_La_law.code 1057 = .ok (.iload 4, 2) := by decide +kernel
theorem d_La_law_1059 : decode k_La_law.code 1059 = .ok (.iconst 3, 1) := by decide +kernel
theorem d_La_law_1060 : decode k_La_law.code 1060 = .ok (.iadd, 1) := by decide +kernel
theorem d_La_law_1061 : decode k_La_law.code 1061 = .ok (.iaload, 1) := by decide +kernel
theorem d_La_law_1062 : decode k_La_law.code 1062 = .ok (.aload_n 3, 1) := by decide +kernel
theorem s_La_law_1063 : SiteS k_La_law k_La_known 1063 5 := ⟨138, by decide +kernel, ⟨kw_La_known, tx1 0 rfl rfl, by decide, by decide⟩, Or.inl (tx3 141 rfl rfl), tx3 142 rfl rfl, ⟨by decide +kernel, by decide +kernel⟩, np_La_known⟩
theorem d_La_law_1066 : decode k_La_law.code 1066 = .ok (.istore 5, 2) := by decide +kernel
theorem d_La_law_1068 : decode k_La_law.code 1068 = .ok (.aload_n 2, 1) := by decide +kernel
theorem d_La_law_1069 : decode k_La_law.code 1069 = .ok (.aload_n 0, 1) := by decide +kernel
theorem d_La_law_1070 : decode k_La_law.code 1070 = .ok (.iload 4, 2) := by decide +kernel
theorem d_La_law_1072 : decode k_La_law.code 1072 = .ok (.iconst 1, 1) := by decide +kernel
theorem d_La_law_1073 : decode k_La_law.code 1073 = .ok (.iadd, 1) := by decide +kernel
theorem d_La_law_1074 : decode k_La_law.code 1074 = .ok (.iaload, 1) := by decide +kernel
theorem d_La_law_1075 : decode k_La_law.code 1075 = .ok (.aload_n 0, 1) := by decide +kernel
theorem d_La_law_1076 : decode k_La_law.code 1076 = .ok (.iload 4, 2) := by decide +kernel
theorem d_La_law_1078 : decode k_La_law.code 1078 = .ok (.iconst 2, 1) := by decide +kernel
theorem d_La_law_1079 : decode k_La_law.code 1079 = .ok (.iadd, 1) := by decide +kernel
theorem d_La_law_1080 : decode k_La_law.code 1080 = .ok (.iaload, 1) := by decide +kernel
theorem d_La_law_1081 : decode k_La_law.code 1081 = .ok (.aload_n 0, 1) := by decide +kernel
theorem d_La_law_1082 : decode k_La_law.code 1082 = .ok (.iload 4, 2) := by decide +kernel
theorem d_La_law_1084 : decode k_La_law.code 1084 = .ok (.iconst 3, 1) := by decide +kernel
theorem d_La_law_1085 : decode k_La_law.code 1085 = .ok (.iadd, 1) := by decide +kernel
theorem d_La_law_1086 : decode k_La_law.code 1086 = .ok (.iaload, 1) := by decide +kernel
theorem s_La_law_1087 : SiteV k_La_law k_Mo_known 1087 8 3 := ⟨141, (R_Mo, F_Mo, 28), by decide +kernel, ⟨kw_Mo_known, tx1 10 rfl rfl, by decide, by decide⟩, tx5 27 rfl rfl, tx5 28 rfl rfl, tx5 29 rfl rfl, rfl, ⟨by decide +kernel, by decide +kernel⟩, np_Mo_known⟩
theorem d_La_law_1090 : decode k_La_law.code 1090 = .ok (.istore 6, 2) := by decide +kernel
theorem d_La_law_1092 : decode k_La_law.code 1092 = .ok (.aload_n 2, 1) := by decide +kernel
theorem s_La_law_1093 : SiteV k_La_law k_Mo_thrown 1093 8 0 := ⟨93, (R_Mo, F_Mo, 28), by decide +kernel, ⟨kw_Mo_thrown, tx1 10 rfl rfl, by decide, by decide⟩, tx4 130 rfl rfl, tx4 131 rfl rfl, tx4 132 rfl rfl, rfl, ⟨by decide +kernel, by decide +kernel⟩, np_Mo_thrown⟩
theorem d_La_law_1096 : decode k_La_law.code 1096 = .ok (.iload 5, 2) := by decide +kernel
theorem d_La_law_1098 : decode k_La_law.code 1098 = .ok (.if_icmp .eq 5, 3) := by decide +kernel
theorem d_La_law_1101 : decode k_La_law.code 1101 = .ok (.iconst 0, 1) := by decide +kernel
theorem d_La_law_1102 : decode k_La_law.code 1102 = .ok (.ireturn, 1) := by decide +kernel
theorem d_La_law_1103 : decode k_La_law.code 1103 = .ok (.iload 5, 2) := by decide +kernel
theorem d_La_law_1105 : decode k_La_law.code 1105 = .ok (.ifCond .ne 15, 3) := by decide +kernel
theorem d_La_law_1108 : decode k_La_law.code 1108 = .ok (.aload_n 3, 1) := by decide +kernel
theorem d_La_law_1109 : decode k_La_law.code 1109 = .ok (.iconst 0, 1) := by decide +kernel
theorem d_La_law_1110 : decode k_La_law.code 1110 = .ok (.laload, 1) := by decide +kernel
theorem d_La_law_1111 : decode k_La_law.code 1111 = .ok (.iload 6, 2) := by decide +kernel
theorem d_La_law_1113 : decode k_La_law.code 1113 = .ok (.i2l, 1) := by decide +kernel
theorem d_La_law_1114 : decode k_La_law.code 1114 = .ok (.lcmp, 1) := by decide +kernel
theorem d_La_law_1115 : decode k_La_law.code 1115 = .ok (.ifCond .eq 5, 3) := by decide +kernel
theorem d_La_law_1118 : decode k_La_law.code 1118 = .ok (.iconst 0, 1) := by decide +kernel
theorem d_La_law_1119 : decode k_La_law.code 1119 = .ok (.ireturn, 1) := by decide +kernel
theorem d_La_law_1120 : decode k_La_law.code 1120 = .ok (.goto 318, 3) := by decide +kernel
theorem d_La_law_1123 : decode k_La_law.code 1123 = .ok (.aload_n 1, 1) := by decide +kernel
theorem d_La_law_1124 : decode k_La_law.code 1124 = .ok (.aload_n 0, 1) := by decide +kernel
theorem d_La_law_1125 : decode k_La_law.code 1125 = .ok (.iload 4, 2) := by decide +kernel
theorem d_La_law_1127 : decode k_La_law.code 1127 = .ok (.iconst 1, 1) := by decide +kernel
theorem d_La_law_1128 : decode k_La_law.code 1128 = .ok (.iadd, 1) := by decide +kernel
theorem d_La_law_1129 : decode k_La_law.code 1129 = .ok (.iaload, 1) := by decide +kernel
theorem d_La_law_1130 : decode k_La_law.code 1130 = .ok (.aload_n 3, 1) := by decide +kernel
theorem s_La_law_1131 : SiteS k_La_law k_La_scale 1131 3 := ⟨142, by decide +kernel, ⟨kw_La_scale, tx1 0 rfl rfl, by decide, by decide⟩, Or.inl (tx3 156 rfl rfl), tx3 157 rfl rfl, ⟨by decide +kernel, by decide +kernel⟩, np_La_scale⟩
theorem d_La_law_1134 : decode k_La_law.code 1134 = .ok (.istore 5, 2) := by decide +kernel
theorem d_La_law_1136 : decode k_La_law.code 1136 = .ok (.aload_n 2, 1) := by decide +kernel
theorem d_La_law_1137 : decode k_La_law.code 1137 = .ok (.aload_n 0, 1) := by decide +kernel
theorem d_La_law_1138 : decode k_La_law.code 1138 = .ok (.iload 4, 2) := by decide +kernel
theorem d_La_law_1140 : decode k_La_law.code 1140 = .ok (.iconst 1, 1) := by decide +kernel
theorem d_La_law_1141 : decode k_La_law.code 1141 = .ok (.iadd, 1) := by decide +kernel
theorem d_La_law_1142 : decode k_La_law.code 1142 = .ok (.iaload, 1) := by decide +kernel
theorem s_La_law_1143 : SiteV k_La_law k_Mo_scale 1143 8 1 := ⟨144, (R_Mo, F_Mo, 28), by decide +kernel, ⟨kw_Mo_scale, tx1 10 rfl rfl, by decide, by decide⟩, tx5 31 rfl rfl, tx5 32 rfl rfl, tx5 33 rfl rfl, rfl, ⟨by decide +kernel, by decide +kernel⟩, np_Mo_scale⟩
theorem d_La_law_1146 : decode k_La_law.code 1146 = .ok (.lstore 6, 2) := by decide +kernel
theorem d_La_law_1148 : decode k_La_law.code 1148 = .ok (.aload_n 2, 1) := by decide +kernel
theorem s_La_law_1149 : SiteV k_La_law k_Mo_thrown 1149 8 0 := ⟨93, (R_Mo, F_Mo, 28), by decide +kernel, ⟨kw_Mo_thrown, tx1 10 rfl rfl, by decide, by decide⟩, tx4 130 rfl rfl, tx4 131 rfl rfl, tx4 132 rfl rfl, rfl, ⟨by decide +kernel, by decide +kernel⟩, np_Mo_thrown⟩
theorem d_La_law_1152 : decode k_La_law.code 1152 = .ok (.iload 5, 2) := by decide +kernel
theorem d_La_law_1154 : decode k_La_law.code 1154 = .ok (.if_icmp .eq 5, 3) := by decide +kernel
