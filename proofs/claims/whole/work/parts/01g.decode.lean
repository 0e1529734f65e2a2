theorem d_Md_count_0 : decode b_Md_count 0 = .ok (.iload_n 1, 1) := by decide +kernel
theorem d_Md_count_1 : decode b_Md_count 1 = .ok (.ifCond .lt 8, 3) := by decide +kernel
theorem d_Md_count_4 : decode b_Md_count 4 = .ok (.iload_n 1, 1) := by decide +kernel
theorem d_Md_count_5 : decode b_Md_count 5 = .ok (.iconst 5, 1) := by decide +kernel
theorem d_Md_count_6 : decode b_Md_count 6 = .ok (.if_icmp .le 7, 3) := by decide +kernel
theorem d_Md_count_9 : decode b_Md_count 9 = .ok (.iconst (-1), 1) := by decide +kernel
theorem d_Md_count_10 : decode b_Md_count 10 = .ok (.goto 9, 3) := by decide +kernel
theorem d_Md_count_13 : decode b_Md_count 13 = .ok (.aload_n 0, 1) := by decide +kernel
theorem d_Md_count_14 : decode b_Md_count 14 = .ok (.getfield 38, 3) := by decide +kernel
theorem d_Md_count_17 : decode b_Md_count 17 = .ok (.iload_n 1, 1) := by decide +kernel
theorem d_Md_count_18 : decode b_Md_count 18 = .ok (.iaload, 1) := by decide +kernel
theorem d_Md_count_19 : decode b_Md_count 19 = .ok (.ireturn, 1) := by decide +kernel
theorem d_Lw_cell_0 : decode b_Lw_cell 0 = .ok (.iload_n 1, 1) := by decide +kernel
theorem d_Lw_cell_1 : decode b_Lw_cell 1 = .ok (.aload_n 0, 1) := by decide +kernel
theorem d_Lw_cell_2 : decode b_Lw_cell 2 = .ok (.arraylength, 1) := by decide +kernel
theorem d_Lw_cell_3 : decode b_Lw_cell 3 = .ok (.if_icmp .ge 9, 3) := by decide +kernel
theorem d_Lw_cell_6 : decode b_Lw_cell 6 = .ok (.aload_n 0, 1) := by decide +kernel
theorem d_Lw_cell_7 : decode b_Lw_cell 7 = .ok (.iload_n 1, 1) := by decide +kernel
theorem d_Lw_cell_8 : decode b_Lw_cell 8 = .ok (.iaload, 1) := by decide +kernel
theorem d_Lw_cell_9 : decode b_Lw_cell 9 = .ok (.goto 4, 3) := by decide +kernel
theorem d_Lw_cell_12 : decode b_Lw_cell 12 = .ok (.iconst 0, 1) := by decide +kernel
theorem d_Lw_cell_13 : decode b_Lw_cell 13 = .ok (.ireturn, 1) := by decide +kernel
theorem d_Lw_law_0 : decode b_Lw_law 0 = .ok (.new 7, 3) := by decide +kernel
theorem d_Lw_law_3 : decode b_Lw_law 3 = .ok (.dup, 1) := by decide +kernel
theorem d_Lw_law_4 : decode b_Lw_law 4 = .ok (.aload_n 0, 1) := by decide +kernel
theorem d_Lw_law_5 : decode b_Lw_law 5 = .ok (.iconst 0, 1) := by decide +kernel
theorem d_Lw_law_6 : decode b_Lw_law 6 = .ok (.invokestatic 9, 3) := by decide +kernel
theorem d_Lw_law_9 : decode b_Lw_law 9 = .ok (.aload_n 0, 1) := by decide +kernel
theorem d_Lw_law_10 : decode b_Lw_law 10 = .ok (.iconst 1, 1) := by decide +kernel
theorem d_Lw_law_11 : decode b_Lw_law 11 = .ok (.invokestatic 9, 3) := by decide +kernel
theorem d_Lw_law_14 : decode b_Lw_law 14 = .ok (.aload_n 0, 1) := by decide +kernel
theorem d_Lw_law_15 : decode b_Lw_law 15 = .ok (.iconst 2, 1) := by decide +kernel
theorem d_Lw_law_16 : decode b_Lw_law 16 = .ok (.invokestatic 9, 3) := by decide +kernel
theorem d_Lw_law_19 : decode b_Lw_law 19 = .ok (.invokespecial 15, 3) := by decide +kernel
theorem d_Lw_law_22 : decode b_Lw_law 22 = .ok (.astore_n 1, 1) := by decide +kernel
theorem d_Lw_law_23 : decode b_Lw_law 23 = .ok (.new 18, 3) := by decide +kernel
theorem d_Lw_law_26 : decode b_Lw_law 26 = .ok (.dup, 1) := by decide +kernel
theorem d_Lw_law_27 : decode b_Lw_law 27 = .ok (.aload_n 0, 1) := by decide +kernel
theorem d_Lw_law_28 : decode b_Lw_law 28 = .ok (.iconst 0, 1) := by decide +kernel
theorem d_Lw_law_29 : decode b_Lw_law 29 = .ok (.invokestatic 9, 3) := by decide +kernel
theorem d_Lw_law_32 : decode b_Lw_law 32 = .ok (.aload_n 0, 1) := by decide +kernel
theorem d_Lw_law_33 : decode b_Lw_law 33 = .ok (.iconst 1, 1) := by decide +kernel
theorem d_Lw_law_34 : decode b_Lw_law 34 = .ok (.invokestatic 9, 3) := by decide +kernel
theorem d_Lw_law_37 : decode b_Lw_law 37 = .ok (.aload_n 0, 1) := by decide +kernel
theorem d_Lw_law_38 : decode b_Lw_law 38 = .ok (.iconst 2, 1) := by decide +kernel
theorem d_Lw_law_39 : decode b_Lw_law 39 = .ok (.invokestatic 9, 3) := by decide +kernel
theorem d_Lw_law_42 : decode b_Lw_law 42 = .ok (.invokespecial 20, 3) := by decide +kernel
theorem d_Lw_law_45 : decode b_Lw_law 45 = .ok (.astore_n 2, 1) := by decide +kernel
theorem d_Lw_law_46 : decode b_Lw_law 46 = .ok (.iconst 3, 1) := by decide +kernel
theorem d_Lw_law_47 : decode b_Lw_law 47 = .ok (.istore_n 3, 1) := by decide +kernel
theorem d_Lw_law_48 : decode b_Lw_law 48 = .ok (.iload_n 3, 1) := by decide +kernel
theorem d_Lw_law_49 : decode b_Lw_law 49 = .ok (.aload_n 0, 1) := by decide +kernel
theorem d_Lw_law_50 : decode b_Lw_law 50 = .ok (.arraylength, 1) := by decide +kernel
theorem d_Lw_law_51 : decode b_Lw_law 51 = .ok (.iconst 4, 1) := by decide +kernel
theorem d_Lw_law_52 : decode b_Lw_law 52 = .ok (.isub, 1) := by decide +kernel
theorem d_Lw_law_53 : decode b_Lw_law 53 = .ok (.if_icmp .gt 609, 3) := by decide +kernel
theorem d_Lw_law_56 : decode b_Lw_law 56 = .ok (.aload_n 0, 1) := by decide +kernel
theorem d_Lw_law_57 : decode b_Lw_law 57 = .ok (.iload_n 3, 1) := by decide +kernel
theorem d_Lw_law_58 : decode b_Lw_law 58 = .ok (.iaload, 1) := by decide +kernel
theorem d_Lw_law_59 : decode b_Lw_law 59 = .ok (.bipush 31, 2) := by decide +kernel
theorem d_Lw_law_61 : decode b_Lw_law 61 = .ok (.iand, 1) := by decide +kernel
theorem d_Lw_law_62 : decode b_Lw_law 62 = .ok (.tableswitch 594 0 19 #[94, 137, 160, 193, 226, 249, 272, 295, 318, 331, 354, 377, 400, 423, 446, 469, 502, 535, 548, 571], 94) := by decide +kernel
theorem d_Lw_law_156 : decode b_Lw_law 156 = .ok (.aload_n 1, 1) := by decide +kernel
theorem d_Lw_law_157 : decode b_Lw_law 157 = .ok (.aload_n 0, 1) := by decide +kernel
theorem d_Lw_law_158 : decode b_Lw_law 158 = .ok (.iload_n 3, 1) := by decide +kernel
theorem d_Lw_law_159 : decode b_Lw_law 159 = .ok (.iconst 1, 1) := by decide +kernel
theorem d_Lw_law_160 : decode b_Lw_law 160 = .ok (.iadd, 1) := by decide +kernel
theorem d_Lw_law_161 : decode b_Lw_law 161 = .ok (.iaload, 1) := by decide +kernel
theorem d_Lw_law_162 : decode b_Lw_law 162 = .ok (.aload_n 0, 1) := by decide +kernel
theorem d_Lw_law_163 : decode b_Lw_law 163 = .ok (.iload_n 3, 1) := by decide +kernel
theorem d_Lw_law_164 : decode b_Lw_law 164 = .ok (.iconst 2, 1) := by decide +kernel
theorem d_Lw_law_165 : decode b_Lw_law 165 = .ok (.iadd, 1) := by decide +kernel
theorem d_Lw_law_166 : decode b_Lw_law 166 = .ok (.iaload, 1) := by decide +kernel
theorem d_Lw_law_167 : decode b_Lw_law 167 = .ok (.aload_n 0, 1) := by decide +kernel
theorem d_Lw_law_168 : decode b_Lw_law 168 = .ok (.iload_n 3, 1) := by decide +kernel
theorem d_Lw_law_169 : decode b_Lw_law 169 = .ok (.iconst 3, 1) := by decide +kernel
theorem d_Lw_law_170 : decode b_Lw_law 170 = .ok (.iadd, 1) := by decide +kernel
theorem d_Lw_law_171 : decode b_Lw_law 171 = .ok (.iaload, 1) := by decide +kernel
theorem d_Lw_law_172 : decode b_Lw_law 172 = .ok (.invokevirtual 21, 3) := by decide +kernel
theorem d_Lw_law_175 : decode b_Lw_law 175 = .ok (.aload_n 2, 1) := by decide +kernel
theorem d_Lw_law_176 : decode b_Lw_law 176 = .ok (.aload_n 0, 1) := by decide +kernel
theorem d_Lw_law_177 : decode b_Lw_law 177 = .ok (.iload_n 3, 1) := by decide +kernel
theorem d_Lw_law_178 : decode b_Lw_law 178 = .ok (.iconst 1, 1) := by decide +kernel
theorem d_Lw_law_179 : decode b_Lw_law 179 = .ok (.iadd, 1) := by decide +kernel
theorem d_Lw_law_180 : decode b_Lw_law 180 = .ok (.iaload, 1) := by decide +kernel
theorem d_Lw_law_181 : decode b_Lw_law 181 = .ok (.aload_n 0, 1) := by decide +kernel
theorem d_Lw_law_182 : decode b_Lw_law 182 = .ok (.iload_n 3, 1) := by decide +kernel
theorem d_Lw_law_183 : decode b_Lw_law 183 = .ok (.iconst 2, 1) := by decide +kernel
theorem d_Lw_law_184 : decode b_Lw_law 184 = .ok (.iadd, 1) := by decide +kernel
theorem d_Lw_law_185 : decode b_Lw_law 185 = .ok (.iaload, 1) := by decide +kernel
theorem d_Lw_law_186 : decode b_Lw_law 186 = .ok (.aload_n 0, 1) := by decide +kernel
theorem d_Lw_law_187 : decode b_Lw_law 187 = .ok (.iload_n 3, 1) := by decide +kernel
theorem d_Lw_law_188 : decode b_Lw_law 188 = .ok (.iconst 3, 1) := by decide +kernel
theorem d_Lw_law_189 : decode b_Lw_law 189 = .ok (.iadd, 1) := by decide +kernel
theorem d_Lw_law_190 : decode b_Lw_law 190 = .ok (.iaload, 1) := by decide +kernel
theorem d_Lw_law_191 : decode b_Lw_law 191 = .ok (.invokevirtual 25, 3) := by decide +kernel
theorem d_Lw_law_194 : decode b_Lw_law 194 = .ok (.if_icmp .eq 462, 3) := by decide +kernel
theorem d_Lw_law_197 : decode b_Lw_law 197 = .ok (.iconst 0, 1) := by decide +kernel
theorem d_Lw_law_198 : decode b_Lw_law 198 = .ok (.ireturn, 1) := by decide +kernel
theorem d_Lw_law_199 : decode b_Lw_law 199 = .ok (.aload_n 1, 1) := by decide +kernel
theorem d_Lw_law_200 : decode b_Lw_law 200 = .ok (.aload_n 0, 1) := by decide +kernel
theorem d_Lw_law_201 : decode b_Lw_law 201 = .ok (.iload_n 3, 1) := by decide +kernel
theorem d_Lw_law_202 : decode b_Lw_law 202 = .ok (.iconst 1, 1) := by decide +kernel
theorem d_Lw_law_203 : decode b_Lw_law 203 = .ok (.iadd, 1) := by decide +kernel
theorem d_Lw_law_204 : decode b_Lw_law 204 = .ok (.iaload, 1) := by decide +kernel
theorem d_Lw_law_205 : decode b_Lw_law 205 = .ok (.invokevirtual 26, 3) := by decide +kernel
theorem d_Lw_law_208 : decode b_Lw_law 208 = .ok (.aload_n 2, 1) := by decide +kernel
theorem d_Lw_law_209 : decode b_Lw_law 209 = .ok (.aload_n 0, 1) := by decide +kernel
theorem d_Lw_law_210 : decode b_Lw_law 210 = .ok (.iload_n 3, 1) := by decide +kernel
theorem d_Lw_law_211 : decode b_Lw_law 211 = .ok (.iconst 1, 1) := by decide +kernel
theorem d_Lw_law_212 : decode b_Lw_law 212 = .ok (.iadd, 1) := by decide +kernel
theorem d_Lw_law_213 : decode b_Lw_law 213 = .ok (.iaload, 1) := by decide +kernel
theorem d_Lw_law_214 : decode b_Lw_law 214 = .ok (.invokevirtual 30, 3) := by decide +kernel
theorem d_Lw_law_217 : decode b_Lw_law 217 = .ok (.if_icmp .eq 439, 3) := by decide +kernel
theorem d_Lw_law_220 : decode b_Lw_law 220 = .ok (.iconst 0, 1) := by decide +kernel
theorem d_Lw_law_221 : decode b_Lw_law 221 = .ok (.ireturn, 1) := by decide +kernel
theorem d_Lw_law_222 : decode b_Lw_law 222 = .ok (.aload_n 1, 1) := by decide +kernel
theorem d_Lw_law_223 : decode b_Lw_law 223 = .ok (.aload_n 0, 1) := by decide +kernel
theorem d_Lw_law_224 : decode b_Lw_law 224 = .ok (.iload_n 3, 1) := by decide +kernel
theorem d_Lw_law_225 : decode b_Lw_law 225 = .ok (.iconst 1, 1) := by decide +kernel
theorem d_Lw_law_226 : decode b_Lw_law 226 = .ok (.iadd, 1) := by decide +kernel
theorem d_Lw_law_227 : decode b_Lw_law 227 = .ok (.iaload, 1) := by decide +kernel
theorem d_Lw_law_228 : decode b_Lw_law 228 = .ok (.aload_n 0, 1) := by decide +kernel
theorem d_Lw_law_229 : decode b_Lw_law 229 = .ok (.iload_n 3, 1) := by decide +kernel
theorem d_Lw_law_230 : decode b_Lw_law 230 = .ok (.iconst 2, 1) := by decide +kernel
theorem d_Lw_law_231 : decode b_Lw_law 231 = .ok (.iadd, 1) := by decide +kernel
theorem d_Lw_law_232 : decode b_Lw_law 232 = .ok (.iaload, 1) := by decide +kernel
theorem d_Lw_law_233 : decode b_Lw_law 233 = .ok (.invokevirtual 31, 3) := by decide +kernel
theorem d_Lw_law_236 : decode b_Lw_law 236 = .ok (.aload_n 2, 1) := by decide +kernel
theorem d_Lw_law_237 : decode b_Lw_law 237 = .ok (.aload_n 0, 1) := by decide +kernel
theorem d_Lw_law_238 : decode b_Lw_law 238 = .ok (.iload_n 3, 1) := by decide +kernel
theorem d_Lw_law_239 : decode b_Lw_law 239 = .ok (.iconst 1, 1) := by decide +kernel
theorem d_Lw_law_240 : decode b_Lw_law 240 = .ok (.iadd, 1) := by decide +kernel
theorem d_Lw_law_241 : decode b_Lw_law 241 = .ok (.iaload, 1) := by decide +kernel
theorem d_Lw_law_242 : decode b_Lw_law 242 = .ok (.aload_n 0, 1) := by decide +kernel
theorem d_Lw_law_243 : decode b_Lw_law 243 = .ok (.iload_n 3, 1) := by decide +kernel
theorem d_Lw_law_244 : decode b_Lw_law 244 = .ok (.iconst 2, 1) := by decide +kernel
theorem d_Lw_law_245 : decode b_Lw_law 245 = .ok (.iadd, 1) := by decide +kernel
theorem d_Lw_law_246 : decode b_Lw_law 246 = .ok (.iaload, 1) := by decide +kernel
theorem d_Lw_law_247 : decode b_Lw_law 247 = .ok (.invokevirtual 35, 3) := by decide +kernel
theorem d_Lw_law_250 : decode b_Lw_law 250 = .ok (.if_icmp .eq 406, 3) := by decide +kernel
theorem d_Lw_law_253 : decode b_Lw_law 253 = .ok (.iconst 0, 1) := by decide +kernel
theorem d_Lw_law_254 : decode b_Lw_law 254 = .ok (.ireturn, 1) := by decide +kernel
theorem d_Lw_law_255 : decode b_Lw_law 255 = .ok (.aload_n 1, 1) := by decide +kernel
theorem d_Lw_law_256 : decode b_Lw_law 256 = .ok (.aload_n 0, 1) := by decide +kernel
theorem d_Lw_law_257 : decode b_Lw_law 257 = .ok (.iload_n 3, 1) := by decide +kernel
theorem d_Lw_law_258 : decode b_Lw_law 258 = .ok (.iconst 1, 1) := by decide +kernel
theorem d_Lw_law_259 : decode b_Lw_law 259 = .ok (.iadd, 1) := by decide +kernel
theorem d_Lw_law_260 : decode b_Lw_law 260 = .ok (.iaload, 1) := by decide +kernel
theorem d_Lw_law_261 : decode b_Lw_law 261 = .ok (.aload_n 0, 1) := by decide +kernel
theorem d_Lw_law_262 : decode b_Lw_law 262 = .ok (.iload_n 3, 1) := by decide +kernel
theorem d_Lw_law_263 : decode b_Lw_law 263 = .ok (.iconst 2, 1) := by decide +kernel
theorem d_Lw_law_264 : decode b_Lw_law 264 = .ok (.iadd, 1) := by decide +kernel
theorem d_Lw_law_265 : decode b_Lw_law 265 = .ok (.iaload, 1) := by decide +kernel
theorem d_Lw_law_266 : decode b_Lw_law 266 = .ok (.invokevirtual 36, 3) := by decide +kernel
theorem d_Lw_law_269 : decode b_Lw_law 269 = .ok (.aload_n 2, 1) := by decide +kernel
theorem d_Lw_law_270 : decode b_Lw_law 270 = .ok (.aload_n 0, 1) := by decide +kernel
theorem d_Lw_law_271 : decode b_Lw_law 271 = .ok (.iload_n 3, 1) := by decide +kernel
theorem d_Lw_law_272 : decode b_Lw_law 272 = .ok (.iconst 1, 1) := by decide +kernel
theorem d_Lw_law_273 : decode b_Lw_law 273 = .ok (.iadd, 1) := by decide +kernel
theorem d_Lw_law_274 : decode b_Lw_law 274 = .ok (.iaload, 1) := by decide +kernel
theorem d_Lw_law_275 : decode b_Lw_law 275 = .ok (.aload_n 0, 1) := by decide +kernel
theorem d_Lw_law_276 : decode b_Lw_law 276 = .ok (.iload_n 3, 1) := by decide +kernel
theorem d_Lw_law_277 : decode b_Lw_law 277 = .ok (.iconst 2, 1) := by decide +kernel
theorem d_Lw_law_278 : decode b_Lw_law 278 = .ok (.iadd, 1) := by decide +kernel
theorem d_Lw_law_279 : decode b_Lw_law 279 = .ok (.iaload, 1) := by decide +kernel
theorem d_Lw_law_280 : decode b_Lw_law 280 = .ok (.invokevirtual 40, 3) := by decide +kernel
theorem d_Lw_law_283 : decode b_Lw_law 283 = .ok (.if_icmp .eq 373, 3) := by decide +kernel
theorem d_Lw_law_286 : decode b_Lw_law 286 = .ok (.iconst 0, 1) := by decide +kernel
theorem d_Lw_law_287 : decode b_Lw_law 287 = .ok (.ireturn, 1) := by decide +kernel
theorem d_Lw_law_288 : decode b_Lw_law 288 = .ok (.aload_n 1, 1) := by decide +kernel
theorem d_Lw_law_289 : decode b_Lw_law 289 = .ok (.aload_n 0, 1) := by decide +kernel
theorem d_Lw_law_290 : decode b_Lw_law 290 = .ok (.iload_n 3, 1) := by decide +kernel
theorem d_Lw_law_291 : decode b_Lw_law 291 = .ok (.iconst 1, 1) := by decide +kernel
theorem d_Lw_law_292 : decode b_Lw_law 292 = .ok (.iadd, 1) := by decide +kernel
theorem d_Lw_law_293 : decode b_Lw_law 293 = .ok (.iaload, 1) := by decide +kernel
theorem d_Lw_law_294 : decode b_Lw_law 294 = .ok (.invokevirtual 41, 3) := by decide +kernel
theorem d_Lw_law_297 : decode b_Lw_law 297 = .ok (.aload_n 2, 1) := by decide +kernel
theorem d_Lw_law_298 : decode b_Lw_law 298 = .ok (.aload_n 0, 1) := by decide +kernel
theorem d_Lw_law_299 : decode b_Lw_law 299 = .ok (.iload_n 3, 1) := by decide +kernel
theorem d_Lw_law_300 : decode b_Lw_law 300 = .ok (.iconst 1, 1) := by decide +kernel
theorem d_Lw_law_301 : decode b_Lw_law 301 = .ok (.iadd, 1) := by decide +kernel
theorem d_Lw_law_302 : decode b_Lw_law 302 = .ok (.iaload, 1) := by decide +kernel
theorem d_Lw_law_303 : decode b_Lw_law 303 = .ok (.invokevirtual 45, 3) := by decide +kernel
theorem d_Lw_law_306 : decode b_Lw_law 306 = .ok (.if_icmp .eq 350, 3) := by decide +kernel
theorem d_Lw_law_309 : decode b_Lw_law 309 = .ok (.iconst 0, 1) := by decide +kernel
theorem d_Lw_law_310 : decode b_Lw_law 310 = .ok (.ireturn, 1) := by decide +kernel
theorem d_Lw_law_311 : decode b_Lw_law 311 = .ok (.aload_n 1, 1) := by decide +kernel
theorem d_Lw_law_312 : decode b_Lw_law 312 = .ok (.aload_n 0, 1) := by decide +kernel
theorem d_Lw_law_313 : decode b_Lw_law 313 = .ok (.iload_n 3, 1) := by decide +kernel
theorem d_Lw_law_314 : decode b_Lw_law 314 = .ok (.iconst 1, 1) := by decide +kernel
theorem d_Lw_law_315 : decode b_Lw_law 315 = .ok (.iadd, 1) := by decide +kernel
theorem d_Lw_law_316 : decode b_Lw_law 316 = .ok (.iaload, 1) := by decide +kernel
theorem d_Lw_law_317 : decode b_Lw_law 317 = .ok (.invokevirtual 46, 3) := by decide +kernel
theorem d_Lw_law_320 : decode b_Lw_law 320 = .ok (.aload_n 2, 1) := by decide +kernel
theorem d_Lw_law_321 : decode b_Lw_law 321 = .ok (.aload_n 0, 1) := by decide +kernel
theorem d_Lw_law_322 : decode b_Lw_law 322 = .ok (.iload_n 3, 1) := by decide +kernel
theorem d_Lw_law_323 : decode b_Lw_law 323 = .ok (.iconst 1, 1) := by decide +kernel
theorem d_Lw_law_324 : decode b_Lw_law 324 = .ok (.iadd, 1) := by decide +kernel
theorem d_Lw_law_325 : decode b_Lw_law 325 = .ok (.iaload, 1) := by decide +kernel
theorem d_Lw_law_326 : decode b_Lw_law 326 = .ok (.invokevirtual 49, 3) := by decide +kernel
theorem d_Lw_law_329 : decode b_Lw_law 329 = .ok (.if_icmp .eq 327, 3) := by decide +kernel
theorem d_Lw_law_332 : decode b_Lw_law 332 = .ok (.iconst 0, 1) := by decide +kernel
theorem d_Lw_law_333 : decode b_Lw_law 333 = .ok (.ireturn, 1) := by decide +kernel
theorem d_Lw_law_334 : decode b_Lw_law 334 = .ok (.aload_n 1, 1) := by decide +kernel
theorem d_Lw_law_335 : decode b_Lw_law 335 = .ok (.aload_n 0, 1) := by decide +kernel
theorem d_Lw_law_336 : decode b_Lw_law 336 = .ok (.iload_n 3, 1) := by decide +kernel
theorem d_Lw_law_337 : decode b_Lw_law 337 = .ok (.iconst 1, 1) := by decide +kernel
theorem d_Lw_law_338 : decode b_Lw_law 338 = .ok (.iadd, 1) := by decide +kernel
theorem d_Lw_law_339 : decode b_Lw_law 339 = .ok (.iaload, 1) := by decide +kernel
theorem d_Lw_law_340 : decode b_Lw_law 340 = .ok (.invokevirtual 50, 3) := by decide +kernel
theorem d_Lw_law_343 : decode b_Lw_law 343 = .ok (.aload_n 2, 1) := by decide +kernel
theorem d_Lw_law_344 : decode b_Lw_law 344 = .ok (.aload_n 0, 1) := by decide +kernel
theorem d_Lw_law_345 : decode b_Lw_law 345 = .ok (.iload_n 3, 1) := by decide +kernel
theorem d_Lw_law_346 : decode b_Lw_law 346 = .ok (.iconst 1, 1) := by decide +kernel
theorem d_Lw_law_347 : decode b_Lw_law 347 = .ok (.iadd, 1) := by decide +kernel
theorem d_Lw_law_348 : decode b_Lw_law 348 = .ok (.iaload, 1) := by decide +kernel
theorem d_Lw_law_349 : decode b_Lw_law 349 = .ok (.invokevirtual 53, 3) := by decide +kernel
theorem d_Lw_law_352 : decode b_Lw_law 352 = .ok (.if_icmp .eq 304, 3) := by decide +kernel
theorem d_Lw_law_355 : decode b_Lw_law 355 = .ok (.iconst 0, 1) := by decide +kernel
theorem d_Lw_law_356 : decode b_Lw_law 356 = .ok (.ireturn, 1) := by decide +kernel
theorem d_Lw_law_357 : decode b_Lw_law 357 = .ok (.aload_n 1, 1) := by decide +kernel
theorem d_Lw_law_358 : decode b_Lw_law 358 = .ok (.aload_n 0, 1) := by decide +kernel
theorem d_Lw_law_359 : decode b_Lw_law 359 = .ok (.iload_n 3, 1) := by decide +kernel
theorem d_Lw_law_360 : decode b_Lw_law 360 = .ok (.iconst 1, 1) := by decide +kernel
theorem d_Lw_law_361 : decode b_Lw_law 361 = .ok (.iadd, 1) := by decide +kernel
theorem d_Lw_law_362 : decode b_Lw_law 362 = .ok (.iaload, 1) := by decide +kernel
theorem d_Lw_law_363 : decode b_Lw_law 363 = .ok (.invokevirtual 54, 3) := by decide +kernel
theorem d_Lw_law_366 : decode b_Lw_law 366 = .ok (.aload_n 2, 1) := by decide +kernel
theorem d_Lw_law_367 : decode b_Lw_law 367 = .ok (.aload_n 0, 1) := by decide +kernel
theorem d_Lw_law_368 : decode b_Lw_law 368 = .ok (.iload_n 3, 1) := by decide +kernel
theorem d_Lw_law_369 : decode b_Lw_law 369 = .ok (.iconst 1, 1) := by decide +kernel
theorem d_Lw_law_370 : decode b_Lw_law 370 = .ok (.iadd, 1) := by decide +kernel
theorem d_Lw_law_371 : decode b_Lw_law 371 = .ok (.iaload, 1) := by decide +kernel
theorem d_Lw_law_372 : decode b_Lw_law 372 = .ok (.invokevirtual 57, 3) := by decide +kernel
theorem d_Lw_law_375 : decode b_Lw_law 375 = .ok (.if_icmp .eq 281, 3) := by decide +kernel
theorem d_Lw_law_378 : decode b_Lw_law 378 = .ok (.iconst 0, 1) := by decide +kernel
theorem d_Lw_law_379 : decode b_Lw_law 379 = .ok (.ireturn, 1) := by decide +kernel
theorem d_Lw_law_380 : decode b_Lw_law 380 = .ok (.aload_n 1, 1) := by decide +kernel
theorem d_Lw_law_381 : decode b_Lw_law 381 = .ok (.invokevirtual 58, 3) := by decide +kernel
theorem d_Lw_law_384 : decode b_Lw_law 384 = .ok (.aload_n 2, 1) := by decide +kernel
theorem d_Lw_law_385 : decode b_Lw_law 385 = .ok (.invokevirtual 62, 3) := by decide +kernel
theorem d_Lw_law_388 : decode b_Lw_law 388 = .ok (.if_icmp .eq 268, 3) := by decide +kernel
theorem d_Lw_law_391 : decode b_Lw_law 391 = .ok (.iconst 0, 1) := by decide +kernel
theorem d_Lw_law_392 : decode b_Lw_law 392 = .ok (.ireturn, 1) := by decide +kernel
theorem d_Lw_law_393 : decode b_Lw_law 393 = .ok (.aload_n 1, 1) := by decide +kernel
theorem d_Lw_law_394 : decode b_Lw_law 394 = .ok (.aload_n 0, 1) := by decide +kernel
theorem d_Lw_law_395 : decode b_Lw_law 395 = .ok (.iload_n 3, 1) := by decide +kernel
theorem d_Lw_law_396 : decode b_Lw_law 396 = .ok (.iconst 1, 1) := by decide +kernel
theorem d_Lw_law_397 : decode b_Lw_law 397 = .ok (.iadd, 1) := by decide +kernel
theorem d_Lw_law_398 : decode b_Lw_law 398 = .ok (.iaload, 1) := by decide +kernel
theorem d_Lw_law_399 : decode b_Lw_law 399 = .ok (.invokevirtual 63, 3) := by decide +kernel
theorem d_Lw_law_402 : decode b_Lw_law 402 = .ok (.aload_n 2, 1) := by decide +kernel
theorem d_Lw_law_403 : decode b_Lw_law 403 = .ok (.aload_n 0, 1) := by decide +kernel
theorem d_Lw_law_404 : decode b_Lw_law 404 = .ok (.iload_n 3, 1) := by decide +kernel
theorem d_Lw_law_405 : decode b_Lw_law 405 = .ok (.iconst 1, 1) := by decide +kernel
theorem d_Lw_law_406 : decode b_Lw_law 406 = .ok (.iadd, 1) := by decide +kernel
theorem d_Lw_law_407 : decode b_Lw_law 407 = .ok (.iaload, 1) := by decide +kernel
theorem d_Lw_law_408 : decode b_Lw_law 408 = .ok (.invokevirtual 66, 3) := by decide +kernel
theorem d_Lw_law_411 : decode b_Lw_law 411 = .ok (.if_icmp .eq 245, 3) := by decide +kernel
theorem d_Lw_law_414 : decode b_Lw_law 414 = .ok (.iconst 0, 1) := by decide +kernel
theorem d_Lw_law_415 : decode b_Lw_law 415 = .ok (.ireturn, 1) := by decide +kernel
theorem d_Lw_law_416 : decode b_Lw_law 416 = .ok (.aload_n 1, 1) := by decide +kernel
theorem d_Lw_law_417 : decode b_Lw_law 417 = .ok (.aload_n 0, 1) := by decide +kernel
theorem d_Lw_law_418 : decode b_Lw_law 418 = .ok (.iload_n 3, 1) := by decide +kernel
theorem d_Lw_law_419 : decode b_Lw_law 419 = .ok (.iconst 1, 1) := by decide +kernel
theorem d_Lw_law_420 : decode b_Lw_law 420 = .ok (.iadd, 1) := by decide +kernel
theorem d_Lw_law_421 : decode b_Lw_law 421 = .ok (.iaload, 1) := by decide +kernel
theorem d_Lw_law_422 : decode b_Lw_law 422 = .ok (.invokevirtual 67, 3) := by decide +kernel
theorem d_Lw_law_425 : decode b_Lw_law 425 = .ok (.aload_n 2, 1) := by decide +kernel
theorem d_Lw_law_426 : decode b_Lw_law 426 = .ok (.aload_n 0, 1) := by decide +kernel
theorem d_Lw_law_427 : decode b_Lw_law 427 = .ok (.iload_n 3, 1) := by decide +kernel
theorem d_Lw_law_428 : decode b_Lw_law 428 = .ok (.iconst 1, 1) := by decide +kernel
theorem d_Lw_law_429 : decode b_Lw_law 429 = .ok (.iadd, 1) := by decide +kernel
theorem d_Lw_law_430 : decode b_Lw_law 430 = .ok (.iaload, 1) := by decide +kernel
theorem d_Lw_law_431 : decode b_Lw_law 431 = .ok (.invokevirtual 70, 3) := by decide +kernel
theorem d_Lw_law_434 : decode b_Lw_law 434 = .ok (.if_icmp .eq 222, 3) := by decide +kernel
theorem d_Lw_law_437 : decode b_Lw_law 437 = .ok (.iconst 0, 1) := by decide +kernel
theorem d_Lw_law_438 : decode b_Lw_law 438 = .ok (.ireturn, 1) := by decide +kernel
theorem d_Lw_law_439 : decode b_Lw_law 439 = .ok (.aload_n 1, 1) := by decide +kernel
theorem d_Lw_law_440 : decode b_Lw_law 440 = .ok (.aload_n 0, 1) := by decide +kernel
theorem d_Lw_law_441 : decode b_Lw_law 441 = .ok (.iload_n 3, 1) := by decide +kernel
theorem d_Lw_law_442 : decode b_Lw_law 442 = .ok (.iconst 1, 1) := by decide +kernel
theorem d_Lw_law_443 : decode b_Lw_law 443 = .ok (.iadd, 1) := by decide +kernel
theorem d_Lw_law_444 : decode b_Lw_law 444 = .ok (.iaload, 1) := by decide +kernel
theorem d_Lw_law_445 : decode b_Lw_law 445 = .ok (.invokevirtual 71, 3) := by decide +kernel
theorem d_Lw_law_448 : decode b_Lw_law 448 = .ok (.aload_n 2, 1) := by decide +kernel
theorem d_Lw_law_449 : decode b_Lw_law 449 = .ok (.aload_n 0, 1) := by decide +kernel
theorem d_Lw_law_450 : decode b_Lw_law 450 = .ok (.iload_n 3, 1) := by decide +kernel
theorem d_Lw_law_451 : decode b_Lw_law 451 = .ok (.iconst 1, 1) := by decide +kernel
theorem d_Lw_law_452 : decode b_Lw_law 452 = .ok (.iadd, 1) := by decide +kernel
theorem d_Lw_law_453 : decode b_Lw_law 453 = .ok (.iaload, 1) := by decide +kernel
theorem d_Lw_law_454 : decode b_Lw_law 454 = .ok (.invokevirtual 74, 3) := by decide +kernel
theorem d_Lw_law_457 : decode b_Lw_law 457 = .ok (.if_icmp .eq 199, 3) := by decide +kernel
theorem d_Lw_law_460 : decode b_Lw_law 460 = .ok (.iconst 0, 1) := by decide +kernel
theorem d_Lw_law_461 : decode b_Lw_law 461 = .ok (.ireturn, 1) := by decide +kernel
theorem d_Lw_law_462 : decode b_Lw_law 462 = .ok (.aload_n 1, 1) := by decide +kernel
theorem d_Lw_law_463 : decode b_Lw_law 463 = .ok (.aload_n 0, 1) := by decide +kernel
theorem d_Lw_law_464 : decode b_Lw_law 464 = .ok (.iload_n 3, 1) := by decide +kernel
theorem d_Lw_law_465 : decode b_Lw_law 465 = .ok (.iconst 1, 1) := by decide +kernel
theorem d_Lw_law_466 : decode b_Lw_law 466 = .ok (.iadd, 1) := by decide +kernel
theorem d_Lw_law_467 : decode b_Lw_law 467 = .ok (.iaload, 1) := by decide +kernel
theorem d_Lw_law_468 : decode b_Lw_law 468 = .ok (.invokevirtual 75, 3) := by decide +kernel
theorem d_Lw_law_471 : decode b_Lw_law 471 = .ok (.aload_n 2, 1) := by decide +kernel
theorem d_Lw_law_472 : decode b_Lw_law 472 = .ok (.aload_n 0, 1) := by decide +kernel
theorem d_Lw_law_473 : decode b_Lw_law 473 = .ok (.iload_n 3, 1) := by decide +kernel
theorem d_Lw_law_474 : decode b_Lw_law 474 = .ok (.iconst 1, 1) := by decide +kernel
theorem d_Lw_law_475 : decode b_Lw_law 475 = .ok (.iadd, 1) := by decide +kernel
theorem d_Lw_law_476 : decode b_Lw_law 476 = .ok (.iaload, 1) := by decide +kernel
theorem d_Lw_law_477 : decode b_Lw_law 477 = .ok (.invokevirtual 78, 3) := by decide +kernel
theorem d_Lw_law_480 : decode b_Lw_law 480 = .ok (.if_icmp .eq 176, 3) := by decide +kernel
theorem d_Lw_law_483 : decode b_Lw_law 483 = .ok (.iconst 0, 1) := by decide +kernel
theorem d_Lw_law_484 : decode b_Lw_law 484 = .ok (.ireturn, 1) := by decide +kernel
theorem d_Lw_law_485 : decode b_Lw_law 485 = .ok (.aload_n 1, 1) := by decide +kernel
theorem d_Lw_law_486 : decode b_Lw_law 486 = .ok (.aload_n 0, 1) := by decide +kernel
theorem d_Lw_law_487 : decode b_Lw_law 487 = .ok (.iload_n 3, 1) := by decide +kernel
theorem d_Lw_law_488 : decode b_Lw_law 488 = .ok (.iconst 1, 1) := by decide +kernel
theorem d_Lw_law_489 : decode b_Lw_law 489 = .ok (.iadd, 1) := by decide +kernel
theorem d_Lw_law_490 : decode b_Lw_law 490 = .ok (.iaload, 1) := by decide +kernel
theorem d_Lw_law_491 : decode b_Lw_law 491 = .ok (.invokevirtual 79, 3) := by decide +kernel
theorem d_Lw_law_494 : decode b_Lw_law 494 = .ok (.aload_n 2, 1) := by decide +kernel
theorem d_Lw_law_495 : decode b_Lw_law 495 = .ok (.aload_n 0, 1) := by decide +kernel
theorem d_Lw_law_496 : decode b_Lw_law 496 = .ok (.iload_n 3, 1) := by decide +kernel
theorem d_Lw_law_497 : decode b_Lw_law 497 = .ok (.iconst 1, 1) := by decide +kernel
theorem d_Lw_law_498 : decode b_Lw_law 498 = .ok (.iadd, 1) := by decide +kernel
theorem d_Lw_law_499 : decode b_Lw_law 499 = .ok (.iaload, 1) := by decide +kernel
theorem d_Lw_law_500 : decode b_Lw_law 500 = .ok (.invokevirtual 82, 3) := by decide +kernel
theorem d_Lw_law_503 : decode b_Lw_law 503 = .ok (.if_icmp .eq 153, 3) := by decide +kernel
theorem d_Lw_law_506 : decode b_Lw_law 506 = .ok (.iconst 0, 1) := by decide +kernel
theorem d_Lw_law_507 : decode b_Lw_law 507 = .ok (.ireturn, 1) := by decide +kernel
theorem d_Lw_law_508 : decode b_Lw_law 508 = .ok (.aload_n 1, 1) := by decide +kernel
theorem d_Lw_law_509 : decode b_Lw_law 509 = .ok (.aload_n 0, 1) := by decide +kernel
theorem d_Lw_law_510 : decode b_Lw_law 510 = .ok (.iload_n 3, 1) := by decide +kernel
theorem d_Lw_law_511 : decode b_Lw_law 511 = .ok (.iconst 1, 1) := by decide +kernel
theorem d_Lw_law_512 : decode b_Lw_law 512 = .ok (.iadd, 1) := by decide +kernel
theorem d_Lw_law_513 : decode b_Lw_law 513 = .ok (.iaload, 1) := by decide +kernel
theorem d_Lw_law_514 : decode b_Lw_law 514 = .ok (.invokevirtual 83, 3) := by decide +kernel
theorem d_Lw_law_517 : decode b_Lw_law 517 = .ok (.aload_n 2, 1) := by decide +kernel
theorem d_Lw_law_518 : decode b_Lw_law 518 = .ok (.aload_n 0, 1) := by decide +kernel
theorem d_Lw_law_519 : decode b_Lw_law 519 = .ok (.iload_n 3, 1) := by decide +kernel
theorem d_Lw_law_520 : decode b_Lw_law 520 = .ok (.iconst 1, 1) := by decide +kernel
theorem d_Lw_law_521 : decode b_Lw_law 521 = .ok (.iadd, 1) := by decide +kernel
theorem d_Lw_law_522 : decode b_Lw_law 522 = .ok (.iaload, 1) := by decide +kernel
theorem d_Lw_law_523 : decode b_Lw_law 523 = .ok (.invokevirtual 86, 3) := by decide +kernel
theorem d_Lw_law_526 : decode b_Lw_law 526 = .ok (.if_icmp .eq 130, 3) := by decide +kernel
theorem d_Lw_law_529 : decode b_Lw_law 529 = .ok (.iconst 0, 1) := by decide +kernel
theorem d_Lw_law_530 : decode b_Lw_law 530 = .ok (.ireturn, 1) := by decide +kernel
theorem d_Lw_law_531 : decode b_Lw_law 531 = .ok (.aload_n 1, 1) := by decide +kernel
theorem d_Lw_law_532 : decode b_Lw_law 532 = .ok (.aload_n 0, 1) := by decide +kernel
theorem d_Lw_law_533 : decode b_Lw_law 533 = .ok (.iload_n 3, 1) := by decide +kernel
theorem d_Lw_law_534 : decode b_Lw_law 534 = .ok (.iconst 1, 1) := by decide +kernel
theorem d_Lw_law_535 : decode b_Lw_law 535 = .ok (.iadd, 1) := by decide +kernel
theorem d_Lw_law_536 : decode b_Lw_law 536 = .ok (.iaload, 1) := by decide +kernel
theorem d_Lw_law_537 : decode b_Lw_law 537 = .ok (.aload_n 0, 1) := by decide +kernel
theorem d_Lw_law_538 : decode b_Lw_law 538 = .ok (.iload_n 3, 1) := by decide +kernel
theorem d_Lw_law_539 : decode b_Lw_law 539 = .ok (.iconst 2, 1) := by decide +kernel
theorem d_Lw_law_540 : decode b_Lw_law 540 = .ok (.iadd, 1) := by decide +kernel
theorem d_Lw_law_541 : decode b_Lw_law 541 = .ok (.iaload, 1) := by decide +kernel
theorem d_Lw_law_542 : decode b_Lw_law 542 = .ok (.invokevirtual 87, 3) := by decide +kernel
theorem d_Lw_law_545 : decode b_Lw_law 545 = .ok (.aload_n 2, 1) := by decide +kernel
theorem d_Lw_law_546 : decode b_Lw_law 546 = .ok (.aload_n 0, 1) := by decide +kernel
theorem d_Lw_law_547 : decode b_Lw_law 547 = .ok (.iload_n 3, 1) := by decide +kernel
theorem d_Lw_law_548 : decode b_Lw_law 548 = .ok (.iconst 1, 1) := by decide +kernel
theorem d_Lw_law_549 : decode b_Lw_law 549 = .ok (.iadd, 1) := by decide +kernel
theorem d_Lw_law_550 : decode b_Lw_law 550 = .ok (.iaload, 1) := by decide +kernel
theorem d_Lw_law_551 : decode b_Lw_law 551 = .ok (.aload_n 0, 1) := by decide +kernel
theorem d_Lw_law_552 : decode b_Lw_law 552 = .ok (.iload_n 3, 1) := by decide +kernel
theorem d_Lw_law_553 : decode b_Lw_law 553 = .ok (.iconst 2, 1) := by decide +kernel
theorem d_Lw_law_554 : decode b_Lw_law 554 = .ok (.iadd, 1) := by decide +kernel
theorem d_Lw_law_555 : decode b_Lw_law 555 = .ok (.iaload, 1) := by decide +kernel
theorem d_Lw_law_556 : decode b_Lw_law 556 = .ok (.invokevirtual 90, 3) := by decide +kernel
theorem d_Lw_law_559 : decode b_Lw_law 559 = .ok (.if_icmp .eq 97, 3) := by decide +kernel
theorem d_Lw_law_562 : decode b_Lw_law 562 = .ok (.iconst 0, 1) := by decide +kernel
theorem d_Lw_law_563 : decode b_Lw_law 563 = .ok (.ireturn, 1) := by decide +kernel
theorem d_Lw_law_564 : decode b_Lw_law 564 = .ok (.aload_n 1, 1) := by decide +kernel
theorem d_Lw_law_565 : decode b_Lw_law 565 = .ok (.aload_n 0, 1) := by decide +kernel
theorem d_Lw_law_566 : decode b_Lw_law 566 = .ok (.iload_n 3, 1) := by decide +kernel
theorem d_Lw_law_567 : decode b_Lw_law 567 = .ok (.iconst 1, 1) := by decide +kernel
theorem d_Lw_law_568 : decode b_Lw_law 568 = .ok (.iadd, 1) := by decide +kernel
theorem d_Lw_law_569 : decode b_Lw_law 569 = .ok (.iaload, 1) := by decide +kernel
theorem d_Lw_law_570 : decode b_Lw_law 570 = .ok (.aload_n 0, 1) := by decide +kernel
theorem d_Lw_law_571 : decode b_Lw_law 571 = .ok (.iload_n 3, 1) := by decide +kernel
theorem d_Lw_law_572 : decode b_Lw_law 572 = .ok (.iconst 2, 1) := by decide +kernel
theorem d_Lw_law_573 : decode b_Lw_law 573 = .ok (.iadd, 1) := by decide +kernel
theorem d_Lw_law_574 : decode b_Lw_law 574 = .ok (.iaload, 1) := by decide +kernel
theorem d_Lw_law_575 : decode b_Lw_law 575 = .ok (.invokevirtual 91, 3) := by decide +kernel
theorem d_Lw_law_578 : decode b_Lw_law 578 = .ok (.aload_n 2, 1) := by decide +kernel
theorem d_Lw_law_579 : decode b_Lw_law 579 = .ok (.aload_n 0, 1) := by decide +kernel
theorem d_Lw_law_580 : decode b_Lw_law 580 = .ok (.iload_n 3, 1) := by decide +kernel
theorem d_Lw_law_581 : decode b_Lw_law 581 = .ok (.iconst 1, 1) := by decide +kernel
theorem d_Lw_law_582 : decode b_Lw_law 582 = .ok (.iadd, 1) := by decide +kernel
theorem d_Lw_law_583 : decode b_Lw_law 583 = .ok (.iaload, 1) := by decide +kernel
theorem d_Lw_law_584 : decode b_Lw_law 584 = .ok (.aload_n 0, 1) := by decide +kernel
theorem d_Lw_law_585 : decode b_Lw_law 585 = .ok (.iload_n 3, 1) := by decide +kernel
theorem d_Lw_law_586 : decode b_Lw_law 586 = .ok (.iconst 2, 1) := by decide +kernel
theorem d_Lw_law_587 : decode b_Lw_law 587 = .ok (.iadd, 1) := by decide +kernel
theorem d_Lw_law_588 : decode b_Lw_law 588 = .ok (.iaload, 1) := by decide +kernel
theorem d_Lw_law_589 : decode b_Lw_law 589 = .ok (.invokevirtual 94, 3) := by decide +kernel
theorem d_Lw_law_592 : decode b_Lw_law 592 = .ok (.if_icmp .eq 64, 3) := by decide +kernel
theorem d_Lw_law_595 : decode b_Lw_law 595 = .ok (.iconst 0, 1) := by decide +kernel
theorem d_Lw_law_596 : decode b_Lw_law 596 = .ok (.ireturn, 1) := by decide +kernel
theorem d_Lw_law_597 : decode b_Lw_law 597 = .ok (.aload_n 1, 1) := by decide +kernel
theorem d_Lw_law_598 : decode b_Lw_law 598 = .ok (.invokevirtual 95, 3) := by decide +kernel
theorem d_Lw_law_601 : decode b_Lw_law 601 = .ok (.aload_n 2, 1) := by decide +kernel
theorem d_Lw_law_602 : decode b_Lw_law 602 = .ok (.invokevirtual 98, 3) := by decide +kernel
theorem d_Lw_law_605 : decode b_Lw_law 605 = .ok (.if_icmp .eq 51, 3) := by decide +kernel
theorem d_Lw_law_608 : decode b_Lw_law 608 = .ok (.iconst 0, 1) := by decide +kernel
theorem d_Lw_law_609 : decode b_Lw_law 609 = .ok (.ireturn, 1) := by decide +kernel
theorem d_Lw_law_610 : decode b_Lw_law 610 = .ok (.aload_n 1, 1) := by decide +kernel
theorem d_Lw_law_611 : decode b_Lw_law 611 = .ok (.aload_n 0, 1) := by decide +kernel
theorem d_Lw_law_612 : decode b_Lw_law 612 = .ok (.iload_n 3, 1) := by decide +kernel
theorem d_Lw_law_613 : decode b_Lw_law 613 = .ok (.iconst 1, 1) := by decide +kernel
theorem d_Lw_law_614 : decode b_Lw_law 614 = .ok (.iadd, 1) := by decide +kernel
theorem d_Lw_law_615 : decode b_Lw_law 615 = .ok (.iaload, 1) := by decide +kernel
theorem d_Lw_law_616 : decode b_Lw_law 616 = .ok (.invokevirtual 99, 3) := by decide +kernel
theorem d_Lw_law_619 : decode b_Lw_law 619 = .ok (.aload_n 2, 1) := by decide +kernel
theorem d_Lw_law_620 : decode b_Lw_law 620 = .ok (.aload_n 0, 1) := by decide +kernel
theorem d_Lw_law_621 : decode b_Lw_law 621 = .ok (.iload_n 3, 1) := by decide +kernel
theorem d_Lw_law_622 : decode b_Lw_law 622 = .ok (.iconst 1, 1) := by decide +kernel
theorem d_Lw_law_623 : decode b_Lw_law 623 = .ok (.iadd, 1) := by decide +kernel
theorem d_Lw_law_624 : decode b_Lw_law 624 = .ok (.iaload, 1) := by decide +kernel
theorem d_Lw_law_625 : decode b_Lw_law 625 = .ok (.invokevirtual 102, 3) := by decide +kernel
theorem d_Lw_law_628 : decode b_Lw_law 628 = .ok (.if_icmp .eq 28, 3) := by decide +kernel
theorem d_Lw_law_631 : decode b_Lw_law 631 = .ok (.iconst 0, 1) := by decide +kernel
theorem d_Lw_law_632 : decode b_Lw_law 632 = .ok (.ireturn, 1) := by decide +kernel
theorem d_Lw_law_633 : decode b_Lw_law 633 = .ok (.aload_n 1, 1) := by decide +kernel
theorem d_Lw_law_634 : decode b_Lw_law 634 = .ok (.aload_n 0, 1) := by decide +kernel
theorem d_Lw_law_635 : decode b_Lw_law 635 = .ok (.iload_n 3, 1) := by decide +kernel
theorem d_Lw_law_636 : decode b_Lw_law 636 = .ok (.iconst 1, 1) := by decide +kernel
theorem d_Lw_law_637 : decode b_Lw_law 637 = .ok (.iadd, 1) := by decide +kernel
theorem d_Lw_law_638 : decode b_Lw_law 638 = .ok (.iaload, 1) := by decide +kernel
theorem d_Lw_law_639 : decode b_Lw_law 639 = .ok (.invokevirtual 103, 3) := by decide +kernel
theorem d_Lw_law_642 : decode b_Lw_law 642 = .ok (.aload_n 2, 1) := by decide +kernel
theorem d_Lw_law_643 : decode b_Lw_law 643 = .ok (.aload_n 0, 1) := by decide +kernel
theorem d_Lw_law_644 : decode b_Lw_law 644 = .ok (.iload_n 3, 1) := by decide +kernel
theorem d_Lw_law_645 : decode b_Lw_law 645 = .ok (.iconst 1, 1) := by decide +kernel
theorem d_Lw_law_646 : decode b_Lw_law 646 = .ok (.iadd, 1) := by decide +kernel
theorem d_Lw_law_647 : decode b_Lw_law 647 = .ok (.iaload, 1) := by decide +kernel
theorem d_Lw_law_648 : decode b_Lw_law 648 = .ok (.invokevirtual 106, 3) := by decide +kernel
theorem d_Lw_law_651 : decode b_Lw_law 651 = .ok (.if_icmp .eq 5, 3) := by decide +kernel
theorem d_Lw_law_654 : decode b_Lw_law 654 = .ok (.iconst 0, 1) := by decide +kernel
theorem d_Lw_law_655 : decode b_Lw_law 655 = .ok (.ireturn, 1) := by decide +kernel
theorem d_Lw_law_656 : decode b_Lw_law 656 = .ok (.iinc 3 4, 3) := by decide +kernel
theorem d_Lw_law_659 : decode b_Lw_law 659 = .ok (.goto (-611), 3) := by decide +kernel
theorem d_Lw_law_662 : decode b_Lw_law 662 = .ok (.iconst 1, 1) := by decide +kernel
theorem d_Lw_law_663 : decode b_Lw_law 663 = .ok (.ireturn, 1) := by decide +kernel
