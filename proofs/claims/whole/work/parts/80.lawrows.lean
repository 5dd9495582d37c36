/-! the law: its rows (printed by wip/whole/g80.py) -/
def lwRk (q : Nat × Instr × Nat) : Bool := decide (decode code q.1 = .ok (q.2.1, q.2.2))
theorem lwR_at {r : List (Nat × Instr × Nat)} (h : r.all lwRk = true) (i : Nat) {pc n : Nat} {ins : Instr} (hi : r[i]? = some (pc, ins, n)) : decode code pc = .ok (ins, n) := by
  have h2 := List.all_eq_true.mp h _ (List.mem_of_getElem? hi)
  unfold lwRk at h2
  simp only [decide_eq_true_eq] at h2
  exact h2
def lwR_0 : List (Nat × Instr × Nat) := [(0, .new 7, 3), (3, .dup, 1), (4, .invokespecial 9, 3), (7, .astore_n 1, 1), (8, .new 10, 3), (11, .dup, 1), (12, .invokespecial 12, 3), (15, .astore_n 2, 1), (16, .iconst 0, 1), (17, .istore_n 3, 1), (18, .iload_n 3, 1), (19, .aload_n 0, 1), (20, .arraylength, 1), (21, .bipush 6, 2), (23, .isub, 1), (24, .if_icmp .gt 1168, 3), (27, .aload_n 0, 1), (28, .iload_n 3, 1), (29, .iaload, 1), (30, .bipush 63, 2), (32, .iand, 1), (33, .tableswitch 1153 0 34 #[155, 188, 231, 264, 287, 320, 363, 386, 449, 482, 535, 578, 611, 634, 667, 700, 713, 726, 749, 772, 795, 828, 871, 894, 917, 940, 953, 976, 1009, 1052, 1066, 1080, 1103, 1116, 1139], 155), (188, .aload_n 1, 1), (189, .aload_n 0, 1), (190, .iload_n 3, 1), (191, .iconst 1, 1), (192, .iadd, 1), (193, .iaload, 1), (194, .aload_n 0, 1), (195, .iload_n 3, 1), (196, .iconst 2, 1), (197, .iadd, 1), (198, .iaload, 1), (199, .invokevirtual 13, 3), (202, .aload_n 2, 1), (203, .aload_n 0, 1), (204, .iload_n 3, 1), (205, .iconst 1, 1), (206, .iadd, 1), (207, .iaload, 1)]
theorem lwK_0 : lwR_0.all lwRk = true := by decide +kernel
theorem dL_0 : decode code 0 = .ok (.new 7, 3) := lwR_at lwK_0 0 rfl
theorem dL_3 : decode code 3 = .ok (.dup, 1) := lwR_at lwK_0 1 rfl
theorem dL_4 : decode code 4 = .ok (.invokespecial 9, 3) := lwR_at lwK_0 2 rfl
theorem dL_7 : decode code 7 = .ok (.astore_n 1, 1) := lwR_at lwK_0 3 rfl
theorem dL_8 : decode code 8 = .ok (.new 10, 3) := lwR_at lwK_0 4 rfl
theorem dL_11 : decode code 11 = .ok (.dup, 1) := lwR_at lwK_0 5 rfl
theorem dL_12 : decode code 12 = .ok (.invokespecial 12, 3) := lwR_at lwK_0 6 rfl
theorem dL_15 : decode code 15 = .ok (.astore_n 2, 1) := lwR_at lwK_0 7 rfl
theorem dL_16 : decode code 16 = .ok (.iconst 0, 1) := lwR_at lwK_0 8 rfl
theorem dL_17 : decode code 17 = .ok (.istore_n 3, 1) := lwR_at lwK_0 9 rfl
theorem dL_18 : decode code 18 = .ok (.iload_n 3, 1) := lwR_at lwK_0 10 rfl
theorem dL_19 : decode code 19 = .ok (.aload_n 0, 1) := lwR_at lwK_0 11 rfl
theorem dL_20 : decode code 20 = .ok (.arraylength, 1) := lwR_at lwK_0 12 rfl
theorem dL_21 : decode code 21 = .ok (.bipush 6, 2) := lwR_at lwK_0 13 rfl
theorem dL_23 : decode code 23 = .ok (.isub, 1) := lwR_at lwK_0 14 rfl
theorem dL_24 : decode code 24 = .ok (.if_icmp .gt 1168, 3) := lwR_at lwK_0 15 rfl
theorem dL_27 : decode code 27 = .ok (.aload_n 0, 1) := lwR_at lwK_0 16 rfl
theorem dL_28 : decode code 28 = .ok (.iload_n 3, 1) := lwR_at lwK_0 17 rfl
theorem dL_29 : decode code 29 = .ok (.iaload, 1) := lwR_at lwK_0 18 rfl
theorem dL_30 : decode code 30 = .ok (.bipush 63, 2) := lwR_at lwK_0 19 rfl
theorem dL_32 : decode code 32 = .ok (.iand, 1) := lwR_at lwK_0 20 rfl
theorem dL_33 : decode code 33 = .ok (.tableswitch 1153 0 34 #[155, 188, 231, 264, 287, 320, 363, 386, 449, 482, 535, 578, 611, 634, 667, 700, 713, 726, 749, 772, 795, 828, 871, 894, 917, 940, 953, 976, 1009, 1052, 1066, 1080, 1103, 1116, 1139], 155) := lwR_at lwK_0 21 rfl
theorem dL_188 : decode code 188 = .ok (.aload_n 1, 1) := lwR_at lwK_0 22 rfl
theorem dL_189 : decode code 189 = .ok (.aload_n 0, 1) := lwR_at lwK_0 23 rfl
theorem dL_190 : decode code 190 = .ok (.iload_n 3, 1) := lwR_at lwK_0 24 rfl
theorem dL_191 : decode code 191 = .ok (.iconst 1, 1) := lwR_at lwK_0 25 rfl
theorem dL_192 : decode code 192 = .ok (.iadd, 1) := lwR_at lwK_0 26 rfl
theorem dL_193 : decode code 193 = .ok (.iaload, 1) := lwR_at lwK_0 27 rfl
theorem dL_194 : decode code 194 = .ok (.aload_n 0, 1) := lwR_at lwK_0 28 rfl
theorem dL_195 : decode code 195 = .ok (.iload_n 3, 1) := lwR_at lwK_0 29 rfl
theorem dL_196 : decode code 196 = .ok (.iconst 2, 1) := lwR_at lwK_0 30 rfl
theorem dL_197 : decode code 197 = .ok (.iadd, 1) := lwR_at lwK_0 31 rfl
theorem dL_198 : decode code 198 = .ok (.iaload, 1) := lwR_at lwK_0 32 rfl
theorem dL_199 : decode code 199 = .ok (.invokevirtual 13, 3) := lwR_at lwK_0 33 rfl
theorem dL_202 : decode code 202 = .ok (.aload_n 2, 1) := lwR_at lwK_0 34 rfl
theorem dL_203 : decode code 203 = .ok (.aload_n 0, 1) := lwR_at lwK_0 35 rfl
theorem dL_204 : decode code 204 = .ok (.iload_n 3, 1) := lwR_at lwK_0 36 rfl
theorem dL_205 : decode code 205 = .ok (.iconst 1, 1) := lwR_at lwK_0 37 rfl
theorem dL_206 : decode code 206 = .ok (.iadd, 1) := lwR_at lwK_0 38 rfl
theorem dL_207 : decode code 207 = .ok (.iaload, 1) := lwR_at lwK_0 39 rfl
def lwR_1 : List (Nat × Instr × Nat) := [(208, .aload_n 0, 1), (209, .iload_n 3, 1), (210, .iconst 2, 1), (211, .iadd, 1), (212, .iaload, 1), (213, .invokevirtual 17, 3), (216, .if_icmp .eq 970, 3), (219, .iconst 0, 1), (220, .ireturn, 1), (221, .aload_n 1, 1), (222, .aload_n 0, 1), (223, .iload_n 3, 1), (224, .iconst 1, 1), (225, .iadd, 1), (226, .iaload, 1), (227, .aload_n 0, 1), (228, .iload_n 3, 1), (229, .iconst 2, 1), (230, .iadd, 1), (231, .iaload, 1), (232, .aload_n 0, 1), (233, .iload_n 3, 1), (234, .iconst 3, 1), (235, .iadd, 1), (236, .iaload, 1), (237, .invokevirtual 18, 3), (240, .aload_n 2, 1), (241, .aload_n 0, 1), (242, .iload_n 3, 1), (243, .iconst 1, 1), (244, .iadd, 1), (245, .iaload, 1), (246, .aload_n 0, 1), (247, .iload_n 3, 1), (248, .iconst 2, 1), (249, .iadd, 1), (250, .iaload, 1), (251, .aload_n 0, 1), (252, .iload_n 3, 1), (253, .iconst 3, 1)]
theorem lwK_1 : lwR_1.all lwRk = true := by decide +kernel
theorem dL_208 : decode code 208 = .ok (.aload_n 0, 1) := lwR_at lwK_1 0 rfl
theorem dL_209 : decode code 209 = .ok (.iload_n 3, 1) := lwR_at lwK_1 1 rfl
theorem dL_210 : decode code 210 = .ok (.iconst 2, 1) := lwR_at lwK_1 2 rfl
theorem dL_211 : decode code 211 = .ok (.iadd, 1) := lwR_at lwK_1 3 rfl
theorem dL_212 : decode code 212 = .ok (.iaload, 1) := lwR_at lwK_1 4 rfl
theorem dL_213 : decode code 213 = .ok (.invokevirtual 17, 3) := lwR_at lwK_1 5 rfl
theorem dL_216 : decode code 216 = .ok (.if_icmp .eq 970, 3) := lwR_at lwK_1 6 rfl
theorem dL_219 : decode code 219 = .ok (.iconst 0, 1) := lwR_at lwK_1 7 rfl
theorem dL_220 : decode code 220 = .ok (.ireturn, 1) := lwR_at lwK_1 8 rfl
theorem dL_221 : decode code 221 = .ok (.aload_n 1, 1) := lwR_at lwK_1 9 rfl
theorem dL_222 : decode code 222 = .ok (.aload_n 0, 1) := lwR_at lwK_1 10 rfl
theorem dL_223 : decode code 223 = .ok (.iload_n 3, 1) := lwR_at lwK_1 11 rfl
theorem dL_224 : decode code 224 = .ok (.iconst 1, 1) := lwR_at lwK_1 12 rfl
theorem dL_225 : decode code 225 = .ok (.iadd, 1) := lwR_at lwK_1 13 rfl
theorem dL_226 : decode code 226 = .ok (.iaload, 1) := lwR_at lwK_1 14 rfl
theorem dL_227 : decode code 227 = .ok (.aload_n 0, 1) := lwR_at lwK_1 15 rfl
theorem dL_228 : decode code 228 = .ok (.iload_n 3, 1) := lwR_at lwK_1 16 rfl
theorem dL_229 : decode code 229 = .ok (.iconst 2, 1) := lwR_at lwK_1 17 rfl
theorem dL_230 : decode code 230 = .ok (.iadd, 1) := lwR_at lwK_1 18 rfl
theorem dL_231 : decode code 231 = .ok (.iaload, 1) := lwR_at lwK_1 19 rfl
theorem dL_232 : decode code 232 = .ok (.aload_n 0, 1) := lwR_at lwK_1 20 rfl
theorem dL_233 : decode code 233 = .ok (.iload_n 3, 1) := lwR_at lwK_1 21 rfl
theorem dL_234 : decode code 234 = .ok (.iconst 3, 1) := lwR_at lwK_1 22 rfl
theorem dL_235 : decode code 235 = .ok (.iadd, 1) := lwR_at lwK_1 23 rfl
theorem dL_236 : decode code 236 = .ok (.iaload, 1) := lwR_at lwK_1 24 rfl
theorem dL_237 : decode code 237 = .ok (.invokevirtual 18, 3) := lwR_at lwK_1 25 rfl
theorem dL_240 : decode code 240 = .ok (.aload_n 2, 1) := lwR_at lwK_1 26 rfl
theorem dL_241 : decode code 241 = .ok (.aload_n 0, 1) := lwR_at lwK_1 27 rfl
theorem dL_242 : decode code 242 = .ok (.iload_n 3, 1) := lwR_at lwK_1 28 rfl
theorem dL_243 : decode code 243 = .ok (.iconst 1, 1) := lwR_at lwK_1 29 rfl
theorem dL_244 : decode code 244 = .ok (.iadd, 1) := lwR_at lwK_1 30 rfl
theorem dL_245 : decode code 245 = .ok (.iaload, 1) := lwR_at lwK_1 31 rfl
theorem dL_246 : decode code 246 = .ok (.aload_n 0, 1) := lwR_at lwK_1 32 rfl
theorem dL_247 : decode code 247 = .ok (.iload_n 3, 1) := lwR_at lwK_1 33 rfl
theorem dL_248 : decode code 248 = .ok (.iconst 2, 1) := lwR_at lwK_1 34 rfl
theorem dL_249 : decode code 249 = .ok (.iadd, 1) := lwR_at lwK_1 35 rfl
theorem dL_250 : decode code 250 = .ok (.iaload, 1) := lwR_at lwK_1 36 rfl
theorem dL_251 : decode code 251 = .ok (.aload_n 0, 1) := lwR_at lwK_1 37 rfl
theorem dL_252 : decode code 252 = .ok (.iload_n 3, 1) := lwR_at lwK_1 38 rfl
theorem dL_253 : decode code 253 = .ok (.iconst 3, 1) := lwR_at lwK_1 39 rfl
def lwR_2 : List (Nat × Instr × Nat) := [(254, .iadd, 1), (255, .iaload, 1), (256, .invokevirtual 22, 3), (259, .if_icmp .eq 927, 3), (262, .iconst 0, 1), (263, .ireturn, 1), (264, .aload_n 1, 1), (265, .aload_n 0, 1), (266, .iload_n 3, 1), (267, .iconst 1, 1), (268, .iadd, 1), (269, .iaload, 1), (270, .aload_n 0, 1), (271, .iload_n 3, 1), (272, .iconst 2, 1), (273, .iadd, 1), (274, .iaload, 1), (275, .invokevirtual 23, 3), (278, .aload_n 2, 1), (279, .aload_n 0, 1), (280, .iload_n 3, 1), (281, .iconst 1, 1), (282, .iadd, 1), (283, .iaload, 1), (284, .aload_n 0, 1), (285, .iload_n 3, 1), (286, .iconst 2, 1), (287, .iadd, 1), (288, .iaload, 1), (289, .invokevirtual 26, 3), (292, .if_icmp .eq 894, 3), (295, .iconst 0, 1), (296, .ireturn, 1), (297, .aload_n 1, 1), (298, .aload_n 0, 1), (299, .iload_n 3, 1), (300, .iconst 1, 1), (301, .iadd, 1), (302, .iaload, 1), (303, .invokevirtual 27, 3)]
theorem lwK_2 : lwR_2.all lwRk = true := by decide +kernel
theorem dL_254 : decode code 254 = .ok (.iadd, 1) := lwR_at lwK_2 0 rfl
theorem dL_255 : decode code 255 = .ok (.iaload, 1) := lwR_at lwK_2 1 rfl
theorem dL_256 : decode code 256 = .ok (.invokevirtual 22, 3) := lwR_at lwK_2 2 rfl
theorem dL_259 : decode code 259 = .ok (.if_icmp .eq 927, 3) := lwR_at lwK_2 3 rfl
theorem dL_262 : decode code 262 = .ok (.iconst 0, 1) := lwR_at lwK_2 4 rfl
theorem dL_263 : decode code 263 = .ok (.ireturn, 1) := lwR_at lwK_2 5 rfl
theorem dL_264 : decode code 264 = .ok (.aload_n 1, 1) := lwR_at lwK_2 6 rfl
theorem dL_265 : decode code 265 = .ok (.aload_n 0, 1) := lwR_at lwK_2 7 rfl
theorem dL_266 : decode code 266 = .ok (.iload_n 3, 1) := lwR_at lwK_2 8 rfl
theorem dL_267 : decode code 267 = .ok (.iconst 1, 1) := lwR_at lwK_2 9 rfl
theorem dL_268 : decode code 268 = .ok (.iadd, 1) := lwR_at lwK_2 10 rfl
theorem dL_269 : decode code 269 = .ok (.iaload, 1) := lwR_at lwK_2 11 rfl
theorem dL_270 : decode code 270 = .ok (.aload_n 0, 1) := lwR_at lwK_2 12 rfl
theorem dL_271 : decode code 271 = .ok (.iload_n 3, 1) := lwR_at lwK_2 13 rfl
theorem dL_272 : decode code 272 = .ok (.iconst 2, 1) := lwR_at lwK_2 14 rfl
theorem dL_273 : decode code 273 = .ok (.iadd, 1) := lwR_at lwK_2 15 rfl
theorem dL_274 : decode code 274 = .ok (.iaload, 1) := lwR_at lwK_2 16 rfl
theorem dL_275 : decode code 275 = .ok (.invokevirtual 23, 3) := lwR_at lwK_2 17 rfl
theorem dL_278 : decode code 278 = .ok (.aload_n 2, 1) := lwR_at lwK_2 18 rfl
theorem dL_279 : decode code 279 = .ok (.aload_n 0, 1) := lwR_at lwK_2 19 rfl
theorem dL_280 : decode code 280 = .ok (.iload_n 3, 1) := lwR_at lwK_2 20 rfl
theorem dL_281 : decode code 281 = .ok (.iconst 1, 1) := lwR_at lwK_2 21 rfl
theorem dL_282 : decode code 282 = .ok (.iadd, 1) := lwR_at lwK_2 22 rfl
theorem dL_283 : decode code 283 = .ok (.iaload, 1) := lwR_at lwK_2 23 rfl
theorem dL_284 : decode code 284 = .ok (.aload_n 0, 1) := lwR_at lwK_2 24 rfl
theorem dL_285 : decode code 285 = .ok (.iload_n 3, 1) := lwR_at lwK_2 25 rfl
theorem dL_286 : decode code 286 = .ok (.iconst 2, 1) := lwR_at lwK_2 26 rfl
theorem dL_287 : decode code 287 = .ok (.iadd, 1) := lwR_at lwK_2 27 rfl
theorem dL_288 : decode code 288 = .ok (.iaload, 1) := lwR_at lwK_2 28 rfl
theorem dL_289 : decode code 289 = .ok (.invokevirtual 26, 3) := lwR_at lwK_2 29 rfl
theorem dL_292 : decode code 292 = .ok (.if_icmp .eq 894, 3) := lwR_at lwK_2 30 rfl
theorem dL_295 : decode code 295 = .ok (.iconst 0, 1) := lwR_at lwK_2 31 rfl
theorem dL_296 : decode code 296 = .ok (.ireturn, 1) := lwR_at lwK_2 32 rfl
theorem dL_297 : decode code 297 = .ok (.aload_n 1, 1) := lwR_at lwK_2 33 rfl
theorem dL_298 : decode code 298 = .ok (.aload_n 0, 1) := lwR_at lwK_2 34 rfl
theorem dL_299 : decode code 299 = .ok (.iload_n 3, 1) := lwR_at lwK_2 35 rfl
theorem dL_300 : decode code 300 = .ok (.iconst 1, 1) := lwR_at lwK_2 36 rfl
theorem dL_301 : decode code 301 = .ok (.iadd, 1) := lwR_at lwK_2 37 rfl
theorem dL_302 : decode code 302 = .ok (.iaload, 1) := lwR_at lwK_2 38 rfl
theorem dL_303 : decode code 303 = .ok (.invokevirtual 27, 3) := lwR_at lwK_2 39 rfl
def lwR_3 : List (Nat × Instr × Nat) := [(306, .aload_n 2, 1), (307, .aload_n 0, 1), (308, .iload_n 3, 1), (309, .iconst 1, 1), (310, .iadd, 1), (311, .iaload, 1), (312, .invokevirtual 31, 3), (315, .if_icmp .eq 871, 3), (318, .iconst 0, 1), (319, .ireturn, 1), (320, .aload_n 1, 1), (321, .aload_n 0, 1), (322, .iload_n 3, 1), (323, .iconst 1, 1), (324, .iadd, 1), (325, .iaload, 1), (326, .aload_n 0, 1), (327, .iload_n 3, 1), (328, .iconst 2, 1), (329, .iadd, 1), (330, .iaload, 1), (331, .invokevirtual 32, 3), (334, .aload_n 2, 1), (335, .aload_n 0, 1), (336, .iload_n 3, 1), (337, .iconst 1, 1), (338, .iadd, 1), (339, .iaload, 1), (340, .aload_n 0, 1), (341, .iload_n 3, 1), (342, .iconst 2, 1), (343, .iadd, 1), (344, .iaload, 1), (345, .invokevirtual 35, 3), (348, .if_icmp .eq 838, 3), (351, .iconst 0, 1), (352, .ireturn, 1), (353, .aload_n 1, 1), (354, .aload_n 0, 1), (355, .iload_n 3, 1)]
theorem lwK_3 : lwR_3.all lwRk = true := by decide +kernel
theorem dL_306 : decode code 306 = .ok (.aload_n 2, 1) := lwR_at lwK_3 0 rfl
theorem dL_307 : decode code 307 = .ok (.aload_n 0, 1) := lwR_at lwK_3 1 rfl
theorem dL_308 : decode code 308 = .ok (.iload_n 3, 1) := lwR_at lwK_3 2 rfl
theorem dL_309 : decode code 309 = .ok (.iconst 1, 1) := lwR_at lwK_3 3 rfl
theorem dL_310 : decode code 310 = .ok (.iadd, 1) := lwR_at lwK_3 4 rfl
theorem dL_311 : decode code 311 = .ok (.iaload, 1) := lwR_at lwK_3 5 rfl
theorem dL_312 : decode code 312 = .ok (.invokevirtual 31, 3) := lwR_at lwK_3 6 rfl
theorem dL_315 : decode code 315 = .ok (.if_icmp .eq 871, 3) := lwR_at lwK_3 7 rfl
theorem dL_318 : decode code 318 = .ok (.iconst 0, 1) := lwR_at lwK_3 8 rfl
theorem dL_319 : decode code 319 = .ok (.ireturn, 1) := lwR_at lwK_3 9 rfl
theorem dL_320 : decode code 320 = .ok (.aload_n 1, 1) := lwR_at lwK_3 10 rfl
theorem dL_321 : decode code 321 = .ok (.aload_n 0, 1) := lwR_at lwK_3 11 rfl
theorem dL_322 : decode code 322 = .ok (.iload_n 3, 1) := lwR_at lwK_3 12 rfl
theorem dL_323 : decode code 323 = .ok (.iconst 1, 1) := lwR_at lwK_3 13 rfl
theorem dL_324 : decode code 324 = .ok (.iadd, 1) := lwR_at lwK_3 14 rfl
theorem dL_325 : decode code 325 = .ok (.iaload, 1) := lwR_at lwK_3 15 rfl
theorem dL_326 : decode code 326 = .ok (.aload_n 0, 1) := lwR_at lwK_3 16 rfl
theorem dL_327 : decode code 327 = .ok (.iload_n 3, 1) := lwR_at lwK_3 17 rfl
theorem dL_328 : decode code 328 = .ok (.iconst 2, 1) := lwR_at lwK_3 18 rfl
theorem dL_329 : decode code 329 = .ok (.iadd, 1) := lwR_at lwK_3 19 rfl
theorem dL_330 : decode code 330 = .ok (.iaload, 1) := lwR_at lwK_3 20 rfl
theorem dL_331 : decode code 331 = .ok (.invokevirtual 32, 3) := lwR_at lwK_3 21 rfl
theorem dL_334 : decode code 334 = .ok (.aload_n 2, 1) := lwR_at lwK_3 22 rfl
theorem dL_335 : decode code 335 = .ok (.aload_n 0, 1) := lwR_at lwK_3 23 rfl
theorem dL_336 : decode code 336 = .ok (.iload_n 3, 1) := lwR_at lwK_3 24 rfl
theorem dL_337 : decode code 337 = .ok (.iconst 1, 1) := lwR_at lwK_3 25 rfl
theorem dL_338 : decode code 338 = .ok (.iadd, 1) := lwR_at lwK_3 26 rfl
theorem dL_339 : decode code 339 = .ok (.iaload, 1) := lwR_at lwK_3 27 rfl
theorem dL_340 : decode code 340 = .ok (.aload_n 0, 1) := lwR_at lwK_3 28 rfl
theorem dL_341 : decode code 341 = .ok (.iload_n 3, 1) := lwR_at lwK_3 29 rfl
theorem dL_342 : decode code 342 = .ok (.iconst 2, 1) := lwR_at lwK_3 30 rfl
theorem dL_343 : decode code 343 = .ok (.iadd, 1) := lwR_at lwK_3 31 rfl
theorem dL_344 : decode code 344 = .ok (.iaload, 1) := lwR_at lwK_3 32 rfl
theorem dL_345 : decode code 345 = .ok (.invokevirtual 35, 3) := lwR_at lwK_3 33 rfl
theorem dL_348 : decode code 348 = .ok (.if_icmp .eq 838, 3) := lwR_at lwK_3 34 rfl
theorem dL_351 : decode code 351 = .ok (.iconst 0, 1) := lwR_at lwK_3 35 rfl
theorem dL_352 : decode code 352 = .ok (.ireturn, 1) := lwR_at lwK_3 36 rfl
theorem dL_353 : decode code 353 = .ok (.aload_n 1, 1) := lwR_at lwK_3 37 rfl
theorem dL_354 : decode code 354 = .ok (.aload_n 0, 1) := lwR_at lwK_3 38 rfl
theorem dL_355 : decode code 355 = .ok (.iload_n 3, 1) := lwR_at lwK_3 39 rfl
def lwR_4 : List (Nat × Instr × Nat) := [(356, .iconst 1, 1), (357, .iadd, 1), (358, .iaload, 1), (359, .aload_n 0, 1), (360, .iload_n 3, 1), (361, .iconst 2, 1), (362, .iadd, 1), (363, .iaload, 1), (364, .aload_n 0, 1), (365, .iload_n 3, 1), (366, .iconst 3, 1), (367, .iadd, 1), (368, .iaload, 1), (369, .invokevirtual 36, 3), (372, .aload_n 2, 1), (373, .aload_n 0, 1), (374, .iload_n 3, 1), (375, .iconst 1, 1), (376, .iadd, 1), (377, .iaload, 1), (378, .aload_n 0, 1), (379, .iload_n 3, 1), (380, .iconst 2, 1), (381, .iadd, 1), (382, .iaload, 1), (383, .aload_n 0, 1), (384, .iload_n 3, 1), (385, .iconst 3, 1), (386, .iadd, 1), (387, .iaload, 1), (388, .invokevirtual 39, 3), (391, .if_icmp .eq 795, 3), (394, .iconst 0, 1), (395, .ireturn, 1), (396, .aload_n 1, 1), (397, .aload_n 0, 1), (398, .iload_n 3, 1), (399, .iconst 1, 1), (400, .iadd, 1), (401, .iaload, 1)]
theorem lwK_4 : lwR_4.all lwRk = true := by decide +kernel
theorem dL_356 : decode code 356 = .ok (.iconst 1, 1) := lwR_at lwK_4 0 rfl
theorem dL_357 : decode code 357 = .ok (.iadd, 1) := lwR_at lwK_4 1 rfl
theorem dL_358 : decode code 358 = .ok (.iaload, 1) := lwR_at lwK_4 2 rfl
theorem dL_359 : decode code 359 = .ok (.aload_n 0, 1) := lwR_at lwK_4 3 rfl
theorem dL_360 : decode code 360 = .ok (.iload_n 3, 1) := lwR_at lwK_4 4 rfl
theorem dL_361 : decode code 361 = .ok (.iconst 2, 1) := lwR_at lwK_4 5 rfl
theorem dL_362 : decode code 362 = .ok (.iadd, 1) := lwR_at lwK_4 6 rfl
theorem dL_363 : decode code 363 = .ok (.iaload, 1) := lwR_at lwK_4 7 rfl
theorem dL_364 : decode code 364 = .ok (.aload_n 0, 1) := lwR_at lwK_4 8 rfl
theorem dL_365 : decode code 365 = .ok (.iload_n 3, 1) := lwR_at lwK_4 9 rfl
theorem dL_366 : decode code 366 = .ok (.iconst 3, 1) := lwR_at lwK_4 10 rfl
theorem dL_367 : decode code 367 = .ok (.iadd, 1) := lwR_at lwK_4 11 rfl
theorem dL_368 : decode code 368 = .ok (.iaload, 1) := lwR_at lwK_4 12 rfl
theorem dL_369 : decode code 369 = .ok (.invokevirtual 36, 3) := lwR_at lwK_4 13 rfl
theorem dL_372 : decode code 372 = .ok (.aload_n 2, 1) := lwR_at lwK_4 14 rfl
theorem dL_373 : decode code 373 = .ok (.aload_n 0, 1) := lwR_at lwK_4 15 rfl
theorem dL_374 : decode code 374 = .ok (.iload_n 3, 1) := lwR_at lwK_4 16 rfl
theorem dL_375 : decode code 375 = .ok (.iconst 1, 1) := lwR_at lwK_4 17 rfl
theorem dL_376 : decode code 376 = .ok (.iadd, 1) := lwR_at lwK_4 18 rfl
theorem dL_377 : decode code 377 = .ok (.iaload, 1) := lwR_at lwK_4 19 rfl
theorem dL_378 : decode code 378 = .ok (.aload_n 0, 1) := lwR_at lwK_4 20 rfl
theorem dL_379 : decode code 379 = .ok (.iload_n 3, 1) := lwR_at lwK_4 21 rfl
theorem dL_380 : decode code 380 = .ok (.iconst 2, 1) := lwR_at lwK_4 22 rfl
theorem dL_381 : decode code 381 = .ok (.iadd, 1) := lwR_at lwK_4 23 rfl
theorem dL_382 : decode code 382 = .ok (.iaload, 1) := lwR_at lwK_4 24 rfl
theorem dL_383 : decode code 383 = .ok (.aload_n 0, 1) := lwR_at lwK_4 25 rfl
theorem dL_384 : decode code 384 = .ok (.iload_n 3, 1) := lwR_at lwK_4 26 rfl
theorem dL_385 : decode code 385 = .ok (.iconst 3, 1) := lwR_at lwK_4 27 rfl
theorem dL_386 : decode code 386 = .ok (.iadd, 1) := lwR_at lwK_4 28 rfl
theorem dL_387 : decode code 387 = .ok (.iaload, 1) := lwR_at lwK_4 29 rfl
theorem dL_388 : decode code 388 = .ok (.invokevirtual 39, 3) := lwR_at lwK_4 30 rfl
theorem dL_391 : decode code 391 = .ok (.if_icmp .eq 795, 3) := lwR_at lwK_4 31 rfl
theorem dL_394 : decode code 394 = .ok (.iconst 0, 1) := lwR_at lwK_4 32 rfl
theorem dL_395 : decode code 395 = .ok (.ireturn, 1) := lwR_at lwK_4 33 rfl
theorem dL_396 : decode code 396 = .ok (.aload_n 1, 1) := lwR_at lwK_4 34 rfl
theorem dL_397 : decode code 397 = .ok (.aload_n 0, 1) := lwR_at lwK_4 35 rfl
theorem dL_398 : decode code 398 = .ok (.iload_n 3, 1) := lwR_at lwK_4 36 rfl
theorem dL_399 : decode code 399 = .ok (.iconst 1, 1) := lwR_at lwK_4 37 rfl
theorem dL_400 : decode code 400 = .ok (.iadd, 1) := lwR_at lwK_4 38 rfl
theorem dL_401 : decode code 401 = .ok (.iaload, 1) := lwR_at lwK_4 39 rfl
def lwR_5 : List (Nat × Instr × Nat) := [(402, .invokevirtual 40, 3), (405, .aload_n 2, 1), (406, .aload_n 0, 1), (407, .iload_n 3, 1), (408, .iconst 1, 1), (409, .iadd, 1), (410, .iaload, 1), (411, .invokevirtual 43, 3), (414, .if_icmp .eq 772, 3), (417, .iconst 0, 1), (418, .ireturn, 1), (419, .aload_n 1, 1), (420, .aload_n 0, 1), (421, .iload_n 3, 1), (422, .iconst 1, 1), (423, .iadd, 1), (424, .iaload, 1), (425, .aload_n 0, 1), (426, .iload_n 3, 1), (427, .iconst 2, 1), (428, .iadd, 1), (429, .iaload, 1), (430, .aload_n 0, 1), (431, .iload_n 3, 1), (432, .iconst 3, 1), (433, .iadd, 1), (434, .iaload, 1), (435, .aload_n 0, 1), (436, .iload_n 3, 1), (437, .iconst 4, 1), (438, .iadd, 1), (439, .iaload, 1), (440, .aload_n 0, 1), (441, .iload_n 3, 1), (442, .iconst 5, 1), (443, .iadd, 1), (444, .iaload, 1), (445, .invokevirtual 44, 3), (448, .aload_n 2, 1), (449, .aload_n 0, 1)]
theorem lwK_5 : lwR_5.all lwRk = true := by decide +kernel
theorem dL_402 : decode code 402 = .ok (.invokevirtual 40, 3) := lwR_at lwK_5 0 rfl
theorem dL_405 : decode code 405 = .ok (.aload_n 2, 1) := lwR_at lwK_5 1 rfl
theorem dL_406 : decode code 406 = .ok (.aload_n 0, 1) := lwR_at lwK_5 2 rfl
theorem dL_407 : decode code 407 = .ok (.iload_n 3, 1) := lwR_at lwK_5 3 rfl
theorem dL_408 : decode code 408 = .ok (.iconst 1, 1) := lwR_at lwK_5 4 rfl
theorem dL_409 : decode code 409 = .ok (.iadd, 1) := lwR_at lwK_5 5 rfl
theorem dL_410 : decode code 410 = .ok (.iaload, 1) := lwR_at lwK_5 6 rfl
theorem dL_411 : decode code 411 = .ok (.invokevirtual 43, 3) := lwR_at lwK_5 7 rfl
theorem dL_414 : decode code 414 = .ok (.if_icmp .eq 772, 3) := lwR_at lwK_5 8 rfl
theorem dL_417 : decode code 417 = .ok (.iconst 0, 1) := lwR_at lwK_5 9 rfl
theorem dL_418 : decode code 418 = .ok (.ireturn, 1) := lwR_at lwK_5 10 rfl
theorem dL_419 : decode code 419 = .ok (.aload_n 1, 1) := lwR_at lwK_5 11 rfl
theorem dL_420 : decode code 420 = .ok (.aload_n 0, 1) := lwR_at lwK_5 12 rfl
theorem dL_421 : decode code 421 = .ok (.iload_n 3, 1) := lwR_at lwK_5 13 rfl
theorem dL_422 : decode code 422 = .ok (.iconst 1, 1) := lwR_at lwK_5 14 rfl
theorem dL_423 : decode code 423 = .ok (.iadd, 1) := lwR_at lwK_5 15 rfl
theorem dL_424 : decode code 424 = .ok (.iaload, 1) := lwR_at lwK_5 16 rfl
theorem dL_425 : decode code 425 = .ok (.aload_n 0, 1) := lwR_at lwK_5 17 rfl
theorem dL_426 : decode code 426 = .ok (.iload_n 3, 1) := lwR_at lwK_5 18 rfl
theorem dL_427 : decode code 427 = .ok (.iconst 2, 1) := lwR_at lwK_5 19 rfl
theorem dL_428 : decode code 428 = .ok (.iadd, 1) := lwR_at lwK_5 20 rfl
theorem dL_429 : decode code 429 = .ok (.iaload, 1) := lwR_at lwK_5 21 rfl
theorem dL_430 : decode code 430 = .ok (.aload_n 0, 1) := lwR_at lwK_5 22 rfl
theorem dL_431 : decode code 431 = .ok (.iload_n 3, 1) := lwR_at lwK_5 23 rfl
theorem dL_432 : decode code 432 = .ok (.iconst 3, 1) := lwR_at lwK_5 24 rfl
theorem dL_433 : decode code 433 = .ok (.iadd, 1) := lwR_at lwK_5 25 rfl
theorem dL_434 : decode code 434 = .ok (.iaload, 1) := lwR_at lwK_5 26 rfl
theorem dL_435 : decode code 435 = .ok (.aload_n 0, 1) := lwR_at lwK_5 27 rfl
theorem dL_436 : decode code 436 = .ok (.iload_n 3, 1) := lwR_at lwK_5 28 rfl
theorem dL_437 : decode code 437 = .ok (.iconst 4, 1) := lwR_at lwK_5 29 rfl
theorem dL_438 : decode code 438 = .ok (.iadd, 1) := lwR_at lwK_5 30 rfl
theorem dL_439 : decode code 439 = .ok (.iaload, 1) := lwR_at lwK_5 31 rfl
theorem dL_440 : decode code 440 = .ok (.aload_n 0, 1) := lwR_at lwK_5 32 rfl
theorem dL_441 : decode code 441 = .ok (.iload_n 3, 1) := lwR_at lwK_5 33 rfl
theorem dL_442 : decode code 442 = .ok (.iconst 5, 1) := lwR_at lwK_5 34 rfl
theorem dL_443 : decode code 443 = .ok (.iadd, 1) := lwR_at lwK_5 35 rfl
theorem dL_444 : decode code 444 = .ok (.iaload, 1) := lwR_at lwK_5 36 rfl
theorem dL_445 : decode code 445 = .ok (.invokevirtual 44, 3) := lwR_at lwK_5 37 rfl
theorem dL_448 : decode code 448 = .ok (.aload_n 2, 1) := lwR_at lwK_5 38 rfl
theorem dL_449 : decode code 449 = .ok (.aload_n 0, 1) := lwR_at lwK_5 39 rfl
def lwR_6 : List (Nat × Instr × Nat) := [(450, .iload_n 3, 1), (451, .iconst 1, 1), (452, .iadd, 1), (453, .iaload, 1), (454, .aload_n 0, 1), (455, .iload_n 3, 1), (456, .iconst 2, 1), (457, .iadd, 1), (458, .iaload, 1), (459, .aload_n 0, 1), (460, .iload_n 3, 1), (461, .iconst 3, 1), (462, .iadd, 1), (463, .iaload, 1), (464, .aload_n 0, 1), (465, .iload_n 3, 1), (466, .iconst 4, 1), (467, .iadd, 1), (468, .iaload, 1), (469, .aload_n 0, 1), (470, .iload_n 3, 1), (471, .iconst 5, 1), (472, .iadd, 1), (473, .iaload, 1), (474, .invokevirtual 48, 3), (477, .if_icmp .eq 709, 3), (480, .iconst 0, 1), (481, .ireturn, 1), (482, .aload_n 1, 1), (483, .aload_n 0, 1), (484, .iload_n 3, 1), (485, .iconst 1, 1), (486, .iadd, 1), (487, .iaload, 1), (488, .aload_n 0, 1), (489, .iload_n 3, 1), (490, .iconst 2, 1), (491, .iadd, 1), (492, .iaload, 1), (493, .invokevirtual 49, 3)]
theorem lwK_6 : lwR_6.all lwRk = true := by decide +kernel
theorem dL_450 : decode code 450 = .ok (.iload_n 3, 1) := lwR_at lwK_6 0 rfl
theorem dL_451 : decode code 451 = .ok (.iconst 1, 1) := lwR_at lwK_6 1 rfl
theorem dL_452 : decode code 452 = .ok (.iadd, 1) := lwR_at lwK_6 2 rfl
theorem dL_453 : decode code 453 = .ok (.iaload, 1) := lwR_at lwK_6 3 rfl
theorem dL_454 : decode code 454 = .ok (.aload_n 0, 1) := lwR_at lwK_6 4 rfl
theorem dL_455 : decode code 455 = .ok (.iload_n 3, 1) := lwR_at lwK_6 5 rfl
theorem dL_456 : decode code 456 = .ok (.iconst 2, 1) := lwR_at lwK_6 6 rfl
theorem dL_457 : decode code 457 = .ok (.iadd, 1) := lwR_at lwK_6 7 rfl
theorem dL_458 : decode code 458 = .ok (.iaload, 1) := lwR_at lwK_6 8 rfl
theorem dL_459 : decode code 459 = .ok (.aload_n 0, 1) := lwR_at lwK_6 9 rfl
theorem dL_460 : decode code 460 = .ok (.iload_n 3, 1) := lwR_at lwK_6 10 rfl
theorem dL_461 : decode code 461 = .ok (.iconst 3, 1) := lwR_at lwK_6 11 rfl
theorem dL_462 : decode code 462 = .ok (.iadd, 1) := lwR_at lwK_6 12 rfl
theorem dL_463 : decode code 463 = .ok (.iaload, 1) := lwR_at lwK_6 13 rfl
theorem dL_464 : decode code 464 = .ok (.aload_n 0, 1) := lwR_at lwK_6 14 rfl
theorem dL_465 : decode code 465 = .ok (.iload_n 3, 1) := lwR_at lwK_6 15 rfl
theorem dL_466 : decode code 466 = .ok (.iconst 4, 1) := lwR_at lwK_6 16 rfl
theorem dL_467 : decode code 467 = .ok (.iadd, 1) := lwR_at lwK_6 17 rfl
theorem dL_468 : decode code 468 = .ok (.iaload, 1) := lwR_at lwK_6 18 rfl
theorem dL_469 : decode code 469 = .ok (.aload_n 0, 1) := lwR_at lwK_6 19 rfl
theorem dL_470 : decode code 470 = .ok (.iload_n 3, 1) := lwR_at lwK_6 20 rfl
theorem dL_471 : decode code 471 = .ok (.iconst 5, 1) := lwR_at lwK_6 21 rfl
theorem dL_472 : decode code 472 = .ok (.iadd, 1) := lwR_at lwK_6 22 rfl
theorem dL_473 : decode code 473 = .ok (.iaload, 1) := lwR_at lwK_6 23 rfl
theorem dL_474 : decode code 474 = .ok (.invokevirtual 48, 3) := lwR_at lwK_6 24 rfl
theorem dL_477 : decode code 477 = .ok (.if_icmp .eq 709, 3) := lwR_at lwK_6 25 rfl
theorem dL_480 : decode code 480 = .ok (.iconst 0, 1) := lwR_at lwK_6 26 rfl
theorem dL_481 : decode code 481 = .ok (.ireturn, 1) := lwR_at lwK_6 27 rfl
theorem dL_482 : decode code 482 = .ok (.aload_n 1, 1) := lwR_at lwK_6 28 rfl
theorem dL_483 : decode code 483 = .ok (.aload_n 0, 1) := lwR_at lwK_6 29 rfl
theorem dL_484 : decode code 484 = .ok (.iload_n 3, 1) := lwR_at lwK_6 30 rfl
theorem dL_485 : decode code 485 = .ok (.iconst 1, 1) := lwR_at lwK_6 31 rfl
theorem dL_486 : decode code 486 = .ok (.iadd, 1) := lwR_at lwK_6 32 rfl
theorem dL_487 : decode code 487 = .ok (.iaload, 1) := lwR_at lwK_6 33 rfl
theorem dL_488 : decode code 488 = .ok (.aload_n 0, 1) := lwR_at lwK_6 34 rfl
theorem dL_489 : decode code 489 = .ok (.iload_n 3, 1) := lwR_at lwK_6 35 rfl
theorem dL_490 : decode code 490 = .ok (.iconst 2, 1) := lwR_at lwK_6 36 rfl
theorem dL_491 : decode code 491 = .ok (.iadd, 1) := lwR_at lwK_6 37 rfl
theorem dL_492 : decode code 492 = .ok (.iaload, 1) := lwR_at lwK_6 38 rfl
theorem dL_493 : decode code 493 = .ok (.invokevirtual 49, 3) := lwR_at lwK_6 39 rfl
def lwR_7 : List (Nat × Instr × Nat) := [(496, .aload_n 2, 1), (497, .aload_n 0, 1), (498, .iload_n 3, 1), (499, .iconst 1, 1), (500, .iadd, 1), (501, .iaload, 1), (502, .aload_n 0, 1), (503, .iload_n 3, 1), (504, .iconst 2, 1), (505, .iadd, 1), (506, .iaload, 1), (507, .invokevirtual 52, 3), (510, .if_icmp .eq 676, 3), (513, .iconst 0, 1), (514, .ireturn, 1), (515, .aload_n 1, 1), (516, .aload_n 0, 1), (517, .iload_n 3, 1), (518, .iconst 1, 1), (519, .iadd, 1), (520, .iaload, 1), (521, .aload_n 0, 1), (522, .iload_n 3, 1), (523, .iconst 2, 1), (524, .iadd, 1), (525, .iaload, 1), (526, .aload_n 0, 1), (527, .iload_n 3, 1), (528, .iconst 3, 1), (529, .iadd, 1), (530, .iaload, 1), (531, .aload_n 0, 1), (532, .iload_n 3, 1), (533, .iconst 4, 1), (534, .iadd, 1), (535, .iaload, 1), (536, .invokevirtual 53, 3), (539, .aload_n 2, 1), (540, .aload_n 0, 1), (541, .iload_n 3, 1)]
theorem lwK_7 : lwR_7.all lwRk = true := by decide +kernel
theorem dL_496 : decode code 496 = .ok (.aload_n 2, 1) := lwR_at lwK_7 0 rfl
theorem dL_497 : decode code 497 = .ok (.aload_n 0, 1) := lwR_at lwK_7 1 rfl
theorem dL_498 : decode code 498 = .ok (.iload_n 3, 1) := lwR_at lwK_7 2 rfl
theorem dL_499 : decode code 499 = .ok (.iconst 1, 1) := lwR_at lwK_7 3 rfl
theorem dL_500 : decode code 500 = .ok (.iadd, 1) := lwR_at lwK_7 4 rfl
theorem dL_501 : decode code 501 = .ok (.iaload, 1) := lwR_at lwK_7 5 rfl
theorem dL_502 : decode code 502 = .ok (.aload_n 0, 1) := lwR_at lwK_7 6 rfl
theorem dL_503 : decode code 503 = .ok (.iload_n 3, 1) := lwR_at lwK_7 7 rfl
theorem dL_504 : decode code 504 = .ok (.iconst 2, 1) := lwR_at lwK_7 8 rfl
theorem dL_505 : decode code 505 = .ok (.iadd, 1) := lwR_at lwK_7 9 rfl
theorem dL_506 : decode code 506 = .ok (.iaload, 1) := lwR_at lwK_7 10 rfl
theorem dL_507 : decode code 507 = .ok (.invokevirtual 52, 3) := lwR_at lwK_7 11 rfl
theorem dL_510 : decode code 510 = .ok (.if_icmp .eq 676, 3) := lwR_at lwK_7 12 rfl
theorem dL_513 : decode code 513 = .ok (.iconst 0, 1) := lwR_at lwK_7 13 rfl
theorem dL_514 : decode code 514 = .ok (.ireturn, 1) := lwR_at lwK_7 14 rfl
theorem dL_515 : decode code 515 = .ok (.aload_n 1, 1) := lwR_at lwK_7 15 rfl
theorem dL_516 : decode code 516 = .ok (.aload_n 0, 1) := lwR_at lwK_7 16 rfl
theorem dL_517 : decode code 517 = .ok (.iload_n 3, 1) := lwR_at lwK_7 17 rfl
theorem dL_518 : decode code 518 = .ok (.iconst 1, 1) := lwR_at lwK_7 18 rfl
theorem dL_519 : decode code 519 = .ok (.iadd, 1) := lwR_at lwK_7 19 rfl
theorem dL_520 : decode code 520 = .ok (.iaload, 1) := lwR_at lwK_7 20 rfl
theorem dL_521 : decode code 521 = .ok (.aload_n 0, 1) := lwR_at lwK_7 21 rfl
theorem dL_522 : decode code 522 = .ok (.iload_n 3, 1) := lwR_at lwK_7 22 rfl
theorem dL_523 : decode code 523 = .ok (.iconst 2, 1) := lwR_at lwK_7 23 rfl
theorem dL_524 : decode code 524 = .ok (.iadd, 1) := lwR_at lwK_7 24 rfl
theorem dL_525 : decode code 525 = .ok (.iaload, 1) := lwR_at lwK_7 25 rfl
theorem dL_526 : decode code 526 = .ok (.aload_n 0, 1) := lwR_at lwK_7 26 rfl
theorem dL_527 : decode code 527 = .ok (.iload_n 3, 1) := lwR_at lwK_7 27 rfl
theorem dL_528 : decode code 528 = .ok (.iconst 3, 1) := lwR_at lwK_7 28 rfl
theorem dL_529 : decode code 529 = .ok (.iadd, 1) := lwR_at lwK_7 29 rfl
theorem dL_530 : decode code 530 = .ok (.iaload, 1) := lwR_at lwK_7 30 rfl
theorem dL_531 : decode code 531 = .ok (.aload_n 0, 1) := lwR_at lwK_7 31 rfl
theorem dL_532 : decode code 532 = .ok (.iload_n 3, 1) := lwR_at lwK_7 32 rfl
theorem dL_533 : decode code 533 = .ok (.iconst 4, 1) := lwR_at lwK_7 33 rfl
theorem dL_534 : decode code 534 = .ok (.iadd, 1) := lwR_at lwK_7 34 rfl
theorem dL_535 : decode code 535 = .ok (.iaload, 1) := lwR_at lwK_7 35 rfl
theorem dL_536 : decode code 536 = .ok (.invokevirtual 53, 3) := lwR_at lwK_7 36 rfl
theorem dL_539 : decode code 539 = .ok (.aload_n 2, 1) := lwR_at lwK_7 37 rfl
theorem dL_540 : decode code 540 = .ok (.aload_n 0, 1) := lwR_at lwK_7 38 rfl
theorem dL_541 : decode code 541 = .ok (.iload_n 3, 1) := lwR_at lwK_7 39 rfl
def lwR_8 : List (Nat × Instr × Nat) := [(542, .iconst 1, 1), (543, .iadd, 1), (544, .iaload, 1), (545, .aload_n 0, 1), (546, .iload_n 3, 1), (547, .iconst 2, 1), (548, .iadd, 1), (549, .iaload, 1), (550, .aload_n 0, 1), (551, .iload_n 3, 1), (552, .iconst 3, 1), (553, .iadd, 1), (554, .iaload, 1), (555, .aload_n 0, 1), (556, .iload_n 3, 1), (557, .iconst 4, 1), (558, .iadd, 1), (559, .iaload, 1), (560, .invokevirtual 57, 3), (563, .if_icmp .eq 623, 3), (566, .iconst 0, 1), (567, .ireturn, 1), (568, .aload_n 1, 1), (569, .aload_n 0, 1), (570, .iload_n 3, 1), (571, .iconst 1, 1), (572, .iadd, 1), (573, .iaload, 1), (574, .aload_n 0, 1), (575, .iload_n 3, 1), (576, .iconst 2, 1), (577, .iadd, 1), (578, .iaload, 1), (579, .aload_n 0, 1), (580, .iload_n 3, 1), (581, .iconst 3, 1), (582, .iadd, 1), (583, .iaload, 1), (584, .invokevirtual 58, 3), (587, .aload_n 2, 1)]
theorem lwK_8 : lwR_8.all lwRk = true := by decide +kernel
theorem dL_542 : decode code 542 = .ok (.iconst 1, 1) := lwR_at lwK_8 0 rfl
theorem dL_543 : decode code 543 = .ok (.iadd, 1) := lwR_at lwK_8 1 rfl
theorem dL_544 : decode code 544 = .ok (.iaload, 1) := lwR_at lwK_8 2 rfl
theorem dL_545 : decode code 545 = .ok (.aload_n 0, 1) := lwR_at lwK_8 3 rfl
theorem dL_546 : decode code 546 = .ok (.iload_n 3, 1) := lwR_at lwK_8 4 rfl
theorem dL_547 : decode code 547 = .ok (.iconst 2, 1) := lwR_at lwK_8 5 rfl
theorem dL_548 : decode code 548 = .ok (.iadd, 1) := lwR_at lwK_8 6 rfl
theorem dL_549 : decode code 549 = .ok (.iaload, 1) := lwR_at lwK_8 7 rfl
theorem dL_550 : decode code 550 = .ok (.aload_n 0, 1) := lwR_at lwK_8 8 rfl
theorem dL_551 : decode code 551 = .ok (.iload_n 3, 1) := lwR_at lwK_8 9 rfl
theorem dL_552 : decode code 552 = .ok (.iconst 3, 1) := lwR_at lwK_8 10 rfl
theorem dL_553 : decode code 553 = .ok (.iadd, 1) := lwR_at lwK_8 11 rfl
theorem dL_554 : decode code 554 = .ok (.iaload, 1) := lwR_at lwK_8 12 rfl
theorem dL_555 : decode code 555 = .ok (.aload_n 0, 1) := lwR_at lwK_8 13 rfl
theorem dL_556 : decode code 556 = .ok (.iload_n 3, 1) := lwR_at lwK_8 14 rfl
theorem dL_557 : decode code 557 = .ok (.iconst 4, 1) := lwR_at lwK_8 15 rfl
theorem dL_558 : decode code 558 = .ok (.iadd, 1) := lwR_at lwK_8 16 rfl
theorem dL_559 : decode code 559 = .ok (.iaload, 1) := lwR_at lwK_8 17 rfl
theorem dL_560 : decode code 560 = .ok (.invokevirtual 57, 3) := lwR_at lwK_8 18 rfl
theorem dL_563 : decode code 563 = .ok (.if_icmp .eq 623, 3) := lwR_at lwK_8 19 rfl
theorem dL_566 : decode code 566 = .ok (.iconst 0, 1) := lwR_at lwK_8 20 rfl
theorem dL_567 : decode code 567 = .ok (.ireturn, 1) := lwR_at lwK_8 21 rfl
theorem dL_568 : decode code 568 = .ok (.aload_n 1, 1) := lwR_at lwK_8 22 rfl
theorem dL_569 : decode code 569 = .ok (.aload_n 0, 1) := lwR_at lwK_8 23 rfl
theorem dL_570 : decode code 570 = .ok (.iload_n 3, 1) := lwR_at lwK_8 24 rfl
theorem dL_571 : decode code 571 = .ok (.iconst 1, 1) := lwR_at lwK_8 25 rfl
theorem dL_572 : decode code 572 = .ok (.iadd, 1) := lwR_at lwK_8 26 rfl
theorem dL_573 : decode code 573 = .ok (.iaload, 1) := lwR_at lwK_8 27 rfl
theorem dL_574 : decode code 574 = .ok (.aload_n 0, 1) := lwR_at lwK_8 28 rfl
theorem dL_575 : decode code 575 = .ok (.iload_n 3, 1) := lwR_at lwK_8 29 rfl
theorem dL_576 : decode code 576 = .ok (.iconst 2, 1) := lwR_at lwK_8 30 rfl
theorem dL_577 : decode code 577 = .ok (.iadd, 1) := lwR_at lwK_8 31 rfl
theorem dL_578 : decode code 578 = .ok (.iaload, 1) := lwR_at lwK_8 32 rfl
theorem dL_579 : decode code 579 = .ok (.aload_n 0, 1) := lwR_at lwK_8 33 rfl
theorem dL_580 : decode code 580 = .ok (.iload_n 3, 1) := lwR_at lwK_8 34 rfl
theorem dL_581 : decode code 581 = .ok (.iconst 3, 1) := lwR_at lwK_8 35 rfl
theorem dL_582 : decode code 582 = .ok (.iadd, 1) := lwR_at lwK_8 36 rfl
theorem dL_583 : decode code 583 = .ok (.iaload, 1) := lwR_at lwK_8 37 rfl
theorem dL_584 : decode code 584 = .ok (.invokevirtual 58, 3) := lwR_at lwK_8 38 rfl
theorem dL_587 : decode code 587 = .ok (.aload_n 2, 1) := lwR_at lwK_8 39 rfl
def lwR_9 : List (Nat × Instr × Nat) := [(588, .aload_n 0, 1), (589, .iload_n 3, 1), (590, .iconst 1, 1), (591, .iadd, 1), (592, .iaload, 1), (593, .aload_n 0, 1), (594, .iload_n 3, 1), (595, .iconst 2, 1), (596, .iadd, 1), (597, .iaload, 1), (598, .aload_n 0, 1), (599, .iload_n 3, 1), (600, .iconst 3, 1), (601, .iadd, 1), (602, .iaload, 1), (603, .invokevirtual 61, 3), (606, .if_icmp .eq 580, 3), (609, .iconst 0, 1), (610, .ireturn, 1), (611, .aload_n 1, 1), (612, .aload_n 0, 1), (613, .iload_n 3, 1), (614, .iconst 1, 1), (615, .iadd, 1), (616, .iaload, 1), (617, .aload_n 0, 1), (618, .iload_n 3, 1), (619, .iconst 2, 1), (620, .iadd, 1), (621, .iaload, 1), (622, .invokevirtual 62, 3), (625, .aload_n 2, 1), (626, .aload_n 0, 1), (627, .iload_n 3, 1), (628, .iconst 1, 1), (629, .iadd, 1), (630, .iaload, 1), (631, .aload_n 0, 1), (632, .iload_n 3, 1), (633, .iconst 2, 1)]
theorem lwK_9 : lwR_9.all lwRk = true := by decide +kernel
theorem dL_588 : decode code 588 = .ok (.aload_n 0, 1) := lwR_at lwK_9 0 rfl
theorem dL_589 : decode code 589 = .ok (.iload_n 3, 1) := lwR_at lwK_9 1 rfl
theorem dL_590 : decode code 590 = .ok (.iconst 1, 1) := lwR_at lwK_9 2 rfl
theorem dL_591 : decode code 591 = .ok (.iadd, 1) := lwR_at lwK_9 3 rfl
theorem dL_592 : decode code 592 = .ok (.iaload, 1) := lwR_at lwK_9 4 rfl
theorem dL_593 : decode code 593 = .ok (.aload_n 0, 1) := lwR_at lwK_9 5 rfl
theorem dL_594 : decode code 594 = .ok (.iload_n 3, 1) := lwR_at lwK_9 6 rfl
theorem dL_595 : decode code 595 = .ok (.iconst 2, 1) := lwR_at lwK_9 7 rfl
theorem dL_596 : decode code 596 = .ok (.iadd, 1) := lwR_at lwK_9 8 rfl
theorem dL_597 : decode code 597 = .ok (.iaload, 1) := lwR_at lwK_9 9 rfl
theorem dL_598 : decode code 598 = .ok (.aload_n 0, 1) := lwR_at lwK_9 10 rfl
theorem dL_599 : decode code 599 = .ok (.iload_n 3, 1) := lwR_at lwK_9 11 rfl
theorem dL_600 : decode code 600 = .ok (.iconst 3, 1) := lwR_at lwK_9 12 rfl
theorem dL_601 : decode code 601 = .ok (.iadd, 1) := lwR_at lwK_9 13 rfl
theorem dL_602 : decode code 602 = .ok (.iaload, 1) := lwR_at lwK_9 14 rfl
theorem dL_603 : decode code 603 = .ok (.invokevirtual 61, 3) := lwR_at lwK_9 15 rfl
theorem dL_606 : decode code 606 = .ok (.if_icmp .eq 580, 3) := lwR_at lwK_9 16 rfl
theorem dL_609 : decode code 609 = .ok (.iconst 0, 1) := lwR_at lwK_9 17 rfl
theorem dL_610 : decode code 610 = .ok (.ireturn, 1) := lwR_at lwK_9 18 rfl
theorem dL_611 : decode code 611 = .ok (.aload_n 1, 1) := lwR_at lwK_9 19 rfl
theorem dL_612 : decode code 612 = .ok (.aload_n 0, 1) := lwR_at lwK_9 20 rfl
theorem dL_613 : decode code 613 = .ok (.iload_n 3, 1) := lwR_at lwK_9 21 rfl
theorem dL_614 : decode code 614 = .ok (.iconst 1, 1) := lwR_at lwK_9 22 rfl
theorem dL_615 : decode code 615 = .ok (.iadd, 1) := lwR_at lwK_9 23 rfl
theorem dL_616 : decode code 616 = .ok (.iaload, 1) := lwR_at lwK_9 24 rfl
theorem dL_617 : decode code 617 = .ok (.aload_n 0, 1) := lwR_at lwK_9 25 rfl
theorem dL_618 : decode code 618 = .ok (.iload_n 3, 1) := lwR_at lwK_9 26 rfl
theorem dL_619 : decode code 619 = .ok (.iconst 2, 1) := lwR_at lwK_9 27 rfl
theorem dL_620 : decode code 620 = .ok (.iadd, 1) := lwR_at lwK_9 28 rfl
theorem dL_621 : decode code 621 = .ok (.iaload, 1) := lwR_at lwK_9 29 rfl
theorem dL_622 : decode code 622 = .ok (.invokevirtual 62, 3) := lwR_at lwK_9 30 rfl
theorem dL_625 : decode code 625 = .ok (.aload_n 2, 1) := lwR_at lwK_9 31 rfl
theorem dL_626 : decode code 626 = .ok (.aload_n 0, 1) := lwR_at lwK_9 32 rfl
theorem dL_627 : decode code 627 = .ok (.iload_n 3, 1) := lwR_at lwK_9 33 rfl
theorem dL_628 : decode code 628 = .ok (.iconst 1, 1) := lwR_at lwK_9 34 rfl
theorem dL_629 : decode code 629 = .ok (.iadd, 1) := lwR_at lwK_9 35 rfl
theorem dL_630 : decode code 630 = .ok (.iaload, 1) := lwR_at lwK_9 36 rfl
theorem dL_631 : decode code 631 = .ok (.aload_n 0, 1) := lwR_at lwK_9 37 rfl
theorem dL_632 : decode code 632 = .ok (.iload_n 3, 1) := lwR_at lwK_9 38 rfl
theorem dL_633 : decode code 633 = .ok (.iconst 2, 1) := lwR_at lwK_9 39 rfl
def lwR_10 : List (Nat × Instr × Nat) := [(634, .iadd, 1), (635, .iaload, 1), (636, .invokevirtual 65, 3), (639, .if_icmp .eq 547, 3), (642, .iconst 0, 1), (643, .ireturn, 1), (644, .aload_n 1, 1), (645, .aload_n 0, 1), (646, .iload_n 3, 1), (647, .iconst 1, 1), (648, .iadd, 1), (649, .iaload, 1), (650, .invokevirtual 66, 3), (653, .aload_n 2, 1), (654, .aload_n 0, 1), (655, .iload_n 3, 1), (656, .iconst 1, 1), (657, .iadd, 1), (658, .iaload, 1), (659, .invokevirtual 69, 3), (662, .if_icmp .eq 524, 3), (665, .iconst 0, 1), (666, .ireturn, 1), (667, .aload_n 1, 1), (668, .aload_n 0, 1), (669, .iload_n 3, 1), (670, .iconst 1, 1), (671, .iadd, 1), (672, .iaload, 1), (673, .aload_n 0, 1), (674, .iload_n 3, 1), (675, .iconst 2, 1), (676, .iadd, 1), (677, .iaload, 1), (678, .invokevirtual 70, 3), (681, .aload_n 2, 1), (682, .aload_n 0, 1), (683, .iload_n 3, 1), (684, .iconst 1, 1), (685, .iadd, 1)]
theorem lwK_10 : lwR_10.all lwRk = true := by decide +kernel
theorem dL_634 : decode code 634 = .ok (.iadd, 1) := lwR_at lwK_10 0 rfl
theorem dL_635 : decode code 635 = .ok (.iaload, 1) := lwR_at lwK_10 1 rfl
theorem dL_636 : decode code 636 = .ok (.invokevirtual 65, 3) := lwR_at lwK_10 2 rfl
theorem dL_639 : decode code 639 = .ok (.if_icmp .eq 547, 3) := lwR_at lwK_10 3 rfl
theorem dL_642 : decode code 642 = .ok (.iconst 0, 1) := lwR_at lwK_10 4 rfl
theorem dL_643 : decode code 643 = .ok (.ireturn, 1) := lwR_at lwK_10 5 rfl
theorem dL_644 : decode code 644 = .ok (.aload_n 1, 1) := lwR_at lwK_10 6 rfl
theorem dL_645 : decode code 645 = .ok (.aload_n 0, 1) := lwR_at lwK_10 7 rfl
theorem dL_646 : decode code 646 = .ok (.iload_n 3, 1) := lwR_at lwK_10 8 rfl
theorem dL_647 : decode code 647 = .ok (.iconst 1, 1) := lwR_at lwK_10 9 rfl
theorem dL_648 : decode code 648 = .ok (.iadd, 1) := lwR_at lwK_10 10 rfl
theorem dL_649 : decode code 649 = .ok (.iaload, 1) := lwR_at lwK_10 11 rfl
theorem dL_650 : decode code 650 = .ok (.invokevirtual 66, 3) := lwR_at lwK_10 12 rfl
theorem dL_653 : decode code 653 = .ok (.aload_n 2, 1) := lwR_at lwK_10 13 rfl
theorem dL_654 : decode code 654 = .ok (.aload_n 0, 1) := lwR_at lwK_10 14 rfl
theorem dL_655 : decode code 655 = .ok (.iload_n 3, 1) := lwR_at lwK_10 15 rfl
theorem dL_656 : decode code 656 = .ok (.iconst 1, 1) := lwR_at lwK_10 16 rfl
theorem dL_657 : decode code 657 = .ok (.iadd, 1) := lwR_at lwK_10 17 rfl
theorem dL_658 : decode code 658 = .ok (.iaload, 1) := lwR_at lwK_10 18 rfl
theorem dL_659 : decode code 659 = .ok (.invokevirtual 69, 3) := lwR_at lwK_10 19 rfl
theorem dL_662 : decode code 662 = .ok (.if_icmp .eq 524, 3) := lwR_at lwK_10 20 rfl
theorem dL_665 : decode code 665 = .ok (.iconst 0, 1) := lwR_at lwK_10 21 rfl
theorem dL_666 : decode code 666 = .ok (.ireturn, 1) := lwR_at lwK_10 22 rfl
theorem dL_667 : decode code 667 = .ok (.aload_n 1, 1) := lwR_at lwK_10 23 rfl
theorem dL_668 : decode code 668 = .ok (.aload_n 0, 1) := lwR_at lwK_10 24 rfl
theorem dL_669 : decode code 669 = .ok (.iload_n 3, 1) := lwR_at lwK_10 25 rfl
theorem dL_670 : decode code 670 = .ok (.iconst 1, 1) := lwR_at lwK_10 26 rfl
theorem dL_671 : decode code 671 = .ok (.iadd, 1) := lwR_at lwK_10 27 rfl
theorem dL_672 : decode code 672 = .ok (.iaload, 1) := lwR_at lwK_10 28 rfl
theorem dL_673 : decode code 673 = .ok (.aload_n 0, 1) := lwR_at lwK_10 29 rfl
theorem dL_674 : decode code 674 = .ok (.iload_n 3, 1) := lwR_at lwK_10 30 rfl
theorem dL_675 : decode code 675 = .ok (.iconst 2, 1) := lwR_at lwK_10 31 rfl
theorem dL_676 : decode code 676 = .ok (.iadd, 1) := lwR_at lwK_10 32 rfl
theorem dL_677 : decode code 677 = .ok (.iaload, 1) := lwR_at lwK_10 33 rfl
theorem dL_678 : decode code 678 = .ok (.invokevirtual 70, 3) := lwR_at lwK_10 34 rfl
theorem dL_681 : decode code 681 = .ok (.aload_n 2, 1) := lwR_at lwK_10 35 rfl
theorem dL_682 : decode code 682 = .ok (.aload_n 0, 1) := lwR_at lwK_10 36 rfl
theorem dL_683 : decode code 683 = .ok (.iload_n 3, 1) := lwR_at lwK_10 37 rfl
theorem dL_684 : decode code 684 = .ok (.iconst 1, 1) := lwR_at lwK_10 38 rfl
theorem dL_685 : decode code 685 = .ok (.iadd, 1) := lwR_at lwK_10 39 rfl
def lwR_11 : List (Nat × Instr × Nat) := [(686, .iaload, 1), (687, .aload_n 0, 1), (688, .iload_n 3, 1), (689, .iconst 2, 1), (690, .iadd, 1), (691, .iaload, 1), (692, .invokevirtual 73, 3), (695, .if_icmp .eq 491, 3), (698, .iconst 0, 1), (699, .ireturn, 1), (700, .aload_n 1, 1), (701, .aload_n 0, 1), (702, .iload_n 3, 1), (703, .iconst 1, 1), (704, .iadd, 1), (705, .iaload, 1), (706, .aload_n 0, 1), (707, .iload_n 3, 1), (708, .iconst 2, 1), (709, .iadd, 1), (710, .iaload, 1), (711, .invokevirtual 74, 3), (714, .aload_n 2, 1), (715, .aload_n 0, 1), (716, .iload_n 3, 1), (717, .iconst 1, 1), (718, .iadd, 1), (719, .iaload, 1), (720, .aload_n 0, 1), (721, .iload_n 3, 1), (722, .iconst 2, 1), (723, .iadd, 1), (724, .iaload, 1), (725, .invokevirtual 77, 3), (728, .if_icmp .eq 458, 3), (731, .iconst 0, 1), (732, .ireturn, 1), (733, .aload_n 1, 1), (734, .invokevirtual 78, 3), (737, .aload_n 2, 1)]
theorem lwK_11 : lwR_11.all lwRk = true := by decide +kernel
theorem dL_686 : decode code 686 = .ok (.iaload, 1) := lwR_at lwK_11 0 rfl
theorem dL_687 : decode code 687 = .ok (.aload_n 0, 1) := lwR_at lwK_11 1 rfl
theorem dL_688 : decode code 688 = .ok (.iload_n 3, 1) := lwR_at lwK_11 2 rfl
theorem dL_689 : decode code 689 = .ok (.iconst 2, 1) := lwR_at lwK_11 3 rfl
theorem dL_690 : decode code 690 = .ok (.iadd, 1) := lwR_at lwK_11 4 rfl
theorem dL_691 : decode code 691 = .ok (.iaload, 1) := lwR_at lwK_11 5 rfl
theorem dL_692 : decode code 692 = .ok (.invokevirtual 73, 3) := lwR_at lwK_11 6 rfl
theorem dL_695 : decode code 695 = .ok (.if_icmp .eq 491, 3) := lwR_at lwK_11 7 rfl
theorem dL_698 : decode code 698 = .ok (.iconst 0, 1) := lwR_at lwK_11 8 rfl
theorem dL_699 : decode code 699 = .ok (.ireturn, 1) := lwR_at lwK_11 9 rfl
theorem dL_700 : decode code 700 = .ok (.aload_n 1, 1) := lwR_at lwK_11 10 rfl
theorem dL_701 : decode code 701 = .ok (.aload_n 0, 1) := lwR_at lwK_11 11 rfl
theorem dL_702 : decode code 702 = .ok (.iload_n 3, 1) := lwR_at lwK_11 12 rfl
theorem dL_703 : decode code 703 = .ok (.iconst 1, 1) := lwR_at lwK_11 13 rfl
theorem dL_704 : decode code 704 = .ok (.iadd, 1) := lwR_at lwK_11 14 rfl
theorem dL_705 : decode code 705 = .ok (.iaload, 1) := lwR_at lwK_11 15 rfl
theorem dL_706 : decode code 706 = .ok (.aload_n 0, 1) := lwR_at lwK_11 16 rfl
theorem dL_707 : decode code 707 = .ok (.iload_n 3, 1) := lwR_at lwK_11 17 rfl
theorem dL_708 : decode code 708 = .ok (.iconst 2, 1) := lwR_at lwK_11 18 rfl
theorem dL_709 : decode code 709 = .ok (.iadd, 1) := lwR_at lwK_11 19 rfl
theorem dL_710 : decode code 710 = .ok (.iaload, 1) := lwR_at lwK_11 20 rfl
theorem dL_711 : decode code 711 = .ok (.invokevirtual 74, 3) := lwR_at lwK_11 21 rfl
theorem dL_714 : decode code 714 = .ok (.aload_n 2, 1) := lwR_at lwK_11 22 rfl
theorem dL_715 : decode code 715 = .ok (.aload_n 0, 1) := lwR_at lwK_11 23 rfl
theorem dL_716 : decode code 716 = .ok (.iload_n 3, 1) := lwR_at lwK_11 24 rfl
theorem dL_717 : decode code 717 = .ok (.iconst 1, 1) := lwR_at lwK_11 25 rfl
theorem dL_718 : decode code 718 = .ok (.iadd, 1) := lwR_at lwK_11 26 rfl
theorem dL_719 : decode code 719 = .ok (.iaload, 1) := lwR_at lwK_11 27 rfl
theorem dL_720 : decode code 720 = .ok (.aload_n 0, 1) := lwR_at lwK_11 28 rfl
theorem dL_721 : decode code 721 = .ok (.iload_n 3, 1) := lwR_at lwK_11 29 rfl
theorem dL_722 : decode code 722 = .ok (.iconst 2, 1) := lwR_at lwK_11 30 rfl
theorem dL_723 : decode code 723 = .ok (.iadd, 1) := lwR_at lwK_11 31 rfl
theorem dL_724 : decode code 724 = .ok (.iaload, 1) := lwR_at lwK_11 32 rfl
theorem dL_725 : decode code 725 = .ok (.invokevirtual 77, 3) := lwR_at lwK_11 33 rfl
theorem dL_728 : decode code 728 = .ok (.if_icmp .eq 458, 3) := lwR_at lwK_11 34 rfl
theorem dL_731 : decode code 731 = .ok (.iconst 0, 1) := lwR_at lwK_11 35 rfl
theorem dL_732 : decode code 732 = .ok (.ireturn, 1) := lwR_at lwK_11 36 rfl
theorem dL_733 : decode code 733 = .ok (.aload_n 1, 1) := lwR_at lwK_11 37 rfl
theorem dL_734 : decode code 734 = .ok (.invokevirtual 78, 3) := lwR_at lwK_11 38 rfl
theorem dL_737 : decode code 737 = .ok (.aload_n 2, 1) := lwR_at lwK_11 39 rfl
def lwR_12 : List (Nat × Instr × Nat) := [(738, .invokevirtual 82, 3), (741, .if_icmp .eq 445, 3), (744, .iconst 0, 1), (745, .ireturn, 1), (746, .aload_n 1, 1), (747, .invokevirtual 83, 3), (750, .aload_n 2, 1), (751, .invokevirtual 86, 3), (754, .if_icmp .eq 432, 3), (757, .iconst 0, 1), (758, .ireturn, 1), (759, .aload_n 1, 1), (760, .aload_n 0, 1), (761, .iload_n 3, 1), (762, .iconst 1, 1), (763, .iadd, 1), (764, .iaload, 1), (765, .invokevirtual 87, 3), (768, .aload_n 2, 1), (769, .aload_n 0, 1), (770, .iload_n 3, 1), (771, .iconst 1, 1), (772, .iadd, 1), (773, .iaload, 1), (774, .invokevirtual 90, 3), (777, .if_icmp .eq 409, 3), (780, .iconst 0, 1), (781, .ireturn, 1), (782, .aload_n 1, 1), (783, .aload_n 0, 1), (784, .iload_n 3, 1), (785, .iconst 1, 1), (786, .iadd, 1), (787, .iaload, 1), (788, .invokevirtual 91, 3), (791, .aload_n 2, 1), (792, .aload_n 0, 1), (793, .iload_n 3, 1), (794, .iconst 1, 1), (795, .iadd, 1)]
theorem lwK_12 : lwR_12.all lwRk = true := by decide +kernel
theorem dL_738 : decode code 738 = .ok (.invokevirtual 82, 3) := lwR_at lwK_12 0 rfl
theorem dL_741 : decode code 741 = .ok (.if_icmp .eq 445, 3) := lwR_at lwK_12 1 rfl
theorem dL_744 : decode code 744 = .ok (.iconst 0, 1) := lwR_at lwK_12 2 rfl
theorem dL_745 : decode code 745 = .ok (.ireturn, 1) := lwR_at lwK_12 3 rfl
theorem dL_746 : decode code 746 = .ok (.aload_n 1, 1) := lwR_at lwK_12 4 rfl
theorem dL_747 : decode code 747 = .ok (.invokevirtual 83, 3) := lwR_at lwK_12 5 rfl
theorem dL_750 : decode code 750 = .ok (.aload_n 2, 1) := lwR_at lwK_12 6 rfl
theorem dL_751 : decode code 751 = .ok (.invokevirtual 86, 3) := lwR_at lwK_12 7 rfl
theorem dL_754 : decode code 754 = .ok (.if_icmp .eq 432, 3) := lwR_at lwK_12 8 rfl
theorem dL_757 : decode code 757 = .ok (.iconst 0, 1) := lwR_at lwK_12 9 rfl
theorem dL_758 : decode code 758 = .ok (.ireturn, 1) := lwR_at lwK_12 10 rfl
theorem dL_759 : decode code 759 = .ok (.aload_n 1, 1) := lwR_at lwK_12 11 rfl
theorem dL_760 : decode code 760 = .ok (.aload_n 0, 1) := lwR_at lwK_12 12 rfl
theorem dL_761 : decode code 761 = .ok (.iload_n 3, 1) := lwR_at lwK_12 13 rfl
theorem dL_762 : decode code 762 = .ok (.iconst 1, 1) := lwR_at lwK_12 14 rfl
theorem dL_763 : decode code 763 = .ok (.iadd, 1) := lwR_at lwK_12 15 rfl
theorem dL_764 : decode code 764 = .ok (.iaload, 1) := lwR_at lwK_12 16 rfl
theorem dL_765 : decode code 765 = .ok (.invokevirtual 87, 3) := lwR_at lwK_12 17 rfl
theorem dL_768 : decode code 768 = .ok (.aload_n 2, 1) := lwR_at lwK_12 18 rfl
theorem dL_769 : decode code 769 = .ok (.aload_n 0, 1) := lwR_at lwK_12 19 rfl
theorem dL_770 : decode code 770 = .ok (.iload_n 3, 1) := lwR_at lwK_12 20 rfl
theorem dL_771 : decode code 771 = .ok (.iconst 1, 1) := lwR_at lwK_12 21 rfl
theorem dL_772 : decode code 772 = .ok (.iadd, 1) := lwR_at lwK_12 22 rfl
theorem dL_773 : decode code 773 = .ok (.iaload, 1) := lwR_at lwK_12 23 rfl
theorem dL_774 : decode code 774 = .ok (.invokevirtual 90, 3) := lwR_at lwK_12 24 rfl
theorem dL_777 : decode code 777 = .ok (.if_icmp .eq 409, 3) := lwR_at lwK_12 25 rfl
theorem dL_780 : decode code 780 = .ok (.iconst 0, 1) := lwR_at lwK_12 26 rfl
theorem dL_781 : decode code 781 = .ok (.ireturn, 1) := lwR_at lwK_12 27 rfl
theorem dL_782 : decode code 782 = .ok (.aload_n 1, 1) := lwR_at lwK_12 28 rfl
theorem dL_783 : decode code 783 = .ok (.aload_n 0, 1) := lwR_at lwK_12 29 rfl
theorem dL_784 : decode code 784 = .ok (.iload_n 3, 1) := lwR_at lwK_12 30 rfl
theorem dL_785 : decode code 785 = .ok (.iconst 1, 1) := lwR_at lwK_12 31 rfl
theorem dL_786 : decode code 786 = .ok (.iadd, 1) := lwR_at lwK_12 32 rfl
theorem dL_787 : decode code 787 = .ok (.iaload, 1) := lwR_at lwK_12 33 rfl
theorem dL_788 : decode code 788 = .ok (.invokevirtual 91, 3) := lwR_at lwK_12 34 rfl
theorem dL_791 : decode code 791 = .ok (.aload_n 2, 1) := lwR_at lwK_12 35 rfl
theorem dL_792 : decode code 792 = .ok (.aload_n 0, 1) := lwR_at lwK_12 36 rfl
theorem dL_793 : decode code 793 = .ok (.iload_n 3, 1) := lwR_at lwK_12 37 rfl
theorem dL_794 : decode code 794 = .ok (.iconst 1, 1) := lwR_at lwK_12 38 rfl
theorem dL_795 : decode code 795 = .ok (.iadd, 1) := lwR_at lwK_12 39 rfl
def lwR_13 : List (Nat × Instr × Nat) := [(796, .iaload, 1), (797, .invokevirtual 94, 3), (800, .if_icmp .eq 386, 3), (803, .iconst 0, 1), (804, .ireturn, 1), (805, .aload_n 1, 1), (806, .aload_n 0, 1), (807, .iload_n 3, 1), (808, .iconst 1, 1), (809, .iadd, 1), (810, .iaload, 1), (811, .invokevirtual 95, 3), (814, .aload_n 2, 1), (815, .aload_n 0, 1), (816, .iload_n 3, 1), (817, .iconst 1, 1), (818, .iadd, 1), (819, .iaload, 1), (820, .invokevirtual 98, 3), (823, .if_icmp .eq 363, 3), (826, .iconst 0, 1), (827, .ireturn, 1), (828, .aload_n 1, 1), (829, .aload_n 0, 1), (830, .iload_n 3, 1), (831, .iconst 1, 1), (832, .iadd, 1), (833, .iaload, 1), (834, .aload_n 0, 1), (835, .iload_n 3, 1), (836, .iconst 2, 1), (837, .iadd, 1), (838, .iaload, 1), (839, .invokevirtual 99, 3), (842, .aload_n 2, 1), (843, .aload_n 0, 1), (844, .iload_n 3, 1), (845, .iconst 1, 1), (846, .iadd, 1), (847, .iaload, 1)]
theorem lwK_13 : lwR_13.all lwRk = true := by decide +kernel
theorem dL_796 : decode code 796 = .ok (.iaload, 1) := lwR_at lwK_13 0 rfl
theorem dL_797 : decode code 797 = .ok (.invokevirtual 94, 3) := lwR_at lwK_13 1 rfl
theorem dL_800 : decode code 800 = .ok (.if_icmp .eq 386, 3) := lwR_at lwK_13 2 rfl
theorem dL_803 : decode code 803 = .ok (.iconst 0, 1) := lwR_at lwK_13 3 rfl
theorem dL_804 : decode code 804 = .ok (.ireturn, 1) := lwR_at lwK_13 4 rfl
theorem dL_805 : decode code 805 = .ok (.aload_n 1, 1) := lwR_at lwK_13 5 rfl
theorem dL_806 : decode code 806 = .ok (.aload_n 0, 1) := lwR_at lwK_13 6 rfl
theorem dL_807 : decode code 807 = .ok (.iload_n 3, 1) := lwR_at lwK_13 7 rfl
theorem dL_808 : decode code 808 = .ok (.iconst 1, 1) := lwR_at lwK_13 8 rfl
theorem dL_809 : decode code 809 = .ok (.iadd, 1) := lwR_at lwK_13 9 rfl
theorem dL_810 : decode code 810 = .ok (.iaload, 1) := lwR_at lwK_13 10 rfl
theorem dL_811 : decode code 811 = .ok (.invokevirtual 95, 3) := lwR_at lwK_13 11 rfl
theorem dL_814 : decode code 814 = .ok (.aload_n 2, 1) := lwR_at lwK_13 12 rfl
theorem dL_815 : decode code 815 = .ok (.aload_n 0, 1) := lwR_at lwK_13 13 rfl
theorem dL_816 : decode code 816 = .ok (.iload_n 3, 1) := lwR_at lwK_13 14 rfl
theorem dL_817 : decode code 817 = .ok (.iconst 1, 1) := lwR_at lwK_13 15 rfl
theorem dL_818 : decode code 818 = .ok (.iadd, 1) := lwR_at lwK_13 16 rfl
theorem dL_819 : decode code 819 = .ok (.iaload, 1) := lwR_at lwK_13 17 rfl
theorem dL_820 : decode code 820 = .ok (.invokevirtual 98, 3) := lwR_at lwK_13 18 rfl
theorem dL_823 : decode code 823 = .ok (.if_icmp .eq 363, 3) := lwR_at lwK_13 19 rfl
theorem dL_826 : decode code 826 = .ok (.iconst 0, 1) := lwR_at lwK_13 20 rfl
theorem dL_827 : decode code 827 = .ok (.ireturn, 1) := lwR_at lwK_13 21 rfl
theorem dL_828 : decode code 828 = .ok (.aload_n 1, 1) := lwR_at lwK_13 22 rfl
theorem dL_829 : decode code 829 = .ok (.aload_n 0, 1) := lwR_at lwK_13 23 rfl
theorem dL_830 : decode code 830 = .ok (.iload_n 3, 1) := lwR_at lwK_13 24 rfl
theorem dL_831 : decode code 831 = .ok (.iconst 1, 1) := lwR_at lwK_13 25 rfl
theorem dL_832 : decode code 832 = .ok (.iadd, 1) := lwR_at lwK_13 26 rfl
theorem dL_833 : decode code 833 = .ok (.iaload, 1) := lwR_at lwK_13 27 rfl
theorem dL_834 : decode code 834 = .ok (.aload_n 0, 1) := lwR_at lwK_13 28 rfl
theorem dL_835 : decode code 835 = .ok (.iload_n 3, 1) := lwR_at lwK_13 29 rfl
theorem dL_836 : decode code 836 = .ok (.iconst 2, 1) := lwR_at lwK_13 30 rfl
theorem dL_837 : decode code 837 = .ok (.iadd, 1) := lwR_at lwK_13 31 rfl
theorem dL_838 : decode code 838 = .ok (.iaload, 1) := lwR_at lwK_13 32 rfl
theorem dL_839 : decode code 839 = .ok (.invokevirtual 99, 3) := lwR_at lwK_13 33 rfl
theorem dL_842 : decode code 842 = .ok (.aload_n 2, 1) := lwR_at lwK_13 34 rfl
theorem dL_843 : decode code 843 = .ok (.aload_n 0, 1) := lwR_at lwK_13 35 rfl
theorem dL_844 : decode code 844 = .ok (.iload_n 3, 1) := lwR_at lwK_13 36 rfl
theorem dL_845 : decode code 845 = .ok (.iconst 1, 1) := lwR_at lwK_13 37 rfl
theorem dL_846 : decode code 846 = .ok (.iadd, 1) := lwR_at lwK_13 38 rfl
theorem dL_847 : decode code 847 = .ok (.iaload, 1) := lwR_at lwK_13 39 rfl
def lwR_14 : List (Nat × Instr × Nat) := [(848, .aload_n 0, 1), (849, .iload_n 3, 1), (850, .iconst 2, 1), (851, .iadd, 1), (852, .iaload, 1), (853, .invokevirtual 102, 3), (856, .if_icmp .eq 330, 3), (859, .iconst 0, 1), (860, .ireturn, 1), (861, .aload_n 1, 1), (862, .aload_n 0, 1), (863, .iload_n 3, 1), (864, .iconst 1, 1), (865, .iadd, 1), (866, .iaload, 1), (867, .aload_n 0, 1), (868, .iload_n 3, 1), (869, .iconst 2, 1), (870, .iadd, 1), (871, .iaload, 1), (872, .aload_n 0, 1), (873, .iload_n 3, 1), (874, .iconst 3, 1), (875, .iadd, 1), (876, .iaload, 1), (877, .invokevirtual 103, 3), (880, .aload_n 2, 1), (881, .aload_n 0, 1), (882, .iload_n 3, 1), (883, .iconst 1, 1), (884, .iadd, 1), (885, .iaload, 1), (886, .aload_n 0, 1), (887, .iload_n 3, 1), (888, .iconst 2, 1), (889, .iadd, 1), (890, .iaload, 1), (891, .aload_n 0, 1), (892, .iload_n 3, 1), (893, .iconst 3, 1)]
theorem lwK_14 : lwR_14.all lwRk = true := by decide +kernel
theorem dL_848 : decode code 848 = .ok (.aload_n 0, 1) := lwR_at lwK_14 0 rfl
theorem dL_849 : decode code 849 = .ok (.iload_n 3, 1) := lwR_at lwK_14 1 rfl
theorem dL_850 : decode code 850 = .ok (.iconst 2, 1) := lwR_at lwK_14 2 rfl
theorem dL_851 : decode code 851 = .ok (.iadd, 1) := lwR_at lwK_14 3 rfl
theorem dL_852 : decode code 852 = .ok (.iaload, 1) := lwR_at lwK_14 4 rfl
theorem dL_853 : decode code 853 = .ok (.invokevirtual 102, 3) := lwR_at lwK_14 5 rfl
theorem dL_856 : decode code 856 = .ok (.if_icmp .eq 330, 3) := lwR_at lwK_14 6 rfl
theorem dL_859 : decode code 859 = .ok (.iconst 0, 1) := lwR_at lwK_14 7 rfl
theorem dL_860 : decode code 860 = .ok (.ireturn, 1) := lwR_at lwK_14 8 rfl
theorem dL_861 : decode code 861 = .ok (.aload_n 1, 1) := lwR_at lwK_14 9 rfl
theorem dL_862 : decode code 862 = .ok (.aload_n 0, 1) := lwR_at lwK_14 10 rfl
theorem dL_863 : decode code 863 = .ok (.iload_n 3, 1) := lwR_at lwK_14 11 rfl
theorem dL_864 : decode code 864 = .ok (.iconst 1, 1) := lwR_at lwK_14 12 rfl
theorem dL_865 : decode code 865 = .ok (.iadd, 1) := lwR_at lwK_14 13 rfl
theorem dL_866 : decode code 866 = .ok (.iaload, 1) := lwR_at lwK_14 14 rfl
theorem dL_867 : decode code 867 = .ok (.aload_n 0, 1) := lwR_at lwK_14 15 rfl
theorem dL_868 : decode code 868 = .ok (.iload_n 3, 1) := lwR_at lwK_14 16 rfl
theorem dL_869 : decode code 869 = .ok (.iconst 2, 1) := lwR_at lwK_14 17 rfl
theorem dL_870 : decode code 870 = .ok (.iadd, 1) := lwR_at lwK_14 18 rfl
theorem dL_871 : decode code 871 = .ok (.iaload, 1) := lwR_at lwK_14 19 rfl
theorem dL_872 : decode code 872 = .ok (.aload_n 0, 1) := lwR_at lwK_14 20 rfl
theorem dL_873 : decode code 873 = .ok (.iload_n 3, 1) := lwR_at lwK_14 21 rfl
theorem dL_874 : decode code 874 = .ok (.iconst 3, 1) := lwR_at lwK_14 22 rfl
theorem dL_875 : decode code 875 = .ok (.iadd, 1) := lwR_at lwK_14 23 rfl
theorem dL_876 : decode code 876 = .ok (.iaload, 1) := lwR_at lwK_14 24 rfl
theorem dL_877 : decode code 877 = .ok (.invokevirtual 103, 3) := lwR_at lwK_14 25 rfl
theorem dL_880 : decode code 880 = .ok (.aload_n 2, 1) := lwR_at lwK_14 26 rfl
theorem dL_881 : decode code 881 = .ok (.aload_n 0, 1) := lwR_at lwK_14 27 rfl
theorem dL_882 : decode code 882 = .ok (.iload_n 3, 1) := lwR_at lwK_14 28 rfl
theorem dL_883 : decode code 883 = .ok (.iconst 1, 1) := lwR_at lwK_14 29 rfl
theorem dL_884 : decode code 884 = .ok (.iadd, 1) := lwR_at lwK_14 30 rfl
theorem dL_885 : decode code 885 = .ok (.iaload, 1) := lwR_at lwK_14 31 rfl
theorem dL_886 : decode code 886 = .ok (.aload_n 0, 1) := lwR_at lwK_14 32 rfl
theorem dL_887 : decode code 887 = .ok (.iload_n 3, 1) := lwR_at lwK_14 33 rfl
theorem dL_888 : decode code 888 = .ok (.iconst 2, 1) := lwR_at lwK_14 34 rfl
theorem dL_889 : decode code 889 = .ok (.iadd, 1) := lwR_at lwK_14 35 rfl
theorem dL_890 : decode code 890 = .ok (.iaload, 1) := lwR_at lwK_14 36 rfl
theorem dL_891 : decode code 891 = .ok (.aload_n 0, 1) := lwR_at lwK_14 37 rfl
theorem dL_892 : decode code 892 = .ok (.iload_n 3, 1) := lwR_at lwK_14 38 rfl
theorem dL_893 : decode code 893 = .ok (.iconst 3, 1) := lwR_at lwK_14 39 rfl
def lwR_15 : List (Nat × Instr × Nat) := [(894, .iadd, 1), (895, .iaload, 1), (896, .invokevirtual 106, 3), (899, .if_icmp .eq 287, 3), (902, .iconst 0, 1), (903, .ireturn, 1), (904, .aload_n 1, 1), (905, .aload_n 0, 1), (906, .iload_n 3, 1), (907, .iconst 1, 1), (908, .iadd, 1), (909, .iaload, 1), (910, .invokevirtual 107, 3), (913, .aload_n 2, 1), (914, .aload_n 0, 1), (915, .iload_n 3, 1), (916, .iconst 1, 1), (917, .iadd, 1), (918, .iaload, 1), (919, .invokevirtual 110, 3), (922, .if_icmp .eq 264, 3), (925, .iconst 0, 1), (926, .ireturn, 1), (927, .aload_n 1, 1), (928, .aload_n 0, 1), (929, .iload_n 3, 1), (930, .iconst 1, 1), (931, .iadd, 1), (932, .iaload, 1), (933, .invokevirtual 111, 3), (936, .aload_n 2, 1), (937, .aload_n 0, 1), (938, .iload_n 3, 1), (939, .iconst 1, 1), (940, .iadd, 1), (941, .iaload, 1), (942, .invokevirtual 114, 3), (945, .if_icmp .eq 241, 3), (948, .iconst 0, 1), (949, .ireturn, 1)]
theorem lwK_15 : lwR_15.all lwRk = true := by decide +kernel
theorem dL_894 : decode code 894 = .ok (.iadd, 1) := lwR_at lwK_15 0 rfl
theorem dL_895 : decode code 895 = .ok (.iaload, 1) := lwR_at lwK_15 1 rfl
theorem dL_896 : decode code 896 = .ok (.invokevirtual 106, 3) := lwR_at lwK_15 2 rfl
theorem dL_899 : decode code 899 = .ok (.if_icmp .eq 287, 3) := lwR_at lwK_15 3 rfl
theorem dL_902 : decode code 902 = .ok (.iconst 0, 1) := lwR_at lwK_15 4 rfl
theorem dL_903 : decode code 903 = .ok (.ireturn, 1) := lwR_at lwK_15 5 rfl
theorem dL_904 : decode code 904 = .ok (.aload_n 1, 1) := lwR_at lwK_15 6 rfl
theorem dL_905 : decode code 905 = .ok (.aload_n 0, 1) := lwR_at lwK_15 7 rfl
theorem dL_906 : decode code 906 = .ok (.iload_n 3, 1) := lwR_at lwK_15 8 rfl
theorem dL_907 : decode code 907 = .ok (.iconst 1, 1) := lwR_at lwK_15 9 rfl
theorem dL_908 : decode code 908 = .ok (.iadd, 1) := lwR_at lwK_15 10 rfl
theorem dL_909 : decode code 909 = .ok (.iaload, 1) := lwR_at lwK_15 11 rfl
theorem dL_910 : decode code 910 = .ok (.invokevirtual 107, 3) := lwR_at lwK_15 12 rfl
theorem dL_913 : decode code 913 = .ok (.aload_n 2, 1) := lwR_at lwK_15 13 rfl
theorem dL_914 : decode code 914 = .ok (.aload_n 0, 1) := lwR_at lwK_15 14 rfl
theorem dL_915 : decode code 915 = .ok (.iload_n 3, 1) := lwR_at lwK_15 15 rfl
theorem dL_916 : decode code 916 = .ok (.iconst 1, 1) := lwR_at lwK_15 16 rfl
theorem dL_917 : decode code 917 = .ok (.iadd, 1) := lwR_at lwK_15 17 rfl
theorem dL_918 : decode code 918 = .ok (.iaload, 1) := lwR_at lwK_15 18 rfl
theorem dL_919 : decode code 919 = .ok (.invokevirtual 110, 3) := lwR_at lwK_15 19 rfl
theorem dL_922 : decode code 922 = .ok (.if_icmp .eq 264, 3) := lwR_at lwK_15 20 rfl
theorem dL_925 : decode code 925 = .ok (.iconst 0, 1) := lwR_at lwK_15 21 rfl
theorem dL_926 : decode code 926 = .ok (.ireturn, 1) := lwR_at lwK_15 22 rfl
theorem dL_927 : decode code 927 = .ok (.aload_n 1, 1) := lwR_at lwK_15 23 rfl
theorem dL_928 : decode code 928 = .ok (.aload_n 0, 1) := lwR_at lwK_15 24 rfl
theorem dL_929 : decode code 929 = .ok (.iload_n 3, 1) := lwR_at lwK_15 25 rfl
theorem dL_930 : decode code 930 = .ok (.iconst 1, 1) := lwR_at lwK_15 26 rfl
theorem dL_931 : decode code 931 = .ok (.iadd, 1) := lwR_at lwK_15 27 rfl
theorem dL_932 : decode code 932 = .ok (.iaload, 1) := lwR_at lwK_15 28 rfl
theorem dL_933 : decode code 933 = .ok (.invokevirtual 111, 3) := lwR_at lwK_15 29 rfl
theorem dL_936 : decode code 936 = .ok (.aload_n 2, 1) := lwR_at lwK_15 30 rfl
theorem dL_937 : decode code 937 = .ok (.aload_n 0, 1) := lwR_at lwK_15 31 rfl
theorem dL_938 : decode code 938 = .ok (.iload_n 3, 1) := lwR_at lwK_15 32 rfl
theorem dL_939 : decode code 939 = .ok (.iconst 1, 1) := lwR_at lwK_15 33 rfl
theorem dL_940 : decode code 940 = .ok (.iadd, 1) := lwR_at lwK_15 34 rfl
theorem dL_941 : decode code 941 = .ok (.iaload, 1) := lwR_at lwK_15 35 rfl
theorem dL_942 : decode code 942 = .ok (.invokevirtual 114, 3) := lwR_at lwK_15 36 rfl
theorem dL_945 : decode code 945 = .ok (.if_icmp .eq 241, 3) := lwR_at lwK_15 37 rfl
theorem dL_948 : decode code 948 = .ok (.iconst 0, 1) := lwR_at lwK_15 38 rfl
theorem dL_949 : decode code 949 = .ok (.ireturn, 1) := lwR_at lwK_15 39 rfl
def lwR_16 : List (Nat × Instr × Nat) := [(950, .aload_n 1, 1), (951, .aload_n 0, 1), (952, .iload_n 3, 1), (953, .iconst 1, 1), (954, .iadd, 1), (955, .iaload, 1), (956, .invokevirtual 115, 3), (959, .aload_n 2, 1), (960, .aload_n 0, 1), (961, .iload_n 3, 1), (962, .iconst 1, 1), (963, .iadd, 1), (964, .iaload, 1), (965, .invokevirtual 118, 3), (968, .if_icmp .eq 218, 3), (971, .iconst 0, 1), (972, .ireturn, 1), (973, .aload_n 1, 1), (974, .invokevirtual 119, 3), (977, .aload_n 2, 1), (978, .invokevirtual 122, 3), (981, .if_icmp .eq 205, 3), (984, .iconst 0, 1), (985, .ireturn, 1), (986, .aload_n 1, 1), (987, .aload_n 0, 1), (988, .iload_n 3, 1), (989, .iconst 1, 1), (990, .iadd, 1), (991, .iaload, 1), (992, .invokevirtual 123, 3), (995, .aload_n 2, 1), (996, .aload_n 0, 1), (997, .iload_n 3, 1), (998, .iconst 1, 1), (999, .iadd, 1), (1000, .iaload, 1), (1001, .invokevirtual 126, 3), (1004, .if_icmp .eq 182, 3), (1007, .iconst 0, 1)]
theorem lwK_16 : lwR_16.all lwRk = true := by decide +kernel
theorem dL_950 : decode code 950 = .ok (.aload_n 1, 1) := lwR_at lwK_16 0 rfl
theorem dL_951 : decode code 951 = .ok (.aload_n 0, 1) := lwR_at lwK_16 1 rfl
theorem dL_952 : decode code 952 = .ok (.iload_n 3, 1) := lwR_at lwK_16 2 rfl
theorem dL_953 : decode code 953 = .ok (.iconst 1, 1) := lwR_at lwK_16 3 rfl
theorem dL_954 : decode code 954 = .ok (.iadd, 1) := lwR_at lwK_16 4 rfl
theorem dL_955 : decode code 955 = .ok (.iaload, 1) := lwR_at lwK_16 5 rfl
theorem dL_956 : decode code 956 = .ok (.invokevirtual 115, 3) := lwR_at lwK_16 6 rfl
theorem dL_959 : decode code 959 = .ok (.aload_n 2, 1) := lwR_at lwK_16 7 rfl
theorem dL_960 : decode code 960 = .ok (.aload_n 0, 1) := lwR_at lwK_16 8 rfl
theorem dL_961 : decode code 961 = .ok (.iload_n 3, 1) := lwR_at lwK_16 9 rfl
theorem dL_962 : decode code 962 = .ok (.iconst 1, 1) := lwR_at lwK_16 10 rfl
theorem dL_963 : decode code 963 = .ok (.iadd, 1) := lwR_at lwK_16 11 rfl
theorem dL_964 : decode code 964 = .ok (.iaload, 1) := lwR_at lwK_16 12 rfl
theorem dL_965 : decode code 965 = .ok (.invokevirtual 118, 3) := lwR_at lwK_16 13 rfl
theorem dL_968 : decode code 968 = .ok (.if_icmp .eq 218, 3) := lwR_at lwK_16 14 rfl
theorem dL_971 : decode code 971 = .ok (.iconst 0, 1) := lwR_at lwK_16 15 rfl
theorem dL_972 : decode code 972 = .ok (.ireturn, 1) := lwR_at lwK_16 16 rfl
theorem dL_973 : decode code 973 = .ok (.aload_n 1, 1) := lwR_at lwK_16 17 rfl
theorem dL_974 : decode code 974 = .ok (.invokevirtual 119, 3) := lwR_at lwK_16 18 rfl
theorem dL_977 : decode code 977 = .ok (.aload_n 2, 1) := lwR_at lwK_16 19 rfl
theorem dL_978 : decode code 978 = .ok (.invokevirtual 122, 3) := lwR_at lwK_16 20 rfl
theorem dL_981 : decode code 981 = .ok (.if_icmp .eq 205, 3) := lwR_at lwK_16 21 rfl
theorem dL_984 : decode code 984 = .ok (.iconst 0, 1) := lwR_at lwK_16 22 rfl
theorem dL_985 : decode code 985 = .ok (.ireturn, 1) := lwR_at lwK_16 23 rfl
theorem dL_986 : decode code 986 = .ok (.aload_n 1, 1) := lwR_at lwK_16 24 rfl
theorem dL_987 : decode code 987 = .ok (.aload_n 0, 1) := lwR_at lwK_16 25 rfl
theorem dL_988 : decode code 988 = .ok (.iload_n 3, 1) := lwR_at lwK_16 26 rfl
theorem dL_989 : decode code 989 = .ok (.iconst 1, 1) := lwR_at lwK_16 27 rfl
theorem dL_990 : decode code 990 = .ok (.iadd, 1) := lwR_at lwK_16 28 rfl
theorem dL_991 : decode code 991 = .ok (.iaload, 1) := lwR_at lwK_16 29 rfl
theorem dL_992 : decode code 992 = .ok (.invokevirtual 123, 3) := lwR_at lwK_16 30 rfl
theorem dL_995 : decode code 995 = .ok (.aload_n 2, 1) := lwR_at lwK_16 31 rfl
theorem dL_996 : decode code 996 = .ok (.aload_n 0, 1) := lwR_at lwK_16 32 rfl
theorem dL_997 : decode code 997 = .ok (.iload_n 3, 1) := lwR_at lwK_16 33 rfl
theorem dL_998 : decode code 998 = .ok (.iconst 1, 1) := lwR_at lwK_16 34 rfl
theorem dL_999 : decode code 999 = .ok (.iadd, 1) := lwR_at lwK_16 35 rfl
theorem dL_1000 : decode code 1000 = .ok (.iaload, 1) := lwR_at lwK_16 36 rfl
theorem dL_1001 : decode code 1001 = .ok (.invokevirtual 126, 3) := lwR_at lwK_16 37 rfl
theorem dL_1004 : decode code 1004 = .ok (.if_icmp .eq 182, 3) := lwR_at lwK_16 38 rfl
theorem dL_1007 : decode code 1007 = .ok (.iconst 0, 1) := lwR_at lwK_16 39 rfl
def lwR_17 : List (Nat × Instr × Nat) := [(1008, .ireturn, 1), (1009, .aload_n 1, 1), (1010, .aload_n 0, 1), (1011, .iload_n 3, 1), (1012, .iconst 1, 1), (1013, .iadd, 1), (1014, .iaload, 1), (1015, .aload_n 0, 1), (1016, .iload_n 3, 1), (1017, .iconst 2, 1), (1018, .iadd, 1), (1019, .iaload, 1), (1020, .invokevirtual 127, 3), (1023, .aload_n 2, 1), (1024, .aload_n 0, 1), (1025, .iload_n 3, 1), (1026, .iconst 1, 1), (1027, .iadd, 1), (1028, .iaload, 1), (1029, .aload_n 0, 1), (1030, .iload_n 3, 1), (1031, .iconst 2, 1), (1032, .iadd, 1), (1033, .iaload, 1), (1034, .invokevirtual 130, 3), (1037, .if_icmp .eq 149, 3), (1040, .iconst 0, 1), (1041, .ireturn, 1), (1042, .aload_n 1, 1), (1043, .aload_n 0, 1), (1044, .iload_n 3, 1), (1045, .iconst 1, 1), (1046, .iadd, 1), (1047, .iaload, 1), (1048, .aload_n 0, 1), (1049, .iload_n 3, 1), (1050, .iconst 2, 1), (1051, .iadd, 1), (1052, .iaload, 1), (1053, .aload_n 0, 1)]
theorem lwK_17 : lwR_17.all lwRk = true := by decide +kernel
theorem dL_1008 : decode code 1008 = .ok (.ireturn, 1) := lwR_at lwK_17 0 rfl
theorem dL_1009 : decode code 1009 = .ok (.aload_n 1, 1) := lwR_at lwK_17 1 rfl
theorem dL_1010 : decode code 1010 = .ok (.aload_n 0, 1) := lwR_at lwK_17 2 rfl
theorem dL_1011 : decode code 1011 = .ok (.iload_n 3, 1) := lwR_at lwK_17 3 rfl
theorem dL_1012 : decode code 1012 = .ok (.iconst 1, 1) := lwR_at lwK_17 4 rfl
theorem dL_1013 : decode code 1013 = .ok (.iadd, 1) := lwR_at lwK_17 5 rfl
theorem dL_1014 : decode code 1014 = .ok (.iaload, 1) := lwR_at lwK_17 6 rfl
theorem dL_1015 : decode code 1015 = .ok (.aload_n 0, 1) := lwR_at lwK_17 7 rfl
theorem dL_1016 : decode code 1016 = .ok (.iload_n 3, 1) := lwR_at lwK_17 8 rfl
theorem dL_1017 : decode code 1017 = .ok (.iconst 2, 1) := lwR_at lwK_17 9 rfl
theorem dL_1018 : decode code 1018 = .ok (.iadd, 1) := lwR_at lwK_17 10 rfl
theorem dL_1019 : decode code 1019 = .ok (.iaload, 1) := lwR_at lwK_17 11 rfl
theorem dL_1020 : decode code 1020 = .ok (.invokevirtual 127, 3) := lwR_at lwK_17 12 rfl
theorem dL_1023 : decode code 1023 = .ok (.aload_n 2, 1) := lwR_at lwK_17 13 rfl
theorem dL_1024 : decode code 1024 = .ok (.aload_n 0, 1) := lwR_at lwK_17 14 rfl
theorem dL_1025 : decode code 1025 = .ok (.iload_n 3, 1) := lwR_at lwK_17 15 rfl
theorem dL_1026 : decode code 1026 = .ok (.iconst 1, 1) := lwR_at lwK_17 16 rfl
theorem dL_1027 : decode code 1027 = .ok (.iadd, 1) := lwR_at lwK_17 17 rfl
theorem dL_1028 : decode code 1028 = .ok (.iaload, 1) := lwR_at lwK_17 18 rfl
theorem dL_1029 : decode code 1029 = .ok (.aload_n 0, 1) := lwR_at lwK_17 19 rfl
theorem dL_1030 : decode code 1030 = .ok (.iload_n 3, 1) := lwR_at lwK_17 20 rfl
theorem dL_1031 : decode code 1031 = .ok (.iconst 2, 1) := lwR_at lwK_17 21 rfl
theorem dL_1032 : decode code 1032 = .ok (.iadd, 1) := lwR_at lwK_17 22 rfl
theorem dL_1033 : decode code 1033 = .ok (.iaload, 1) := lwR_at lwK_17 23 rfl
theorem dL_1034 : decode code 1034 = .ok (.invokevirtual 130, 3) := lwR_at lwK_17 24 rfl
theorem dL_1037 : decode code 1037 = .ok (.if_icmp .eq 149, 3) := lwR_at lwK_17 25 rfl
theorem dL_1040 : decode code 1040 = .ok (.iconst 0, 1) := lwR_at lwK_17 26 rfl
theorem dL_1041 : decode code 1041 = .ok (.ireturn, 1) := lwR_at lwK_17 27 rfl
theorem dL_1042 : decode code 1042 = .ok (.aload_n 1, 1) := lwR_at lwK_17 28 rfl
theorem dL_1043 : decode code 1043 = .ok (.aload_n 0, 1) := lwR_at lwK_17 29 rfl
theorem dL_1044 : decode code 1044 = .ok (.iload_n 3, 1) := lwR_at lwK_17 30 rfl
theorem dL_1045 : decode code 1045 = .ok (.iconst 1, 1) := lwR_at lwK_17 31 rfl
theorem dL_1046 : decode code 1046 = .ok (.iadd, 1) := lwR_at lwK_17 32 rfl
theorem dL_1047 : decode code 1047 = .ok (.iaload, 1) := lwR_at lwK_17 33 rfl
theorem dL_1048 : decode code 1048 = .ok (.aload_n 0, 1) := lwR_at lwK_17 34 rfl
theorem dL_1049 : decode code 1049 = .ok (.iload_n 3, 1) := lwR_at lwK_17 35 rfl
theorem dL_1050 : decode code 1050 = .ok (.iconst 2, 1) := lwR_at lwK_17 36 rfl
theorem dL_1051 : decode code 1051 = .ok (.iadd, 1) := lwR_at lwK_17 37 rfl
theorem dL_1052 : decode code 1052 = .ok (.iaload, 1) := lwR_at lwK_17 38 rfl
theorem dL_1053 : decode code 1053 = .ok (.aload_n 0, 1) := lwR_at lwK_17 39 rfl
def lwR_18 : List (Nat × Instr × Nat) := [(1054, .iload_n 3, 1), (1055, .iconst 3, 1), (1056, .iadd, 1), (1057, .iaload, 1), (1058, .invokevirtual 131, 3), (1061, .aload_n 2, 1), (1062, .aload_n 0, 1), (1063, .iload_n 3, 1), (1064, .iconst 1, 1), (1065, .iadd, 1), (1066, .iaload, 1), (1067, .aload_n 0, 1), (1068, .iload_n 3, 1), (1069, .iconst 2, 1), (1070, .iadd, 1), (1071, .iaload, 1), (1072, .aload_n 0, 1), (1073, .iload_n 3, 1), (1074, .iconst 3, 1), (1075, .iadd, 1), (1076, .iaload, 1), (1077, .invokevirtual 134, 3), (1080, .if_icmp .eq 106, 3), (1083, .iconst 0, 1), (1084, .ireturn, 1), (1085, .aload_n 1, 1), (1086, .invokevirtual 135, 3), (1089, .aload_n 2, 1), (1090, .invokevirtual 139, 3), (1093, .lcmp, 1), (1094, .ifCond .eq 92, 3), (1097, .iconst 0, 1), (1098, .ireturn, 1), (1099, .aload_n 1, 1), (1100, .invokevirtual 140, 3), (1103, .aload_n 2, 1), (1104, .invokevirtual 143, 3), (1107, .lcmp, 1), (1108, .ifCond .eq 78, 3), (1111, .iconst 0, 1)]
theorem lwK_18 : lwR_18.all lwRk = true := by decide +kernel
theorem dL_1054 : decode code 1054 = .ok (.iload_n 3, 1) := lwR_at lwK_18 0 rfl
theorem dL_1055 : decode code 1055 = .ok (.iconst 3, 1) := lwR_at lwK_18 1 rfl
theorem dL_1056 : decode code 1056 = .ok (.iadd, 1) := lwR_at lwK_18 2 rfl
theorem dL_1057 : decode code 1057 = .ok (.iaload, 1) := lwR_at lwK_18 3 rfl
theorem dL_1058 : decode code 1058 = .ok (.invokevirtual 131, 3) := lwR_at lwK_18 4 rfl
theorem dL_1061 : decode code 1061 = .ok (.aload_n 2, 1) := lwR_at lwK_18 5 rfl
theorem dL_1062 : decode code 1062 = .ok (.aload_n 0, 1) := lwR_at lwK_18 6 rfl
theorem dL_1063 : decode code 1063 = .ok (.iload_n 3, 1) := lwR_at lwK_18 7 rfl
theorem dL_1064 : decode code 1064 = .ok (.iconst 1, 1) := lwR_at lwK_18 8 rfl
theorem dL_1065 : decode code 1065 = .ok (.iadd, 1) := lwR_at lwK_18 9 rfl
theorem dL_1066 : decode code 1066 = .ok (.iaload, 1) := lwR_at lwK_18 10 rfl
theorem dL_1067 : decode code 1067 = .ok (.aload_n 0, 1) := lwR_at lwK_18 11 rfl
theorem dL_1068 : decode code 1068 = .ok (.iload_n 3, 1) := lwR_at lwK_18 12 rfl
theorem dL_1069 : decode code 1069 = .ok (.iconst 2, 1) := lwR_at lwK_18 13 rfl
theorem dL_1070 : decode code 1070 = .ok (.iadd, 1) := lwR_at lwK_18 14 rfl
theorem dL_1071 : decode code 1071 = .ok (.iaload, 1) := lwR_at lwK_18 15 rfl
theorem dL_1072 : decode code 1072 = .ok (.aload_n 0, 1) := lwR_at lwK_18 16 rfl
theorem dL_1073 : decode code 1073 = .ok (.iload_n 3, 1) := lwR_at lwK_18 17 rfl
theorem dL_1074 : decode code 1074 = .ok (.iconst 3, 1) := lwR_at lwK_18 18 rfl
theorem dL_1075 : decode code 1075 = .ok (.iadd, 1) := lwR_at lwK_18 19 rfl
theorem dL_1076 : decode code 1076 = .ok (.iaload, 1) := lwR_at lwK_18 20 rfl
theorem dL_1077 : decode code 1077 = .ok (.invokevirtual 134, 3) := lwR_at lwK_18 21 rfl
theorem dL_1080 : decode code 1080 = .ok (.if_icmp .eq 106, 3) := lwR_at lwK_18 22 rfl
theorem dL_1083 : decode code 1083 = .ok (.iconst 0, 1) := lwR_at lwK_18 23 rfl
theorem dL_1084 : decode code 1084 = .ok (.ireturn, 1) := lwR_at lwK_18 24 rfl
theorem dL_1085 : decode code 1085 = .ok (.aload_n 1, 1) := lwR_at lwK_18 25 rfl
theorem dL_1086 : decode code 1086 = .ok (.invokevirtual 135, 3) := lwR_at lwK_18 26 rfl
theorem dL_1089 : decode code 1089 = .ok (.aload_n 2, 1) := lwR_at lwK_18 27 rfl
theorem dL_1090 : decode code 1090 = .ok (.invokevirtual 139, 3) := lwR_at lwK_18 28 rfl
theorem dL_1093 : decode code 1093 = .ok (.lcmp, 1) := lwR_at lwK_18 29 rfl
theorem dL_1094 : decode code 1094 = .ok (.ifCond .eq 92, 3) := lwR_at lwK_18 30 rfl
theorem dL_1097 : decode code 1097 = .ok (.iconst 0, 1) := lwR_at lwK_18 31 rfl
theorem dL_1098 : decode code 1098 = .ok (.ireturn, 1) := lwR_at lwK_18 32 rfl
theorem dL_1099 : decode code 1099 = .ok (.aload_n 1, 1) := lwR_at lwK_18 33 rfl
theorem dL_1100 : decode code 1100 = .ok (.invokevirtual 140, 3) := lwR_at lwK_18 34 rfl
theorem dL_1103 : decode code 1103 = .ok (.aload_n 2, 1) := lwR_at lwK_18 35 rfl
theorem dL_1104 : decode code 1104 = .ok (.invokevirtual 143, 3) := lwR_at lwK_18 36 rfl
theorem dL_1107 : decode code 1107 = .ok (.lcmp, 1) := lwR_at lwK_18 37 rfl
theorem dL_1108 : decode code 1108 = .ok (.ifCond .eq 78, 3) := lwR_at lwK_18 38 rfl
theorem dL_1111 : decode code 1111 = .ok (.iconst 0, 1) := lwR_at lwK_18 39 rfl
def lwR_19 : List (Nat × Instr × Nat) := [(1112, .ireturn, 1), (1113, .aload_n 1, 1), (1114, .aload_n 0, 1), (1115, .iload_n 3, 1), (1116, .iconst 1, 1), (1117, .iadd, 1), (1118, .iaload, 1), (1119, .invokevirtual 144, 3), (1122, .aload_n 2, 1), (1123, .aload_n 0, 1), (1124, .iload_n 3, 1), (1125, .iconst 1, 1), (1126, .iadd, 1), (1127, .iaload, 1), (1128, .invokevirtual 147, 3), (1131, .if_icmp .eq 55, 3), (1134, .iconst 0, 1), (1135, .ireturn, 1), (1136, .aload_n 1, 1), (1137, .invokevirtual 148, 3), (1140, .aload_n 2, 1), (1141, .invokevirtual 151, 3), (1144, .if_icmp .eq 42, 3), (1147, .iconst 0, 1), (1148, .ireturn, 1), (1149, .aload_n 1, 1), (1150, .aload_n 0, 1), (1151, .iload_n 3, 1), (1152, .iconst 1, 1), (1153, .iadd, 1), (1154, .iaload, 1), (1155, .invokevirtual 152, 3), (1158, .aload_n 2, 1), (1159, .aload_n 0, 1), (1160, .iload_n 3, 1), (1161, .iconst 1, 1), (1162, .iadd, 1), (1163, .iaload, 1), (1164, .invokevirtual 155, 3), (1167, .if_icmp .eq 19, 3)]
theorem lwK_19 : lwR_19.all lwRk = true := by decide +kernel
theorem dL_1112 : decode code 1112 = .ok (.ireturn, 1) := lwR_at lwK_19 0 rfl
theorem dL_1113 : decode code 1113 = .ok (.aload_n 1, 1) := lwR_at lwK_19 1 rfl
theorem dL_1114 : decode code 1114 = .ok (.aload_n 0, 1) := lwR_at lwK_19 2 rfl
theorem dL_1115 : decode code 1115 = .ok (.iload_n 3, 1) := lwR_at lwK_19 3 rfl
theorem dL_1116 : decode code 1116 = .ok (.iconst 1, 1) := lwR_at lwK_19 4 rfl
theorem dL_1117 : decode code 1117 = .ok (.iadd, 1) := lwR_at lwK_19 5 rfl
theorem dL_1118 : decode code 1118 = .ok (.iaload, 1) := lwR_at lwK_19 6 rfl
theorem dL_1119 : decode code 1119 = .ok (.invokevirtual 144, 3) := lwR_at lwK_19 7 rfl
theorem dL_1122 : decode code 1122 = .ok (.aload_n 2, 1) := lwR_at lwK_19 8 rfl
theorem dL_1123 : decode code 1123 = .ok (.aload_n 0, 1) := lwR_at lwK_19 9 rfl
theorem dL_1124 : decode code 1124 = .ok (.iload_n 3, 1) := lwR_at lwK_19 10 rfl
theorem dL_1125 : decode code 1125 = .ok (.iconst 1, 1) := lwR_at lwK_19 11 rfl
theorem dL_1126 : decode code 1126 = .ok (.iadd, 1) := lwR_at lwK_19 12 rfl
theorem dL_1127 : decode code 1127 = .ok (.iaload, 1) := lwR_at lwK_19 13 rfl
theorem dL_1128 : decode code 1128 = .ok (.invokevirtual 147, 3) := lwR_at lwK_19 14 rfl
theorem dL_1131 : decode code 1131 = .ok (.if_icmp .eq 55, 3) := lwR_at lwK_19 15 rfl
theorem dL_1134 : decode code 1134 = .ok (.iconst 0, 1) := lwR_at lwK_19 16 rfl
theorem dL_1135 : decode code 1135 = .ok (.ireturn, 1) := lwR_at lwK_19 17 rfl
theorem dL_1136 : decode code 1136 = .ok (.aload_n 1, 1) := lwR_at lwK_19 18 rfl
theorem dL_1137 : decode code 1137 = .ok (.invokevirtual 148, 3) := lwR_at lwK_19 19 rfl
theorem dL_1140 : decode code 1140 = .ok (.aload_n 2, 1) := lwR_at lwK_19 20 rfl
theorem dL_1141 : decode code 1141 = .ok (.invokevirtual 151, 3) := lwR_at lwK_19 21 rfl
theorem dL_1144 : decode code 1144 = .ok (.if_icmp .eq 42, 3) := lwR_at lwK_19 22 rfl
theorem dL_1147 : decode code 1147 = .ok (.iconst 0, 1) := lwR_at lwK_19 23 rfl
theorem dL_1148 : decode code 1148 = .ok (.ireturn, 1) := lwR_at lwK_19 24 rfl
theorem dL_1149 : decode code 1149 = .ok (.aload_n 1, 1) := lwR_at lwK_19 25 rfl
theorem dL_1150 : decode code 1150 = .ok (.aload_n 0, 1) := lwR_at lwK_19 26 rfl
theorem dL_1151 : decode code 1151 = .ok (.iload_n 3, 1) := lwR_at lwK_19 27 rfl
theorem dL_1152 : decode code 1152 = .ok (.iconst 1, 1) := lwR_at lwK_19 28 rfl
theorem dL_1153 : decode code 1153 = .ok (.iadd, 1) := lwR_at lwK_19 29 rfl
theorem dL_1154 : decode code 1154 = .ok (.iaload, 1) := lwR_at lwK_19 30 rfl
theorem dL_1155 : decode code 1155 = .ok (.invokevirtual 152, 3) := lwR_at lwK_19 31 rfl
theorem dL_1158 : decode code 1158 = .ok (.aload_n 2, 1) := lwR_at lwK_19 32 rfl
theorem dL_1159 : decode code 1159 = .ok (.aload_n 0, 1) := lwR_at lwK_19 33 rfl
theorem dL_1160 : decode code 1160 = .ok (.iload_n 3, 1) := lwR_at lwK_19 34 rfl
theorem dL_1161 : decode code 1161 = .ok (.iconst 1, 1) := lwR_at lwK_19 35 rfl
theorem dL_1162 : decode code 1162 = .ok (.iadd, 1) := lwR_at lwK_19 36 rfl
theorem dL_1163 : decode code 1163 = .ok (.iaload, 1) := lwR_at lwK_19 37 rfl
theorem dL_1164 : decode code 1164 = .ok (.invokevirtual 155, 3) := lwR_at lwK_19 38 rfl
theorem dL_1167 : decode code 1167 = .ok (.if_icmp .eq 19, 3) := lwR_at lwK_19 39 rfl
def lwR_20 : List (Nat × Instr × Nat) := [(1170, .iconst 0, 1), (1171, .ireturn, 1), (1172, .aload_n 1, 1), (1173, .invokevirtual 156, 3), (1176, .aload_n 2, 1), (1177, .invokevirtual 159, 3), (1180, .lcmp, 1), (1181, .ifCond .eq 5, 3), (1184, .iconst 0, 1), (1185, .ireturn, 1), (1186, .iinc 3 6, 3), (1189, .goto (-1171), 3), (1192, .iconst 1, 1), (1193, .ireturn, 1)]
theorem lwK_20 : lwR_20.all lwRk = true := by decide +kernel
theorem dL_1170 : decode code 1170 = .ok (.iconst 0, 1) := lwR_at lwK_20 0 rfl
theorem dL_1171 : decode code 1171 = .ok (.ireturn, 1) := lwR_at lwK_20 1 rfl
theorem dL_1172 : decode code 1172 = .ok (.aload_n 1, 1) := lwR_at lwK_20 2 rfl
theorem dL_1173 : decode code 1173 = .ok (.invokevirtual 156, 3) := lwR_at lwK_20 3 rfl
theorem dL_1176 : decode code 1176 = .ok (.aload_n 2, 1) := lwR_at lwK_20 4 rfl
theorem dL_1177 : decode code 1177 = .ok (.invokevirtual 159, 3) := lwR_at lwK_20 5 rfl
theorem dL_1180 : decode code 1180 = .ok (.lcmp, 1) := lwR_at lwK_20 6 rfl
theorem dL_1181 : decode code 1181 = .ok (.ifCond .eq 5, 3) := lwR_at lwK_20 7 rfl
theorem dL_1184 : decode code 1184 = .ok (.iconst 0, 1) := lwR_at lwK_20 8 rfl
theorem dL_1185 : decode code 1185 = .ok (.ireturn, 1) := lwR_at lwK_20 9 rfl
theorem dL_1186 : decode code 1186 = .ok (.iinc 3 6, 3) := lwR_at lwK_20 10 rfl
theorem dL_1189 : decode code 1189 = .ok (.goto (-1171), 3) := lwR_at lwK_20 11 rfl
theorem dL_1192 : decode code 1192 = .ok (.iconst 1, 1) := lwR_at lwK_20 12 rfl
theorem dL_1193 : decode code 1193 = .ok (.ireturn, 1) := lwR_at lwK_20 13 rfl
