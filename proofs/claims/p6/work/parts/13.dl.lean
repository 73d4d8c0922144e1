def ziL_law_0 : List (Nat × Instr × Nat) := [(0, .new 7, 3), (3, .dup, 1), (4, .invokespecial 9, 3), (7, .astore_n 1, 1), (8, .new 10, 3), (11, .dup, 1), (12, .invokespecial 12, 3), (15, .astore_n 2, 1), (16, .iconst 0, 1), (17, .istore_n 3, 1), (18, .iload_n 3, 1), (19, .aload_n 0, 1), (20, .arraylength, 1), (21, .bipush 6, 2), (23, .isub, 1), (24, .if_icmp .gt 1247, 3), (27, .aload_n 0, 1), (28, .iload_n 3, 1), (29, .iaload, 1), (30, .bipush 31, 2), (32, .iand, 1)]
theorem zhL_law_0 : zd_chk (cL_law.data.toList.drop 0) 0 ziL_law_0 = true := by decide +kernel
theorem dL_law_0 : decode cL_law 0 = .ok (.new 7, 3) := zd_at zhL_law_0 0 rfl
theorem dL_law_3 : decode cL_law 3 = .ok (.dup, 1) := zd_at zhL_law_0 1 rfl
theorem dL_law_4 : decode cL_law 4 = .ok (.invokespecial 9, 3) := zd_at zhL_law_0 2 rfl
theorem dL_law_7 : decode cL_law 7 = .ok (.astore_n 1, 1) := zd_at zhL_law_0 3 rfl
theorem dL_law_8 : decode cL_law 8 = .ok (.new 10, 3) := zd_at zhL_law_0 4 rfl
theorem dL_law_11 : decode cL_law 11 = .ok (.dup, 1) := zd_at zhL_law_0 5 rfl
theorem dL_law_12 : decode cL_law 12 = .ok (.invokespecial 12, 3) := zd_at zhL_law_0 6 rfl
theorem dL_law_15 : decode cL_law 15 = .ok (.astore_n 2, 1) := zd_at zhL_law_0 7 rfl
theorem dL_law_16 : decode cL_law 16 = .ok (.iconst 0, 1) := zd_at zhL_law_0 8 rfl
theorem dL_law_17 : decode cL_law 17 = .ok (.istore_n 3, 1) := zd_at zhL_law_0 9 rfl
theorem dL_law_18 : decode cL_law 18 = .ok (.iload_n 3, 1) := zd_at zhL_law_0 10 rfl
theorem dL_law_19 : decode cL_law 19 = .ok (.aload_n 0, 1) := zd_at zhL_law_0 11 rfl
theorem dL_law_20 : decode cL_law 20 = .ok (.arraylength, 1) := zd_at zhL_law_0 12 rfl
theorem dL_law_21 : decode cL_law 21 = .ok (.bipush 6, 2) := zd_at zhL_law_0 13 rfl
theorem dL_law_23 : decode cL_law 23 = .ok (.isub, 1) := zd_at zhL_law_0 14 rfl
theorem dL_law_24 : decode cL_law 24 = .ok (.if_icmp .gt 1247, 3) := zd_at zhL_law_0 15 rfl
theorem dL_law_27 : decode cL_law 27 = .ok (.aload_n 0, 1) := zd_at zhL_law_0 16 rfl
theorem dL_law_28 : decode cL_law 28 = .ok (.iload_n 3, 1) := zd_at zhL_law_0 17 rfl
theorem dL_law_29 : decode cL_law 29 = .ok (.iaload, 1) := zd_at zhL_law_0 18 rfl
theorem dL_law_30 : decode cL_law 30 = .ok (.bipush 31, 2) := zd_at zhL_law_0 19 rfl
theorem dL_law_32 : decode cL_law 32 = .ok (.iand, 1) := zd_at zhL_law_0 20 rfl
theorem dL_law_33 : decode cL_law 33 = .ok (.tableswitch 1232 0 30 #[139, 182, 215, 248, 301, 324, 337, 360, 403, 436, 469, 482, 515, 558, 601, 634, 677, 710, 743, 776, 819, 852, 895, 948, 961, 974, 997, 1040, 1083, 1146, 1199], 139) := by decide +kernel
def ziL_law_172 : List (Nat × Instr × Nat) := [(172, .aload_n 1, 1), (173, .aload_n 0, 1), (174, .iload_n 3, 1), (175, .iconst 1, 1), (176, .iadd, 1), (177, .iaload, 1), (178, .aload_n 0, 1), (179, .iload_n 3, 1), (180, .iconst 2, 1), (181, .iadd, 1), (182, .iaload, 1), (183, .aload_n 0, 1), (184, .iload_n 3, 1), (185, .iconst 3, 1), (186, .iadd, 1), (187, .iaload, 1), (188, .invokevirtual 13, 3), (191, .pop, 1), (192, .aload_n 2, 1), (193, .aload_n 0, 1), (194, .iload_n 3, 1), (195, .iconst 1, 1), (196, .iadd, 1), (197, .iaload, 1), (198, .aload_n 0, 1), (199, .iload_n 3, 1), (200, .iconst 2, 1), (201, .iadd, 1), (202, .iaload, 1), (203, .aload_n 0, 1), (204, .iload_n 3, 1), (205, .iconst 3, 1), (206, .iadd, 1), (207, .iaload, 1), (208, .invokevirtual 17, 3), (211, .pop, 1), (212, .goto 1053, 3), (215, .aload_n 1, 1), (216, .aload_n 0, 1), (217, .iload_n 3, 1)]
theorem zhL_law_172 : zd_chk (cL_law.data.toList.drop 172) 172 ziL_law_172 = true := by decide +kernel
theorem dL_law_172 : decode cL_law 172 = .ok (.aload_n 1, 1) := zd_at zhL_law_172 0 rfl
theorem dL_law_173 : decode cL_law 173 = .ok (.aload_n 0, 1) := zd_at zhL_law_172 1 rfl
theorem dL_law_174 : decode cL_law 174 = .ok (.iload_n 3, 1) := zd_at zhL_law_172 2 rfl
theorem dL_law_175 : decode cL_law 175 = .ok (.iconst 1, 1) := zd_at zhL_law_172 3 rfl
theorem dL_law_176 : decode cL_law 176 = .ok (.iadd, 1) := zd_at zhL_law_172 4 rfl
theorem dL_law_177 : decode cL_law 177 = .ok (.iaload, 1) := zd_at zhL_law_172 5 rfl
theorem dL_law_178 : decode cL_law 178 = .ok (.aload_n 0, 1) := zd_at zhL_law_172 6 rfl
theorem dL_law_179 : decode cL_law 179 = .ok (.iload_n 3, 1) := zd_at zhL_law_172 7 rfl
theorem dL_law_180 : decode cL_law 180 = .ok (.iconst 2, 1) := zd_at zhL_law_172 8 rfl
theorem dL_law_181 : decode cL_law 181 = .ok (.iadd, 1) := zd_at zhL_law_172 9 rfl
theorem dL_law_182 : decode cL_law 182 = .ok (.iaload, 1) := zd_at zhL_law_172 10 rfl
theorem dL_law_183 : decode cL_law 183 = .ok (.aload_n 0, 1) := zd_at zhL_law_172 11 rfl
theorem dL_law_184 : decode cL_law 184 = .ok (.iload_n 3, 1) := zd_at zhL_law_172 12 rfl
theorem dL_law_185 : decode cL_law 185 = .ok (.iconst 3, 1) := zd_at zhL_law_172 13 rfl
theorem dL_law_186 : decode cL_law 186 = .ok (.iadd, 1) := zd_at zhL_law_172 14 rfl
theorem dL_law_187 : decode cL_law 187 = .ok (.iaload, 1) := zd_at zhL_law_172 15 rfl
theorem dL_law_188 : decode cL_law 188 = .ok (.invokevirtual 13, 3) := zd_at zhL_law_172 16 rfl
theorem dL_law_191 : decode cL_law 191 = .ok (.pop, 1) := zd_at zhL_law_172 17 rfl
theorem dL_law_192 : decode cL_law 192 = .ok (.aload_n 2, 1) := zd_at zhL_law_172 18 rfl
theorem dL_law_193 : decode cL_law 193 = .ok (.aload_n 0, 1) := zd_at zhL_law_172 19 rfl
theorem dL_law_194 : decode cL_law 194 = .ok (.iload_n 3, 1) := zd_at zhL_law_172 20 rfl
theorem dL_law_195 : decode cL_law 195 = .ok (.iconst 1, 1) := zd_at zhL_law_172 21 rfl
theorem dL_law_196 : decode cL_law 196 = .ok (.iadd, 1) := zd_at zhL_law_172 22 rfl
theorem dL_law_197 : decode cL_law 197 = .ok (.iaload, 1) := zd_at zhL_law_172 23 rfl
theorem dL_law_198 : decode cL_law 198 = .ok (.aload_n 0, 1) := zd_at zhL_law_172 24 rfl
theorem dL_law_199 : decode cL_law 199 = .ok (.iload_n 3, 1) := zd_at zhL_law_172 25 rfl
theorem dL_law_200 : decode cL_law 200 = .ok (.iconst 2, 1) := zd_at zhL_law_172 26 rfl
theorem dL_law_201 : decode cL_law 201 = .ok (.iadd, 1) := zd_at zhL_law_172 27 rfl
theorem dL_law_202 : decode cL_law 202 = .ok (.iaload, 1) := zd_at zhL_law_172 28 rfl
theorem dL_law_203 : decode cL_law 203 = .ok (.aload_n 0, 1) := zd_at zhL_law_172 29 rfl
theorem dL_law_204 : decode cL_law 204 = .ok (.iload_n 3, 1) := zd_at zhL_law_172 30 rfl
theorem dL_law_205 : decode cL_law 205 = .ok (.iconst 3, 1) := zd_at zhL_law_172 31 rfl
theorem dL_law_206 : decode cL_law 206 = .ok (.iadd, 1) := zd_at zhL_law_172 32 rfl
theorem dL_law_207 : decode cL_law 207 = .ok (.iaload, 1) := zd_at zhL_law_172 33 rfl
theorem dL_law_208 : decode cL_law 208 = .ok (.invokevirtual 17, 3) := zd_at zhL_law_172 34 rfl
theorem dL_law_211 : decode cL_law 211 = .ok (.pop, 1) := zd_at zhL_law_172 35 rfl
theorem dL_law_212 : decode cL_law 212 = .ok (.goto 1053, 3) := zd_at zhL_law_172 36 rfl
theorem dL_law_215 : decode cL_law 215 = .ok (.aload_n 1, 1) := zd_at zhL_law_172 37 rfl
theorem dL_law_216 : decode cL_law 216 = .ok (.aload_n 0, 1) := zd_at zhL_law_172 38 rfl
theorem dL_law_217 : decode cL_law 217 = .ok (.iload_n 3, 1) := zd_at zhL_law_172 39 rfl
def ziL_law_218 : List (Nat × Instr × Nat) := [(218, .iconst 1, 1), (219, .iadd, 1), (220, .iaload, 1), (221, .aload_n 0, 1), (222, .iload_n 3, 1), (223, .iconst 2, 1), (224, .iadd, 1), (225, .iaload, 1), (226, .invokevirtual 18, 3), (229, .pop, 1), (230, .aload_n 2, 1), (231, .aload_n 0, 1), (232, .iload_n 3, 1), (233, .iconst 1, 1), (234, .iadd, 1), (235, .iaload, 1), (236, .aload_n 0, 1), (237, .iload_n 3, 1), (238, .iconst 2, 1), (239, .iadd, 1), (240, .iaload, 1), (241, .invokevirtual 22, 3), (244, .pop, 1), (245, .goto 1020, 3), (248, .aload_n 1, 1), (249, .aload_n 0, 1), (250, .iload_n 3, 1), (251, .iconst 1, 1), (252, .iadd, 1), (253, .iaload, 1), (254, .aload_n 0, 1), (255, .iload_n 3, 1), (256, .iconst 2, 1), (257, .iadd, 1), (258, .iaload, 1), (259, .invokevirtual 23, 3), (262, .pop, 1), (263, .aload_n 2, 1), (264, .aload_n 0, 1), (265, .iload_n 3, 1)]
theorem zhL_law_218 : zd_chk (cL_law.data.toList.drop 218) 218 ziL_law_218 = true := by decide +kernel
theorem dL_law_218 : decode cL_law 218 = .ok (.iconst 1, 1) := zd_at zhL_law_218 0 rfl
theorem dL_law_219 : decode cL_law 219 = .ok (.iadd, 1) := zd_at zhL_law_218 1 rfl
theorem dL_law_220 : decode cL_law 220 = .ok (.iaload, 1) := zd_at zhL_law_218 2 rfl
theorem dL_law_221 : decode cL_law 221 = .ok (.aload_n 0, 1) := zd_at zhL_law_218 3 rfl
theorem dL_law_222 : decode cL_law 222 = .ok (.iload_n 3, 1) := zd_at zhL_law_218 4 rfl
theorem dL_law_223 : decode cL_law 223 = .ok (.iconst 2, 1) := zd_at zhL_law_218 5 rfl
theorem dL_law_224 : decode cL_law 224 = .ok (.iadd, 1) := zd_at zhL_law_218 6 rfl
theorem dL_law_225 : decode cL_law 225 = .ok (.iaload, 1) := zd_at zhL_law_218 7 rfl
theorem dL_law_226 : decode cL_law 226 = .ok (.invokevirtual 18, 3) := zd_at zhL_law_218 8 rfl
theorem dL_law_229 : decode cL_law 229 = .ok (.pop, 1) := zd_at zhL_law_218 9 rfl
theorem dL_law_230 : decode cL_law 230 = .ok (.aload_n 2, 1) := zd_at zhL_law_218 10 rfl
theorem dL_law_231 : decode cL_law 231 = .ok (.aload_n 0, 1) := zd_at zhL_law_218 11 rfl
theorem dL_law_232 : decode cL_law 232 = .ok (.iload_n 3, 1) := zd_at zhL_law_218 12 rfl
theorem dL_law_233 : decode cL_law 233 = .ok (.iconst 1, 1) := zd_at zhL_law_218 13 rfl
theorem dL_law_234 : decode cL_law 234 = .ok (.iadd, 1) := zd_at zhL_law_218 14 rfl
theorem dL_law_235 : decode cL_law 235 = .ok (.iaload, 1) := zd_at zhL_law_218 15 rfl
theorem dL_law_236 : decode cL_law 236 = .ok (.aload_n 0, 1) := zd_at zhL_law_218 16 rfl
theorem dL_law_237 : decode cL_law 237 = .ok (.iload_n 3, 1) := zd_at zhL_law_218 17 rfl
theorem dL_law_238 : decode cL_law 238 = .ok (.iconst 2, 1) := zd_at zhL_law_218 18 rfl
theorem dL_law_239 : decode cL_law 239 = .ok (.iadd, 1) := zd_at zhL_law_218 19 rfl
theorem dL_law_240 : decode cL_law 240 = .ok (.iaload, 1) := zd_at zhL_law_218 20 rfl
theorem dL_law_241 : decode cL_law 241 = .ok (.invokevirtual 22, 3) := zd_at zhL_law_218 21 rfl
theorem dL_law_244 : decode cL_law 244 = .ok (.pop, 1) := zd_at zhL_law_218 22 rfl
theorem dL_law_245 : decode cL_law 245 = .ok (.goto 1020, 3) := zd_at zhL_law_218 23 rfl
theorem dL_law_248 : decode cL_law 248 = .ok (.aload_n 1, 1) := zd_at zhL_law_218 24 rfl
theorem dL_law_249 : decode cL_law 249 = .ok (.aload_n 0, 1) := zd_at zhL_law_218 25 rfl
theorem dL_law_250 : decode cL_law 250 = .ok (.iload_n 3, 1) := zd_at zhL_law_218 26 rfl
theorem dL_law_251 : decode cL_law 251 = .ok (.iconst 1, 1) := zd_at zhL_law_218 27 rfl
theorem dL_law_252 : decode cL_law 252 = .ok (.iadd, 1) := zd_at zhL_law_218 28 rfl
theorem dL_law_253 : decode cL_law 253 = .ok (.iaload, 1) := zd_at zhL_law_218 29 rfl
theorem dL_law_254 : decode cL_law 254 = .ok (.aload_n 0, 1) := zd_at zhL_law_218 30 rfl
theorem dL_law_255 : decode cL_law 255 = .ok (.iload_n 3, 1) := zd_at zhL_law_218 31 rfl
theorem dL_law_256 : decode cL_law 256 = .ok (.iconst 2, 1) := zd_at zhL_law_218 32 rfl
theorem dL_law_257 : decode cL_law 257 = .ok (.iadd, 1) := zd_at zhL_law_218 33 rfl
theorem dL_law_258 : decode cL_law 258 = .ok (.iaload, 1) := zd_at zhL_law_218 34 rfl
theorem dL_law_259 : decode cL_law 259 = .ok (.invokevirtual 23, 3) := zd_at zhL_law_218 35 rfl
theorem dL_law_262 : decode cL_law 262 = .ok (.pop, 1) := zd_at zhL_law_218 36 rfl
theorem dL_law_263 : decode cL_law 263 = .ok (.aload_n 2, 1) := zd_at zhL_law_218 37 rfl
theorem dL_law_264 : decode cL_law 264 = .ok (.aload_n 0, 1) := zd_at zhL_law_218 38 rfl
theorem dL_law_265 : decode cL_law 265 = .ok (.iload_n 3, 1) := zd_at zhL_law_218 39 rfl
def ziL_law_266 : List (Nat × Instr × Nat) := [(266, .iconst 1, 1), (267, .iadd, 1), (268, .iaload, 1), (269, .aload_n 0, 1), (270, .iload_n 3, 1), (271, .iconst 2, 1), (272, .iadd, 1), (273, .iaload, 1), (274, .invokevirtual 26, 3), (277, .pop, 1), (278, .goto 987, 3), (281, .aload_n 1, 1), (282, .aload_n 0, 1), (283, .iload_n 3, 1), (284, .iconst 1, 1), (285, .iadd, 1), (286, .iaload, 1), (287, .aload_n 0, 1), (288, .iload_n 3, 1), (289, .iconst 2, 1), (290, .iadd, 1), (291, .iaload, 1), (292, .aload_n 0, 1), (293, .iload_n 3, 1), (294, .iconst 3, 1), (295, .iadd, 1), (296, .iaload, 1), (297, .aload_n 0, 1), (298, .iload_n 3, 1), (299, .iconst 4, 1), (300, .iadd, 1), (301, .iaload, 1), (302, .invokevirtual 27, 3), (305, .pop, 1), (306, .aload_n 2, 1), (307, .aload_n 0, 1), (308, .iload_n 3, 1), (309, .iconst 1, 1), (310, .iadd, 1), (311, .iaload, 1)]
theorem zhL_law_266 : zd_chk (cL_law.data.toList.drop 266) 266 ziL_law_266 = true := by decide +kernel
theorem dL_law_266 : decode cL_law 266 = .ok (.iconst 1, 1) := zd_at zhL_law_266 0 rfl
theorem dL_law_267 : decode cL_law 267 = .ok (.iadd, 1) := zd_at zhL_law_266 1 rfl
theorem dL_law_268 : decode cL_law 268 = .ok (.iaload, 1) := zd_at zhL_law_266 2 rfl
theorem dL_law_269 : decode cL_law 269 = .ok (.aload_n 0, 1) := zd_at zhL_law_266 3 rfl
theorem dL_law_270 : decode cL_law 270 = .ok (.iload_n 3, 1) := zd_at zhL_law_266 4 rfl
theorem dL_law_271 : decode cL_law 271 = .ok (.iconst 2, 1) := zd_at zhL_law_266 5 rfl
theorem dL_law_272 : decode cL_law 272 = .ok (.iadd, 1) := zd_at zhL_law_266 6 rfl
theorem dL_law_273 : decode cL_law 273 = .ok (.iaload, 1) := zd_at zhL_law_266 7 rfl
theorem dL_law_274 : decode cL_law 274 = .ok (.invokevirtual 26, 3) := zd_at zhL_law_266 8 rfl
theorem dL_law_277 : decode cL_law 277 = .ok (.pop, 1) := zd_at zhL_law_266 9 rfl
theorem dL_law_278 : decode cL_law 278 = .ok (.goto 987, 3) := zd_at zhL_law_266 10 rfl
theorem dL_law_281 : decode cL_law 281 = .ok (.aload_n 1, 1) := zd_at zhL_law_266 11 rfl
theorem dL_law_282 : decode cL_law 282 = .ok (.aload_n 0, 1) := zd_at zhL_law_266 12 rfl
theorem dL_law_283 : decode cL_law 283 = .ok (.iload_n 3, 1) := zd_at zhL_law_266 13 rfl
theorem dL_law_284 : decode cL_law 284 = .ok (.iconst 1, 1) := zd_at zhL_law_266 14 rfl
theorem dL_law_285 : decode cL_law 285 = .ok (.iadd, 1) := zd_at zhL_law_266 15 rfl
theorem dL_law_286 : decode cL_law 286 = .ok (.iaload, 1) := zd_at zhL_law_266 16 rfl
theorem dL_law_287 : decode cL_law 287 = .ok (.aload_n 0, 1) := zd_at zhL_law_266 17 rfl
theorem dL_law_288 : decode cL_law 288 = .ok (.iload_n 3, 1) := zd_at zhL_law_266 18 rfl
theorem dL_law_289 : decode cL_law 289 = .ok (.iconst 2, 1) := zd_at zhL_law_266 19 rfl
theorem dL_law_290 : decode cL_law 290 = .ok (.iadd, 1) := zd_at zhL_law_266 20 rfl
theorem dL_law_291 : decode cL_law 291 = .ok (.iaload, 1) := zd_at zhL_law_266 21 rfl
theorem dL_law_292 : decode cL_law 292 = .ok (.aload_n 0, 1) := zd_at zhL_law_266 22 rfl
theorem dL_law_293 : decode cL_law 293 = .ok (.iload_n 3, 1) := zd_at zhL_law_266 23 rfl
theorem dL_law_294 : decode cL_law 294 = .ok (.iconst 3, 1) := zd_at zhL_law_266 24 rfl
theorem dL_law_295 : decode cL_law 295 = .ok (.iadd, 1) := zd_at zhL_law_266 25 rfl
theorem dL_law_296 : decode cL_law 296 = .ok (.iaload, 1) := zd_at zhL_law_266 26 rfl
theorem dL_law_297 : decode cL_law 297 = .ok (.aload_n 0, 1) := zd_at zhL_law_266 27 rfl
theorem dL_law_298 : decode cL_law 298 = .ok (.iload_n 3, 1) := zd_at zhL_law_266 28 rfl
theorem dL_law_299 : decode cL_law 299 = .ok (.iconst 4, 1) := zd_at zhL_law_266 29 rfl
theorem dL_law_300 : decode cL_law 300 = .ok (.iadd, 1) := zd_at zhL_law_266 30 rfl
theorem dL_law_301 : decode cL_law 301 = .ok (.iaload, 1) := zd_at zhL_law_266 31 rfl
theorem dL_law_302 : decode cL_law 302 = .ok (.invokevirtual 27, 3) := zd_at zhL_law_266 32 rfl
theorem dL_law_305 : decode cL_law 305 = .ok (.pop, 1) := zd_at zhL_law_266 33 rfl
theorem dL_law_306 : decode cL_law 306 = .ok (.aload_n 2, 1) := zd_at zhL_law_266 34 rfl
theorem dL_law_307 : decode cL_law 307 = .ok (.aload_n 0, 1) := zd_at zhL_law_266 35 rfl
theorem dL_law_308 : decode cL_law 308 = .ok (.iload_n 3, 1) := zd_at zhL_law_266 36 rfl
theorem dL_law_309 : decode cL_law 309 = .ok (.iconst 1, 1) := zd_at zhL_law_266 37 rfl
theorem dL_law_310 : decode cL_law 310 = .ok (.iadd, 1) := zd_at zhL_law_266 38 rfl
theorem dL_law_311 : decode cL_law 311 = .ok (.iaload, 1) := zd_at zhL_law_266 39 rfl
def ziL_law_312 : List (Nat × Instr × Nat) := [(312, .aload_n 0, 1), (313, .iload_n 3, 1), (314, .iconst 2, 1), (315, .iadd, 1), (316, .iaload, 1), (317, .aload_n 0, 1), (318, .iload_n 3, 1), (319, .iconst 3, 1), (320, .iadd, 1), (321, .iaload, 1), (322, .aload_n 0, 1), (323, .iload_n 3, 1), (324, .iconst 4, 1), (325, .iadd, 1), (326, .iaload, 1), (327, .invokevirtual 31, 3), (330, .pop, 1), (331, .goto 934, 3), (334, .aload_n 1, 1), (335, .aload_n 0, 1), (336, .iload_n 3, 1), (337, .iconst 1, 1), (338, .iadd, 1), (339, .iaload, 1), (340, .invokevirtual 32, 3), (343, .aload_n 2, 1), (344, .aload_n 0, 1), (345, .iload_n 3, 1), (346, .iconst 1, 1), (347, .iadd, 1), (348, .iaload, 1), (349, .invokevirtual 36, 3), (352, .if_icmp .eq 913, 3), (355, .iconst 0, 1), (356, .ireturn, 1), (357, .aload_n 1, 1), (358, .invokevirtual 37, 3), (361, .pop, 1), (362, .aload_n 2, 1), (363, .invokevirtual 41, 3)]
theorem zhL_law_312 : zd_chk (cL_law.data.toList.drop 312) 312 ziL_law_312 = true := by decide +kernel
theorem dL_law_312 : decode cL_law 312 = .ok (.aload_n 0, 1) := zd_at zhL_law_312 0 rfl
theorem dL_law_313 : decode cL_law 313 = .ok (.iload_n 3, 1) := zd_at zhL_law_312 1 rfl
theorem dL_law_314 : decode cL_law 314 = .ok (.iconst 2, 1) := zd_at zhL_law_312 2 rfl
theorem dL_law_315 : decode cL_law 315 = .ok (.iadd, 1) := zd_at zhL_law_312 3 rfl
theorem dL_law_316 : decode cL_law 316 = .ok (.iaload, 1) := zd_at zhL_law_312 4 rfl
theorem dL_law_317 : decode cL_law 317 = .ok (.aload_n 0, 1) := zd_at zhL_law_312 5 rfl
theorem dL_law_318 : decode cL_law 318 = .ok (.iload_n 3, 1) := zd_at zhL_law_312 6 rfl
theorem dL_law_319 : decode cL_law 319 = .ok (.iconst 3, 1) := zd_at zhL_law_312 7 rfl
theorem dL_law_320 : decode cL_law 320 = .ok (.iadd, 1) := zd_at zhL_law_312 8 rfl
theorem dL_law_321 : decode cL_law 321 = .ok (.iaload, 1) := zd_at zhL_law_312 9 rfl
theorem dL_law_322 : decode cL_law 322 = .ok (.aload_n 0, 1) := zd_at zhL_law_312 10 rfl
theorem dL_law_323 : decode cL_law 323 = .ok (.iload_n 3, 1) := zd_at zhL_law_312 11 rfl
theorem dL_law_324 : decode cL_law 324 = .ok (.iconst 4, 1) := zd_at zhL_law_312 12 rfl
theorem dL_law_325 : decode cL_law 325 = .ok (.iadd, 1) := zd_at zhL_law_312 13 rfl
theorem dL_law_326 : decode cL_law 326 = .ok (.iaload, 1) := zd_at zhL_law_312 14 rfl
theorem dL_law_327 : decode cL_law 327 = .ok (.invokevirtual 31, 3) := zd_at zhL_law_312 15 rfl
theorem dL_law_330 : decode cL_law 330 = .ok (.pop, 1) := zd_at zhL_law_312 16 rfl
theorem dL_law_331 : decode cL_law 331 = .ok (.goto 934, 3) := zd_at zhL_law_312 17 rfl
theorem dL_law_334 : decode cL_law 334 = .ok (.aload_n 1, 1) := zd_at zhL_law_312 18 rfl
theorem dL_law_335 : decode cL_law 335 = .ok (.aload_n 0, 1) := zd_at zhL_law_312 19 rfl
theorem dL_law_336 : decode cL_law 336 = .ok (.iload_n 3, 1) := zd_at zhL_law_312 20 rfl
theorem dL_law_337 : decode cL_law 337 = .ok (.iconst 1, 1) := zd_at zhL_law_312 21 rfl
theorem dL_law_338 : decode cL_law 338 = .ok (.iadd, 1) := zd_at zhL_law_312 22 rfl
theorem dL_law_339 : decode cL_law 339 = .ok (.iaload, 1) := zd_at zhL_law_312 23 rfl
theorem dL_law_340 : decode cL_law 340 = .ok (.invokevirtual 32, 3) := zd_at zhL_law_312 24 rfl
theorem dL_law_343 : decode cL_law 343 = .ok (.aload_n 2, 1) := zd_at zhL_law_312 25 rfl
theorem dL_law_344 : decode cL_law 344 = .ok (.aload_n 0, 1) := zd_at zhL_law_312 26 rfl
theorem dL_law_345 : decode cL_law 345 = .ok (.iload_n 3, 1) := zd_at zhL_law_312 27 rfl
theorem dL_law_346 : decode cL_law 346 = .ok (.iconst 1, 1) := zd_at zhL_law_312 28 rfl
theorem dL_law_347 : decode cL_law 347 = .ok (.iadd, 1) := zd_at zhL_law_312 29 rfl
theorem dL_law_348 : decode cL_law 348 = .ok (.iaload, 1) := zd_at zhL_law_312 30 rfl
theorem dL_law_349 : decode cL_law 349 = .ok (.invokevirtual 36, 3) := zd_at zhL_law_312 31 rfl
theorem dL_law_352 : decode cL_law 352 = .ok (.if_icmp .eq 913, 3) := zd_at zhL_law_312 32 rfl
theorem dL_law_355 : decode cL_law 355 = .ok (.iconst 0, 1) := zd_at zhL_law_312 33 rfl
theorem dL_law_356 : decode cL_law 356 = .ok (.ireturn, 1) := zd_at zhL_law_312 34 rfl
theorem dL_law_357 : decode cL_law 357 = .ok (.aload_n 1, 1) := zd_at zhL_law_312 35 rfl
theorem dL_law_358 : decode cL_law 358 = .ok (.invokevirtual 37, 3) := zd_at zhL_law_312 36 rfl
theorem dL_law_361 : decode cL_law 361 = .ok (.pop, 1) := zd_at zhL_law_312 37 rfl
theorem dL_law_362 : decode cL_law 362 = .ok (.aload_n 2, 1) := zd_at zhL_law_312 38 rfl
theorem dL_law_363 : decode cL_law 363 = .ok (.invokevirtual 41, 3) := zd_at zhL_law_312 39 rfl
def ziL_law_366 : List (Nat × Instr × Nat) := [(366, .pop, 1), (367, .goto 898, 3), (370, .aload_n 1, 1), (371, .aload_n 0, 1), (372, .iload_n 3, 1), (373, .iconst 1, 1), (374, .iadd, 1), (375, .iaload, 1), (376, .invokevirtual 42, 3), (379, .pop, 1), (380, .aload_n 2, 1), (381, .aload_n 0, 1), (382, .iload_n 3, 1), (383, .iconst 1, 1), (384, .iadd, 1), (385, .iaload, 1), (386, .invokevirtual 45, 3), (389, .pop, 1), (390, .goto 875, 3), (393, .aload_n 1, 1), (394, .aload_n 0, 1), (395, .iload_n 3, 1), (396, .iconst 1, 1), (397, .iadd, 1), (398, .iaload, 1), (399, .aload_n 0, 1), (400, .iload_n 3, 1), (401, .iconst 2, 1), (402, .iadd, 1), (403, .iaload, 1), (404, .aload_n 0, 1), (405, .iload_n 3, 1), (406, .iconst 3, 1), (407, .iadd, 1), (408, .iaload, 1), (409, .invokevirtual 46, 3), (412, .pop, 1), (413, .aload_n 2, 1), (414, .aload_n 0, 1), (415, .iload_n 3, 1)]
theorem zhL_law_366 : zd_chk (cL_law.data.toList.drop 366) 366 ziL_law_366 = true := by decide +kernel
theorem dL_law_366 : decode cL_law 366 = .ok (.pop, 1) := zd_at zhL_law_366 0 rfl
theorem dL_law_367 : decode cL_law 367 = .ok (.goto 898, 3) := zd_at zhL_law_366 1 rfl
theorem dL_law_370 : decode cL_law 370 = .ok (.aload_n 1, 1) := zd_at zhL_law_366 2 rfl
theorem dL_law_371 : decode cL_law 371 = .ok (.aload_n 0, 1) := zd_at zhL_law_366 3 rfl
theorem dL_law_372 : decode cL_law 372 = .ok (.iload_n 3, 1) := zd_at zhL_law_366 4 rfl
theorem dL_law_373 : decode cL_law 373 = .ok (.iconst 1, 1) := zd_at zhL_law_366 5 rfl
theorem dL_law_374 : decode cL_law 374 = .ok (.iadd, 1) := zd_at zhL_law_366 6 rfl
theorem dL_law_375 : decode cL_law 375 = .ok (.iaload, 1) := zd_at zhL_law_366 7 rfl
theorem dL_law_376 : decode cL_law 376 = .ok (.invokevirtual 42, 3) := zd_at zhL_law_366 8 rfl
theorem dL_law_379 : decode cL_law 379 = .ok (.pop, 1) := zd_at zhL_law_366 9 rfl
theorem dL_law_380 : decode cL_law 380 = .ok (.aload_n 2, 1) := zd_at zhL_law_366 10 rfl
theorem dL_law_381 : decode cL_law 381 = .ok (.aload_n 0, 1) := zd_at zhL_law_366 11 rfl
theorem dL_law_382 : decode cL_law 382 = .ok (.iload_n 3, 1) := zd_at zhL_law_366 12 rfl
theorem dL_law_383 : decode cL_law 383 = .ok (.iconst 1, 1) := zd_at zhL_law_366 13 rfl
theorem dL_law_384 : decode cL_law 384 = .ok (.iadd, 1) := zd_at zhL_law_366 14 rfl
theorem dL_law_385 : decode cL_law 385 = .ok (.iaload, 1) := zd_at zhL_law_366 15 rfl
theorem dL_law_386 : decode cL_law 386 = .ok (.invokevirtual 45, 3) := zd_at zhL_law_366 16 rfl
theorem dL_law_389 : decode cL_law 389 = .ok (.pop, 1) := zd_at zhL_law_366 17 rfl
theorem dL_law_390 : decode cL_law 390 = .ok (.goto 875, 3) := zd_at zhL_law_366 18 rfl
theorem dL_law_393 : decode cL_law 393 = .ok (.aload_n 1, 1) := zd_at zhL_law_366 19 rfl
theorem dL_law_394 : decode cL_law 394 = .ok (.aload_n 0, 1) := zd_at zhL_law_366 20 rfl
theorem dL_law_395 : decode cL_law 395 = .ok (.iload_n 3, 1) := zd_at zhL_law_366 21 rfl
theorem dL_law_396 : decode cL_law 396 = .ok (.iconst 1, 1) := zd_at zhL_law_366 22 rfl
theorem dL_law_397 : decode cL_law 397 = .ok (.iadd, 1) := zd_at zhL_law_366 23 rfl
theorem dL_law_398 : decode cL_law 398 = .ok (.iaload, 1) := zd_at zhL_law_366 24 rfl
theorem dL_law_399 : decode cL_law 399 = .ok (.aload_n 0, 1) := zd_at zhL_law_366 25 rfl
theorem dL_law_400 : decode cL_law 400 = .ok (.iload_n 3, 1) := zd_at zhL_law_366 26 rfl
theorem dL_law_401 : decode cL_law 401 = .ok (.iconst 2, 1) := zd_at zhL_law_366 27 rfl
theorem dL_law_402 : decode cL_law 402 = .ok (.iadd, 1) := zd_at zhL_law_366 28 rfl
theorem dL_law_403 : decode cL_law 403 = .ok (.iaload, 1) := zd_at zhL_law_366 29 rfl
theorem dL_law_404 : decode cL_law 404 = .ok (.aload_n 0, 1) := zd_at zhL_law_366 30 rfl
theorem dL_law_405 : decode cL_law 405 = .ok (.iload_n 3, 1) := zd_at zhL_law_366 31 rfl
theorem dL_law_406 : decode cL_law 406 = .ok (.iconst 3, 1) := zd_at zhL_law_366 32 rfl
theorem dL_law_407 : decode cL_law 407 = .ok (.iadd, 1) := zd_at zhL_law_366 33 rfl
theorem dL_law_408 : decode cL_law 408 = .ok (.iaload, 1) := zd_at zhL_law_366 34 rfl
theorem dL_law_409 : decode cL_law 409 = .ok (.invokevirtual 46, 3) := zd_at zhL_law_366 35 rfl
theorem dL_law_412 : decode cL_law 412 = .ok (.pop, 1) := zd_at zhL_law_366 36 rfl
theorem dL_law_413 : decode cL_law 413 = .ok (.aload_n 2, 1) := zd_at zhL_law_366 37 rfl
theorem dL_law_414 : decode cL_law 414 = .ok (.aload_n 0, 1) := zd_at zhL_law_366 38 rfl
theorem dL_law_415 : decode cL_law 415 = .ok (.iload_n 3, 1) := zd_at zhL_law_366 39 rfl
def ziL_law_416 : List (Nat × Instr × Nat) := [(416, .iconst 1, 1), (417, .iadd, 1), (418, .iaload, 1), (419, .aload_n 0, 1), (420, .iload_n 3, 1), (421, .iconst 2, 1), (422, .iadd, 1), (423, .iaload, 1), (424, .aload_n 0, 1), (425, .iload_n 3, 1), (426, .iconst 3, 1), (427, .iadd, 1), (428, .iaload, 1), (429, .invokevirtual 49, 3), (432, .pop, 1), (433, .goto 832, 3), (436, .aload_n 1, 1), (437, .aload_n 0, 1), (438, .iload_n 3, 1), (439, .iconst 1, 1), (440, .iadd, 1), (441, .iaload, 1), (442, .aload_n 0, 1), (443, .iload_n 3, 1), (444, .iconst 2, 1), (445, .iadd, 1), (446, .iaload, 1), (447, .invokevirtual 50, 3), (450, .pop, 1), (451, .aload_n 2, 1), (452, .aload_n 0, 1), (453, .iload_n 3, 1), (454, .iconst 1, 1), (455, .iadd, 1), (456, .iaload, 1), (457, .aload_n 0, 1), (458, .iload_n 3, 1), (459, .iconst 2, 1), (460, .iadd, 1), (461, .iaload, 1)]
theorem zhL_law_416 : zd_chk (cL_law.data.toList.drop 416) 416 ziL_law_416 = true := by decide +kernel
theorem dL_law_416 : decode cL_law 416 = .ok (.iconst 1, 1) := zd_at zhL_law_416 0 rfl
theorem dL_law_417 : decode cL_law 417 = .ok (.iadd, 1) := zd_at zhL_law_416 1 rfl
theorem dL_law_418 : decode cL_law 418 = .ok (.iaload, 1) := zd_at zhL_law_416 2 rfl
theorem dL_law_419 : decode cL_law 419 = .ok (.aload_n 0, 1) := zd_at zhL_law_416 3 rfl
theorem dL_law_420 : decode cL_law 420 = .ok (.iload_n 3, 1) := zd_at zhL_law_416 4 rfl
theorem dL_law_421 : decode cL_law 421 = .ok (.iconst 2, 1) := zd_at zhL_law_416 5 rfl
theorem dL_law_422 : decode cL_law 422 = .ok (.iadd, 1) := zd_at zhL_law_416 6 rfl
theorem dL_law_423 : decode cL_law 423 = .ok (.iaload, 1) := zd_at zhL_law_416 7 rfl
theorem dL_law_424 : decode cL_law 424 = .ok (.aload_n 0, 1) := zd_at zhL_law_416 8 rfl
theorem dL_law_425 : decode cL_law 425 = .ok (.iload_n 3, 1) := zd_at zhL_law_416 9 rfl
theorem dL_law_426 : decode cL_law 426 = .ok (.iconst 3, 1) := zd_at zhL_law_416 10 rfl
theorem dL_law_427 : decode cL_law 427 = .ok (.iadd, 1) := zd_at zhL_law_416 11 rfl
theorem dL_law_428 : decode cL_law 428 = .ok (.iaload, 1) := zd_at zhL_law_416 12 rfl
theorem dL_law_429 : decode cL_law 429 = .ok (.invokevirtual 49, 3) := zd_at zhL_law_416 13 rfl
theorem dL_law_432 : decode cL_law 432 = .ok (.pop, 1) := zd_at zhL_law_416 14 rfl
theorem dL_law_433 : decode cL_law 433 = .ok (.goto 832, 3) := zd_at zhL_law_416 15 rfl
theorem dL_law_436 : decode cL_law 436 = .ok (.aload_n 1, 1) := zd_at zhL_law_416 16 rfl
theorem dL_law_437 : decode cL_law 437 = .ok (.aload_n 0, 1) := zd_at zhL_law_416 17 rfl
theorem dL_law_438 : decode cL_law 438 = .ok (.iload_n 3, 1) := zd_at zhL_law_416 18 rfl
theorem dL_law_439 : decode cL_law 439 = .ok (.iconst 1, 1) := zd_at zhL_law_416 19 rfl
theorem dL_law_440 : decode cL_law 440 = .ok (.iadd, 1) := zd_at zhL_law_416 20 rfl
theorem dL_law_441 : decode cL_law 441 = .ok (.iaload, 1) := zd_at zhL_law_416 21 rfl
theorem dL_law_442 : decode cL_law 442 = .ok (.aload_n 0, 1) := zd_at zhL_law_416 22 rfl
theorem dL_law_443 : decode cL_law 443 = .ok (.iload_n 3, 1) := zd_at zhL_law_416 23 rfl
theorem dL_law_444 : decode cL_law 444 = .ok (.iconst 2, 1) := zd_at zhL_law_416 24 rfl
theorem dL_law_445 : decode cL_law 445 = .ok (.iadd, 1) := zd_at zhL_law_416 25 rfl
theorem dL_law_446 : decode cL_law 446 = .ok (.iaload, 1) := zd_at zhL_law_416 26 rfl
theorem dL_law_447 : decode cL_law 447 = .ok (.invokevirtual 50, 3) := zd_at zhL_law_416 27 rfl
theorem dL_law_450 : decode cL_law 450 = .ok (.pop, 1) := zd_at zhL_law_416 28 rfl
theorem dL_law_451 : decode cL_law 451 = .ok (.aload_n 2, 1) := zd_at zhL_law_416 29 rfl
theorem dL_law_452 : decode cL_law 452 = .ok (.aload_n 0, 1) := zd_at zhL_law_416 30 rfl
theorem dL_law_453 : decode cL_law 453 = .ok (.iload_n 3, 1) := zd_at zhL_law_416 31 rfl
theorem dL_law_454 : decode cL_law 454 = .ok (.iconst 1, 1) := zd_at zhL_law_416 32 rfl
theorem dL_law_455 : decode cL_law 455 = .ok (.iadd, 1) := zd_at zhL_law_416 33 rfl
theorem dL_law_456 : decode cL_law 456 = .ok (.iaload, 1) := zd_at zhL_law_416 34 rfl
theorem dL_law_457 : decode cL_law 457 = .ok (.aload_n 0, 1) := zd_at zhL_law_416 35 rfl
theorem dL_law_458 : decode cL_law 458 = .ok (.iload_n 3, 1) := zd_at zhL_law_416 36 rfl
theorem dL_law_459 : decode cL_law 459 = .ok (.iconst 2, 1) := zd_at zhL_law_416 37 rfl
theorem dL_law_460 : decode cL_law 460 = .ok (.iadd, 1) := zd_at zhL_law_416 38 rfl
theorem dL_law_461 : decode cL_law 461 = .ok (.iaload, 1) := zd_at zhL_law_416 39 rfl
def ziL_law_462 : List (Nat × Instr × Nat) := [(462, .invokevirtual 53, 3), (465, .pop, 1), (466, .goto 799, 3), (469, .aload_n 1, 1), (470, .aload_n 0, 1), (471, .iload_n 3, 1), (472, .iconst 1, 1), (473, .iadd, 1), (474, .iaload, 1), (475, .aload_n 0, 1), (476, .iload_n 3, 1), (477, .iconst 2, 1), (478, .iadd, 1), (479, .iaload, 1), (480, .invokevirtual 54, 3), (483, .pop, 1), (484, .aload_n 2, 1), (485, .aload_n 0, 1), (486, .iload_n 3, 1), (487, .iconst 1, 1), (488, .iadd, 1), (489, .iaload, 1), (490, .aload_n 0, 1), (491, .iload_n 3, 1), (492, .iconst 2, 1), (493, .iadd, 1), (494, .iaload, 1), (495, .invokevirtual 57, 3), (498, .pop, 1), (499, .goto 766, 3), (502, .aload_n 1, 1), (503, .invokevirtual 58, 3), (506, .pop, 1), (507, .aload_n 2, 1), (508, .invokevirtual 61, 3), (511, .pop, 1), (512, .goto 753, 3), (515, .aload_n 1, 1), (516, .aload_n 0, 1), (517, .iload_n 3, 1)]
theorem zhL_law_462 : zd_chk (cL_law.data.toList.drop 462) 462 ziL_law_462 = true := by decide +kernel
theorem dL_law_462 : decode cL_law 462 = .ok (.invokevirtual 53, 3) := zd_at zhL_law_462 0 rfl
theorem dL_law_465 : decode cL_law 465 = .ok (.pop, 1) := zd_at zhL_law_462 1 rfl
theorem dL_law_466 : decode cL_law 466 = .ok (.goto 799, 3) := zd_at zhL_law_462 2 rfl
theorem dL_law_469 : decode cL_law 469 = .ok (.aload_n 1, 1) := zd_at zhL_law_462 3 rfl
theorem dL_law_470 : decode cL_law 470 = .ok (.aload_n 0, 1) := zd_at zhL_law_462 4 rfl
theorem dL_law_471 : decode cL_law 471 = .ok (.iload_n 3, 1) := zd_at zhL_law_462 5 rfl
theorem dL_law_472 : decode cL_law 472 = .ok (.iconst 1, 1) := zd_at zhL_law_462 6 rfl
theorem dL_law_473 : decode cL_law 473 = .ok (.iadd, 1) := zd_at zhL_law_462 7 rfl
theorem dL_law_474 : decode cL_law 474 = .ok (.iaload, 1) := zd_at zhL_law_462 8 rfl
theorem dL_law_475 : decode cL_law 475 = .ok (.aload_n 0, 1) := zd_at zhL_law_462 9 rfl
theorem dL_law_476 : decode cL_law 476 = .ok (.iload_n 3, 1) := zd_at zhL_law_462 10 rfl
theorem dL_law_477 : decode cL_law 477 = .ok (.iconst 2, 1) := zd_at zhL_law_462 11 rfl
theorem dL_law_478 : decode cL_law 478 = .ok (.iadd, 1) := zd_at zhL_law_462 12 rfl
theorem dL_law_479 : decode cL_law 479 = .ok (.iaload, 1) := zd_at zhL_law_462 13 rfl
theorem dL_law_480 : decode cL_law 480 = .ok (.invokevirtual 54, 3) := zd_at zhL_law_462 14 rfl
theorem dL_law_483 : decode cL_law 483 = .ok (.pop, 1) := zd_at zhL_law_462 15 rfl
theorem dL_law_484 : decode cL_law 484 = .ok (.aload_n 2, 1) := zd_at zhL_law_462 16 rfl
theorem dL_law_485 : decode cL_law 485 = .ok (.aload_n 0, 1) := zd_at zhL_law_462 17 rfl
theorem dL_law_486 : decode cL_law 486 = .ok (.iload_n 3, 1) := zd_at zhL_law_462 18 rfl
theorem dL_law_487 : decode cL_law 487 = .ok (.iconst 1, 1) := zd_at zhL_law_462 19 rfl
theorem dL_law_488 : decode cL_law 488 = .ok (.iadd, 1) := zd_at zhL_law_462 20 rfl
theorem dL_law_489 : decode cL_law 489 = .ok (.iaload, 1) := zd_at zhL_law_462 21 rfl
theorem dL_law_490 : decode cL_law 490 = .ok (.aload_n 0, 1) := zd_at zhL_law_462 22 rfl
theorem dL_law_491 : decode cL_law 491 = .ok (.iload_n 3, 1) := zd_at zhL_law_462 23 rfl
theorem dL_law_492 : decode cL_law 492 = .ok (.iconst 2, 1) := zd_at zhL_law_462 24 rfl
theorem dL_law_493 : decode cL_law 493 = .ok (.iadd, 1) := zd_at zhL_law_462 25 rfl
theorem dL_law_494 : decode cL_law 494 = .ok (.iaload, 1) := zd_at zhL_law_462 26 rfl
theorem dL_law_495 : decode cL_law 495 = .ok (.invokevirtual 57, 3) := zd_at zhL_law_462 27 rfl
theorem dL_law_498 : decode cL_law 498 = .ok (.pop, 1) := zd_at zhL_law_462 28 rfl
theorem dL_law_499 : decode cL_law 499 = .ok (.goto 766, 3) := zd_at zhL_law_462 29 rfl
theorem dL_law_502 : decode cL_law 502 = .ok (.aload_n 1, 1) := zd_at zhL_law_462 30 rfl
theorem dL_law_503 : decode cL_law 503 = .ok (.invokevirtual 58, 3) := zd_at zhL_law_462 31 rfl
theorem dL_law_506 : decode cL_law 506 = .ok (.pop, 1) := zd_at zhL_law_462 32 rfl
theorem dL_law_507 : decode cL_law 507 = .ok (.aload_n 2, 1) := zd_at zhL_law_462 33 rfl
theorem dL_law_508 : decode cL_law 508 = .ok (.invokevirtual 61, 3) := zd_at zhL_law_462 34 rfl
theorem dL_law_511 : decode cL_law 511 = .ok (.pop, 1) := zd_at zhL_law_462 35 rfl
theorem dL_law_512 : decode cL_law 512 = .ok (.goto 753, 3) := zd_at zhL_law_462 36 rfl
theorem dL_law_515 : decode cL_law 515 = .ok (.aload_n 1, 1) := zd_at zhL_law_462 37 rfl
theorem dL_law_516 : decode cL_law 516 = .ok (.aload_n 0, 1) := zd_at zhL_law_462 38 rfl
theorem dL_law_517 : decode cL_law 517 = .ok (.iload_n 3, 1) := zd_at zhL_law_462 39 rfl
def ziL_law_518 : List (Nat × Instr × Nat) := [(518, .iconst 1, 1), (519, .iadd, 1), (520, .iaload, 1), (521, .aload_n 0, 1), (522, .iload_n 3, 1), (523, .iconst 2, 1), (524, .iadd, 1), (525, .iaload, 1), (526, .invokevirtual 62, 3), (529, .pop, 1), (530, .aload_n 2, 1), (531, .aload_n 0, 1), (532, .iload_n 3, 1), (533, .iconst 1, 1), (534, .iadd, 1), (535, .iaload, 1), (536, .aload_n 0, 1), (537, .iload_n 3, 1), (538, .iconst 2, 1), (539, .iadd, 1), (540, .iaload, 1), (541, .invokevirtual 65, 3), (544, .pop, 1), (545, .goto 720, 3), (548, .aload_n 1, 1), (549, .aload_n 0, 1), (550, .iload_n 3, 1), (551, .iconst 1, 1), (552, .iadd, 1), (553, .iaload, 1), (554, .aload_n 0, 1), (555, .iload_n 3, 1), (556, .iconst 2, 1), (557, .iadd, 1), (558, .iaload, 1), (559, .aload_n 0, 1), (560, .iload_n 3, 1), (561, .iconst 3, 1), (562, .iadd, 1), (563, .iaload, 1)]
theorem zhL_law_518 : zd_chk (cL_law.data.toList.drop 518) 518 ziL_law_518 = true := by decide +kernel
theorem dL_law_518 : decode cL_law 518 = .ok (.iconst 1, 1) := zd_at zhL_law_518 0 rfl
theorem dL_law_519 : decode cL_law 519 = .ok (.iadd, 1) := zd_at zhL_law_518 1 rfl
theorem dL_law_520 : decode cL_law 520 = .ok (.iaload, 1) := zd_at zhL_law_518 2 rfl
theorem dL_law_521 : decode cL_law 521 = .ok (.aload_n 0, 1) := zd_at zhL_law_518 3 rfl
theorem dL_law_522 : decode cL_law 522 = .ok (.iload_n 3, 1) := zd_at zhL_law_518 4 rfl
theorem dL_law_523 : decode cL_law 523 = .ok (.iconst 2, 1) := zd_at zhL_law_518 5 rfl
theorem dL_law_524 : decode cL_law 524 = .ok (.iadd, 1) := zd_at zhL_law_518 6 rfl
theorem dL_law_525 : decode cL_law 525 = .ok (.iaload, 1) := zd_at zhL_law_518 7 rfl
theorem dL_law_526 : decode cL_law 526 = .ok (.invokevirtual 62, 3) := zd_at zhL_law_518 8 rfl
theorem dL_law_529 : decode cL_law 529 = .ok (.pop, 1) := zd_at zhL_law_518 9 rfl
theorem dL_law_530 : decode cL_law 530 = .ok (.aload_n 2, 1) := zd_at zhL_law_518 10 rfl
theorem dL_law_531 : decode cL_law 531 = .ok (.aload_n 0, 1) := zd_at zhL_law_518 11 rfl
theorem dL_law_532 : decode cL_law 532 = .ok (.iload_n 3, 1) := zd_at zhL_law_518 12 rfl
theorem dL_law_533 : decode cL_law 533 = .ok (.iconst 1, 1) := zd_at zhL_law_518 13 rfl
theorem dL_law_534 : decode cL_law 534 = .ok (.iadd, 1) := zd_at zhL_law_518 14 rfl
theorem dL_law_535 : decode cL_law 535 = .ok (.iaload, 1) := zd_at zhL_law_518 15 rfl
theorem dL_law_536 : decode cL_law 536 = .ok (.aload_n 0, 1) := zd_at zhL_law_518 16 rfl
theorem dL_law_537 : decode cL_law 537 = .ok (.iload_n 3, 1) := zd_at zhL_law_518 17 rfl
theorem dL_law_538 : decode cL_law 538 = .ok (.iconst 2, 1) := zd_at zhL_law_518 18 rfl
theorem dL_law_539 : decode cL_law 539 = .ok (.iadd, 1) := zd_at zhL_law_518 19 rfl
theorem dL_law_540 : decode cL_law 540 = .ok (.iaload, 1) := zd_at zhL_law_518 20 rfl
theorem dL_law_541 : decode cL_law 541 = .ok (.invokevirtual 65, 3) := zd_at zhL_law_518 21 rfl
theorem dL_law_544 : decode cL_law 544 = .ok (.pop, 1) := zd_at zhL_law_518 22 rfl
theorem dL_law_545 : decode cL_law 545 = .ok (.goto 720, 3) := zd_at zhL_law_518 23 rfl
theorem dL_law_548 : decode cL_law 548 = .ok (.aload_n 1, 1) := zd_at zhL_law_518 24 rfl
theorem dL_law_549 : decode cL_law 549 = .ok (.aload_n 0, 1) := zd_at zhL_law_518 25 rfl
theorem dL_law_550 : decode cL_law 550 = .ok (.iload_n 3, 1) := zd_at zhL_law_518 26 rfl
theorem dL_law_551 : decode cL_law 551 = .ok (.iconst 1, 1) := zd_at zhL_law_518 27 rfl
theorem dL_law_552 : decode cL_law 552 = .ok (.iadd, 1) := zd_at zhL_law_518 28 rfl
theorem dL_law_553 : decode cL_law 553 = .ok (.iaload, 1) := zd_at zhL_law_518 29 rfl
theorem dL_law_554 : decode cL_law 554 = .ok (.aload_n 0, 1) := zd_at zhL_law_518 30 rfl
theorem dL_law_555 : decode cL_law 555 = .ok (.iload_n 3, 1) := zd_at zhL_law_518 31 rfl
theorem dL_law_556 : decode cL_law 556 = .ok (.iconst 2, 1) := zd_at zhL_law_518 32 rfl
theorem dL_law_557 : decode cL_law 557 = .ok (.iadd, 1) := zd_at zhL_law_518 33 rfl
theorem dL_law_558 : decode cL_law 558 = .ok (.iaload, 1) := zd_at zhL_law_518 34 rfl
theorem dL_law_559 : decode cL_law 559 = .ok (.aload_n 0, 1) := zd_at zhL_law_518 35 rfl
theorem dL_law_560 : decode cL_law 560 = .ok (.iload_n 3, 1) := zd_at zhL_law_518 36 rfl
theorem dL_law_561 : decode cL_law 561 = .ok (.iconst 3, 1) := zd_at zhL_law_518 37 rfl
theorem dL_law_562 : decode cL_law 562 = .ok (.iadd, 1) := zd_at zhL_law_518 38 rfl
theorem dL_law_563 : decode cL_law 563 = .ok (.iaload, 1) := zd_at zhL_law_518 39 rfl
def ziL_law_564 : List (Nat × Instr × Nat) := [(564, .invokevirtual 66, 3), (567, .pop, 1), (568, .aload_n 2, 1), (569, .aload_n 0, 1), (570, .iload_n 3, 1), (571, .iconst 1, 1), (572, .iadd, 1), (573, .iaload, 1), (574, .aload_n 0, 1), (575, .iload_n 3, 1), (576, .iconst 2, 1), (577, .iadd, 1), (578, .iaload, 1), (579, .aload_n 0, 1), (580, .iload_n 3, 1), (581, .iconst 3, 1), (582, .iadd, 1), (583, .iaload, 1), (584, .invokevirtual 69, 3), (587, .pop, 1), (588, .goto 677, 3), (591, .aload_n 1, 1), (592, .aload_n 0, 1), (593, .iload_n 3, 1), (594, .iconst 1, 1), (595, .iadd, 1), (596, .iaload, 1), (597, .aload_n 0, 1), (598, .iload_n 3, 1), (599, .iconst 2, 1), (600, .iadd, 1), (601, .iaload, 1), (602, .aload_n 0, 1), (603, .iload_n 3, 1), (604, .iconst 3, 1), (605, .iadd, 1), (606, .iaload, 1), (607, .invokevirtual 70, 3), (610, .pop, 1), (611, .aload_n 2, 1)]
theorem zhL_law_564 : zd_chk (cL_law.data.toList.drop 564) 564 ziL_law_564 = true := by decide +kernel
theorem dL_law_564 : decode cL_law 564 = .ok (.invokevirtual 66, 3) := zd_at zhL_law_564 0 rfl
theorem dL_law_567 : decode cL_law 567 = .ok (.pop, 1) := zd_at zhL_law_564 1 rfl
theorem dL_law_568 : decode cL_law 568 = .ok (.aload_n 2, 1) := zd_at zhL_law_564 2 rfl
theorem dL_law_569 : decode cL_law 569 = .ok (.aload_n 0, 1) := zd_at zhL_law_564 3 rfl
theorem dL_law_570 : decode cL_law 570 = .ok (.iload_n 3, 1) := zd_at zhL_law_564 4 rfl
theorem dL_law_571 : decode cL_law 571 = .ok (.iconst 1, 1) := zd_at zhL_law_564 5 rfl
theorem dL_law_572 : decode cL_law 572 = .ok (.iadd, 1) := zd_at zhL_law_564 6 rfl
theorem dL_law_573 : decode cL_law 573 = .ok (.iaload, 1) := zd_at zhL_law_564 7 rfl
theorem dL_law_574 : decode cL_law 574 = .ok (.aload_n 0, 1) := zd_at zhL_law_564 8 rfl
theorem dL_law_575 : decode cL_law 575 = .ok (.iload_n 3, 1) := zd_at zhL_law_564 9 rfl
theorem dL_law_576 : decode cL_law 576 = .ok (.iconst 2, 1) := zd_at zhL_law_564 10 rfl
theorem dL_law_577 : decode cL_law 577 = .ok (.iadd, 1) := zd_at zhL_law_564 11 rfl
theorem dL_law_578 : decode cL_law 578 = .ok (.iaload, 1) := zd_at zhL_law_564 12 rfl
theorem dL_law_579 : decode cL_law 579 = .ok (.aload_n 0, 1) := zd_at zhL_law_564 13 rfl
theorem dL_law_580 : decode cL_law 580 = .ok (.iload_n 3, 1) := zd_at zhL_law_564 14 rfl
theorem dL_law_581 : decode cL_law 581 = .ok (.iconst 3, 1) := zd_at zhL_law_564 15 rfl
theorem dL_law_582 : decode cL_law 582 = .ok (.iadd, 1) := zd_at zhL_law_564 16 rfl
theorem dL_law_583 : decode cL_law 583 = .ok (.iaload, 1) := zd_at zhL_law_564 17 rfl
theorem dL_law_584 : decode cL_law 584 = .ok (.invokevirtual 69, 3) := zd_at zhL_law_564 18 rfl
theorem dL_law_587 : decode cL_law 587 = .ok (.pop, 1) := zd_at zhL_law_564 19 rfl
theorem dL_law_588 : decode cL_law 588 = .ok (.goto 677, 3) := zd_at zhL_law_564 20 rfl
theorem dL_law_591 : decode cL_law 591 = .ok (.aload_n 1, 1) := zd_at zhL_law_564 21 rfl
theorem dL_law_592 : decode cL_law 592 = .ok (.aload_n 0, 1) := zd_at zhL_law_564 22 rfl
theorem dL_law_593 : decode cL_law 593 = .ok (.iload_n 3, 1) := zd_at zhL_law_564 23 rfl
theorem dL_law_594 : decode cL_law 594 = .ok (.iconst 1, 1) := zd_at zhL_law_564 24 rfl
theorem dL_law_595 : decode cL_law 595 = .ok (.iadd, 1) := zd_at zhL_law_564 25 rfl
theorem dL_law_596 : decode cL_law 596 = .ok (.iaload, 1) := zd_at zhL_law_564 26 rfl
theorem dL_law_597 : decode cL_law 597 = .ok (.aload_n 0, 1) := zd_at zhL_law_564 27 rfl
theorem dL_law_598 : decode cL_law 598 = .ok (.iload_n 3, 1) := zd_at zhL_law_564 28 rfl
theorem dL_law_599 : decode cL_law 599 = .ok (.iconst 2, 1) := zd_at zhL_law_564 29 rfl
theorem dL_law_600 : decode cL_law 600 = .ok (.iadd, 1) := zd_at zhL_law_564 30 rfl
theorem dL_law_601 : decode cL_law 601 = .ok (.iaload, 1) := zd_at zhL_law_564 31 rfl
theorem dL_law_602 : decode cL_law 602 = .ok (.aload_n 0, 1) := zd_at zhL_law_564 32 rfl
theorem dL_law_603 : decode cL_law 603 = .ok (.iload_n 3, 1) := zd_at zhL_law_564 33 rfl
theorem dL_law_604 : decode cL_law 604 = .ok (.iconst 3, 1) := zd_at zhL_law_564 34 rfl
theorem dL_law_605 : decode cL_law 605 = .ok (.iadd, 1) := zd_at zhL_law_564 35 rfl
theorem dL_law_606 : decode cL_law 606 = .ok (.iaload, 1) := zd_at zhL_law_564 36 rfl
theorem dL_law_607 : decode cL_law 607 = .ok (.invokevirtual 70, 3) := zd_at zhL_law_564 37 rfl
theorem dL_law_610 : decode cL_law 610 = .ok (.pop, 1) := zd_at zhL_law_564 38 rfl
theorem dL_law_611 : decode cL_law 611 = .ok (.aload_n 2, 1) := zd_at zhL_law_564 39 rfl
def ziL_law_612 : List (Nat × Instr × Nat) := [(612, .aload_n 0, 1), (613, .iload_n 3, 1), (614, .iconst 1, 1), (615, .iadd, 1), (616, .iaload, 1), (617, .aload_n 0, 1), (618, .iload_n 3, 1), (619, .iconst 2, 1), (620, .iadd, 1), (621, .iaload, 1), (622, .aload_n 0, 1), (623, .iload_n 3, 1), (624, .iconst 3, 1), (625, .iadd, 1), (626, .iaload, 1), (627, .invokevirtual 73, 3), (630, .pop, 1), (631, .goto 634, 3), (634, .aload_n 1, 1), (635, .aload_n 0, 1), (636, .iload_n 3, 1), (637, .iconst 1, 1), (638, .iadd, 1), (639, .iaload, 1), (640, .aload_n 0, 1), (641, .iload_n 3, 1), (642, .iconst 2, 1), (643, .iadd, 1), (644, .iaload, 1), (645, .invokevirtual 74, 3), (648, .pop, 1), (649, .aload_n 2, 1), (650, .aload_n 0, 1), (651, .iload_n 3, 1), (652, .iconst 1, 1), (653, .iadd, 1), (654, .iaload, 1), (655, .aload_n 0, 1), (656, .iload_n 3, 1), (657, .iconst 2, 1)]
theorem zhL_law_612 : zd_chk (cL_law.data.toList.drop 612) 612 ziL_law_612 = true := by decide +kernel
theorem dL_law_612 : decode cL_law 612 = .ok (.aload_n 0, 1) := zd_at zhL_law_612 0 rfl
theorem dL_law_613 : decode cL_law 613 = .ok (.iload_n 3, 1) := zd_at zhL_law_612 1 rfl
theorem dL_law_614 : decode cL_law 614 = .ok (.iconst 1, 1) := zd_at zhL_law_612 2 rfl
theorem dL_law_615 : decode cL_law 615 = .ok (.iadd, 1) := zd_at zhL_law_612 3 rfl
theorem dL_law_616 : decode cL_law 616 = .ok (.iaload, 1) := zd_at zhL_law_612 4 rfl
theorem dL_law_617 : decode cL_law 617 = .ok (.aload_n 0, 1) := zd_at zhL_law_612 5 rfl
theorem dL_law_618 : decode cL_law 618 = .ok (.iload_n 3, 1) := zd_at zhL_law_612 6 rfl
theorem dL_law_619 : decode cL_law 619 = .ok (.iconst 2, 1) := zd_at zhL_law_612 7 rfl
theorem dL_law_620 : decode cL_law 620 = .ok (.iadd, 1) := zd_at zhL_law_612 8 rfl
theorem dL_law_621 : decode cL_law 621 = .ok (.iaload, 1) := zd_at zhL_law_612 9 rfl
theorem dL_law_622 : decode cL_law 622 = .ok (.aload_n 0, 1) := zd_at zhL_law_612 10 rfl
theorem dL_law_623 : decode cL_law 623 = .ok (.iload_n 3, 1) := zd_at zhL_law_612 11 rfl
theorem dL_law_624 : decode cL_law 624 = .ok (.iconst 3, 1) := zd_at zhL_law_612 12 rfl
theorem dL_law_625 : decode cL_law 625 = .ok (.iadd, 1) := zd_at zhL_law_612 13 rfl
theorem dL_law_626 : decode cL_law 626 = .ok (.iaload, 1) := zd_at zhL_law_612 14 rfl
theorem dL_law_627 : decode cL_law 627 = .ok (.invokevirtual 73, 3) := zd_at zhL_law_612 15 rfl
theorem dL_law_630 : decode cL_law 630 = .ok (.pop, 1) := zd_at zhL_law_612 16 rfl
theorem dL_law_631 : decode cL_law 631 = .ok (.goto 634, 3) := zd_at zhL_law_612 17 rfl
theorem dL_law_634 : decode cL_law 634 = .ok (.aload_n 1, 1) := zd_at zhL_law_612 18 rfl
theorem dL_law_635 : decode cL_law 635 = .ok (.aload_n 0, 1) := zd_at zhL_law_612 19 rfl
theorem dL_law_636 : decode cL_law 636 = .ok (.iload_n 3, 1) := zd_at zhL_law_612 20 rfl
theorem dL_law_637 : decode cL_law 637 = .ok (.iconst 1, 1) := zd_at zhL_law_612 21 rfl
theorem dL_law_638 : decode cL_law 638 = .ok (.iadd, 1) := zd_at zhL_law_612 22 rfl
theorem dL_law_639 : decode cL_law 639 = .ok (.iaload, 1) := zd_at zhL_law_612 23 rfl
theorem dL_law_640 : decode cL_law 640 = .ok (.aload_n 0, 1) := zd_at zhL_law_612 24 rfl
theorem dL_law_641 : decode cL_law 641 = .ok (.iload_n 3, 1) := zd_at zhL_law_612 25 rfl
theorem dL_law_642 : decode cL_law 642 = .ok (.iconst 2, 1) := zd_at zhL_law_612 26 rfl
theorem dL_law_643 : decode cL_law 643 = .ok (.iadd, 1) := zd_at zhL_law_612 27 rfl
theorem dL_law_644 : decode cL_law 644 = .ok (.iaload, 1) := zd_at zhL_law_612 28 rfl
theorem dL_law_645 : decode cL_law 645 = .ok (.invokevirtual 74, 3) := zd_at zhL_law_612 29 rfl
theorem dL_law_648 : decode cL_law 648 = .ok (.pop, 1) := zd_at zhL_law_612 30 rfl
theorem dL_law_649 : decode cL_law 649 = .ok (.aload_n 2, 1) := zd_at zhL_law_612 31 rfl
theorem dL_law_650 : decode cL_law 650 = .ok (.aload_n 0, 1) := zd_at zhL_law_612 32 rfl
theorem dL_law_651 : decode cL_law 651 = .ok (.iload_n 3, 1) := zd_at zhL_law_612 33 rfl
theorem dL_law_652 : decode cL_law 652 = .ok (.iconst 1, 1) := zd_at zhL_law_612 34 rfl
theorem dL_law_653 : decode cL_law 653 = .ok (.iadd, 1) := zd_at zhL_law_612 35 rfl
theorem dL_law_654 : decode cL_law 654 = .ok (.iaload, 1) := zd_at zhL_law_612 36 rfl
theorem dL_law_655 : decode cL_law 655 = .ok (.aload_n 0, 1) := zd_at zhL_law_612 37 rfl
theorem dL_law_656 : decode cL_law 656 = .ok (.iload_n 3, 1) := zd_at zhL_law_612 38 rfl
theorem dL_law_657 : decode cL_law 657 = .ok (.iconst 2, 1) := zd_at zhL_law_612 39 rfl
def ziL_law_658 : List (Nat × Instr × Nat) := [(658, .iadd, 1), (659, .iaload, 1), (660, .invokevirtual 77, 3), (663, .pop, 1), (664, .goto 601, 3), (667, .aload_n 1, 1), (668, .aload_n 0, 1), (669, .iload_n 3, 1), (670, .iconst 1, 1), (671, .iadd, 1), (672, .iaload, 1), (673, .aload_n 0, 1), (674, .iload_n 3, 1), (675, .iconst 2, 1), (676, .iadd, 1), (677, .iaload, 1), (678, .aload_n 0, 1), (679, .iload_n 3, 1), (680, .iconst 3, 1), (681, .iadd, 1), (682, .iaload, 1), (683, .invokevirtual 78, 3), (686, .pop, 1), (687, .aload_n 2, 1), (688, .aload_n 0, 1), (689, .iload_n 3, 1), (690, .iconst 1, 1), (691, .iadd, 1), (692, .iaload, 1), (693, .aload_n 0, 1), (694, .iload_n 3, 1), (695, .iconst 2, 1), (696, .iadd, 1), (697, .iaload, 1), (698, .aload_n 0, 1), (699, .iload_n 3, 1), (700, .iconst 3, 1), (701, .iadd, 1), (702, .iaload, 1), (703, .invokevirtual 81, 3)]
theorem zhL_law_658 : zd_chk (cL_law.data.toList.drop 658) 658 ziL_law_658 = true := by decide +kernel
theorem dL_law_658 : decode cL_law 658 = .ok (.iadd, 1) := zd_at zhL_law_658 0 rfl
theorem dL_law_659 : decode cL_law 659 = .ok (.iaload, 1) := zd_at zhL_law_658 1 rfl
theorem dL_law_660 : decode cL_law 660 = .ok (.invokevirtual 77, 3) := zd_at zhL_law_658 2 rfl
theorem dL_law_663 : decode cL_law 663 = .ok (.pop, 1) := zd_at zhL_law_658 3 rfl
theorem dL_law_664 : decode cL_law 664 = .ok (.goto 601, 3) := zd_at zhL_law_658 4 rfl
theorem dL_law_667 : decode cL_law 667 = .ok (.aload_n 1, 1) := zd_at zhL_law_658 5 rfl
theorem dL_law_668 : decode cL_law 668 = .ok (.aload_n 0, 1) := zd_at zhL_law_658 6 rfl
theorem dL_law_669 : decode cL_law 669 = .ok (.iload_n 3, 1) := zd_at zhL_law_658 7 rfl
theorem dL_law_670 : decode cL_law 670 = .ok (.iconst 1, 1) := zd_at zhL_law_658 8 rfl
theorem dL_law_671 : decode cL_law 671 = .ok (.iadd, 1) := zd_at zhL_law_658 9 rfl
theorem dL_law_672 : decode cL_law 672 = .ok (.iaload, 1) := zd_at zhL_law_658 10 rfl
theorem dL_law_673 : decode cL_law 673 = .ok (.aload_n 0, 1) := zd_at zhL_law_658 11 rfl
theorem dL_law_674 : decode cL_law 674 = .ok (.iload_n 3, 1) := zd_at zhL_law_658 12 rfl
theorem dL_law_675 : decode cL_law 675 = .ok (.iconst 2, 1) := zd_at zhL_law_658 13 rfl
theorem dL_law_676 : decode cL_law 676 = .ok (.iadd, 1) := zd_at zhL_law_658 14 rfl
theorem dL_law_677 : decode cL_law 677 = .ok (.iaload, 1) := zd_at zhL_law_658 15 rfl
theorem dL_law_678 : decode cL_law 678 = .ok (.aload_n 0, 1) := zd_at zhL_law_658 16 rfl
theorem dL_law_679 : decode cL_law 679 = .ok (.iload_n 3, 1) := zd_at zhL_law_658 17 rfl
theorem dL_law_680 : decode cL_law 680 = .ok (.iconst 3, 1) := zd_at zhL_law_658 18 rfl
theorem dL_law_681 : decode cL_law 681 = .ok (.iadd, 1) := zd_at zhL_law_658 19 rfl
theorem dL_law_682 : decode cL_law 682 = .ok (.iaload, 1) := zd_at zhL_law_658 20 rfl
theorem dL_law_683 : decode cL_law 683 = .ok (.invokevirtual 78, 3) := zd_at zhL_law_658 21 rfl
theorem dL_law_686 : decode cL_law 686 = .ok (.pop, 1) := zd_at zhL_law_658 22 rfl
theorem dL_law_687 : decode cL_law 687 = .ok (.aload_n 2, 1) := zd_at zhL_law_658 23 rfl
theorem dL_law_688 : decode cL_law 688 = .ok (.aload_n 0, 1) := zd_at zhL_law_658 24 rfl
theorem dL_law_689 : decode cL_law 689 = .ok (.iload_n 3, 1) := zd_at zhL_law_658 25 rfl
theorem dL_law_690 : decode cL_law 690 = .ok (.iconst 1, 1) := zd_at zhL_law_658 26 rfl
theorem dL_law_691 : decode cL_law 691 = .ok (.iadd, 1) := zd_at zhL_law_658 27 rfl
theorem dL_law_692 : decode cL_law 692 = .ok (.iaload, 1) := zd_at zhL_law_658 28 rfl
theorem dL_law_693 : decode cL_law 693 = .ok (.aload_n 0, 1) := zd_at zhL_law_658 29 rfl
theorem dL_law_694 : decode cL_law 694 = .ok (.iload_n 3, 1) := zd_at zhL_law_658 30 rfl
theorem dL_law_695 : decode cL_law 695 = .ok (.iconst 2, 1) := zd_at zhL_law_658 31 rfl
theorem dL_law_696 : decode cL_law 696 = .ok (.iadd, 1) := zd_at zhL_law_658 32 rfl
theorem dL_law_697 : decode cL_law 697 = .ok (.iaload, 1) := zd_at zhL_law_658 33 rfl
theorem dL_law_698 : decode cL_law 698 = .ok (.aload_n 0, 1) := zd_at zhL_law_658 34 rfl
theorem dL_law_699 : decode cL_law 699 = .ok (.iload_n 3, 1) := zd_at zhL_law_658 35 rfl
theorem dL_law_700 : decode cL_law 700 = .ok (.iconst 3, 1) := zd_at zhL_law_658 36 rfl
theorem dL_law_701 : decode cL_law 701 = .ok (.iadd, 1) := zd_at zhL_law_658 37 rfl
theorem dL_law_702 : decode cL_law 702 = .ok (.iaload, 1) := zd_at zhL_law_658 38 rfl
theorem dL_law_703 : decode cL_law 703 = .ok (.invokevirtual 81, 3) := zd_at zhL_law_658 39 rfl
def ziL_law_706 : List (Nat × Instr × Nat) := [(706, .pop, 1), (707, .goto 558, 3), (710, .aload_n 1, 1), (711, .aload_n 0, 1), (712, .iload_n 3, 1), (713, .iconst 1, 1), (714, .iadd, 1), (715, .iaload, 1), (716, .aload_n 0, 1), (717, .iload_n 3, 1), (718, .iconst 2, 1), (719, .iadd, 1), (720, .iaload, 1), (721, .invokevirtual 82, 3), (724, .pop, 1), (725, .aload_n 2, 1), (726, .aload_n 0, 1), (727, .iload_n 3, 1), (728, .iconst 1, 1), (729, .iadd, 1), (730, .iaload, 1), (731, .aload_n 0, 1), (732, .iload_n 3, 1), (733, .iconst 2, 1), (734, .iadd, 1), (735, .iaload, 1), (736, .invokevirtual 85, 3), (739, .pop, 1), (740, .goto 525, 3), (743, .aload_n 1, 1), (744, .aload_n 0, 1), (745, .iload_n 3, 1), (746, .iconst 1, 1), (747, .iadd, 1), (748, .iaload, 1), (749, .aload_n 0, 1), (750, .iload_n 3, 1), (751, .iconst 2, 1), (752, .iadd, 1), (753, .iaload, 1)]
theorem zhL_law_706 : zd_chk (cL_law.data.toList.drop 706) 706 ziL_law_706 = true := by decide +kernel
theorem dL_law_706 : decode cL_law 706 = .ok (.pop, 1) := zd_at zhL_law_706 0 rfl
theorem dL_law_707 : decode cL_law 707 = .ok (.goto 558, 3) := zd_at zhL_law_706 1 rfl
theorem dL_law_710 : decode cL_law 710 = .ok (.aload_n 1, 1) := zd_at zhL_law_706 2 rfl
theorem dL_law_711 : decode cL_law 711 = .ok (.aload_n 0, 1) := zd_at zhL_law_706 3 rfl
theorem dL_law_712 : decode cL_law 712 = .ok (.iload_n 3, 1) := zd_at zhL_law_706 4 rfl
theorem dL_law_713 : decode cL_law 713 = .ok (.iconst 1, 1) := zd_at zhL_law_706 5 rfl
theorem dL_law_714 : decode cL_law 714 = .ok (.iadd, 1) := zd_at zhL_law_706 6 rfl
theorem dL_law_715 : decode cL_law 715 = .ok (.iaload, 1) := zd_at zhL_law_706 7 rfl
theorem dL_law_716 : decode cL_law 716 = .ok (.aload_n 0, 1) := zd_at zhL_law_706 8 rfl
theorem dL_law_717 : decode cL_law 717 = .ok (.iload_n 3, 1) := zd_at zhL_law_706 9 rfl
theorem dL_law_718 : decode cL_law 718 = .ok (.iconst 2, 1) := zd_at zhL_law_706 10 rfl
theorem dL_law_719 : decode cL_law 719 = .ok (.iadd, 1) := zd_at zhL_law_706 11 rfl
theorem dL_law_720 : decode cL_law 720 = .ok (.iaload, 1) := zd_at zhL_law_706 12 rfl
theorem dL_law_721 : decode cL_law 721 = .ok (.invokevirtual 82, 3) := zd_at zhL_law_706 13 rfl
theorem dL_law_724 : decode cL_law 724 = .ok (.pop, 1) := zd_at zhL_law_706 14 rfl
theorem dL_law_725 : decode cL_law 725 = .ok (.aload_n 2, 1) := zd_at zhL_law_706 15 rfl
theorem dL_law_726 : decode cL_law 726 = .ok (.aload_n 0, 1) := zd_at zhL_law_706 16 rfl
theorem dL_law_727 : decode cL_law 727 = .ok (.iload_n 3, 1) := zd_at zhL_law_706 17 rfl
theorem dL_law_728 : decode cL_law 728 = .ok (.iconst 1, 1) := zd_at zhL_law_706 18 rfl
theorem dL_law_729 : decode cL_law 729 = .ok (.iadd, 1) := zd_at zhL_law_706 19 rfl
theorem dL_law_730 : decode cL_law 730 = .ok (.iaload, 1) := zd_at zhL_law_706 20 rfl
theorem dL_law_731 : decode cL_law 731 = .ok (.aload_n 0, 1) := zd_at zhL_law_706 21 rfl
theorem dL_law_732 : decode cL_law 732 = .ok (.iload_n 3, 1) := zd_at zhL_law_706 22 rfl
theorem dL_law_733 : decode cL_law 733 = .ok (.iconst 2, 1) := zd_at zhL_law_706 23 rfl
theorem dL_law_734 : decode cL_law 734 = .ok (.iadd, 1) := zd_at zhL_law_706 24 rfl
theorem dL_law_735 : decode cL_law 735 = .ok (.iaload, 1) := zd_at zhL_law_706 25 rfl
theorem dL_law_736 : decode cL_law 736 = .ok (.invokevirtual 85, 3) := zd_at zhL_law_706 26 rfl
theorem dL_law_739 : decode cL_law 739 = .ok (.pop, 1) := zd_at zhL_law_706 27 rfl
theorem dL_law_740 : decode cL_law 740 = .ok (.goto 525, 3) := zd_at zhL_law_706 28 rfl
theorem dL_law_743 : decode cL_law 743 = .ok (.aload_n 1, 1) := zd_at zhL_law_706 29 rfl
theorem dL_law_744 : decode cL_law 744 = .ok (.aload_n 0, 1) := zd_at zhL_law_706 30 rfl
theorem dL_law_745 : decode cL_law 745 = .ok (.iload_n 3, 1) := zd_at zhL_law_706 31 rfl
theorem dL_law_746 : decode cL_law 746 = .ok (.iconst 1, 1) := zd_at zhL_law_706 32 rfl
theorem dL_law_747 : decode cL_law 747 = .ok (.iadd, 1) := zd_at zhL_law_706 33 rfl
theorem dL_law_748 : decode cL_law 748 = .ok (.iaload, 1) := zd_at zhL_law_706 34 rfl
theorem dL_law_749 : decode cL_law 749 = .ok (.aload_n 0, 1) := zd_at zhL_law_706 35 rfl
theorem dL_law_750 : decode cL_law 750 = .ok (.iload_n 3, 1) := zd_at zhL_law_706 36 rfl
theorem dL_law_751 : decode cL_law 751 = .ok (.iconst 2, 1) := zd_at zhL_law_706 37 rfl
theorem dL_law_752 : decode cL_law 752 = .ok (.iadd, 1) := zd_at zhL_law_706 38 rfl
theorem dL_law_753 : decode cL_law 753 = .ok (.iaload, 1) := zd_at zhL_law_706 39 rfl
def ziL_law_754 : List (Nat × Instr × Nat) := [(754, .invokevirtual 86, 3), (757, .pop, 1), (758, .aload_n 2, 1), (759, .aload_n 0, 1), (760, .iload_n 3, 1), (761, .iconst 1, 1), (762, .iadd, 1), (763, .iaload, 1), (764, .aload_n 0, 1), (765, .iload_n 3, 1), (766, .iconst 2, 1), (767, .iadd, 1), (768, .iaload, 1), (769, .invokevirtual 89, 3), (772, .pop, 1), (773, .goto 492, 3), (776, .aload_n 1, 1), (777, .aload_n 0, 1), (778, .iload_n 3, 1), (779, .iconst 1, 1), (780, .iadd, 1), (781, .iaload, 1), (782, .aload_n 0, 1), (783, .iload_n 3, 1), (784, .iconst 2, 1), (785, .iadd, 1), (786, .iaload, 1), (787, .invokevirtual 90, 3), (790, .pop, 1), (791, .aload_n 2, 1), (792, .aload_n 0, 1), (793, .iload_n 3, 1), (794, .iconst 1, 1), (795, .iadd, 1), (796, .iaload, 1), (797, .aload_n 0, 1), (798, .iload_n 3, 1), (799, .iconst 2, 1), (800, .iadd, 1), (801, .iaload, 1)]
theorem zhL_law_754 : zd_chk (cL_law.data.toList.drop 754) 754 ziL_law_754 = true := by decide +kernel
theorem dL_law_754 : decode cL_law 754 = .ok (.invokevirtual 86, 3) := zd_at zhL_law_754 0 rfl
theorem dL_law_757 : decode cL_law 757 = .ok (.pop, 1) := zd_at zhL_law_754 1 rfl
theorem dL_law_758 : decode cL_law 758 = .ok (.aload_n 2, 1) := zd_at zhL_law_754 2 rfl
theorem dL_law_759 : decode cL_law 759 = .ok (.aload_n 0, 1) := zd_at zhL_law_754 3 rfl
theorem dL_law_760 : decode cL_law 760 = .ok (.iload_n 3, 1) := zd_at zhL_law_754 4 rfl
theorem dL_law_761 : decode cL_law 761 = .ok (.iconst 1, 1) := zd_at zhL_law_754 5 rfl
theorem dL_law_762 : decode cL_law 762 = .ok (.iadd, 1) := zd_at zhL_law_754 6 rfl
theorem dL_law_763 : decode cL_law 763 = .ok (.iaload, 1) := zd_at zhL_law_754 7 rfl
theorem dL_law_764 : decode cL_law 764 = .ok (.aload_n 0, 1) := zd_at zhL_law_754 8 rfl
theorem dL_law_765 : decode cL_law 765 = .ok (.iload_n 3, 1) := zd_at zhL_law_754 9 rfl
theorem dL_law_766 : decode cL_law 766 = .ok (.iconst 2, 1) := zd_at zhL_law_754 10 rfl
theorem dL_law_767 : decode cL_law 767 = .ok (.iadd, 1) := zd_at zhL_law_754 11 rfl
theorem dL_law_768 : decode cL_law 768 = .ok (.iaload, 1) := zd_at zhL_law_754 12 rfl
theorem dL_law_769 : decode cL_law 769 = .ok (.invokevirtual 89, 3) := zd_at zhL_law_754 13 rfl
theorem dL_law_772 : decode cL_law 772 = .ok (.pop, 1) := zd_at zhL_law_754 14 rfl
theorem dL_law_773 : decode cL_law 773 = .ok (.goto 492, 3) := zd_at zhL_law_754 15 rfl
theorem dL_law_776 : decode cL_law 776 = .ok (.aload_n 1, 1) := zd_at zhL_law_754 16 rfl
theorem dL_law_777 : decode cL_law 777 = .ok (.aload_n 0, 1) := zd_at zhL_law_754 17 rfl
theorem dL_law_778 : decode cL_law 778 = .ok (.iload_n 3, 1) := zd_at zhL_law_754 18 rfl
theorem dL_law_779 : decode cL_law 779 = .ok (.iconst 1, 1) := zd_at zhL_law_754 19 rfl
theorem dL_law_780 : decode cL_law 780 = .ok (.iadd, 1) := zd_at zhL_law_754 20 rfl
theorem dL_law_781 : decode cL_law 781 = .ok (.iaload, 1) := zd_at zhL_law_754 21 rfl
theorem dL_law_782 : decode cL_law 782 = .ok (.aload_n 0, 1) := zd_at zhL_law_754 22 rfl
theorem dL_law_783 : decode cL_law 783 = .ok (.iload_n 3, 1) := zd_at zhL_law_754 23 rfl
theorem dL_law_784 : decode cL_law 784 = .ok (.iconst 2, 1) := zd_at zhL_law_754 24 rfl
theorem dL_law_785 : decode cL_law 785 = .ok (.iadd, 1) := zd_at zhL_law_754 25 rfl
theorem dL_law_786 : decode cL_law 786 = .ok (.iaload, 1) := zd_at zhL_law_754 26 rfl
theorem dL_law_787 : decode cL_law 787 = .ok (.invokevirtual 90, 3) := zd_at zhL_law_754 27 rfl
theorem dL_law_790 : decode cL_law 790 = .ok (.pop, 1) := zd_at zhL_law_754 28 rfl
theorem dL_law_791 : decode cL_law 791 = .ok (.aload_n 2, 1) := zd_at zhL_law_754 29 rfl
theorem dL_law_792 : decode cL_law 792 = .ok (.aload_n 0, 1) := zd_at zhL_law_754 30 rfl
theorem dL_law_793 : decode cL_law 793 = .ok (.iload_n 3, 1) := zd_at zhL_law_754 31 rfl
theorem dL_law_794 : decode cL_law 794 = .ok (.iconst 1, 1) := zd_at zhL_law_754 32 rfl
theorem dL_law_795 : decode cL_law 795 = .ok (.iadd, 1) := zd_at zhL_law_754 33 rfl
theorem dL_law_796 : decode cL_law 796 = .ok (.iaload, 1) := zd_at zhL_law_754 34 rfl
theorem dL_law_797 : decode cL_law 797 = .ok (.aload_n 0, 1) := zd_at zhL_law_754 35 rfl
theorem dL_law_798 : decode cL_law 798 = .ok (.iload_n 3, 1) := zd_at zhL_law_754 36 rfl
theorem dL_law_799 : decode cL_law 799 = .ok (.iconst 2, 1) := zd_at zhL_law_754 37 rfl
theorem dL_law_800 : decode cL_law 800 = .ok (.iadd, 1) := zd_at zhL_law_754 38 rfl
theorem dL_law_801 : decode cL_law 801 = .ok (.iaload, 1) := zd_at zhL_law_754 39 rfl
def ziL_law_802 : List (Nat × Instr × Nat) := [(802, .invokevirtual 93, 3), (805, .pop, 1), (806, .goto 459, 3), (809, .aload_n 1, 1), (810, .aload_n 0, 1), (811, .iload_n 3, 1), (812, .iconst 1, 1), (813, .iadd, 1), (814, .iaload, 1), (815, .aload_n 0, 1), (816, .iload_n 3, 1), (817, .iconst 2, 1), (818, .iadd, 1), (819, .iaload, 1), (820, .aload_n 0, 1), (821, .iload_n 3, 1), (822, .iconst 3, 1), (823, .iadd, 1), (824, .iaload, 1), (825, .invokevirtual 94, 3), (828, .pop, 1), (829, .aload_n 2, 1), (830, .aload_n 0, 1), (831, .iload_n 3, 1), (832, .iconst 1, 1), (833, .iadd, 1), (834, .iaload, 1), (835, .aload_n 0, 1), (836, .iload_n 3, 1), (837, .iconst 2, 1), (838, .iadd, 1), (839, .iaload, 1), (840, .aload_n 0, 1), (841, .iload_n 3, 1), (842, .iconst 3, 1), (843, .iadd, 1), (844, .iaload, 1), (845, .invokevirtual 97, 3), (848, .pop, 1), (849, .goto 416, 3)]
theorem zhL_law_802 : zd_chk (cL_law.data.toList.drop 802) 802 ziL_law_802 = true := by decide +kernel
theorem dL_law_802 : decode cL_law 802 = .ok (.invokevirtual 93, 3) := zd_at zhL_law_802 0 rfl
theorem dL_law_805 : decode cL_law 805 = .ok (.pop, 1) := zd_at zhL_law_802 1 rfl
theorem dL_law_806 : decode cL_law 806 = .ok (.goto 459, 3) := zd_at zhL_law_802 2 rfl
theorem dL_law_809 : decode cL_law 809 = .ok (.aload_n 1, 1) := zd_at zhL_law_802 3 rfl
theorem dL_law_810 : decode cL_law 810 = .ok (.aload_n 0, 1) := zd_at zhL_law_802 4 rfl
theorem dL_law_811 : decode cL_law 811 = .ok (.iload_n 3, 1) := zd_at zhL_law_802 5 rfl
theorem dL_law_812 : decode cL_law 812 = .ok (.iconst 1, 1) := zd_at zhL_law_802 6 rfl
theorem dL_law_813 : decode cL_law 813 = .ok (.iadd, 1) := zd_at zhL_law_802 7 rfl
theorem dL_law_814 : decode cL_law 814 = .ok (.iaload, 1) := zd_at zhL_law_802 8 rfl
theorem dL_law_815 : decode cL_law 815 = .ok (.aload_n 0, 1) := zd_at zhL_law_802 9 rfl
theorem dL_law_816 : decode cL_law 816 = .ok (.iload_n 3, 1) := zd_at zhL_law_802 10 rfl
theorem dL_law_817 : decode cL_law 817 = .ok (.iconst 2, 1) := zd_at zhL_law_802 11 rfl
theorem dL_law_818 : decode cL_law 818 = .ok (.iadd, 1) := zd_at zhL_law_802 12 rfl
theorem dL_law_819 : decode cL_law 819 = .ok (.iaload, 1) := zd_at zhL_law_802 13 rfl
theorem dL_law_820 : decode cL_law 820 = .ok (.aload_n 0, 1) := zd_at zhL_law_802 14 rfl
theorem dL_law_821 : decode cL_law 821 = .ok (.iload_n 3, 1) := zd_at zhL_law_802 15 rfl
theorem dL_law_822 : decode cL_law 822 = .ok (.iconst 3, 1) := zd_at zhL_law_802 16 rfl
theorem dL_law_823 : decode cL_law 823 = .ok (.iadd, 1) := zd_at zhL_law_802 17 rfl
theorem dL_law_824 : decode cL_law 824 = .ok (.iaload, 1) := zd_at zhL_law_802 18 rfl
theorem dL_law_825 : decode cL_law 825 = .ok (.invokevirtual 94, 3) := zd_at zhL_law_802 19 rfl
theorem dL_law_828 : decode cL_law 828 = .ok (.pop, 1) := zd_at zhL_law_802 20 rfl
theorem dL_law_829 : decode cL_law 829 = .ok (.aload_n 2, 1) := zd_at zhL_law_802 21 rfl
theorem dL_law_830 : decode cL_law 830 = .ok (.aload_n 0, 1) := zd_at zhL_law_802 22 rfl
theorem dL_law_831 : decode cL_law 831 = .ok (.iload_n 3, 1) := zd_at zhL_law_802 23 rfl
theorem dL_law_832 : decode cL_law 832 = .ok (.iconst 1, 1) := zd_at zhL_law_802 24 rfl
theorem dL_law_833 : decode cL_law 833 = .ok (.iadd, 1) := zd_at zhL_law_802 25 rfl
theorem dL_law_834 : decode cL_law 834 = .ok (.iaload, 1) := zd_at zhL_law_802 26 rfl
theorem dL_law_835 : decode cL_law 835 = .ok (.aload_n 0, 1) := zd_at zhL_law_802 27 rfl
theorem dL_law_836 : decode cL_law 836 = .ok (.iload_n 3, 1) := zd_at zhL_law_802 28 rfl
theorem dL_law_837 : decode cL_law 837 = .ok (.iconst 2, 1) := zd_at zhL_law_802 29 rfl
theorem dL_law_838 : decode cL_law 838 = .ok (.iadd, 1) := zd_at zhL_law_802 30 rfl
theorem dL_law_839 : decode cL_law 839 = .ok (.iaload, 1) := zd_at zhL_law_802 31 rfl
theorem dL_law_840 : decode cL_law 840 = .ok (.aload_n 0, 1) := zd_at zhL_law_802 32 rfl
theorem dL_law_841 : decode cL_law 841 = .ok (.iload_n 3, 1) := zd_at zhL_law_802 33 rfl
theorem dL_law_842 : decode cL_law 842 = .ok (.iconst 3, 1) := zd_at zhL_law_802 34 rfl
theorem dL_law_843 : decode cL_law 843 = .ok (.iadd, 1) := zd_at zhL_law_802 35 rfl
theorem dL_law_844 : decode cL_law 844 = .ok (.iaload, 1) := zd_at zhL_law_802 36 rfl
theorem dL_law_845 : decode cL_law 845 = .ok (.invokevirtual 97, 3) := zd_at zhL_law_802 37 rfl
theorem dL_law_848 : decode cL_law 848 = .ok (.pop, 1) := zd_at zhL_law_802 38 rfl
theorem dL_law_849 : decode cL_law 849 = .ok (.goto 416, 3) := zd_at zhL_law_802 39 rfl
def ziL_law_852 : List (Nat × Instr × Nat) := [(852, .aload_n 1, 1), (853, .aload_n 0, 1), (854, .iload_n 3, 1), (855, .iconst 1, 1), (856, .iadd, 1), (857, .iaload, 1), (858, .aload_n 0, 1), (859, .iload_n 3, 1), (860, .iconst 2, 1), (861, .iadd, 1), (862, .iaload, 1), (863, .invokevirtual 98, 3), (866, .pop, 1), (867, .aload_n 2, 1), (868, .aload_n 0, 1), (869, .iload_n 3, 1), (870, .iconst 1, 1), (871, .iadd, 1), (872, .iaload, 1), (873, .aload_n 0, 1), (874, .iload_n 3, 1), (875, .iconst 2, 1), (876, .iadd, 1), (877, .iaload, 1), (878, .invokevirtual 101, 3), (881, .pop, 1), (882, .goto 383, 3), (885, .aload_n 1, 1), (886, .aload_n 0, 1), (887, .iload_n 3, 1), (888, .iconst 1, 1), (889, .iadd, 1), (890, .iaload, 1), (891, .aload_n 0, 1), (892, .iload_n 3, 1), (893, .iconst 2, 1), (894, .iadd, 1), (895, .iaload, 1), (896, .aload_n 0, 1), (897, .iload_n 3, 1)]
theorem zhL_law_852 : zd_chk (cL_law.data.toList.drop 852) 852 ziL_law_852 = true := by decide +kernel
theorem dL_law_852 : decode cL_law 852 = .ok (.aload_n 1, 1) := zd_at zhL_law_852 0 rfl
theorem dL_law_853 : decode cL_law 853 = .ok (.aload_n 0, 1) := zd_at zhL_law_852 1 rfl
theorem dL_law_854 : decode cL_law 854 = .ok (.iload_n 3, 1) := zd_at zhL_law_852 2 rfl
theorem dL_law_855 : decode cL_law 855 = .ok (.iconst 1, 1) := zd_at zhL_law_852 3 rfl
theorem dL_law_856 : decode cL_law 856 = .ok (.iadd, 1) := zd_at zhL_law_852 4 rfl
theorem dL_law_857 : decode cL_law 857 = .ok (.iaload, 1) := zd_at zhL_law_852 5 rfl
theorem dL_law_858 : decode cL_law 858 = .ok (.aload_n 0, 1) := zd_at zhL_law_852 6 rfl
theorem dL_law_859 : decode cL_law 859 = .ok (.iload_n 3, 1) := zd_at zhL_law_852 7 rfl
theorem dL_law_860 : decode cL_law 860 = .ok (.iconst 2, 1) := zd_at zhL_law_852 8 rfl
theorem dL_law_861 : decode cL_law 861 = .ok (.iadd, 1) := zd_at zhL_law_852 9 rfl
theorem dL_law_862 : decode cL_law 862 = .ok (.iaload, 1) := zd_at zhL_law_852 10 rfl
theorem dL_law_863 : decode cL_law 863 = .ok (.invokevirtual 98, 3) := zd_at zhL_law_852 11 rfl
theorem dL_law_866 : decode cL_law 866 = .ok (.pop, 1) := zd_at zhL_law_852 12 rfl
theorem dL_law_867 : decode cL_law 867 = .ok (.aload_n 2, 1) := zd_at zhL_law_852 13 rfl
theorem dL_law_868 : decode cL_law 868 = .ok (.aload_n 0, 1) := zd_at zhL_law_852 14 rfl
theorem dL_law_869 : decode cL_law 869 = .ok (.iload_n 3, 1) := zd_at zhL_law_852 15 rfl
theorem dL_law_870 : decode cL_law 870 = .ok (.iconst 1, 1) := zd_at zhL_law_852 16 rfl
theorem dL_law_871 : decode cL_law 871 = .ok (.iadd, 1) := zd_at zhL_law_852 17 rfl
theorem dL_law_872 : decode cL_law 872 = .ok (.iaload, 1) := zd_at zhL_law_852 18 rfl
theorem dL_law_873 : decode cL_law 873 = .ok (.aload_n 0, 1) := zd_at zhL_law_852 19 rfl
theorem dL_law_874 : decode cL_law 874 = .ok (.iload_n 3, 1) := zd_at zhL_law_852 20 rfl
theorem dL_law_875 : decode cL_law 875 = .ok (.iconst 2, 1) := zd_at zhL_law_852 21 rfl
theorem dL_law_876 : decode cL_law 876 = .ok (.iadd, 1) := zd_at zhL_law_852 22 rfl
theorem dL_law_877 : decode cL_law 877 = .ok (.iaload, 1) := zd_at zhL_law_852 23 rfl
theorem dL_law_878 : decode cL_law 878 = .ok (.invokevirtual 101, 3) := zd_at zhL_law_852 24 rfl
theorem dL_law_881 : decode cL_law 881 = .ok (.pop, 1) := zd_at zhL_law_852 25 rfl
theorem dL_law_882 : decode cL_law 882 = .ok (.goto 383, 3) := zd_at zhL_law_852 26 rfl
theorem dL_law_885 : decode cL_law 885 = .ok (.aload_n 1, 1) := zd_at zhL_law_852 27 rfl
theorem dL_law_886 : decode cL_law 886 = .ok (.aload_n 0, 1) := zd_at zhL_law_852 28 rfl
theorem dL_law_887 : decode cL_law 887 = .ok (.iload_n 3, 1) := zd_at zhL_law_852 29 rfl
theorem dL_law_888 : decode cL_law 888 = .ok (.iconst 1, 1) := zd_at zhL_law_852 30 rfl
theorem dL_law_889 : decode cL_law 889 = .ok (.iadd, 1) := zd_at zhL_law_852 31 rfl
theorem dL_law_890 : decode cL_law 890 = .ok (.iaload, 1) := zd_at zhL_law_852 32 rfl
theorem dL_law_891 : decode cL_law 891 = .ok (.aload_n 0, 1) := zd_at zhL_law_852 33 rfl
theorem dL_law_892 : decode cL_law 892 = .ok (.iload_n 3, 1) := zd_at zhL_law_852 34 rfl
theorem dL_law_893 : decode cL_law 893 = .ok (.iconst 2, 1) := zd_at zhL_law_852 35 rfl
theorem dL_law_894 : decode cL_law 894 = .ok (.iadd, 1) := zd_at zhL_law_852 36 rfl
theorem dL_law_895 : decode cL_law 895 = .ok (.iaload, 1) := zd_at zhL_law_852 37 rfl
theorem dL_law_896 : decode cL_law 896 = .ok (.aload_n 0, 1) := zd_at zhL_law_852 38 rfl
theorem dL_law_897 : decode cL_law 897 = .ok (.iload_n 3, 1) := zd_at zhL_law_852 39 rfl
def ziL_law_898 : List (Nat × Instr × Nat) := [(898, .iconst 3, 1), (899, .iadd, 1), (900, .iaload, 1), (901, .invokevirtual 102, 3), (904, .pop, 1), (905, .aload_n 2, 1), (906, .aload_n 0, 1), (907, .iload_n 3, 1), (908, .iconst 1, 1), (909, .iadd, 1), (910, .iaload, 1), (911, .aload_n 0, 1), (912, .iload_n 3, 1), (913, .iconst 2, 1), (914, .iadd, 1), (915, .iaload, 1), (916, .aload_n 0, 1), (917, .iload_n 3, 1), (918, .iconst 3, 1), (919, .iadd, 1), (920, .iaload, 1), (921, .invokevirtual 105, 3), (924, .pop, 1), (925, .goto 340, 3), (928, .aload_n 1, 1), (929, .aload_n 0, 1), (930, .iload_n 3, 1), (931, .iconst 1, 1), (932, .iadd, 1), (933, .iaload, 1), (934, .aload_n 0, 1), (935, .iload_n 3, 1), (936, .iconst 2, 1), (937, .iadd, 1), (938, .iaload, 1), (939, .aload_n 0, 1), (940, .iload_n 3, 1), (941, .iconst 3, 1), (942, .iadd, 1), (943, .iaload, 1)]
theorem zhL_law_898 : zd_chk (cL_law.data.toList.drop 898) 898 ziL_law_898 = true := by decide +kernel
theorem dL_law_898 : decode cL_law 898 = .ok (.iconst 3, 1) := zd_at zhL_law_898 0 rfl
theorem dL_law_899 : decode cL_law 899 = .ok (.iadd, 1) := zd_at zhL_law_898 1 rfl
theorem dL_law_900 : decode cL_law 900 = .ok (.iaload, 1) := zd_at zhL_law_898 2 rfl
theorem dL_law_901 : decode cL_law 901 = .ok (.invokevirtual 102, 3) := zd_at zhL_law_898 3 rfl
theorem dL_law_904 : decode cL_law 904 = .ok (.pop, 1) := zd_at zhL_law_898 4 rfl
theorem dL_law_905 : decode cL_law 905 = .ok (.aload_n 2, 1) := zd_at zhL_law_898 5 rfl
theorem dL_law_906 : decode cL_law 906 = .ok (.aload_n 0, 1) := zd_at zhL_law_898 6 rfl
theorem dL_law_907 : decode cL_law 907 = .ok (.iload_n 3, 1) := zd_at zhL_law_898 7 rfl
theorem dL_law_908 : decode cL_law 908 = .ok (.iconst 1, 1) := zd_at zhL_law_898 8 rfl
theorem dL_law_909 : decode cL_law 909 = .ok (.iadd, 1) := zd_at zhL_law_898 9 rfl
theorem dL_law_910 : decode cL_law 910 = .ok (.iaload, 1) := zd_at zhL_law_898 10 rfl
theorem dL_law_911 : decode cL_law 911 = .ok (.aload_n 0, 1) := zd_at zhL_law_898 11 rfl
theorem dL_law_912 : decode cL_law 912 = .ok (.iload_n 3, 1) := zd_at zhL_law_898 12 rfl
theorem dL_law_913 : decode cL_law 913 = .ok (.iconst 2, 1) := zd_at zhL_law_898 13 rfl
theorem dL_law_914 : decode cL_law 914 = .ok (.iadd, 1) := zd_at zhL_law_898 14 rfl
theorem dL_law_915 : decode cL_law 915 = .ok (.iaload, 1) := zd_at zhL_law_898 15 rfl
theorem dL_law_916 : decode cL_law 916 = .ok (.aload_n 0, 1) := zd_at zhL_law_898 16 rfl
theorem dL_law_917 : decode cL_law 917 = .ok (.iload_n 3, 1) := zd_at zhL_law_898 17 rfl
theorem dL_law_918 : decode cL_law 918 = .ok (.iconst 3, 1) := zd_at zhL_law_898 18 rfl
theorem dL_law_919 : decode cL_law 919 = .ok (.iadd, 1) := zd_at zhL_law_898 19 rfl
theorem dL_law_920 : decode cL_law 920 = .ok (.iaload, 1) := zd_at zhL_law_898 20 rfl
theorem dL_law_921 : decode cL_law 921 = .ok (.invokevirtual 105, 3) := zd_at zhL_law_898 21 rfl
theorem dL_law_924 : decode cL_law 924 = .ok (.pop, 1) := zd_at zhL_law_898 22 rfl
theorem dL_law_925 : decode cL_law 925 = .ok (.goto 340, 3) := zd_at zhL_law_898 23 rfl
theorem dL_law_928 : decode cL_law 928 = .ok (.aload_n 1, 1) := zd_at zhL_law_898 24 rfl
theorem dL_law_929 : decode cL_law 929 = .ok (.aload_n 0, 1) := zd_at zhL_law_898 25 rfl
theorem dL_law_930 : decode cL_law 930 = .ok (.iload_n 3, 1) := zd_at zhL_law_898 26 rfl
theorem dL_law_931 : decode cL_law 931 = .ok (.iconst 1, 1) := zd_at zhL_law_898 27 rfl
theorem dL_law_932 : decode cL_law 932 = .ok (.iadd, 1) := zd_at zhL_law_898 28 rfl
theorem dL_law_933 : decode cL_law 933 = .ok (.iaload, 1) := zd_at zhL_law_898 29 rfl
theorem dL_law_934 : decode cL_law 934 = .ok (.aload_n 0, 1) := zd_at zhL_law_898 30 rfl
theorem dL_law_935 : decode cL_law 935 = .ok (.iload_n 3, 1) := zd_at zhL_law_898 31 rfl
theorem dL_law_936 : decode cL_law 936 = .ok (.iconst 2, 1) := zd_at zhL_law_898 32 rfl
theorem dL_law_937 : decode cL_law 937 = .ok (.iadd, 1) := zd_at zhL_law_898 33 rfl
theorem dL_law_938 : decode cL_law 938 = .ok (.iaload, 1) := zd_at zhL_law_898 34 rfl
theorem dL_law_939 : decode cL_law 939 = .ok (.aload_n 0, 1) := zd_at zhL_law_898 35 rfl
theorem dL_law_940 : decode cL_law 940 = .ok (.iload_n 3, 1) := zd_at zhL_law_898 36 rfl
theorem dL_law_941 : decode cL_law 941 = .ok (.iconst 3, 1) := zd_at zhL_law_898 37 rfl
theorem dL_law_942 : decode cL_law 942 = .ok (.iadd, 1) := zd_at zhL_law_898 38 rfl
theorem dL_law_943 : decode cL_law 943 = .ok (.iaload, 1) := zd_at zhL_law_898 39 rfl
def ziL_law_944 : List (Nat × Instr × Nat) := [(944, .aload_n 0, 1), (945, .iload_n 3, 1), (946, .iconst 4, 1), (947, .iadd, 1), (948, .iaload, 1), (949, .invokevirtual 106, 3), (952, .pop2, 1), (953, .aload_n 2, 1), (954, .aload_n 0, 1), (955, .iload_n 3, 1), (956, .iconst 1, 1), (957, .iadd, 1), (958, .iaload, 1), (959, .aload_n 0, 1), (960, .iload_n 3, 1), (961, .iconst 2, 1), (962, .iadd, 1), (963, .iaload, 1), (964, .aload_n 0, 1), (965, .iload_n 3, 1), (966, .iconst 3, 1), (967, .iadd, 1), (968, .iaload, 1), (969, .aload_n 0, 1), (970, .iload_n 3, 1), (971, .iconst 4, 1), (972, .iadd, 1), (973, .iaload, 1), (974, .invokevirtual 110, 3), (977, .pop2, 1), (978, .goto 287, 3), (981, .aload_n 1, 1), (982, .invokevirtual 111, 3), (985, .pop, 1), (986, .aload_n 2, 1), (987, .invokevirtual 114, 3), (990, .pop, 1), (991, .goto 274, 3), (994, .aload_n 1, 1), (995, .invokevirtual 115, 3)]
theorem zhL_law_944 : zd_chk (cL_law.data.toList.drop 944) 944 ziL_law_944 = true := by decide +kernel
theorem dL_law_944 : decode cL_law 944 = .ok (.aload_n 0, 1) := zd_at zhL_law_944 0 rfl
theorem dL_law_945 : decode cL_law 945 = .ok (.iload_n 3, 1) := zd_at zhL_law_944 1 rfl
theorem dL_law_946 : decode cL_law 946 = .ok (.iconst 4, 1) := zd_at zhL_law_944 2 rfl
theorem dL_law_947 : decode cL_law 947 = .ok (.iadd, 1) := zd_at zhL_law_944 3 rfl
theorem dL_law_948 : decode cL_law 948 = .ok (.iaload, 1) := zd_at zhL_law_944 4 rfl
theorem dL_law_949 : decode cL_law 949 = .ok (.invokevirtual 106, 3) := zd_at zhL_law_944 5 rfl
theorem dL_law_952 : decode cL_law 952 = .ok (.pop2, 1) := zd_at zhL_law_944 6 rfl
theorem dL_law_953 : decode cL_law 953 = .ok (.aload_n 2, 1) := zd_at zhL_law_944 7 rfl
theorem dL_law_954 : decode cL_law 954 = .ok (.aload_n 0, 1) := zd_at zhL_law_944 8 rfl
theorem dL_law_955 : decode cL_law 955 = .ok (.iload_n 3, 1) := zd_at zhL_law_944 9 rfl
theorem dL_law_956 : decode cL_law 956 = .ok (.iconst 1, 1) := zd_at zhL_law_944 10 rfl
theorem dL_law_957 : decode cL_law 957 = .ok (.iadd, 1) := zd_at zhL_law_944 11 rfl
theorem dL_law_958 : decode cL_law 958 = .ok (.iaload, 1) := zd_at zhL_law_944 12 rfl
theorem dL_law_959 : decode cL_law 959 = .ok (.aload_n 0, 1) := zd_at zhL_law_944 13 rfl
theorem dL_law_960 : decode cL_law 960 = .ok (.iload_n 3, 1) := zd_at zhL_law_944 14 rfl
theorem dL_law_961 : decode cL_law 961 = .ok (.iconst 2, 1) := zd_at zhL_law_944 15 rfl
theorem dL_law_962 : decode cL_law 962 = .ok (.iadd, 1) := zd_at zhL_law_944 16 rfl
theorem dL_law_963 : decode cL_law 963 = .ok (.iaload, 1) := zd_at zhL_law_944 17 rfl
theorem dL_law_964 : decode cL_law 964 = .ok (.aload_n 0, 1) := zd_at zhL_law_944 18 rfl
theorem dL_law_965 : decode cL_law 965 = .ok (.iload_n 3, 1) := zd_at zhL_law_944 19 rfl
theorem dL_law_966 : decode cL_law 966 = .ok (.iconst 3, 1) := zd_at zhL_law_944 20 rfl
theorem dL_law_967 : decode cL_law 967 = .ok (.iadd, 1) := zd_at zhL_law_944 21 rfl
theorem dL_law_968 : decode cL_law 968 = .ok (.iaload, 1) := zd_at zhL_law_944 22 rfl
theorem dL_law_969 : decode cL_law 969 = .ok (.aload_n 0, 1) := zd_at zhL_law_944 23 rfl
theorem dL_law_970 : decode cL_law 970 = .ok (.iload_n 3, 1) := zd_at zhL_law_944 24 rfl
theorem dL_law_971 : decode cL_law 971 = .ok (.iconst 4, 1) := zd_at zhL_law_944 25 rfl
theorem dL_law_972 : decode cL_law 972 = .ok (.iadd, 1) := zd_at zhL_law_944 26 rfl
theorem dL_law_973 : decode cL_law 973 = .ok (.iaload, 1) := zd_at zhL_law_944 27 rfl
theorem dL_law_974 : decode cL_law 974 = .ok (.invokevirtual 110, 3) := zd_at zhL_law_944 28 rfl
theorem dL_law_977 : decode cL_law 977 = .ok (.pop2, 1) := zd_at zhL_law_944 29 rfl
theorem dL_law_978 : decode cL_law 978 = .ok (.goto 287, 3) := zd_at zhL_law_944 30 rfl
theorem dL_law_981 : decode cL_law 981 = .ok (.aload_n 1, 1) := zd_at zhL_law_944 31 rfl
theorem dL_law_982 : decode cL_law 982 = .ok (.invokevirtual 111, 3) := zd_at zhL_law_944 32 rfl
theorem dL_law_985 : decode cL_law 985 = .ok (.pop, 1) := zd_at zhL_law_944 33 rfl
theorem dL_law_986 : decode cL_law 986 = .ok (.aload_n 2, 1) := zd_at zhL_law_944 34 rfl
theorem dL_law_987 : decode cL_law 987 = .ok (.invokevirtual 114, 3) := zd_at zhL_law_944 35 rfl
theorem dL_law_990 : decode cL_law 990 = .ok (.pop, 1) := zd_at zhL_law_944 36 rfl
theorem dL_law_991 : decode cL_law 991 = .ok (.goto 274, 3) := zd_at zhL_law_944 37 rfl
theorem dL_law_994 : decode cL_law 994 = .ok (.aload_n 1, 1) := zd_at zhL_law_944 38 rfl
theorem dL_law_995 : decode cL_law 995 = .ok (.invokevirtual 115, 3) := zd_at zhL_law_944 39 rfl
def ziL_law_998 : List (Nat × Instr × Nat) := [(998, .pop, 1), (999, .aload_n 2, 1), (1000, .invokevirtual 118, 3), (1003, .pop, 1), (1004, .goto 261, 3), (1007, .aload_n 1, 1), (1008, .aload_n 0, 1), (1009, .iload_n 3, 1), (1010, .iconst 1, 1), (1011, .iadd, 1), (1012, .iaload, 1), (1013, .invokevirtual 119, 3), (1016, .pop, 1), (1017, .aload_n 2, 1), (1018, .aload_n 0, 1), (1019, .iload_n 3, 1), (1020, .iconst 1, 1), (1021, .iadd, 1), (1022, .iaload, 1), (1023, .invokevirtual 122, 3), (1026, .pop, 1), (1027, .goto 238, 3), (1030, .aload_n 1, 1), (1031, .aload_n 0, 1), (1032, .iload_n 3, 1), (1033, .iconst 1, 1), (1034, .iadd, 1), (1035, .iaload, 1), (1036, .aload_n 0, 1), (1037, .iload_n 3, 1), (1038, .iconst 2, 1), (1039, .iadd, 1), (1040, .iaload, 1), (1041, .aload_n 0, 1), (1042, .iload_n 3, 1), (1043, .iconst 3, 1), (1044, .iadd, 1), (1045, .iaload, 1), (1046, .invokevirtual 123, 3), (1049, .pop, 1)]
theorem zhL_law_998 : zd_chk (cL_law.data.toList.drop 998) 998 ziL_law_998 = true := by decide +kernel
theorem dL_law_998 : decode cL_law 998 = .ok (.pop, 1) := zd_at zhL_law_998 0 rfl
theorem dL_law_999 : decode cL_law 999 = .ok (.aload_n 2, 1) := zd_at zhL_law_998 1 rfl
theorem dL_law_1000 : decode cL_law 1000 = .ok (.invokevirtual 118, 3) := zd_at zhL_law_998 2 rfl
theorem dL_law_1003 : decode cL_law 1003 = .ok (.pop, 1) := zd_at zhL_law_998 3 rfl
theorem dL_law_1004 : decode cL_law 1004 = .ok (.goto 261, 3) := zd_at zhL_law_998 4 rfl
theorem dL_law_1007 : decode cL_law 1007 = .ok (.aload_n 1, 1) := zd_at zhL_law_998 5 rfl
theorem dL_law_1008 : decode cL_law 1008 = .ok (.aload_n 0, 1) := zd_at zhL_law_998 6 rfl
theorem dL_law_1009 : decode cL_law 1009 = .ok (.iload_n 3, 1) := zd_at zhL_law_998 7 rfl
theorem dL_law_1010 : decode cL_law 1010 = .ok (.iconst 1, 1) := zd_at zhL_law_998 8 rfl
theorem dL_law_1011 : decode cL_law 1011 = .ok (.iadd, 1) := zd_at zhL_law_998 9 rfl
theorem dL_law_1012 : decode cL_law 1012 = .ok (.iaload, 1) := zd_at zhL_law_998 10 rfl
theorem dL_law_1013 : decode cL_law 1013 = .ok (.invokevirtual 119, 3) := zd_at zhL_law_998 11 rfl
theorem dL_law_1016 : decode cL_law 1016 = .ok (.pop, 1) := zd_at zhL_law_998 12 rfl
theorem dL_law_1017 : decode cL_law 1017 = .ok (.aload_n 2, 1) := zd_at zhL_law_998 13 rfl
theorem dL_law_1018 : decode cL_law 1018 = .ok (.aload_n 0, 1) := zd_at zhL_law_998 14 rfl
theorem dL_law_1019 : decode cL_law 1019 = .ok (.iload_n 3, 1) := zd_at zhL_law_998 15 rfl
theorem dL_law_1020 : decode cL_law 1020 = .ok (.iconst 1, 1) := zd_at zhL_law_998 16 rfl
theorem dL_law_1021 : decode cL_law 1021 = .ok (.iadd, 1) := zd_at zhL_law_998 17 rfl
theorem dL_law_1022 : decode cL_law 1022 = .ok (.iaload, 1) := zd_at zhL_law_998 18 rfl
theorem dL_law_1023 : decode cL_law 1023 = .ok (.invokevirtual 122, 3) := zd_at zhL_law_998 19 rfl
theorem dL_law_1026 : decode cL_law 1026 = .ok (.pop, 1) := zd_at zhL_law_998 20 rfl
theorem dL_law_1027 : decode cL_law 1027 = .ok (.goto 238, 3) := zd_at zhL_law_998 21 rfl
theorem dL_law_1030 : decode cL_law 1030 = .ok (.aload_n 1, 1) := zd_at zhL_law_998 22 rfl
theorem dL_law_1031 : decode cL_law 1031 = .ok (.aload_n 0, 1) := zd_at zhL_law_998 23 rfl
theorem dL_law_1032 : decode cL_law 1032 = .ok (.iload_n 3, 1) := zd_at zhL_law_998 24 rfl
theorem dL_law_1033 : decode cL_law 1033 = .ok (.iconst 1, 1) := zd_at zhL_law_998 25 rfl
theorem dL_law_1034 : decode cL_law 1034 = .ok (.iadd, 1) := zd_at zhL_law_998 26 rfl
theorem dL_law_1035 : decode cL_law 1035 = .ok (.iaload, 1) := zd_at zhL_law_998 27 rfl
theorem dL_law_1036 : decode cL_law 1036 = .ok (.aload_n 0, 1) := zd_at zhL_law_998 28 rfl
theorem dL_law_1037 : decode cL_law 1037 = .ok (.iload_n 3, 1) := zd_at zhL_law_998 29 rfl
theorem dL_law_1038 : decode cL_law 1038 = .ok (.iconst 2, 1) := zd_at zhL_law_998 30 rfl
theorem dL_law_1039 : decode cL_law 1039 = .ok (.iadd, 1) := zd_at zhL_law_998 31 rfl
theorem dL_law_1040 : decode cL_law 1040 = .ok (.iaload, 1) := zd_at zhL_law_998 32 rfl
theorem dL_law_1041 : decode cL_law 1041 = .ok (.aload_n 0, 1) := zd_at zhL_law_998 33 rfl
theorem dL_law_1042 : decode cL_law 1042 = .ok (.iload_n 3, 1) := zd_at zhL_law_998 34 rfl
theorem dL_law_1043 : decode cL_law 1043 = .ok (.iconst 3, 1) := zd_at zhL_law_998 35 rfl
theorem dL_law_1044 : decode cL_law 1044 = .ok (.iadd, 1) := zd_at zhL_law_998 36 rfl
theorem dL_law_1045 : decode cL_law 1045 = .ok (.iaload, 1) := zd_at zhL_law_998 37 rfl
theorem dL_law_1046 : decode cL_law 1046 = .ok (.invokevirtual 123, 3) := zd_at zhL_law_998 38 rfl
theorem dL_law_1049 : decode cL_law 1049 = .ok (.pop, 1) := zd_at zhL_law_998 39 rfl
def ziL_law_1050 : List (Nat × Instr × Nat) := [(1050, .aload_n 2, 1), (1051, .aload_n 0, 1), (1052, .iload_n 3, 1), (1053, .iconst 1, 1), (1054, .iadd, 1), (1055, .iaload, 1), (1056, .aload_n 0, 1), (1057, .iload_n 3, 1), (1058, .iconst 2, 1), (1059, .iadd, 1), (1060, .iaload, 1), (1061, .aload_n 0, 1), (1062, .iload_n 3, 1), (1063, .iconst 3, 1), (1064, .iadd, 1), (1065, .iaload, 1), (1066, .invokevirtual 126, 3), (1069, .pop, 1), (1070, .goto 195, 3), (1073, .aload_n 1, 1), (1074, .aload_n 0, 1), (1075, .iload_n 3, 1), (1076, .iconst 1, 1), (1077, .iadd, 1), (1078, .iaload, 1), (1079, .aload_n 0, 1), (1080, .iload_n 3, 1), (1081, .iconst 2, 1), (1082, .iadd, 1), (1083, .iaload, 1), (1084, .aload_n 0, 1), (1085, .iload_n 3, 1), (1086, .iconst 3, 1), (1087, .iadd, 1), (1088, .iaload, 1), (1089, .invokevirtual 127, 3), (1092, .pop, 1), (1093, .aload_n 2, 1), (1094, .aload_n 0, 1), (1095, .iload_n 3, 1)]
theorem zhL_law_1050 : zd_chk (cL_law.data.toList.drop 1050) 1050 ziL_law_1050 = true := by decide +kernel
theorem dL_law_1050 : decode cL_law 1050 = .ok (.aload_n 2, 1) := zd_at zhL_law_1050 0 rfl
theorem dL_law_1051 : decode cL_law 1051 = .ok (.aload_n 0, 1) := zd_at zhL_law_1050 1 rfl
theorem dL_law_1052 : decode cL_law 1052 = .ok (.iload_n 3, 1) := zd_at zhL_law_1050 2 rfl
theorem dL_law_1053 : decode cL_law 1053 = .ok (.iconst 1, 1) := zd_at zhL_law_1050 3 rfl
theorem dL_law_1054 : decode cL_law 1054 = .ok (.iadd, 1) := zd_at zhL_law_1050 4 rfl
theorem dL_law_1055 : decode cL_law 1055 = .ok (.iaload, 1) := zd_at zhL_law_1050 5 rfl
theorem dL_law_1056 : decode cL_law 1056 = .ok (.aload_n 0, 1) := zd_at zhL_law_1050 6 rfl
theorem dL_law_1057 : decode cL_law 1057 = .ok (.iload_n 3, 1) := zd_at zhL_law_1050 7 rfl
theorem dL_law_1058 : decode cL_law 1058 = .ok (.iconst 2, 1) := zd_at zhL_law_1050 8 rfl
theorem dL_law_1059 : decode cL_law 1059 = .ok (.iadd, 1) := zd_at zhL_law_1050 9 rfl
theorem dL_law_1060 : decode cL_law 1060 = .ok (.iaload, 1) := zd_at zhL_law_1050 10 rfl
theorem dL_law_1061 : decode cL_law 1061 = .ok (.aload_n 0, 1) := zd_at zhL_law_1050 11 rfl
theorem dL_law_1062 : decode cL_law 1062 = .ok (.iload_n 3, 1) := zd_at zhL_law_1050 12 rfl
theorem dL_law_1063 : decode cL_law 1063 = .ok (.iconst 3, 1) := zd_at zhL_law_1050 13 rfl
theorem dL_law_1064 : decode cL_law 1064 = .ok (.iadd, 1) := zd_at zhL_law_1050 14 rfl
theorem dL_law_1065 : decode cL_law 1065 = .ok (.iaload, 1) := zd_at zhL_law_1050 15 rfl
theorem dL_law_1066 : decode cL_law 1066 = .ok (.invokevirtual 126, 3) := zd_at zhL_law_1050 16 rfl
theorem dL_law_1069 : decode cL_law 1069 = .ok (.pop, 1) := zd_at zhL_law_1050 17 rfl
theorem dL_law_1070 : decode cL_law 1070 = .ok (.goto 195, 3) := zd_at zhL_law_1050 18 rfl
theorem dL_law_1073 : decode cL_law 1073 = .ok (.aload_n 1, 1) := zd_at zhL_law_1050 19 rfl
theorem dL_law_1074 : decode cL_law 1074 = .ok (.aload_n 0, 1) := zd_at zhL_law_1050 20 rfl
theorem dL_law_1075 : decode cL_law 1075 = .ok (.iload_n 3, 1) := zd_at zhL_law_1050 21 rfl
theorem dL_law_1076 : decode cL_law 1076 = .ok (.iconst 1, 1) := zd_at zhL_law_1050 22 rfl
theorem dL_law_1077 : decode cL_law 1077 = .ok (.iadd, 1) := zd_at zhL_law_1050 23 rfl
theorem dL_law_1078 : decode cL_law 1078 = .ok (.iaload, 1) := zd_at zhL_law_1050 24 rfl
theorem dL_law_1079 : decode cL_law 1079 = .ok (.aload_n 0, 1) := zd_at zhL_law_1050 25 rfl
theorem dL_law_1080 : decode cL_law 1080 = .ok (.iload_n 3, 1) := zd_at zhL_law_1050 26 rfl
theorem dL_law_1081 : decode cL_law 1081 = .ok (.iconst 2, 1) := zd_at zhL_law_1050 27 rfl
theorem dL_law_1082 : decode cL_law 1082 = .ok (.iadd, 1) := zd_at zhL_law_1050 28 rfl
theorem dL_law_1083 : decode cL_law 1083 = .ok (.iaload, 1) := zd_at zhL_law_1050 29 rfl
theorem dL_law_1084 : decode cL_law 1084 = .ok (.aload_n 0, 1) := zd_at zhL_law_1050 30 rfl
theorem dL_law_1085 : decode cL_law 1085 = .ok (.iload_n 3, 1) := zd_at zhL_law_1050 31 rfl
theorem dL_law_1086 : decode cL_law 1086 = .ok (.iconst 3, 1) := zd_at zhL_law_1050 32 rfl
theorem dL_law_1087 : decode cL_law 1087 = .ok (.iadd, 1) := zd_at zhL_law_1050 33 rfl
theorem dL_law_1088 : decode cL_law 1088 = .ok (.iaload, 1) := zd_at zhL_law_1050 34 rfl
theorem dL_law_1089 : decode cL_law 1089 = .ok (.invokevirtual 127, 3) := zd_at zhL_law_1050 35 rfl
theorem dL_law_1092 : decode cL_law 1092 = .ok (.pop, 1) := zd_at zhL_law_1050 36 rfl
theorem dL_law_1093 : decode cL_law 1093 = .ok (.aload_n 2, 1) := zd_at zhL_law_1050 37 rfl
theorem dL_law_1094 : decode cL_law 1094 = .ok (.aload_n 0, 1) := zd_at zhL_law_1050 38 rfl
theorem dL_law_1095 : decode cL_law 1095 = .ok (.iload_n 3, 1) := zd_at zhL_law_1050 39 rfl
def ziL_law_1096 : List (Nat × Instr × Nat) := [(1096, .iconst 1, 1), (1097, .iadd, 1), (1098, .iaload, 1), (1099, .aload_n 0, 1), (1100, .iload_n 3, 1), (1101, .iconst 2, 1), (1102, .iadd, 1), (1103, .iaload, 1), (1104, .aload_n 0, 1), (1105, .iload_n 3, 1), (1106, .iconst 3, 1), (1107, .iadd, 1), (1108, .iaload, 1), (1109, .invokevirtual 130, 3), (1112, .pop, 1), (1113, .goto 152, 3), (1116, .aload_n 1, 1), (1117, .aload_n 0, 1), (1118, .iload_n 3, 1), (1119, .iconst 1, 1), (1120, .iadd, 1), (1121, .iaload, 1), (1122, .aload_n 0, 1), (1123, .iload_n 3, 1), (1124, .iconst 2, 1), (1125, .iadd, 1), (1126, .iaload, 1), (1127, .aload_n 0, 1), (1128, .iload_n 3, 1), (1129, .iconst 3, 1), (1130, .iadd, 1), (1131, .iaload, 1), (1132, .aload_n 0, 1), (1133, .iload_n 3, 1), (1134, .iconst 4, 1), (1135, .iadd, 1), (1136, .iaload, 1), (1137, .aload_n 0, 1), (1138, .iload_n 3, 1), (1139, .iconst 5, 1)]
theorem zhL_law_1096 : zd_chk (cL_law.data.toList.drop 1096) 1096 ziL_law_1096 = true := by decide +kernel
theorem dL_law_1096 : decode cL_law 1096 = .ok (.iconst 1, 1) := zd_at zhL_law_1096 0 rfl
theorem dL_law_1097 : decode cL_law 1097 = .ok (.iadd, 1) := zd_at zhL_law_1096 1 rfl
theorem dL_law_1098 : decode cL_law 1098 = .ok (.iaload, 1) := zd_at zhL_law_1096 2 rfl
theorem dL_law_1099 : decode cL_law 1099 = .ok (.aload_n 0, 1) := zd_at zhL_law_1096 3 rfl
theorem dL_law_1100 : decode cL_law 1100 = .ok (.iload_n 3, 1) := zd_at zhL_law_1096 4 rfl
theorem dL_law_1101 : decode cL_law 1101 = .ok (.iconst 2, 1) := zd_at zhL_law_1096 5 rfl
theorem dL_law_1102 : decode cL_law 1102 = .ok (.iadd, 1) := zd_at zhL_law_1096 6 rfl
theorem dL_law_1103 : decode cL_law 1103 = .ok (.iaload, 1) := zd_at zhL_law_1096 7 rfl
theorem dL_law_1104 : decode cL_law 1104 = .ok (.aload_n 0, 1) := zd_at zhL_law_1096 8 rfl
theorem dL_law_1105 : decode cL_law 1105 = .ok (.iload_n 3, 1) := zd_at zhL_law_1096 9 rfl
theorem dL_law_1106 : decode cL_law 1106 = .ok (.iconst 3, 1) := zd_at zhL_law_1096 10 rfl
theorem dL_law_1107 : decode cL_law 1107 = .ok (.iadd, 1) := zd_at zhL_law_1096 11 rfl
theorem dL_law_1108 : decode cL_law 1108 = .ok (.iaload, 1) := zd_at zhL_law_1096 12 rfl
theorem dL_law_1109 : decode cL_law 1109 = .ok (.invokevirtual 130, 3) := zd_at zhL_law_1096 13 rfl
theorem dL_law_1112 : decode cL_law 1112 = .ok (.pop, 1) := zd_at zhL_law_1096 14 rfl
theorem dL_law_1113 : decode cL_law 1113 = .ok (.goto 152, 3) := zd_at zhL_law_1096 15 rfl
theorem dL_law_1116 : decode cL_law 1116 = .ok (.aload_n 1, 1) := zd_at zhL_law_1096 16 rfl
theorem dL_law_1117 : decode cL_law 1117 = .ok (.aload_n 0, 1) := zd_at zhL_law_1096 17 rfl
theorem dL_law_1118 : decode cL_law 1118 = .ok (.iload_n 3, 1) := zd_at zhL_law_1096 18 rfl
theorem dL_law_1119 : decode cL_law 1119 = .ok (.iconst 1, 1) := zd_at zhL_law_1096 19 rfl
theorem dL_law_1120 : decode cL_law 1120 = .ok (.iadd, 1) := zd_at zhL_law_1096 20 rfl
theorem dL_law_1121 : decode cL_law 1121 = .ok (.iaload, 1) := zd_at zhL_law_1096 21 rfl
theorem dL_law_1122 : decode cL_law 1122 = .ok (.aload_n 0, 1) := zd_at zhL_law_1096 22 rfl
theorem dL_law_1123 : decode cL_law 1123 = .ok (.iload_n 3, 1) := zd_at zhL_law_1096 23 rfl
theorem dL_law_1124 : decode cL_law 1124 = .ok (.iconst 2, 1) := zd_at zhL_law_1096 24 rfl
theorem dL_law_1125 : decode cL_law 1125 = .ok (.iadd, 1) := zd_at zhL_law_1096 25 rfl
theorem dL_law_1126 : decode cL_law 1126 = .ok (.iaload, 1) := zd_at zhL_law_1096 26 rfl
theorem dL_law_1127 : decode cL_law 1127 = .ok (.aload_n 0, 1) := zd_at zhL_law_1096 27 rfl
theorem dL_law_1128 : decode cL_law 1128 = .ok (.iload_n 3, 1) := zd_at zhL_law_1096 28 rfl
theorem dL_law_1129 : decode cL_law 1129 = .ok (.iconst 3, 1) := zd_at zhL_law_1096 29 rfl
theorem dL_law_1130 : decode cL_law 1130 = .ok (.iadd, 1) := zd_at zhL_law_1096 30 rfl
theorem dL_law_1131 : decode cL_law 1131 = .ok (.iaload, 1) := zd_at zhL_law_1096 31 rfl
theorem dL_law_1132 : decode cL_law 1132 = .ok (.aload_n 0, 1) := zd_at zhL_law_1096 32 rfl
theorem dL_law_1133 : decode cL_law 1133 = .ok (.iload_n 3, 1) := zd_at zhL_law_1096 33 rfl
theorem dL_law_1134 : decode cL_law 1134 = .ok (.iconst 4, 1) := zd_at zhL_law_1096 34 rfl
theorem dL_law_1135 : decode cL_law 1135 = .ok (.iadd, 1) := zd_at zhL_law_1096 35 rfl
theorem dL_law_1136 : decode cL_law 1136 = .ok (.iaload, 1) := zd_at zhL_law_1096 36 rfl
theorem dL_law_1137 : decode cL_law 1137 = .ok (.aload_n 0, 1) := zd_at zhL_law_1096 37 rfl
theorem dL_law_1138 : decode cL_law 1138 = .ok (.iload_n 3, 1) := zd_at zhL_law_1096 38 rfl
theorem dL_law_1139 : decode cL_law 1139 = .ok (.iconst 5, 1) := zd_at zhL_law_1096 39 rfl
def ziL_law_1140 : List (Nat × Instr × Nat) := [(1140, .iadd, 1), (1141, .iaload, 1), (1142, .invokevirtual 131, 3), (1145, .pop, 1), (1146, .aload_n 2, 1), (1147, .aload_n 0, 1), (1148, .iload_n 3, 1), (1149, .iconst 1, 1), (1150, .iadd, 1), (1151, .iaload, 1), (1152, .aload_n 0, 1), (1153, .iload_n 3, 1), (1154, .iconst 2, 1), (1155, .iadd, 1), (1156, .iaload, 1), (1157, .aload_n 0, 1), (1158, .iload_n 3, 1), (1159, .iconst 3, 1), (1160, .iadd, 1), (1161, .iaload, 1), (1162, .aload_n 0, 1), (1163, .iload_n 3, 1), (1164, .iconst 4, 1), (1165, .iadd, 1), (1166, .iaload, 1), (1167, .aload_n 0, 1), (1168, .iload_n 3, 1), (1169, .iconst 5, 1), (1170, .iadd, 1), (1171, .iaload, 1), (1172, .invokevirtual 135, 3), (1175, .pop, 1), (1176, .goto 89, 3), (1179, .aload_n 1, 1), (1180, .aload_n 0, 1), (1181, .iload_n 3, 1), (1182, .iconst 1, 1), (1183, .iadd, 1), (1184, .iaload, 1), (1185, .aload_n 0, 1)]
theorem zhL_law_1140 : zd_chk (cL_law.data.toList.drop 1140) 1140 ziL_law_1140 = true := by decide +kernel
theorem dL_law_1140 : decode cL_law 1140 = .ok (.iadd, 1) := zd_at zhL_law_1140 0 rfl
theorem dL_law_1141 : decode cL_law 1141 = .ok (.iaload, 1) := zd_at zhL_law_1140 1 rfl
theorem dL_law_1142 : decode cL_law 1142 = .ok (.invokevirtual 131, 3) := zd_at zhL_law_1140 2 rfl
theorem dL_law_1145 : decode cL_law 1145 = .ok (.pop, 1) := zd_at zhL_law_1140 3 rfl
theorem dL_law_1146 : decode cL_law 1146 = .ok (.aload_n 2, 1) := zd_at zhL_law_1140 4 rfl
theorem dL_law_1147 : decode cL_law 1147 = .ok (.aload_n 0, 1) := zd_at zhL_law_1140 5 rfl
theorem dL_law_1148 : decode cL_law 1148 = .ok (.iload_n 3, 1) := zd_at zhL_law_1140 6 rfl
theorem dL_law_1149 : decode cL_law 1149 = .ok (.iconst 1, 1) := zd_at zhL_law_1140 7 rfl
theorem dL_law_1150 : decode cL_law 1150 = .ok (.iadd, 1) := zd_at zhL_law_1140 8 rfl
theorem dL_law_1151 : decode cL_law 1151 = .ok (.iaload, 1) := zd_at zhL_law_1140 9 rfl
theorem dL_law_1152 : decode cL_law 1152 = .ok (.aload_n 0, 1) := zd_at zhL_law_1140 10 rfl
theorem dL_law_1153 : decode cL_law 1153 = .ok (.iload_n 3, 1) := zd_at zhL_law_1140 11 rfl
theorem dL_law_1154 : decode cL_law 1154 = .ok (.iconst 2, 1) := zd_at zhL_law_1140 12 rfl
theorem dL_law_1155 : decode cL_law 1155 = .ok (.iadd, 1) := zd_at zhL_law_1140 13 rfl
theorem dL_law_1156 : decode cL_law 1156 = .ok (.iaload, 1) := zd_at zhL_law_1140 14 rfl
theorem dL_law_1157 : decode cL_law 1157 = .ok (.aload_n 0, 1) := zd_at zhL_law_1140 15 rfl
theorem dL_law_1158 : decode cL_law 1158 = .ok (.iload_n 3, 1) := zd_at zhL_law_1140 16 rfl
theorem dL_law_1159 : decode cL_law 1159 = .ok (.iconst 3, 1) := zd_at zhL_law_1140 17 rfl
theorem dL_law_1160 : decode cL_law 1160 = .ok (.iadd, 1) := zd_at zhL_law_1140 18 rfl
theorem dL_law_1161 : decode cL_law 1161 = .ok (.iaload, 1) := zd_at zhL_law_1140 19 rfl
theorem dL_law_1162 : decode cL_law 1162 = .ok (.aload_n 0, 1) := zd_at zhL_law_1140 20 rfl
theorem dL_law_1163 : decode cL_law 1163 = .ok (.iload_n 3, 1) := zd_at zhL_law_1140 21 rfl
theorem dL_law_1164 : decode cL_law 1164 = .ok (.iconst 4, 1) := zd_at zhL_law_1140 22 rfl
theorem dL_law_1165 : decode cL_law 1165 = .ok (.iadd, 1) := zd_at zhL_law_1140 23 rfl
theorem dL_law_1166 : decode cL_law 1166 = .ok (.iaload, 1) := zd_at zhL_law_1140 24 rfl
theorem dL_law_1167 : decode cL_law 1167 = .ok (.aload_n 0, 1) := zd_at zhL_law_1140 25 rfl
theorem dL_law_1168 : decode cL_law 1168 = .ok (.iload_n 3, 1) := zd_at zhL_law_1140 26 rfl
theorem dL_law_1169 : decode cL_law 1169 = .ok (.iconst 5, 1) := zd_at zhL_law_1140 27 rfl
theorem dL_law_1170 : decode cL_law 1170 = .ok (.iadd, 1) := zd_at zhL_law_1140 28 rfl
theorem dL_law_1171 : decode cL_law 1171 = .ok (.iaload, 1) := zd_at zhL_law_1140 29 rfl
theorem dL_law_1172 : decode cL_law 1172 = .ok (.invokevirtual 135, 3) := zd_at zhL_law_1140 30 rfl
theorem dL_law_1175 : decode cL_law 1175 = .ok (.pop, 1) := zd_at zhL_law_1140 31 rfl
theorem dL_law_1176 : decode cL_law 1176 = .ok (.goto 89, 3) := zd_at zhL_law_1140 32 rfl
theorem dL_law_1179 : decode cL_law 1179 = .ok (.aload_n 1, 1) := zd_at zhL_law_1140 33 rfl
theorem dL_law_1180 : decode cL_law 1180 = .ok (.aload_n 0, 1) := zd_at zhL_law_1140 34 rfl
theorem dL_law_1181 : decode cL_law 1181 = .ok (.iload_n 3, 1) := zd_at zhL_law_1140 35 rfl
theorem dL_law_1182 : decode cL_law 1182 = .ok (.iconst 1, 1) := zd_at zhL_law_1140 36 rfl
theorem dL_law_1183 : decode cL_law 1183 = .ok (.iadd, 1) := zd_at zhL_law_1140 37 rfl
theorem dL_law_1184 : decode cL_law 1184 = .ok (.iaload, 1) := zd_at zhL_law_1140 38 rfl
theorem dL_law_1185 : decode cL_law 1185 = .ok (.aload_n 0, 1) := zd_at zhL_law_1140 39 rfl
def ziL_law_1186 : List (Nat × Instr × Nat) := [(1186, .iload_n 3, 1), (1187, .iconst 2, 1), (1188, .iadd, 1), (1189, .iaload, 1), (1190, .aload_n 0, 1), (1191, .iload_n 3, 1), (1192, .iconst 3, 1), (1193, .iadd, 1), (1194, .iaload, 1), (1195, .aload_n 0, 1), (1196, .iload_n 3, 1), (1197, .iconst 4, 1), (1198, .iadd, 1), (1199, .iaload, 1), (1200, .invokevirtual 136, 3), (1203, .pop, 1), (1204, .aload_n 2, 1), (1205, .aload_n 0, 1), (1206, .iload_n 3, 1), (1207, .iconst 1, 1), (1208, .iadd, 1), (1209, .iaload, 1), (1210, .aload_n 0, 1), (1211, .iload_n 3, 1), (1212, .iconst 2, 1), (1213, .iadd, 1), (1214, .iaload, 1), (1215, .aload_n 0, 1), (1216, .iload_n 3, 1), (1217, .iconst 3, 1), (1218, .iadd, 1), (1219, .iaload, 1), (1220, .aload_n 0, 1), (1221, .iload_n 3, 1), (1222, .iconst 4, 1), (1223, .iadd, 1), (1224, .iaload, 1), (1225, .invokevirtual 139, 3), (1228, .pop, 1), (1229, .goto 36, 3)]
theorem zhL_law_1186 : zd_chk (cL_law.data.toList.drop 1186) 1186 ziL_law_1186 = true := by decide +kernel
theorem dL_law_1186 : decode cL_law 1186 = .ok (.iload_n 3, 1) := zd_at zhL_law_1186 0 rfl
theorem dL_law_1187 : decode cL_law 1187 = .ok (.iconst 2, 1) := zd_at zhL_law_1186 1 rfl
theorem dL_law_1188 : decode cL_law 1188 = .ok (.iadd, 1) := zd_at zhL_law_1186 2 rfl
theorem dL_law_1189 : decode cL_law 1189 = .ok (.iaload, 1) := zd_at zhL_law_1186 3 rfl
theorem dL_law_1190 : decode cL_law 1190 = .ok (.aload_n 0, 1) := zd_at zhL_law_1186 4 rfl
theorem dL_law_1191 : decode cL_law 1191 = .ok (.iload_n 3, 1) := zd_at zhL_law_1186 5 rfl
theorem dL_law_1192 : decode cL_law 1192 = .ok (.iconst 3, 1) := zd_at zhL_law_1186 6 rfl
theorem dL_law_1193 : decode cL_law 1193 = .ok (.iadd, 1) := zd_at zhL_law_1186 7 rfl
theorem dL_law_1194 : decode cL_law 1194 = .ok (.iaload, 1) := zd_at zhL_law_1186 8 rfl
theorem dL_law_1195 : decode cL_law 1195 = .ok (.aload_n 0, 1) := zd_at zhL_law_1186 9 rfl
theorem dL_law_1196 : decode cL_law 1196 = .ok (.iload_n 3, 1) := zd_at zhL_law_1186 10 rfl
theorem dL_law_1197 : decode cL_law 1197 = .ok (.iconst 4, 1) := zd_at zhL_law_1186 11 rfl
theorem dL_law_1198 : decode cL_law 1198 = .ok (.iadd, 1) := zd_at zhL_law_1186 12 rfl
theorem dL_law_1199 : decode cL_law 1199 = .ok (.iaload, 1) := zd_at zhL_law_1186 13 rfl
theorem dL_law_1200 : decode cL_law 1200 = .ok (.invokevirtual 136, 3) := zd_at zhL_law_1186 14 rfl
theorem dL_law_1203 : decode cL_law 1203 = .ok (.pop, 1) := zd_at zhL_law_1186 15 rfl
theorem dL_law_1204 : decode cL_law 1204 = .ok (.aload_n 2, 1) := zd_at zhL_law_1186 16 rfl
theorem dL_law_1205 : decode cL_law 1205 = .ok (.aload_n 0, 1) := zd_at zhL_law_1186 17 rfl
theorem dL_law_1206 : decode cL_law 1206 = .ok (.iload_n 3, 1) := zd_at zhL_law_1186 18 rfl
theorem dL_law_1207 : decode cL_law 1207 = .ok (.iconst 1, 1) := zd_at zhL_law_1186 19 rfl
theorem dL_law_1208 : decode cL_law 1208 = .ok (.iadd, 1) := zd_at zhL_law_1186 20 rfl
theorem dL_law_1209 : decode cL_law 1209 = .ok (.iaload, 1) := zd_at zhL_law_1186 21 rfl
theorem dL_law_1210 : decode cL_law 1210 = .ok (.aload_n 0, 1) := zd_at zhL_law_1186 22 rfl
theorem dL_law_1211 : decode cL_law 1211 = .ok (.iload_n 3, 1) := zd_at zhL_law_1186 23 rfl
theorem dL_law_1212 : decode cL_law 1212 = .ok (.iconst 2, 1) := zd_at zhL_law_1186 24 rfl
theorem dL_law_1213 : decode cL_law 1213 = .ok (.iadd, 1) := zd_at zhL_law_1186 25 rfl
theorem dL_law_1214 : decode cL_law 1214 = .ok (.iaload, 1) := zd_at zhL_law_1186 26 rfl
theorem dL_law_1215 : decode cL_law 1215 = .ok (.aload_n 0, 1) := zd_at zhL_law_1186 27 rfl
theorem dL_law_1216 : decode cL_law 1216 = .ok (.iload_n 3, 1) := zd_at zhL_law_1186 28 rfl
theorem dL_law_1217 : decode cL_law 1217 = .ok (.iconst 3, 1) := zd_at zhL_law_1186 29 rfl
theorem dL_law_1218 : decode cL_law 1218 = .ok (.iadd, 1) := zd_at zhL_law_1186 30 rfl
theorem dL_law_1219 : decode cL_law 1219 = .ok (.iaload, 1) := zd_at zhL_law_1186 31 rfl
theorem dL_law_1220 : decode cL_law 1220 = .ok (.aload_n 0, 1) := zd_at zhL_law_1186 32 rfl
theorem dL_law_1221 : decode cL_law 1221 = .ok (.iload_n 3, 1) := zd_at zhL_law_1186 33 rfl
theorem dL_law_1222 : decode cL_law 1222 = .ok (.iconst 4, 1) := zd_at zhL_law_1186 34 rfl
theorem dL_law_1223 : decode cL_law 1223 = .ok (.iadd, 1) := zd_at zhL_law_1186 35 rfl
theorem dL_law_1224 : decode cL_law 1224 = .ok (.iaload, 1) := zd_at zhL_law_1186 36 rfl
theorem dL_law_1225 : decode cL_law 1225 = .ok (.invokevirtual 139, 3) := zd_at zhL_law_1186 37 rfl
theorem dL_law_1228 : decode cL_law 1228 = .ok (.pop, 1) := zd_at zhL_law_1186 38 rfl
theorem dL_law_1229 : decode cL_law 1229 = .ok (.goto 36, 3) := zd_at zhL_law_1186 39 rfl
def ziL_law_1232 : List (Nat × Instr × Nat) := [(1232, .aload_n 1, 1), (1233, .aload_n 0, 1), (1234, .iload_n 3, 1), (1235, .iconst 1, 1), (1236, .iadd, 1), (1237, .iaload, 1), (1238, .aload_n 0, 1), (1239, .iload_n 3, 1), (1240, .iconst 2, 1), (1241, .iadd, 1), (1242, .iaload, 1), (1243, .invokevirtual 140, 3), (1246, .pop, 1), (1247, .aload_n 2, 1), (1248, .aload_n 0, 1), (1249, .iload_n 3, 1), (1250, .iconst 1, 1), (1251, .iadd, 1), (1252, .iaload, 1), (1253, .aload_n 0, 1), (1254, .iload_n 3, 1), (1255, .iconst 2, 1), (1256, .iadd, 1), (1257, .iaload, 1), (1258, .invokevirtual 143, 3), (1261, .pop, 1), (1262, .goto 3, 3), (1265, .iinc 3 6, 3), (1268, .goto (-1250), 3), (1271, .iconst 1, 1), (1272, .ireturn, 1)]
theorem zhL_law_1232 : zd_chk (cL_law.data.toList.drop 1232) 1232 ziL_law_1232 = true := by decide +kernel
theorem dL_law_1232 : decode cL_law 1232 = .ok (.aload_n 1, 1) := zd_at zhL_law_1232 0 rfl
theorem dL_law_1233 : decode cL_law 1233 = .ok (.aload_n 0, 1) := zd_at zhL_law_1232 1 rfl
theorem dL_law_1234 : decode cL_law 1234 = .ok (.iload_n 3, 1) := zd_at zhL_law_1232 2 rfl
theorem dL_law_1235 : decode cL_law 1235 = .ok (.iconst 1, 1) := zd_at zhL_law_1232 3 rfl
theorem dL_law_1236 : decode cL_law 1236 = .ok (.iadd, 1) := zd_at zhL_law_1232 4 rfl
theorem dL_law_1237 : decode cL_law 1237 = .ok (.iaload, 1) := zd_at zhL_law_1232 5 rfl
theorem dL_law_1238 : decode cL_law 1238 = .ok (.aload_n 0, 1) := zd_at zhL_law_1232 6 rfl
theorem dL_law_1239 : decode cL_law 1239 = .ok (.iload_n 3, 1) := zd_at zhL_law_1232 7 rfl
theorem dL_law_1240 : decode cL_law 1240 = .ok (.iconst 2, 1) := zd_at zhL_law_1232 8 rfl
theorem dL_law_1241 : decode cL_law 1241 = .ok (.iadd, 1) := zd_at zhL_law_1232 9 rfl
theorem dL_law_1242 : decode cL_law 1242 = .ok (.iaload, 1) := zd_at zhL_law_1232 10 rfl
theorem dL_law_1243 : decode cL_law 1243 = .ok (.invokevirtual 140, 3) := zd_at zhL_law_1232 11 rfl
theorem dL_law_1246 : decode cL_law 1246 = .ok (.pop, 1) := zd_at zhL_law_1232 12 rfl
theorem dL_law_1247 : decode cL_law 1247 = .ok (.aload_n 2, 1) := zd_at zhL_law_1232 13 rfl
theorem dL_law_1248 : decode cL_law 1248 = .ok (.aload_n 0, 1) := zd_at zhL_law_1232 14 rfl
theorem dL_law_1249 : decode cL_law 1249 = .ok (.iload_n 3, 1) := zd_at zhL_law_1232 15 rfl
theorem dL_law_1250 : decode cL_law 1250 = .ok (.iconst 1, 1) := zd_at zhL_law_1232 16 rfl
theorem dL_law_1251 : decode cL_law 1251 = .ok (.iadd, 1) := zd_at zhL_law_1232 17 rfl
theorem dL_law_1252 : decode cL_law 1252 = .ok (.iaload, 1) := zd_at zhL_law_1232 18 rfl
theorem dL_law_1253 : decode cL_law 1253 = .ok (.aload_n 0, 1) := zd_at zhL_law_1232 19 rfl
theorem dL_law_1254 : decode cL_law 1254 = .ok (.iload_n 3, 1) := zd_at zhL_law_1232 20 rfl
theorem dL_law_1255 : decode cL_law 1255 = .ok (.iconst 2, 1) := zd_at zhL_law_1232 21 rfl
theorem dL_law_1256 : decode cL_law 1256 = .ok (.iadd, 1) := zd_at zhL_law_1232 22 rfl
theorem dL_law_1257 : decode cL_law 1257 = .ok (.iaload, 1) := zd_at zhL_law_1232 23 rfl
theorem dL_law_1258 : decode cL_law 1258 = .ok (.invokevirtual 143, 3) := zd_at zhL_law_1232 24 rfl
theorem dL_law_1261 : decode cL_law 1261 = .ok (.pop, 1) := zd_at zhL_law_1232 25 rfl
theorem dL_law_1262 : decode cL_law 1262 = .ok (.goto 3, 3) := zd_at zhL_law_1232 26 rfl
theorem dL_law_1265 : decode cL_law 1265 = .ok (.iinc 3 6, 3) := zd_at zhL_law_1232 27 rfl
theorem dL_law_1268 : decode cL_law 1268 = .ok (.goto (-1250), 3) := zd_at zhL_law_1232 28 rfl
theorem dL_law_1271 : decode cL_law 1271 = .ok (.iconst 1, 1) := zd_at zhL_law_1232 29 rfl
theorem dL_law_1272 : decode cL_law 1272 = .ok (.ireturn, 1) := zd_at zhL_law_1232 30 rfl
