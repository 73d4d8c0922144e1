/-! THE LAW -/
abbrev YLw : YS := (RL, cL_law, 4, some .boolean, 60)
section LawP
variable {M : MS} {G : GS} {A0 : Nat → Prop} {Q : State → Prop} {c s : Nat} {ad : Ads} {m : Mem} {L : Nat} {xs : Nat → Int32}
/-- how the law ends -/
def Ends (M : MS) (G : GS) (A0 : Nat → Prop) (Q : State → Prop) : Prop := ∀ (c s : Nat) (ad : Ads) (ls : List (Option SV)) (m : Mem), c ≤ 600000 → s ≤ 7302250 → Wg M G A0 YLw room_1 Q c s ad nA 1272 ls [vI 1] m
theorem law_out (F : Fg M G A0 YLw) (hE : Ends M G A0 Q) (hX : Sx M A0 ad L xs) (hL : L ≤ 3072) (hc : c ≤ 600000 ∧ s ≤ 7302250) (i : Nat) (hi : L < i + 6) (hi2 : i ≤ 3078) : Wg M G A0 YLw room_1 Q c s ad nA 18 [some (vR 96 0), some (vR 0 0), some (vR 30 0), some (vI (i : Int))] [] m := by
  refine z_iload_n (t := 19) F dL_law_18 rfl rfl rfl ?_
  refine z_aload_n (t := 20) F dL_law_19 rfl rfl rfl ?_
  refine z_slen2 (t := 21) F dL_law_20 hX rfl ?_
  refine z_bipush (t := 23) F dL_law_21 (by decide) rfl ?_
  refine z_isub (t := 24) F dL_law_23 rfl ?_
  refine z_icmp_gt (t := 27) (u := 1271) F dL_law_24 (by constructor <;> omega) (by constructor <;> omega) (by decide) rfl (fun _ => ?_) (fun h => by omega)
  refine z_iconst (t := 1272) F dL_law_1271 rfl ?_
  exact hE c s ad _ m hc.1 hc.2
/-- what stands behind an event -/
def Nxt (M : MS) (G : GS) (A0 : Nat → Prop) (Q : State → Prop) (c s : Nat) (ad : Ads) (i : Nat) : Prop := ∀ (im lm : IM) (bt rt : Nat), bt < 6 → rt < 6 → REL im im → Wg M G A0 YLw room_1 Q c s ad nA 18 [some (vR 96 0), some (vR 0 0), some (vR 30 0), some (vI ((i + 6 : Nat) : Int))] [] (im, rs bt rt, lm)
theorem law_next (F : Fg M G A0 YLw) {i : Nat} (hN : Nxt M G A0 Q c s ad i) {im lm : IM} {bt rt : Nat} (hbt : bt < 6) (hrt : rt < 6) (h : REL im im) : Wg M G A0 YLw room_1 Q c s ad nA 1265 [some (vR 96 0), some (vR 0 0), some (vR 30 0), some (vI (i : Int))] [] (im, rs bt rt, lm) := by
  refine z_iinc2 (j := 3) (z := ((i + 6 : Nat) : Int)) (t := 1268) F dL_law_1265 rfl (by decide) rfl (by omega) rfl ?_
  refine z_goto (t := 18) F dL_law_1268 (by decide) ?_
  exact hN im lm bt rt hbt hrt h

set_option maxHeartbeats 4000000 in
theorem law_c0 (Z lm : IM) (bt rt : Nat) (F : Fg M G A0 YLw) (hX : Sx M A0 ad L xs) (hL : L ≤ 3072) (hc : c ≤ 600000 ∧ s ≤ 7302250) (i : Nat) (hi : i + 6 ≤ L) (hbt : bt < 6) (hrt : rt < 6) (h : REL Z Z) (hN : Nxt M G A0 Q c s ad i) : Wg M G A0 YLw room_1 Q c s ad nA 172 [some (vR 96 0), some (vR 0 0), some (vR 30 0), some (vI (i : Int))] [] (Z, rs bt rt, lm) := by
  refine z_aload_n (t := 173) F dL_law_172 rfl rfl rfl ?_
  refine z_aload_n (t := 174) F dL_law_173 rfl rfl rfl ?_
  refine z_iload_n (t := 175) F dL_law_174 rfl rfl rfl ?_
  refine z_iconst (t := 176) F dL_law_175 rfl ?_
  refine z_iadd (t := 177) F dL_law_176 rfl ?_
  refine z_sld2 (k := i + 1) (t := 178) F dL_law_177 hX (by omega) (by omega) hL rfl ?_
  refine z_aload_n (t := 179) F dL_law_178 rfl rfl rfl ?_
  refine z_iload_n (t := 180) F dL_law_179 rfl rfl rfl ?_
  refine z_iconst (t := 181) F dL_law_180 rfl ?_
  refine z_iadd (t := 182) F dL_law_181 rfl ?_
  refine z_sld2 (k := i + 2) (t := 183) F dL_law_182 hX (by omega) (by omega) hL rfl ?_
  refine z_aload_n (t := 184) F dL_law_183 rfl rfl rfl ?_
  refine z_iload_n (t := 185) F dL_law_184 rfl rfl rfl ?_
  refine z_iconst (t := 186) F dL_law_185 rfl ?_
  refine z_iadd (t := 187) F dL_law_186 rfl ?_
  refine z_sld2 (k := i + 3) (t := 188) F dL_law_187 hX (by omega) (by omega) hL rfl ?_
  refine z_callV (t := 191) [vI (xs (i + 1)).toInt, vI (xs (i + 2)).toInt, vI (xs (i + 3)).toInt] F dL_law_188 k_X8_set v_X8_set ml_L_13 rfl rfl rfl rfl (Nat.le_of_ble_eq_true rfl) (Nat.le_of_ble_eq_true rfl) (Nat.le_of_ble_eq_true rfl) hc (okq_of (by decide) (by decide)) sideCA (agI_rfl _ _) (c_X8_set _ G Z bt rt lm hbt hrt h.1 (xs (i + 1)).toInt (xs (i + 2)).toInt (xs (i + 3)).toInt (j_ri _) (j_ri _) (j_ri _)) (fun r m' hp => ?_) rfl (fun r m' hp => ?_)
  · obtain ⟨x, rfl, hx, im1, bt1, rt1, hb1, hb2, hR1, hag, rfl⟩ := hp
    exact okM_R hb1 hb2
  obtain ⟨x, rfl, hx, im1, bt1, rt1, hb1, hb2, hR1, hag, rfl⟩ := hp
  show Wg _ G _ _ _ _ _ _ _ _ 191 [some (vR 96 0), some (vR 0 0), some (vR 30 0), some (vI (i : Int))] [vI x] _
  rw [mix_C2]
  show Wg _ G _ _ _ _ _ _ _ _ 191 [some (vR 96 0), some (vR 0 0), some (vR 30 0), some (vI (i : Int))] [vI x] (mxC im1 Z, rs bt1 rt1, lm)
  have hM := REL_mid h hR1
  refine z_popI (t := 192) F dL_law_191 rfl ?_
  refine z_aload_n (t := 193) F dL_law_192 rfl rfl rfl ?_
  refine z_aload_n (t := 194) F dL_law_193 rfl rfl rfl ?_
  refine z_iload_n (t := 195) F dL_law_194 rfl rfl rfl ?_
  refine z_iconst (t := 196) F dL_law_195 rfl ?_
  refine z_iadd (t := 197) F dL_law_196 rfl ?_
  refine z_sld2 (k := i + 1) (t := 198) F dL_law_197 hX (by omega) (by omega) hL rfl ?_
  refine z_aload_n (t := 199) F dL_law_198 rfl rfl rfl ?_
  refine z_iload_n (t := 200) F dL_law_199 rfl rfl rfl ?_
  refine z_iconst (t := 201) F dL_law_200 rfl ?_
  refine z_iadd (t := 202) F dL_law_201 rfl ?_
  refine z_sld2 (k := i + 2) (t := 203) F dL_law_202 hX (by omega) (by omega) hL rfl ?_
  refine z_aload_n (t := 204) F dL_law_203 rfl rfl rfl ?_
  refine z_iload_n (t := 205) F dL_law_204 rfl rfl rfl ?_
  refine z_iconst (t := 206) F dL_law_205 rfl ?_
  refine z_iadd (t := 207) F dL_law_206 rfl ?_
  refine z_sld2 (k := i + 3) (t := 208) F dL_law_207 hX (by omega) (by omega) hL rfl ?_
  refine z_callV (t := 211) [vI (xs (i + 1)).toInt, vI (xs (i + 2)).toInt, vI (xs (i + 3)).toInt] F dL_law_208 k_X9_set v_X9_set ml_L_17 rfl rfl rfl rfl (Nat.le_of_ble_eq_true rfl) (Nat.le_of_ble_eq_true rfl) (Nat.le_of_ble_eq_true rfl) hc (okq_of (by decide) (by decide)) sideR (agI_rfl _ _) (q_set _ G hM bt1 rt1 lm (xs (i + 1)).toInt (xs (i + 2)).toInt (xs (i + 3)).toInt (j_ri _) (j_ri _) (j_ri _)) (fun r m' hp => ?_) rfl (fun r m' hp => ?_)
  · obtain ⟨y, rfl, im2, lm2, h2, rfl⟩ := hp
    exact okM_R hb1 hb2
  obtain ⟨y, rfl, im2, lm2, h2, rfl⟩ := hp
  show Wg _ G _ _ _ _ _ _ _ _ 211 [some (vR 96 0), some (vR 0 0), some (vR 30 0), some (vI (i : Int))] [vI y] _
  rw [mix_R2]
  have hZ := REL_fin h2 hag hR1 h.2.1
  refine z_popI (t := 212) F dL_law_211 rfl ?_
  refine z_goto (t := 1265) F dL_law_212 (by decide) ?_
  exact law_next F hN hb1 hb2 hZ

set_option maxHeartbeats 4000000 in
theorem law_c1 (Z lm : IM) (bt rt : Nat) (F : Fg M G A0 YLw) (hX : Sx M A0 ad L xs) (hL : L ≤ 3072) (hc : c ≤ 600000 ∧ s ≤ 7302250) (i : Nat) (hi : i + 6 ≤ L) (hbt : bt < 6) (hrt : rt < 6) (h : REL Z Z) (hN : Nxt M G A0 Q c s ad i) : Wg M G A0 YLw room_1 Q c s ad nA 215 [some (vR 96 0), some (vR 0 0), some (vR 30 0), some (vI (i : Int))] [] (Z, rs bt rt, lm) := by
  refine z_aload_n (t := 216) F dL_law_215 rfl rfl rfl ?_
  refine z_aload_n (t := 217) F dL_law_216 rfl rfl rfl ?_
  refine z_iload_n (t := 218) F dL_law_217 rfl rfl rfl ?_
  refine z_iconst (t := 219) F dL_law_218 rfl ?_
  refine z_iadd (t := 220) F dL_law_219 rfl ?_
  refine z_sld2 (k := i + 1) (t := 221) F dL_law_220 hX (by omega) (by omega) hL rfl ?_
  refine z_aload_n (t := 222) F dL_law_221 rfl rfl rfl ?_
  refine z_iload_n (t := 223) F dL_law_222 rfl rfl rfl ?_
  refine z_iconst (t := 224) F dL_law_223 rfl ?_
  refine z_iadd (t := 225) F dL_law_224 rfl ?_
  refine z_sld2 (k := i + 2) (t := 226) F dL_law_225 hX (by omega) (by omega) hL rfl ?_
  refine z_callV (t := 229) [vI (xs (i + 1)).toInt, vI (xs (i + 2)).toInt] F dL_law_226 k_X8_man v_X8_man ml_L_18 rfl rfl rfl rfl (Nat.le_of_ble_eq_true rfl) (Nat.le_of_ble_eq_true rfl) (Nat.le_of_ble_eq_true rfl) hc (okq_of (by decide) (by decide)) sideCA (agI_rfl _ _) (c_X8_man _ G Z bt rt lm hbt hrt h.1 (xs (i + 1)).toInt (xs (i + 2)).toInt (j_ri _) (j_ri _)) (fun r m' hp => ?_) rfl (fun r m' hp => ?_)
  · obtain ⟨x, rfl, hx, im1, bt1, rt1, hb1, hb2, hR1, hag, rfl⟩ := hp
    exact okM_R hb1 hb2
  obtain ⟨x, rfl, hx, im1, bt1, rt1, hb1, hb2, hR1, hag, rfl⟩ := hp
  show Wg _ G _ _ _ _ _ _ _ _ 229 [some (vR 96 0), some (vR 0 0), some (vR 30 0), some (vI (i : Int))] [vI x] _
  rw [mix_C2]
  show Wg _ G _ _ _ _ _ _ _ _ 229 [some (vR 96 0), some (vR 0 0), some (vR 30 0), some (vI (i : Int))] [vI x] (mxC im1 Z, rs bt1 rt1, lm)
  have hM := REL_mid h hR1
  refine z_popI (t := 230) F dL_law_229 rfl ?_
  refine z_aload_n (t := 231) F dL_law_230 rfl rfl rfl ?_
  refine z_aload_n (t := 232) F dL_law_231 rfl rfl rfl ?_
  refine z_iload_n (t := 233) F dL_law_232 rfl rfl rfl ?_
  refine z_iconst (t := 234) F dL_law_233 rfl ?_
  refine z_iadd (t := 235) F dL_law_234 rfl ?_
  refine z_sld2 (k := i + 1) (t := 236) F dL_law_235 hX (by omega) (by omega) hL rfl ?_
  refine z_aload_n (t := 237) F dL_law_236 rfl rfl rfl ?_
  refine z_iload_n (t := 238) F dL_law_237 rfl rfl rfl ?_
  refine z_iconst (t := 239) F dL_law_238 rfl ?_
  refine z_iadd (t := 240) F dL_law_239 rfl ?_
  refine z_sld2 (k := i + 2) (t := 241) F dL_law_240 hX (by omega) (by omega) hL rfl ?_
  refine z_callV (t := 244) [vI (xs (i + 1)).toInt, vI (xs (i + 2)).toInt] F dL_law_241 k_X9_man v_X9_man ml_L_22 rfl rfl rfl rfl (Nat.le_of_ble_eq_true rfl) (Nat.le_of_ble_eq_true rfl) (Nat.le_of_ble_eq_true rfl) hc (okq_of (by decide) (by decide)) sideR (agI_rfl _ _) (q_man _ G hM bt1 rt1 lm (xs (i + 1)).toInt (xs (i + 2)).toInt (j_ri _) (j_ri _)) (fun r m' hp => ?_) rfl (fun r m' hp => ?_)
  · obtain ⟨y, rfl, im2, lm2, h2, rfl⟩ := hp
    exact okM_R hb1 hb2
  obtain ⟨y, rfl, im2, lm2, h2, rfl⟩ := hp
  show Wg _ G _ _ _ _ _ _ _ _ 244 [some (vR 96 0), some (vR 0 0), some (vR 30 0), some (vI (i : Int))] [vI y] _
  rw [mix_R2]
  have hZ := REL_fin h2 hag hR1 h.2.1
  refine z_popI (t := 245) F dL_law_244 rfl ?_
  refine z_goto (t := 1265) F dL_law_245 (by decide) ?_
  exact law_next F hN hb1 hb2 hZ

set_option maxHeartbeats 4000000 in
theorem law_c2 (Z lm : IM) (bt rt : Nat) (F : Fg M G A0 YLw) (hX : Sx M A0 ad L xs) (hL : L ≤ 3072) (hc : c ≤ 600000 ∧ s ≤ 7302250) (i : Nat) (hi : i + 6 ≤ L) (hbt : bt < 6) (hrt : rt < 6) (h : REL Z Z) (hN : Nxt M G A0 Q c s ad i) : Wg M G A0 YLw room_1 Q c s ad nA 248 [some (vR 96 0), some (vR 0 0), some (vR 30 0), some (vI (i : Int))] [] (Z, rs bt rt, lm) := by
  refine z_aload_n (t := 249) F dL_law_248 rfl rfl rfl ?_
  refine z_aload_n (t := 250) F dL_law_249 rfl rfl rfl ?_
  refine z_iload_n (t := 251) F dL_law_250 rfl rfl rfl ?_
  refine z_iconst (t := 252) F dL_law_251 rfl ?_
  refine z_iadd (t := 253) F dL_law_252 rfl ?_
  refine z_sld2 (k := i + 1) (t := 254) F dL_law_253 hX (by omega) (by omega) hL rfl ?_
  refine z_aload_n (t := 255) F dL_law_254 rfl rfl rfl ?_
  refine z_iload_n (t := 256) F dL_law_255 rfl rfl rfl ?_
  refine z_iconst (t := 257) F dL_law_256 rfl ?_
  refine z_iadd (t := 258) F dL_law_257 rfl ?_
  refine z_sld2 (k := i + 2) (t := 259) F dL_law_258 hX (by omega) (by omega) hL rfl ?_
  refine z_callV (t := 262) [vI (xs (i + 1)).toInt, vI (xs (i + 2)).toInt] F dL_law_259 k_X8_told v_X8_told ml_L_23 rfl rfl rfl rfl (Nat.le_of_ble_eq_true rfl) (Nat.le_of_ble_eq_true rfl) (Nat.le_of_ble_eq_true rfl) hc (okq_of (by decide) (by decide)) sideCA (agI_rfl _ _) (c_X8_told _ G Z bt rt lm hbt hrt h.1 (xs (i + 1)).toInt (xs (i + 2)).toInt (j_ri _) (j_ri _)) (fun r m' hp => ?_) rfl (fun r m' hp => ?_)
  · obtain ⟨x, rfl, hx, im1, bt1, rt1, hb1, hb2, hR1, hag, rfl⟩ := hp
    exact okM_R hb1 hb2
  obtain ⟨x, rfl, hx, im1, bt1, rt1, hb1, hb2, hR1, hag, rfl⟩ := hp
  show Wg _ G _ _ _ _ _ _ _ _ 262 [some (vR 96 0), some (vR 0 0), some (vR 30 0), some (vI (i : Int))] [vI x] _
  rw [mix_C2]
  show Wg _ G _ _ _ _ _ _ _ _ 262 [some (vR 96 0), some (vR 0 0), some (vR 30 0), some (vI (i : Int))] [vI x] (mxC im1 Z, rs bt1 rt1, lm)
  have hM := REL_mid h hR1
  refine z_popI (t := 263) F dL_law_262 rfl ?_
  refine z_aload_n (t := 264) F dL_law_263 rfl rfl rfl ?_
  refine z_aload_n (t := 265) F dL_law_264 rfl rfl rfl ?_
  refine z_iload_n (t := 266) F dL_law_265 rfl rfl rfl ?_
  refine z_iconst (t := 267) F dL_law_266 rfl ?_
  refine z_iadd (t := 268) F dL_law_267 rfl ?_
  refine z_sld2 (k := i + 1) (t := 269) F dL_law_268 hX (by omega) (by omega) hL rfl ?_
  refine z_aload_n (t := 270) F dL_law_269 rfl rfl rfl ?_
  refine z_iload_n (t := 271) F dL_law_270 rfl rfl rfl ?_
  refine z_iconst (t := 272) F dL_law_271 rfl ?_
  refine z_iadd (t := 273) F dL_law_272 rfl ?_
  refine z_sld2 (k := i + 2) (t := 274) F dL_law_273 hX (by omega) (by omega) hL rfl ?_
  refine z_callV (t := 277) [vI (xs (i + 1)).toInt, vI (xs (i + 2)).toInt] F dL_law_274 k_X9_told v_X9_told ml_L_26 rfl rfl rfl rfl (Nat.le_of_ble_eq_true rfl) (Nat.le_of_ble_eq_true rfl) (Nat.le_of_ble_eq_true rfl) hc (okq_of (by decide) (by decide)) sideR (agI_rfl _ _) (q_told _ G hM bt1 rt1 lm (xs (i + 1)).toInt (xs (i + 2)).toInt (j_ri _) (j_ri _)) (fun r m' hp => ?_) rfl (fun r m' hp => ?_)
  · obtain ⟨y, rfl, im2, lm2, h2, rfl⟩ := hp
    exact okM_R hb1 hb2
  obtain ⟨y, rfl, im2, lm2, h2, rfl⟩ := hp
  show Wg _ G _ _ _ _ _ _ _ _ 277 [some (vR 96 0), some (vR 0 0), some (vR 30 0), some (vI (i : Int))] [vI y] _
  rw [mix_R2]
  have hZ := REL_fin h2 hag hR1 h.2.1
  refine z_popI (t := 278) F dL_law_277 rfl ?_
  refine z_goto (t := 1265) F dL_law_278 (by decide) ?_
  exact law_next F hN hb1 hb2 hZ

set_option maxHeartbeats 4000000 in
theorem law_c3 (Z lm : IM) (bt rt : Nat) (F : Fg M G A0 YLw) (hX : Sx M A0 ad L xs) (hL : L ≤ 3072) (hc : c ≤ 600000 ∧ s ≤ 7302250) (i : Nat) (hi : i + 6 ≤ L) (hbt : bt < 6) (hrt : rt < 6) (h : REL Z Z) (hN : Nxt M G A0 Q c s ad i) : Wg M G A0 YLw room_1 Q c s ad nA 281 [some (vR 96 0), some (vR 0 0), some (vR 30 0), some (vI (i : Int))] [] (Z, rs bt rt, lm) := by
  refine z_aload_n (t := 282) F dL_law_281 rfl rfl rfl ?_
  refine z_aload_n (t := 283) F dL_law_282 rfl rfl rfl ?_
  refine z_iload_n (t := 284) F dL_law_283 rfl rfl rfl ?_
  refine z_iconst (t := 285) F dL_law_284 rfl ?_
  refine z_iadd (t := 286) F dL_law_285 rfl ?_
  refine z_sld2 (k := i + 1) (t := 287) F dL_law_286 hX (by omega) (by omega) hL rfl ?_
  refine z_aload_n (t := 288) F dL_law_287 rfl rfl rfl ?_
  refine z_iload_n (t := 289) F dL_law_288 rfl rfl rfl ?_
  refine z_iconst (t := 290) F dL_law_289 rfl ?_
  refine z_iadd (t := 291) F dL_law_290 rfl ?_
  refine z_sld2 (k := i + 2) (t := 292) F dL_law_291 hX (by omega) (by omega) hL rfl ?_
  refine z_aload_n (t := 293) F dL_law_292 rfl rfl rfl ?_
  refine z_iload_n (t := 294) F dL_law_293 rfl rfl rfl ?_
  refine z_iconst (t := 295) F dL_law_294 rfl ?_
  refine z_iadd (t := 296) F dL_law_295 rfl ?_
  refine z_sld2 (k := i + 3) (t := 297) F dL_law_296 hX (by omega) (by omega) hL rfl ?_
  refine z_aload_n (t := 298) F dL_law_297 rfl rfl rfl ?_
  refine z_iload_n (t := 299) F dL_law_298 rfl rfl rfl ?_
  refine z_iconst (t := 300) F dL_law_299 rfl ?_
  refine z_iadd (t := 301) F dL_law_300 rfl ?_
  refine z_sld2 (k := i + 4) (t := 302) F dL_law_301 hX (by omega) (by omega) hL rfl ?_
  refine z_callV (t := 305) [vI (xs (i + 1)).toInt, vI (xs (i + 2)).toInt, vI (xs (i + 3)).toInt, vI (xs (i + 4)).toInt] F dL_law_302 k_X8_fill v_X8_fill ml_L_27 rfl rfl rfl rfl (Nat.le_of_ble_eq_true rfl) (Nat.le_of_ble_eq_true rfl) (Nat.le_of_ble_eq_true rfl) hc (okq_of (by decide) (by decide)) sideCA (agI_rfl _ _) (c_X8_fill _ G Z bt rt lm hbt hrt h.1 (xs (i + 1)).toInt (xs (i + 2)).toInt (xs (i + 3)).toInt (xs (i + 4)).toInt (j_ri _) (j_ri _) (j_ri _) (j_ri _)) (fun r m' hp => ?_) rfl (fun r m' hp => ?_)
  · obtain ⟨x, rfl, hx, im1, bt1, rt1, hb1, hb2, hR1, hag, rfl⟩ := hp
    exact okM_R hb1 hb2
  obtain ⟨x, rfl, hx, im1, bt1, rt1, hb1, hb2, hR1, hag, rfl⟩ := hp
  show Wg _ G _ _ _ _ _ _ _ _ 305 [some (vR 96 0), some (vR 0 0), some (vR 30 0), some (vI (i : Int))] [vI x] _
  rw [mix_C2]
  show Wg _ G _ _ _ _ _ _ _ _ 305 [some (vR 96 0), some (vR 0 0), some (vR 30 0), some (vI (i : Int))] [vI x] (mxC im1 Z, rs bt1 rt1, lm)
  have hM := REL_mid h hR1
  refine z_popI (t := 306) F dL_law_305 rfl ?_
  refine z_aload_n (t := 307) F dL_law_306 rfl rfl rfl ?_
  refine z_aload_n (t := 308) F dL_law_307 rfl rfl rfl ?_
  refine z_iload_n (t := 309) F dL_law_308 rfl rfl rfl ?_
  refine z_iconst (t := 310) F dL_law_309 rfl ?_
  refine z_iadd (t := 311) F dL_law_310 rfl ?_
  refine z_sld2 (k := i + 1) (t := 312) F dL_law_311 hX (by omega) (by omega) hL rfl ?_
  refine z_aload_n (t := 313) F dL_law_312 rfl rfl rfl ?_
  refine z_iload_n (t := 314) F dL_law_313 rfl rfl rfl ?_
  refine z_iconst (t := 315) F dL_law_314 rfl ?_
  refine z_iadd (t := 316) F dL_law_315 rfl ?_
  refine z_sld2 (k := i + 2) (t := 317) F dL_law_316 hX (by omega) (by omega) hL rfl ?_
  refine z_aload_n (t := 318) F dL_law_317 rfl rfl rfl ?_
  refine z_iload_n (t := 319) F dL_law_318 rfl rfl rfl ?_
  refine z_iconst (t := 320) F dL_law_319 rfl ?_
  refine z_iadd (t := 321) F dL_law_320 rfl ?_
  refine z_sld2 (k := i + 3) (t := 322) F dL_law_321 hX (by omega) (by omega) hL rfl ?_
  refine z_aload_n (t := 323) F dL_law_322 rfl rfl rfl ?_
  refine z_iload_n (t := 324) F dL_law_323 rfl rfl rfl ?_
  refine z_iconst (t := 325) F dL_law_324 rfl ?_
  refine z_iadd (t := 326) F dL_law_325 rfl ?_
  refine z_sld2 (k := i + 4) (t := 327) F dL_law_326 hX (by omega) (by omega) hL rfl ?_
  refine z_callV (t := 330) [vI (xs (i + 1)).toInt, vI (xs (i + 2)).toInt, vI (xs (i + 3)).toInt, vI (xs (i + 4)).toInt] F dL_law_327 k_X9_fill v_X9_fill ml_L_31 rfl rfl rfl rfl (Nat.le_of_ble_eq_true rfl) (Nat.le_of_ble_eq_true rfl) (Nat.le_of_ble_eq_true rfl) hc (okq_of (by decide) (by decide)) sideR (agI_rfl _ _) (q_fill _ G hM bt1 rt1 lm (xs (i + 1)).toInt (xs (i + 2)).toInt (xs (i + 3)).toInt (xs (i + 4)).toInt (j_ri _) (j_ri _) (j_ri _) (j_ri _)) (fun r m' hp => ?_) rfl (fun r m' hp => ?_)
  · obtain ⟨y, rfl, im2, lm2, h2, rfl⟩ := hp
    exact okM_R hb1 hb2
  obtain ⟨y, rfl, im2, lm2, h2, rfl⟩ := hp
  show Wg _ G _ _ _ _ _ _ _ _ 330 [some (vR 96 0), some (vR 0 0), some (vR 30 0), some (vI (i : Int))] [vI y] _
  rw [mix_R2]
  have hZ := REL_fin h2 hag hR1 h.2.1
  refine z_popI (t := 331) F dL_law_330 rfl ?_
  refine z_goto (t := 1265) F dL_law_331 (by decide) ?_
  exact law_next F hN hb1 hb2 hZ

set_option maxHeartbeats 4000000 in
theorem law_c4 (Z lm : IM) (bt rt : Nat) (F : Fg M G A0 YLw) (hX : Sx M A0 ad L xs) (hL : L ≤ 3072) (hc : c ≤ 600000 ∧ s ≤ 7302250) (i : Nat) (hi : i + 6 ≤ L) (hbt : bt < 6) (hrt : rt < 6) (h : REL Z Z) (hN : Nxt M G A0 Q c s ad i) : Wg M G A0 YLw room_1 Q c s ad nA 334 [some (vR 96 0), some (vR 0 0), some (vR 30 0), some (vI (i : Int))] [] (Z, rs bt rt, lm) := by
  refine z_aload_n (t := 335) F dL_law_334 rfl rfl rfl ?_
  refine z_aload_n (t := 336) F dL_law_335 rfl rfl rfl ?_
  refine z_iload_n (t := 337) F dL_law_336 rfl rfl rfl ?_
  refine z_iconst (t := 338) F dL_law_337 rfl ?_
  refine z_iadd (t := 339) F dL_law_338 rfl ?_
  refine z_sld2 (k := i + 1) (t := 340) F dL_law_339 hX (by omega) (by omega) hL rfl ?_
  refine z_callV (t := 343) [vI (xs (i + 1)).toInt] F dL_law_340 k_X8_feed v_X8_feed ml_L_32 rfl rfl rfl rfl (Nat.le_of_ble_eq_true rfl) (Nat.le_of_ble_eq_true rfl) (Nat.le_of_ble_eq_true rfl) hc (okq_of (by decide) (by decide)) sideCA (agI_rfl _ _) (c_X8_feed _ G Z bt rt lm hbt hrt h.1 (xs (i + 1)).toInt (j_ri _)) (fun r m' hp => ?_) rfl (fun r m' hp => ?_)
  · obtain ⟨x, rfl, hx, im1, bt1, rt1, hb1, hb2, hR1, hag, rfl⟩ := hp
    exact okM_R hb1 hb2
  obtain ⟨x, rfl, hx, im1, bt1, rt1, hb1, hb2, hR1, hag, rfl⟩ := hp
  show Wg _ G _ _ _ _ _ _ _ _ 343 [some (vR 96 0), some (vR 0 0), some (vR 30 0), some (vI (i : Int))] [vI x] _
  rw [mix_C2]
  show Wg _ G _ _ _ _ _ _ _ _ 343 [some (vR 96 0), some (vR 0 0), some (vR 30 0), some (vI (i : Int))] [vI x] (mxC im1 Z, rs bt1 rt1, lm)
  have hM := REL_mid h hR1
  refine z_popI (t := 344) F dL_law_343 rfl ?_
  refine z_aload_n (t := 345) F dL_law_344 rfl rfl rfl ?_
  refine z_aload_n (t := 346) F dL_law_345 rfl rfl rfl ?_
  refine z_iload_n (t := 347) F dL_law_346 rfl rfl rfl ?_
  refine z_iconst (t := 348) F dL_law_347 rfl ?_
  refine z_iadd (t := 349) F dL_law_348 rfl ?_
  refine z_sld2 (k := i + 1) (t := 350) F dL_law_349 hX (by omega) (by omega) hL rfl ?_
  refine z_callV (t := 353) [vI (xs (i + 1)).toInt] F dL_law_350 k_X9_feed v_X9_feed ml_L_36 rfl rfl rfl rfl (Nat.le_of_ble_eq_true rfl) (Nat.le_of_ble_eq_true rfl) (Nat.le_of_ble_eq_true rfl) hc (okq_of (by decide) (by decide)) sideR (agI_rfl _ _) (q_feed _ G hM bt1 rt1 lm (xs (i + 1)).toInt (j_ri _)) (fun r m' hp => ?_) rfl (fun r m' hp => ?_)
  · obtain ⟨y, rfl, im2, lm2, h2, rfl⟩ := hp
    exact okM_R hb1 hb2
  obtain ⟨y, rfl, im2, lm2, h2, rfl⟩ := hp
  show Wg _ G _ _ _ _ _ _ _ _ 353 [some (vR 96 0), some (vR 0 0), some (vR 30 0), some (vI (i : Int))] [vI y] _
  rw [mix_R2]
  have hZ := REL_fin h2 hag hR1 h.2.1
  refine z_popI (t := 354) F dL_law_353 rfl ?_
  refine z_goto (t := 1265) F dL_law_354 (by decide) ?_
  exact law_next F hN hb1 hb2 hZ

set_option maxHeartbeats 4000000 in
theorem law_c5 (Z lm : IM) (bt rt : Nat) (F : Fg M G A0 YLw) (hX : Sx M A0 ad L xs) (hL : L ≤ 3072) (hc : c ≤ 600000 ∧ s ≤ 7302250) (i : Nat) (hi : i + 6 ≤ L) (hbt : bt < 6) (hrt : rt < 6) (h : REL Z Z) (hN : Nxt M G A0 Q c s ad i) : Wg M G A0 YLw room_1 Q c s ad nA 357 [some (vR 96 0), some (vR 0 0), some (vR 30 0), some (vI (i : Int))] [] (Z, rs bt rt, lm) := by
  refine z_aload_n (t := 358) F dL_law_357 rfl rfl rfl ?_
  refine z_callV (t := 361) [] F dL_law_358 k_X8_text v_X8_text ml_L_37 rfl rfl rfl rfl (Nat.le_of_ble_eq_true rfl) (Nat.le_of_ble_eq_true rfl) (Nat.le_of_ble_eq_true rfl) hc (okq_of (by decide) (by decide)) sideCA (agI_rfl _ _) (c_X8_text _ G Z bt rt lm hbt hrt h.1) (fun r m' hp => ?_) rfl (fun r m' hp => ?_)
  · obtain ⟨x, rfl, hx, F0, hF, hRF, im1, bt1, rt1, hb1, hb2, hR1, hag, rfl⟩ := hp
    exact okM_R hb1 hb2
  obtain ⟨x, rfl, hx, F0, hF, hRF, im1, bt1, rt1, hb1, hb2, hR1, hag, rfl⟩ := hp
  show Wg _ G _ _ _ _ _ _ _ _ 361 [some (vR 96 0), some (vR 0 0), some (vR 30 0), some (vI (i : Int))] [vI x] _
  rw [mix_C2]
  show Wg _ G _ _ _ _ _ _ _ _ 361 [some (vR 96 0), some (vR 0 0), some (vR 30 0), some (vI (i : Int))] [vI x] (mxC im1 Z, rs bt1 rt1, lm)
  have hM := REL_mid h hR1
  refine z_popI (t := 362) F dL_law_361 rfl ?_
  refine z_aload_n (t := 363) F dL_law_362 rfl rfl rfl ?_
  refine z_callV (t := 366) [] F dL_law_363 k_X9_text v_X9_text ml_L_41 rfl rfl rfl rfl (Nat.le_of_ble_eq_true rfl) (Nat.le_of_ble_eq_true rfl) (Nat.le_of_ble_eq_true rfl) hc (okq_of (by decide) (by decide)) sideR (agI_rfl _ _) (q_text _ G hM bt1 rt1 lm hF hRF) (fun r m' hp => ?_) rfl (fun r m' hp => ?_)
  · obtain ⟨y, rfl, im2, lm2, h2, rfl⟩ := hp
    exact okM_R hb1 hb2
  obtain ⟨y, rfl, im2, lm2, h2, rfl⟩ := hp
  show Wg _ G _ _ _ _ _ _ _ _ 366 [some (vR 96 0), some (vR 0 0), some (vR 30 0), some (vI (i : Int))] [vI y] _
  rw [mix_R2]
  have hZ := REL_fin h2 hag hR1 h.2.1
  refine z_popI (t := 367) F dL_law_366 rfl ?_
  refine z_goto (t := 1265) F dL_law_367 (by decide) ?_
  exact law_next F hN hb1 hb2 hZ

set_option maxHeartbeats 4000000 in
theorem law_c6 (Z lm : IM) (bt rt : Nat) (F : Fg M G A0 YLw) (hX : Sx M A0 ad L xs) (hL : L ≤ 3072) (hc : c ≤ 600000 ∧ s ≤ 7302250) (i : Nat) (hi : i + 6 ≤ L) (hbt : bt < 6) (hrt : rt < 6) (h : REL Z Z) (hN : Nxt M G A0 Q c s ad i) : Wg M G A0 YLw room_1 Q c s ad nA 370 [some (vR 96 0), some (vR 0 0), some (vR 30 0), some (vI (i : Int))] [] (Z, rs bt rt, lm) := by
  refine z_aload_n (t := 371) F dL_law_370 rfl rfl rfl ?_
  refine z_aload_n (t := 372) F dL_law_371 rfl rfl rfl ?_
  refine z_iload_n (t := 373) F dL_law_372 rfl rfl rfl ?_
  refine z_iconst (t := 374) F dL_law_373 rfl ?_
  refine z_iadd (t := 375) F dL_law_374 rfl ?_
  refine z_sld2 (k := i + 1) (t := 376) F dL_law_375 hX (by omega) (by omega) hL rfl ?_
  refine z_callV (t := 379) [vI (xs (i + 1)).toInt] F dL_law_376 k_X8_force v_X8_force ml_L_42 rfl rfl rfl rfl (Nat.le_of_ble_eq_true rfl) (Nat.le_of_ble_eq_true rfl) (Nat.le_of_ble_eq_true rfl) hc (okq_of (by decide) (by decide)) sideCA (agI_rfl _ _) (c_X8_force _ G Z bt rt lm hbt hrt h.1 (xs (i + 1)).toInt (j_ri _)) (fun r m' hp => ?_) rfl (fun r m' hp => ?_)
  · obtain ⟨x, rfl, hx, im1, bt1, rt1, hb1, hb2, hR1, hag, rfl⟩ := hp
    exact okM_R hb1 hb2
  obtain ⟨x, rfl, hx, im1, bt1, rt1, hb1, hb2, hR1, hag, rfl⟩ := hp
  show Wg _ G _ _ _ _ _ _ _ _ 379 [some (vR 96 0), some (vR 0 0), some (vR 30 0), some (vI (i : Int))] [vI x] _
  rw [mix_C2]
  show Wg _ G _ _ _ _ _ _ _ _ 379 [some (vR 96 0), some (vR 0 0), some (vR 30 0), some (vI (i : Int))] [vI x] (mxC im1 Z, rs bt1 rt1, lm)
  have hM := REL_mid h hR1
  refine z_popI (t := 380) F dL_law_379 rfl ?_
  refine z_aload_n (t := 381) F dL_law_380 rfl rfl rfl ?_
  refine z_aload_n (t := 382) F dL_law_381 rfl rfl rfl ?_
  refine z_iload_n (t := 383) F dL_law_382 rfl rfl rfl ?_
  refine z_iconst (t := 384) F dL_law_383 rfl ?_
  refine z_iadd (t := 385) F dL_law_384 rfl ?_
  refine z_sld2 (k := i + 1) (t := 386) F dL_law_385 hX (by omega) (by omega) hL rfl ?_
  refine z_callV (t := 389) [vI (xs (i + 1)).toInt] F dL_law_386 k_X9_force v_X9_force ml_L_45 rfl rfl rfl rfl (Nat.le_of_ble_eq_true rfl) (Nat.le_of_ble_eq_true rfl) (Nat.le_of_ble_eq_true rfl) hc (okq_of (by decide) (by decide)) sideR (agI_rfl _ _) (q_force _ G hM bt1 rt1 lm (xs (i + 1)).toInt (j_ri _)) (fun r m' hp => ?_) rfl (fun r m' hp => ?_)
  · obtain ⟨y, rfl, im2, lm2, h2, rfl⟩ := hp
    exact okM_R hb1 hb2
  obtain ⟨y, rfl, im2, lm2, h2, rfl⟩ := hp
  show Wg _ G _ _ _ _ _ _ _ _ 389 [some (vR 96 0), some (vR 0 0), some (vR 30 0), some (vI (i : Int))] [vI y] _
  rw [mix_R2]
  have hZ := REL_fin h2 hag hR1 h.2.1
  refine z_popI (t := 390) F dL_law_389 rfl ?_
  refine z_goto (t := 1265) F dL_law_390 (by decide) ?_
  exact law_next F hN hb1 hb2 hZ

set_option maxHeartbeats 4000000 in
theorem law_c7 (Z lm : IM) (bt rt : Nat) (F : Fg M G A0 YLw) (hX : Sx M A0 ad L xs) (hL : L ≤ 3072) (hc : c ≤ 600000 ∧ s ≤ 7302250) (i : Nat) (hi : i + 6 ≤ L) (hbt : bt < 6) (hrt : rt < 6) (h : REL Z Z) (hN : Nxt M G A0 Q c s ad i) : Wg M G A0 YLw room_1 Q c s ad nA 393 [some (vR 96 0), some (vR 0 0), some (vR 30 0), some (vI (i : Int))] [] (Z, rs bt rt, lm) := by
  refine z_aload_n (t := 394) F dL_law_393 rfl rfl rfl ?_
  refine z_aload_n (t := 395) F dL_law_394 rfl rfl rfl ?_
  refine z_iload_n (t := 396) F dL_law_395 rfl rfl rfl ?_
  refine z_iconst (t := 397) F dL_law_396 rfl ?_
  refine z_iadd (t := 398) F dL_law_397 rfl ?_
  refine z_sld2 (k := i + 1) (t := 399) F dL_law_398 hX (by omega) (by omega) hL rfl ?_
  refine z_aload_n (t := 400) F dL_law_399 rfl rfl rfl ?_
  refine z_iload_n (t := 401) F dL_law_400 rfl rfl rfl ?_
  refine z_iconst (t := 402) F dL_law_401 rfl ?_
  refine z_iadd (t := 403) F dL_law_402 rfl ?_
  refine z_sld2 (k := i + 2) (t := 404) F dL_law_403 hX (by omega) (by omega) hL rfl ?_
  refine z_aload_n (t := 405) F dL_law_404 rfl rfl rfl ?_
  refine z_iload_n (t := 406) F dL_law_405 rfl rfl rfl ?_
  refine z_iconst (t := 407) F dL_law_406 rfl ?_
  refine z_iadd (t := 408) F dL_law_407 rfl ?_
  refine z_sld2 (k := i + 3) (t := 409) F dL_law_408 hX (by omega) (by omega) hL rfl ?_
  refine z_callV (t := 412) [vI (xs (i + 1)).toInt, vI (xs (i + 2)).toInt, vI (xs (i + 3)).toInt] F dL_law_409 k_X8_say v_X8_say ml_L_46 rfl rfl rfl rfl (Nat.le_of_ble_eq_true rfl) (Nat.le_of_ble_eq_true rfl) (Nat.le_of_ble_eq_true rfl) hc (okq_of (by decide) (by decide)) sideCA (agI_rfl _ _) (c_X8_say _ G Z bt rt lm hbt hrt h.1 (xs (i + 1)).toInt (xs (i + 2)).toInt (xs (i + 3)).toInt (j_ri _) (j_ri _) (j_ri _)) (fun r m' hp => ?_) rfl (fun r m' hp => ?_)
  · obtain ⟨x, rfl, hx, im1, bt1, rt1, hb1, hb2, hR1, hag, rfl⟩ := hp
    exact okM_R hb1 hb2
  obtain ⟨x, rfl, hx, im1, bt1, rt1, hb1, hb2, hR1, hag, rfl⟩ := hp
  show Wg _ G _ _ _ _ _ _ _ _ 412 [some (vR 96 0), some (vR 0 0), some (vR 30 0), some (vI (i : Int))] [vI x] _
  rw [mix_C2]
  show Wg _ G _ _ _ _ _ _ _ _ 412 [some (vR 96 0), some (vR 0 0), some (vR 30 0), some (vI (i : Int))] [vI x] (mxC im1 Z, rs bt1 rt1, lm)
  have hM := REL_mid h hR1
  refine z_popI (t := 413) F dL_law_412 rfl ?_
  refine z_aload_n (t := 414) F dL_law_413 rfl rfl rfl ?_
  refine z_aload_n (t := 415) F dL_law_414 rfl rfl rfl ?_
  refine z_iload_n (t := 416) F dL_law_415 rfl rfl rfl ?_
  refine z_iconst (t := 417) F dL_law_416 rfl ?_
  refine z_iadd (t := 418) F dL_law_417 rfl ?_
  refine z_sld2 (k := i + 1) (t := 419) F dL_law_418 hX (by omega) (by omega) hL rfl ?_
  refine z_aload_n (t := 420) F dL_law_419 rfl rfl rfl ?_
  refine z_iload_n (t := 421) F dL_law_420 rfl rfl rfl ?_
  refine z_iconst (t := 422) F dL_law_421 rfl ?_
  refine z_iadd (t := 423) F dL_law_422 rfl ?_
  refine z_sld2 (k := i + 2) (t := 424) F dL_law_423 hX (by omega) (by omega) hL rfl ?_
  refine z_aload_n (t := 425) F dL_law_424 rfl rfl rfl ?_
  refine z_iload_n (t := 426) F dL_law_425 rfl rfl rfl ?_
  refine z_iconst (t := 427) F dL_law_426 rfl ?_
  refine z_iadd (t := 428) F dL_law_427 rfl ?_
  refine z_sld2 (k := i + 3) (t := 429) F dL_law_428 hX (by omega) (by omega) hL rfl ?_
  refine z_callV (t := 432) [vI (xs (i + 1)).toInt, vI (xs (i + 2)).toInt, vI (xs (i + 3)).toInt] F dL_law_429 k_X9_say v_X9_say ml_L_49 rfl rfl rfl rfl (Nat.le_of_ble_eq_true rfl) (Nat.le_of_ble_eq_true rfl) (Nat.le_of_ble_eq_true rfl) hc (okq_of (by decide) (by decide)) sideR (agI_rfl _ _) (q_say _ G hM bt1 rt1 lm (xs (i + 1)).toInt (xs (i + 2)).toInt (xs (i + 3)).toInt (j_ri _) (j_ri _) (j_ri _)) (fun r m' hp => ?_) rfl (fun r m' hp => ?_)
  · obtain ⟨y, rfl, im2, lm2, h2, rfl⟩ := hp
    exact okM_R hb1 hb2
  obtain ⟨y, rfl, im2, lm2, h2, rfl⟩ := hp
  show Wg _ G _ _ _ _ _ _ _ _ 432 [some (vR 96 0), some (vR 0 0), some (vR 30 0), some (vI (i : Int))] [vI y] _
  rw [mix_R2]
  have hZ := REL_fin h2 hag hR1 h.2.1
  refine z_popI (t := 433) F dL_law_432 rfl ?_
  refine z_goto (t := 1265) F dL_law_433 (by decide) ?_
  exact law_next F hN hb1 hb2 hZ

set_option maxHeartbeats 4000000 in
theorem law_c8 (Z lm : IM) (bt rt : Nat) (F : Fg M G A0 YLw) (hX : Sx M A0 ad L xs) (hL : L ≤ 3072) (hc : c ≤ 600000 ∧ s ≤ 7302250) (i : Nat) (hi : i + 6 ≤ L) (hbt : bt < 6) (hrt : rt < 6) (h : REL Z Z) (hN : Nxt M G A0 Q c s ad i) : Wg M G A0 YLw room_1 Q c s ad nA 436 [some (vR 96 0), some (vR 0 0), some (vR 30 0), some (vI (i : Int))] [] (Z, rs bt rt, lm) := by
  refine z_aload_n (t := 437) F dL_law_436 rfl rfl rfl ?_
  refine z_aload_n (t := 438) F dL_law_437 rfl rfl rfl ?_
  refine z_iload_n (t := 439) F dL_law_438 rfl rfl rfl ?_
  refine z_iconst (t := 440) F dL_law_439 rfl ?_
  refine z_iadd (t := 441) F dL_law_440 rfl ?_
  refine z_sld2 (k := i + 1) (t := 442) F dL_law_441 hX (by omega) (by omega) hL rfl ?_
  refine z_aload_n (t := 443) F dL_law_442 rfl rfl rfl ?_
  refine z_iload_n (t := 444) F dL_law_443 rfl rfl rfl ?_
  refine z_iconst (t := 445) F dL_law_444 rfl ?_
  refine z_iadd (t := 446) F dL_law_445 rfl ?_
  refine z_sld2 (k := i + 2) (t := 447) F dL_law_446 hX (by omega) (by omega) hL rfl ?_
  refine z_callV (t := 450) [vI (xs (i + 1)).toInt, vI (xs (i + 2)).toInt] F dL_law_447 k_X8_floss v_X8_floss ml_L_50 rfl rfl rfl rfl (Nat.le_of_ble_eq_true rfl) (Nat.le_of_ble_eq_true rfl) (Nat.le_of_ble_eq_true rfl) hc (okq_of (by decide) (by decide)) sideCA (agI_rfl _ _) (c_X8_floss _ G Z bt rt lm hbt hrt h.1 (xs (i + 1)).toInt (xs (i + 2)).toInt (j_ri _) (j_ri _)) (fun r m' hp => ?_) rfl (fun r m' hp => ?_)
  · obtain ⟨x, rfl, hx, im1, bt1, rt1, hb1, hb2, hR1, hag, rfl⟩ := hp
    exact okM_R hb1 hb2
  obtain ⟨x, rfl, hx, im1, bt1, rt1, hb1, hb2, hR1, hag, rfl⟩ := hp
  show Wg _ G _ _ _ _ _ _ _ _ 450 [some (vR 96 0), some (vR 0 0), some (vR 30 0), some (vI (i : Int))] [vI x] _
  rw [mix_C2]
  show Wg _ G _ _ _ _ _ _ _ _ 450 [some (vR 96 0), some (vR 0 0), some (vR 30 0), some (vI (i : Int))] [vI x] (mxC im1 Z, rs bt1 rt1, lm)
  have hM := REL_mid h hR1
  refine z_popI (t := 451) F dL_law_450 rfl ?_
  refine z_aload_n (t := 452) F dL_law_451 rfl rfl rfl ?_
  refine z_aload_n (t := 453) F dL_law_452 rfl rfl rfl ?_
  refine z_iload_n (t := 454) F dL_law_453 rfl rfl rfl ?_
  refine z_iconst (t := 455) F dL_law_454 rfl ?_
  refine z_iadd (t := 456) F dL_law_455 rfl ?_
  refine z_sld2 (k := i + 1) (t := 457) F dL_law_456 hX (by omega) (by omega) hL rfl ?_
  refine z_aload_n (t := 458) F dL_law_457 rfl rfl rfl ?_
  refine z_iload_n (t := 459) F dL_law_458 rfl rfl rfl ?_
  refine z_iconst (t := 460) F dL_law_459 rfl ?_
  refine z_iadd (t := 461) F dL_law_460 rfl ?_
  refine z_sld2 (k := i + 2) (t := 462) F dL_law_461 hX (by omega) (by omega) hL rfl ?_
  refine z_callV (t := 465) [vI (xs (i + 1)).toInt, vI (xs (i + 2)).toInt] F dL_law_462 k_X9_floss v_X9_floss ml_L_53 rfl rfl rfl rfl (Nat.le_of_ble_eq_true rfl) (Nat.le_of_ble_eq_true rfl) (Nat.le_of_ble_eq_true rfl) hc (okq_of (by decide) (by decide)) sideR (agI_rfl _ _) (q_floss _ G hM bt1 rt1 lm (xs (i + 1)).toInt (xs (i + 2)).toInt (j_ri _) (j_ri _)) (fun r m' hp => ?_) rfl (fun r m' hp => ?_)
  · obtain ⟨y, rfl, im2, lm2, h2, rfl⟩ := hp
    exact okM_R hb1 hb2
  obtain ⟨y, rfl, im2, lm2, h2, rfl⟩ := hp
  show Wg _ G _ _ _ _ _ _ _ _ 465 [some (vR 96 0), some (vR 0 0), some (vR 30 0), some (vI (i : Int))] [vI y] _
  rw [mix_R2]
  have hZ := REL_fin h2 hag hR1 h.2.1
  refine z_popI (t := 466) F dL_law_465 rfl ?_
  refine z_goto (t := 1265) F dL_law_466 (by decide) ?_
  exact law_next F hN hb1 hb2 hZ

set_option maxHeartbeats 4000000 in
theorem law_c9 (Z lm : IM) (bt rt : Nat) (F : Fg M G A0 YLw) (hX : Sx M A0 ad L xs) (hL : L ≤ 3072) (hc : c ≤ 600000 ∧ s ≤ 7302250) (i : Nat) (hi : i + 6 ≤ L) (hbt : bt < 6) (hrt : rt < 6) (h : REL Z Z) (hN : Nxt M G A0 Q c s ad i) : Wg M G A0 YLw room_1 Q c s ad nA 469 [some (vR 96 0), some (vR 0 0), some (vR 30 0), some (vI (i : Int))] [] (Z, rs bt rt, lm) := by
  refine z_aload_n (t := 470) F dL_law_469 rfl rfl rfl ?_
  refine z_aload_n (t := 471) F dL_law_470 rfl rfl rfl ?_
  refine z_iload_n (t := 472) F dL_law_471 rfl rfl rfl ?_
  refine z_iconst (t := 473) F dL_law_472 rfl ?_
  refine z_iadd (t := 474) F dL_law_473 rfl ?_
  refine z_sld2 (k := i + 1) (t := 475) F dL_law_474 hX (by omega) (by omega) hL rfl ?_
  refine z_aload_n (t := 476) F dL_law_475 rfl rfl rfl ?_
  refine z_iload_n (t := 477) F dL_law_476 rfl rfl rfl ?_
  refine z_iconst (t := 478) F dL_law_477 rfl ?_
  refine z_iadd (t := 479) F dL_law_478 rfl ?_
  refine z_sld2 (k := i + 2) (t := 480) F dL_law_479 hX (by omega) (by omega) hL rfl ?_
  refine z_callV (t := 483) [vI (xs (i + 1)).toInt, vI (xs (i + 2)).toInt] F dL_law_480 k_X8_kiss v_X8_kiss ml_L_54 rfl rfl rfl rfl (Nat.le_of_ble_eq_true rfl) (Nat.le_of_ble_eq_true rfl) (Nat.le_of_ble_eq_true rfl) hc (okq_of (by decide) (by decide)) sideCA (agI_rfl _ _) (c_X8_kiss _ G Z bt rt lm hbt hrt h.1 (xs (i + 1)).toInt (xs (i + 2)).toInt (j_ri _) (j_ri _)) (fun r m' hp => ?_) rfl (fun r m' hp => ?_)
  · obtain ⟨x, rfl, hx, im1, bt1, rt1, hb1, hb2, hR1, hag, rfl⟩ := hp
    exact okM_R hb1 hb2
  obtain ⟨x, rfl, hx, im1, bt1, rt1, hb1, hb2, hR1, hag, rfl⟩ := hp
  show Wg _ G _ _ _ _ _ _ _ _ 483 [some (vR 96 0), some (vR 0 0), some (vR 30 0), some (vI (i : Int))] [vI x] _
  rw [mix_C2]
  show Wg _ G _ _ _ _ _ _ _ _ 483 [some (vR 96 0), some (vR 0 0), some (vR 30 0), some (vI (i : Int))] [vI x] (mxC im1 Z, rs bt1 rt1, lm)
  have hM := REL_mid h hR1
  refine z_popI (t := 484) F dL_law_483 rfl ?_
  refine z_aload_n (t := 485) F dL_law_484 rfl rfl rfl ?_
  refine z_aload_n (t := 486) F dL_law_485 rfl rfl rfl ?_
  refine z_iload_n (t := 487) F dL_law_486 rfl rfl rfl ?_
  refine z_iconst (t := 488) F dL_law_487 rfl ?_
  refine z_iadd (t := 489) F dL_law_488 rfl ?_
  refine z_sld2 (k := i + 1) (t := 490) F dL_law_489 hX (by omega) (by omega) hL rfl ?_
  refine z_aload_n (t := 491) F dL_law_490 rfl rfl rfl ?_
  refine z_iload_n (t := 492) F dL_law_491 rfl rfl rfl ?_
  refine z_iconst (t := 493) F dL_law_492 rfl ?_
  refine z_iadd (t := 494) F dL_law_493 rfl ?_
  refine z_sld2 (k := i + 2) (t := 495) F dL_law_494 hX (by omega) (by omega) hL rfl ?_
  refine z_callV (t := 498) [vI (xs (i + 1)).toInt, vI (xs (i + 2)).toInt] F dL_law_495 k_X9_kiss v_X9_kiss ml_L_57 rfl rfl rfl rfl (Nat.le_of_ble_eq_true rfl) (Nat.le_of_ble_eq_true rfl) (Nat.le_of_ble_eq_true rfl) hc (okq_of (by decide) (by decide)) sideR (agI_rfl _ _) (q_kiss _ G hM bt1 rt1 lm (xs (i + 1)).toInt (xs (i + 2)).toInt (j_ri _) (j_ri _)) (fun r m' hp => ?_) rfl (fun r m' hp => ?_)
  · obtain ⟨y, rfl, im2, lm2, h2, rfl⟩ := hp
    exact okM_R hb1 hb2
  obtain ⟨y, rfl, im2, lm2, h2, rfl⟩ := hp
  show Wg _ G _ _ _ _ _ _ _ _ 498 [some (vR 96 0), some (vR 0 0), some (vR 30 0), some (vI (i : Int))] [vI y] _
  rw [mix_R2]
  have hZ := REL_fin h2 hag hR1 h.2.1
  refine z_popI (t := 499) F dL_law_498 rfl ?_
  refine z_goto (t := 1265) F dL_law_499 (by decide) ?_
  exact law_next F hN hb1 hb2 hZ

set_option maxHeartbeats 4000000 in
theorem law_c10 (Z lm : IM) (bt rt : Nat) (F : Fg M G A0 YLw) (hX : Sx M A0 ad L xs) (hL : L ≤ 3072) (hc : c ≤ 600000 ∧ s ≤ 7302250) (i : Nat) (hi : i + 6 ≤ L) (hbt : bt < 6) (hrt : rt < 6) (h : REL Z Z) (hN : Nxt M G A0 Q c s ad i) : Wg M G A0 YLw room_1 Q c s ad nA 502 [some (vR 96 0), some (vR 0 0), some (vR 30 0), some (vI (i : Int))] [] (Z, rs bt rt, lm) := by
  refine z_aload_n (t := 503) F dL_law_502 rfl rfl rfl ?_
  refine z_callV (t := 506) [] F dL_law_503 k_X8_live v_X8_live ml_L_58 rfl rfl rfl rfl (Nat.le_of_ble_eq_true rfl) (Nat.le_of_ble_eq_true rfl) (Nat.le_of_ble_eq_true rfl) hc (okq_of (by decide) (by decide)) sideCA (agI_rfl _ _) (c_X8_live _ G Z bt rt lm hbt hrt h.1) (fun r m' hp => ?_) rfl (fun r m' hp => ?_)
  · obtain ⟨x, rfl, hx, im1, bt1, rt1, hb1, hb2, hR1, hag, rfl⟩ := hp
    exact okM_R hb1 hb2
  obtain ⟨x, rfl, hx, im1, bt1, rt1, hb1, hb2, hR1, hag, rfl⟩ := hp
  show Wg _ G _ _ _ _ _ _ _ _ 506 [some (vR 96 0), some (vR 0 0), some (vR 30 0), some (vI (i : Int))] [vI x] _
  rw [mix_C2]
  show Wg _ G _ _ _ _ _ _ _ _ 506 [some (vR 96 0), some (vR 0 0), some (vR 30 0), some (vI (i : Int))] [vI x] (mxC im1 Z, rs bt1 rt1, lm)
  have hM := REL_mid h hR1
  refine z_popI (t := 507) F dL_law_506 rfl ?_
  refine z_aload_n (t := 508) F dL_law_507 rfl rfl rfl ?_
  refine z_callV (t := 511) [] F dL_law_508 k_X9_live v_X9_live ml_L_61 rfl rfl rfl rfl (Nat.le_of_ble_eq_true rfl) (Nat.le_of_ble_eq_true rfl) (Nat.le_of_ble_eq_true rfl) hc (okq_of (by decide) (by decide)) sideR (agI_rfl _ _) (q_live _ G hM bt1 rt1 lm) (fun r m' hp => ?_) rfl (fun r m' hp => ?_)
  · obtain ⟨y, rfl, im2, lm2, h2, rfl⟩ := hp
    exact okM_R hb1 hb2
  obtain ⟨y, rfl, im2, lm2, h2, rfl⟩ := hp
  show Wg _ G _ _ _ _ _ _ _ _ 511 [some (vR 96 0), some (vR 0 0), some (vR 30 0), some (vI (i : Int))] [vI y] _
  rw [mix_R2]
  have hZ := REL_fin h2 hag hR1 h.2.1
  refine z_popI (t := 512) F dL_law_511 rfl ?_
  refine z_goto (t := 1265) F dL_law_512 (by decide) ?_
  exact law_next F hN hb1 hb2 hZ

set_option maxHeartbeats 4000000 in
theorem law_c11 (Z lm : IM) (bt rt : Nat) (F : Fg M G A0 YLw) (hX : Sx M A0 ad L xs) (hL : L ≤ 3072) (hc : c ≤ 600000 ∧ s ≤ 7302250) (i : Nat) (hi : i + 6 ≤ L) (hbt : bt < 6) (hrt : rt < 6) (h : REL Z Z) (hN : Nxt M G A0 Q c s ad i) : Wg M G A0 YLw room_1 Q c s ad nA 515 [some (vR 96 0), some (vR 0 0), some (vR 30 0), some (vI (i : Int))] [] (Z, rs bt rt, lm) := by
  refine z_aload_n (t := 516) F dL_law_515 rfl rfl rfl ?_
  refine z_aload_n (t := 517) F dL_law_516 rfl rfl rfl ?_
  refine z_iload_n (t := 518) F dL_law_517 rfl rfl rfl ?_
  refine z_iconst (t := 519) F dL_law_518 rfl ?_
  refine z_iadd (t := 520) F dL_law_519 rfl ?_
  refine z_sld2 (k := i + 1) (t := 521) F dL_law_520 hX (by omega) (by omega) hL rfl ?_
  refine z_aload_n (t := 522) F dL_law_521 rfl rfl rfl ?_
  refine z_iload_n (t := 523) F dL_law_522 rfl rfl rfl ?_
  refine z_iconst (t := 524) F dL_law_523 rfl ?_
  refine z_iadd (t := 525) F dL_law_524 rfl ?_
  refine z_sld2 (k := i + 2) (t := 526) F dL_law_525 hX (by omega) (by omega) hL rfl ?_
  refine z_callV (t := 529) [vI (xs (i + 1)).toInt, vI (xs (i + 2)).toInt] F dL_law_526 k_X8_run v_X8_run ml_L_62 rfl rfl rfl rfl (Nat.le_of_ble_eq_true rfl) (Nat.le_of_ble_eq_true rfl) (Nat.le_of_ble_eq_true rfl) hc (okq_of (by decide) (by decide)) sideCA (agI_rfl _ _) (c_X8_run _ G Z bt rt lm hbt hrt h.1 (xs (i + 1)).toInt (xs (i + 2)).toInt (j_ri _) (j_ri _)) (fun r m' hp => ?_) rfl (fun r m' hp => ?_)
  · obtain ⟨x, rfl, hx, im1, bt1, rt1, hb1, hb2, hR1, hag, rfl⟩ := hp
    exact okM_R hb1 hb2
  obtain ⟨x, rfl, hx, im1, bt1, rt1, hb1, hb2, hR1, hag, rfl⟩ := hp
  show Wg _ G _ _ _ _ _ _ _ _ 529 [some (vR 96 0), some (vR 0 0), some (vR 30 0), some (vI (i : Int))] [vI x] _
  rw [mix_C2]
  show Wg _ G _ _ _ _ _ _ _ _ 529 [some (vR 96 0), some (vR 0 0), some (vR 30 0), some (vI (i : Int))] [vI x] (mxC im1 Z, rs bt1 rt1, lm)
  have hM := REL_mid h hR1
  refine z_popI (t := 530) F dL_law_529 rfl ?_
  refine z_aload_n (t := 531) F dL_law_530 rfl rfl rfl ?_
  refine z_aload_n (t := 532) F dL_law_531 rfl rfl rfl ?_
  refine z_iload_n (t := 533) F dL_law_532 rfl rfl rfl ?_
  refine z_iconst (t := 534) F dL_law_533 rfl ?_
  refine z_iadd (t := 535) F dL_law_534 rfl ?_
  refine z_sld2 (k := i + 1) (t := 536) F dL_law_535 hX (by omega) (by omega) hL rfl ?_
  refine z_aload_n (t := 537) F dL_law_536 rfl rfl rfl ?_
  refine z_iload_n (t := 538) F dL_law_537 rfl rfl rfl ?_
  refine z_iconst (t := 539) F dL_law_538 rfl ?_
  refine z_iadd (t := 540) F dL_law_539 rfl ?_
  refine z_sld2 (k := i + 2) (t := 541) F dL_law_540 hX (by omega) (by omega) hL rfl ?_
  refine z_callV (t := 544) [vI (xs (i + 1)).toInt, vI (xs (i + 2)).toInt] F dL_law_541 k_X9_run v_X9_run ml_L_65 rfl rfl rfl rfl (Nat.le_of_ble_eq_true rfl) (Nat.le_of_ble_eq_true rfl) (Nat.le_of_ble_eq_true rfl) hc (okq_of (by decide) (by decide)) sideR (agI_rfl _ _) (q_run _ G hM bt1 rt1 lm (xs (i + 1)).toInt (xs (i + 2)).toInt (j_ri _) (j_ri _)) (fun r m' hp => ?_) rfl (fun r m' hp => ?_)
  · obtain ⟨y, rfl, im2, lm2, h2, rfl⟩ := hp
    exact okM_R hb1 hb2
  obtain ⟨y, rfl, im2, lm2, h2, rfl⟩ := hp
  show Wg _ G _ _ _ _ _ _ _ _ 544 [some (vR 96 0), some (vR 0 0), some (vR 30 0), some (vI (i : Int))] [vI y] _
  rw [mix_R2]
  have hZ := REL_fin h2 hag hR1 h.2.1
  refine z_popI (t := 545) F dL_law_544 rfl ?_
  refine z_goto (t := 1265) F dL_law_545 (by decide) ?_
  exact law_next F hN hb1 hb2 hZ

set_option maxHeartbeats 4000000 in
theorem law_c12 (Z lm : IM) (bt rt : Nat) (F : Fg M G A0 YLw) (hX : Sx M A0 ad L xs) (hL : L ≤ 3072) (hc : c ≤ 600000 ∧ s ≤ 7302250) (i : Nat) (hi : i + 6 ≤ L) (hbt : bt < 6) (hrt : rt < 6) (h : REL Z Z) (hN : Nxt M G A0 Q c s ad i) : Wg M G A0 YLw room_1 Q c s ad nA 548 [some (vR 96 0), some (vR 0 0), some (vR 30 0), some (vI (i : Int))] [] (Z, rs bt rt, lm) := by
  refine z_aload_n (t := 549) F dL_law_548 rfl rfl rfl ?_
  refine z_aload_n (t := 550) F dL_law_549 rfl rfl rfl ?_
  refine z_iload_n (t := 551) F dL_law_550 rfl rfl rfl ?_
  refine z_iconst (t := 552) F dL_law_551 rfl ?_
  refine z_iadd (t := 553) F dL_law_552 rfl ?_
  refine z_sld2 (k := i + 1) (t := 554) F dL_law_553 hX (by omega) (by omega) hL rfl ?_
  refine z_aload_n (t := 555) F dL_law_554 rfl rfl rfl ?_
  refine z_iload_n (t := 556) F dL_law_555 rfl rfl rfl ?_
  refine z_iconst (t := 557) F dL_law_556 rfl ?_
  refine z_iadd (t := 558) F dL_law_557 rfl ?_
  refine z_sld2 (k := i + 2) (t := 559) F dL_law_558 hX (by omega) (by omega) hL rfl ?_
  refine z_aload_n (t := 560) F dL_law_559 rfl rfl rfl ?_
  refine z_iload_n (t := 561) F dL_law_560 rfl rfl rfl ?_
  refine z_iconst (t := 562) F dL_law_561 rfl ?_
  refine z_iadd (t := 563) F dL_law_562 rfl ?_
  refine z_sld2 (k := i + 3) (t := 564) F dL_law_563 hX (by omega) (by omega) hL rfl ?_
  refine z_callV (t := 567) [vI (xs (i + 1)).toInt, vI (xs (i + 2)).toInt, vI (xs (i + 3)).toInt] F dL_law_564 k_X8_off v_X8_off ml_L_66 rfl rfl rfl rfl (Nat.le_of_ble_eq_true rfl) (Nat.le_of_ble_eq_true rfl) (Nat.le_of_ble_eq_true rfl) hc (okq_of (by decide) (by decide)) sideCA (agI_rfl _ _) (c_X8_off _ G Z bt rt lm hbt hrt h.1 (xs (i + 1)).toInt (xs (i + 2)).toInt (xs (i + 3)).toInt (j_ri _) (j_ri _) (j_ri _)) (fun r m' hp => ?_) rfl (fun r m' hp => ?_)
  · obtain ⟨x, rfl, hx, im1, bt1, rt1, hb1, hb2, hR1, hag, rfl⟩ := hp
    exact okM_R hb1 hb2
  obtain ⟨x, rfl, hx, im1, bt1, rt1, hb1, hb2, hR1, hag, rfl⟩ := hp
  show Wg _ G _ _ _ _ _ _ _ _ 567 [some (vR 96 0), some (vR 0 0), some (vR 30 0), some (vI (i : Int))] [vI x] _
  rw [mix_C2]
  show Wg _ G _ _ _ _ _ _ _ _ 567 [some (vR 96 0), some (vR 0 0), some (vR 30 0), some (vI (i : Int))] [vI x] (mxC im1 Z, rs bt1 rt1, lm)
  have hM := REL_mid h hR1
  refine z_popI (t := 568) F dL_law_567 rfl ?_
  refine z_aload_n (t := 569) F dL_law_568 rfl rfl rfl ?_
  refine z_aload_n (t := 570) F dL_law_569 rfl rfl rfl ?_
  refine z_iload_n (t := 571) F dL_law_570 rfl rfl rfl ?_
  refine z_iconst (t := 572) F dL_law_571 rfl ?_
  refine z_iadd (t := 573) F dL_law_572 rfl ?_
  refine z_sld2 (k := i + 1) (t := 574) F dL_law_573 hX (by omega) (by omega) hL rfl ?_
  refine z_aload_n (t := 575) F dL_law_574 rfl rfl rfl ?_
  refine z_iload_n (t := 576) F dL_law_575 rfl rfl rfl ?_
  refine z_iconst (t := 577) F dL_law_576 rfl ?_
  refine z_iadd (t := 578) F dL_law_577 rfl ?_
  refine z_sld2 (k := i + 2) (t := 579) F dL_law_578 hX (by omega) (by omega) hL rfl ?_
  refine z_aload_n (t := 580) F dL_law_579 rfl rfl rfl ?_
  refine z_iload_n (t := 581) F dL_law_580 rfl rfl rfl ?_
  refine z_iconst (t := 582) F dL_law_581 rfl ?_
  refine z_iadd (t := 583) F dL_law_582 rfl ?_
  refine z_sld2 (k := i + 3) (t := 584) F dL_law_583 hX (by omega) (by omega) hL rfl ?_
  refine z_callV (t := 587) [vI (xs (i + 1)).toInt, vI (xs (i + 2)).toInt, vI (xs (i + 3)).toInt] F dL_law_584 k_X9_off v_X9_off ml_L_69 rfl rfl rfl rfl (Nat.le_of_ble_eq_true rfl) (Nat.le_of_ble_eq_true rfl) (Nat.le_of_ble_eq_true rfl) hc (okq_of (by decide) (by decide)) sideR (agI_rfl _ _) (q_off _ G hM bt1 rt1 lm (xs (i + 1)).toInt (xs (i + 2)).toInt (xs (i + 3)).toInt (j_ri _) (j_ri _) (j_ri _)) (fun r m' hp => ?_) rfl (fun r m' hp => ?_)
  · obtain ⟨y, rfl, im2, lm2, h2, rfl⟩ := hp
    exact okM_R hb1 hb2
  obtain ⟨y, rfl, im2, lm2, h2, rfl⟩ := hp
  show Wg _ G _ _ _ _ _ _ _ _ 587 [some (vR 96 0), some (vR 0 0), some (vR 30 0), some (vI (i : Int))] [vI y] _
  rw [mix_R2]
  have hZ := REL_fin h2 hag hR1 h.2.1
  refine z_popI (t := 588) F dL_law_587 rfl ?_
  refine z_goto (t := 1265) F dL_law_588 (by decide) ?_
  exact law_next F hN hb1 hb2 hZ

set_option maxHeartbeats 4000000 in
theorem law_c13 (Z lm : IM) (bt rt : Nat) (F : Fg M G A0 YLw) (hX : Sx M A0 ad L xs) (hL : L ≤ 3072) (hc : c ≤ 600000 ∧ s ≤ 7302250) (i : Nat) (hi : i + 6 ≤ L) (hbt : bt < 6) (hrt : rt < 6) (h : REL Z Z) (hN : Nxt M G A0 Q c s ad i) : Wg M G A0 YLw room_1 Q c s ad nA 591 [some (vR 96 0), some (vR 0 0), some (vR 30 0), some (vI (i : Int))] [] (Z, rs bt rt, lm) := by
  refine z_aload_n (t := 592) F dL_law_591 rfl rfl rfl ?_
  refine z_aload_n (t := 593) F dL_law_592 rfl rfl rfl ?_
  refine z_iload_n (t := 594) F dL_law_593 rfl rfl rfl ?_
  refine z_iconst (t := 595) F dL_law_594 rfl ?_
  refine z_iadd (t := 596) F dL_law_595 rfl ?_
  refine z_sld2 (k := i + 1) (t := 597) F dL_law_596 hX (by omega) (by omega) hL rfl ?_
  refine z_aload_n (t := 598) F dL_law_597 rfl rfl rfl ?_
  refine z_iload_n (t := 599) F dL_law_598 rfl rfl rfl ?_
  refine z_iconst (t := 600) F dL_law_599 rfl ?_
  refine z_iadd (t := 601) F dL_law_600 rfl ?_
  refine z_sld2 (k := i + 2) (t := 602) F dL_law_601 hX (by omega) (by omega) hL rfl ?_
  refine z_aload_n (t := 603) F dL_law_602 rfl rfl rfl ?_
  refine z_iload_n (t := 604) F dL_law_603 rfl rfl rfl ?_
  refine z_iconst (t := 605) F dL_law_604 rfl ?_
  refine z_iadd (t := 606) F dL_law_605 rfl ?_
  refine z_sld2 (k := i + 3) (t := 607) F dL_law_606 hX (by omega) (by omega) hL rfl ?_
  refine z_callV (t := 610) [vI (xs (i + 1)).toInt, vI (xs (i + 2)).toInt, vI (xs (i + 3)).toInt] F dL_law_607 k_X8_foods v_X8_foods ml_L_70 rfl rfl rfl rfl (Nat.le_of_ble_eq_true rfl) (Nat.le_of_ble_eq_true rfl) (Nat.le_of_ble_eq_true rfl) hc (okq_of (by decide) (by decide)) sideCA (agI_rfl _ _) (c_X8_foods _ G Z bt rt lm hbt hrt h.1 (xs (i + 1)).toInt (xs (i + 2)).toInt (xs (i + 3)).toInt (j_ri _) (j_ri _) (j_ri _)) (fun r m' hp => ?_) rfl (fun r m' hp => ?_)
  · obtain ⟨x, rfl, hx, im1, bt1, rt1, hb1, hb2, hR1, hag, rfl⟩ := hp
    exact okM_R hb1 hb2
  obtain ⟨x, rfl, hx, im1, bt1, rt1, hb1, hb2, hR1, hag, rfl⟩ := hp
  show Wg _ G _ _ _ _ _ _ _ _ 610 [some (vR 96 0), some (vR 0 0), some (vR 30 0), some (vI (i : Int))] [vI x] _
  rw [mix_C2]
  show Wg _ G _ _ _ _ _ _ _ _ 610 [some (vR 96 0), some (vR 0 0), some (vR 30 0), some (vI (i : Int))] [vI x] (mxC im1 Z, rs bt1 rt1, lm)
  have hM := REL_mid h hR1
  refine z_popI (t := 611) F dL_law_610 rfl ?_
  refine z_aload_n (t := 612) F dL_law_611 rfl rfl rfl ?_
  refine z_aload_n (t := 613) F dL_law_612 rfl rfl rfl ?_
  refine z_iload_n (t := 614) F dL_law_613 rfl rfl rfl ?_
  refine z_iconst (t := 615) F dL_law_614 rfl ?_
  refine z_iadd (t := 616) F dL_law_615 rfl ?_
  refine z_sld2 (k := i + 1) (t := 617) F dL_law_616 hX (by omega) (by omega) hL rfl ?_
  refine z_aload_n (t := 618) F dL_law_617 rfl rfl rfl ?_
  refine z_iload_n (t := 619) F dL_law_618 rfl rfl rfl ?_
  refine z_iconst (t := 620) F dL_law_619 rfl ?_
  refine z_iadd (t := 621) F dL_law_620 rfl ?_
  refine z_sld2 (k := i + 2) (t := 622) F dL_law_621 hX (by omega) (by omega) hL rfl ?_
  refine z_aload_n (t := 623) F dL_law_622 rfl rfl rfl ?_
  refine z_iload_n (t := 624) F dL_law_623 rfl rfl rfl ?_
  refine z_iconst (t := 625) F dL_law_624 rfl ?_
  refine z_iadd (t := 626) F dL_law_625 rfl ?_
  refine z_sld2 (k := i + 3) (t := 627) F dL_law_626 hX (by omega) (by omega) hL rfl ?_
  refine z_callV (t := 630) [vI (xs (i + 1)).toInt, vI (xs (i + 2)).toInt, vI (xs (i + 3)).toInt] F dL_law_627 k_X9_foods v_X9_foods ml_L_73 rfl rfl rfl rfl (Nat.le_of_ble_eq_true rfl) (Nat.le_of_ble_eq_true rfl) (Nat.le_of_ble_eq_true rfl) hc (okq_of (by decide) (by decide)) sideR (agI_rfl _ _) (q_foods _ G hM bt1 rt1 lm (xs (i + 1)).toInt (xs (i + 2)).toInt (xs (i + 3)).toInt (j_ri _) (j_ri _) (j_ri _)) (fun r m' hp => ?_) rfl (fun r m' hp => ?_)
  · obtain ⟨y, rfl, im2, lm2, h2, rfl⟩ := hp
    exact okM_R hb1 hb2
  obtain ⟨y, rfl, im2, lm2, h2, rfl⟩ := hp
  show Wg _ G _ _ _ _ _ _ _ _ 630 [some (vR 96 0), some (vR 0 0), some (vR 30 0), some (vI (i : Int))] [vI y] _
  rw [mix_R2]
  have hZ := REL_fin h2 hag hR1 h.2.1
  refine z_popI (t := 631) F dL_law_630 rfl ?_
  refine z_goto (t := 1265) F dL_law_631 (by decide) ?_
  exact law_next F hN hb1 hb2 hZ

set_option maxHeartbeats 4000000 in
theorem law_c14 (Z lm : IM) (bt rt : Nat) (F : Fg M G A0 YLw) (hX : Sx M A0 ad L xs) (hL : L ≤ 3072) (hc : c ≤ 600000 ∧ s ≤ 7302250) (i : Nat) (hi : i + 6 ≤ L) (hbt : bt < 6) (hrt : rt < 6) (h : REL Z Z) (hN : Nxt M G A0 Q c s ad i) : Wg M G A0 YLw room_1 Q c s ad nA 634 [some (vR 96 0), some (vR 0 0), some (vR 30 0), some (vI (i : Int))] [] (Z, rs bt rt, lm) := by
  refine z_aload_n (t := 635) F dL_law_634 rfl rfl rfl ?_
  refine z_aload_n (t := 636) F dL_law_635 rfl rfl rfl ?_
  refine z_iload_n (t := 637) F dL_law_636 rfl rfl rfl ?_
  refine z_iconst (t := 638) F dL_law_637 rfl ?_
  refine z_iadd (t := 639) F dL_law_638 rfl ?_
  refine z_sld2 (k := i + 1) (t := 640) F dL_law_639 hX (by omega) (by omega) hL rfl ?_
  refine z_aload_n (t := 641) F dL_law_640 rfl rfl rfl ?_
  refine z_iload_n (t := 642) F dL_law_641 rfl rfl rfl ?_
  refine z_iconst (t := 643) F dL_law_642 rfl ?_
  refine z_iadd (t := 644) F dL_law_643 rfl ?_
  refine z_sld2 (k := i + 2) (t := 645) F dL_law_644 hX (by omega) (by omega) hL rfl ?_
  refine z_callV (t := 648) [vI (xs (i + 1)).toInt, vI (xs (i + 2)).toInt] F dL_law_645 k_X8_best v_X8_best ml_L_74 rfl rfl rfl rfl (Nat.le_of_ble_eq_true rfl) (Nat.le_of_ble_eq_true rfl) (Nat.le_of_ble_eq_true rfl) hc (okq_of (by decide) (by decide)) sideCA (agI_rfl _ _) (c_X8_best _ G Z bt rt lm hbt hrt h.1 (xs (i + 1)).toInt (xs (i + 2)).toInt (j_ri _) (j_ri _)) (fun r m' hp => ?_) rfl (fun r m' hp => ?_)
  · obtain ⟨x, rfl, hx, im1, bt1, rt1, hb1, hb2, hR1, hag, rfl⟩ := hp
    exact okM_R hb1 hb2
  obtain ⟨x, rfl, hx, im1, bt1, rt1, hb1, hb2, hR1, hag, rfl⟩ := hp
  show Wg _ G _ _ _ _ _ _ _ _ 648 [some (vR 96 0), some (vR 0 0), some (vR 30 0), some (vI (i : Int))] [vI x] _
  rw [mix_C2]
  show Wg _ G _ _ _ _ _ _ _ _ 648 [some (vR 96 0), some (vR 0 0), some (vR 30 0), some (vI (i : Int))] [vI x] (mxC im1 Z, rs bt1 rt1, lm)
  have hM := REL_mid h hR1
  refine z_popI (t := 649) F dL_law_648 rfl ?_
  refine z_aload_n (t := 650) F dL_law_649 rfl rfl rfl ?_
  refine z_aload_n (t := 651) F dL_law_650 rfl rfl rfl ?_
  refine z_iload_n (t := 652) F dL_law_651 rfl rfl rfl ?_
  refine z_iconst (t := 653) F dL_law_652 rfl ?_
  refine z_iadd (t := 654) F dL_law_653 rfl ?_
  refine z_sld2 (k := i + 1) (t := 655) F dL_law_654 hX (by omega) (by omega) hL rfl ?_
  refine z_aload_n (t := 656) F dL_law_655 rfl rfl rfl ?_
  refine z_iload_n (t := 657) F dL_law_656 rfl rfl rfl ?_
  refine z_iconst (t := 658) F dL_law_657 rfl ?_
  refine z_iadd (t := 659) F dL_law_658 rfl ?_
  refine z_sld2 (k := i + 2) (t := 660) F dL_law_659 hX (by omega) (by omega) hL rfl ?_
  refine z_callV (t := 663) [vI (xs (i + 1)).toInt, vI (xs (i + 2)).toInt] F dL_law_660 k_X9_best v_X9_best ml_L_77 rfl rfl rfl rfl (Nat.le_of_ble_eq_true rfl) (Nat.le_of_ble_eq_true rfl) (Nat.le_of_ble_eq_true rfl) hc (okq_of (by decide) (by decide)) sideR (agI_rfl _ _) (q_best _ G hM bt1 rt1 lm (xs (i + 1)).toInt (xs (i + 2)).toInt (j_ri _) (j_ri _)) (fun r m' hp => ?_) rfl (fun r m' hp => ?_)
  · obtain ⟨y, rfl, im2, lm2, h2, rfl⟩ := hp
    exact okM_R hb1 hb2
  obtain ⟨y, rfl, im2, lm2, h2, rfl⟩ := hp
  show Wg _ G _ _ _ _ _ _ _ _ 663 [some (vR 96 0), some (vR 0 0), some (vR 30 0), some (vI (i : Int))] [vI y] _
  rw [mix_R2]
  have hZ := REL_fin h2 hag hR1 h.2.1
  refine z_popI (t := 664) F dL_law_663 rfl ?_
  refine z_goto (t := 1265) F dL_law_664 (by decide) ?_
  exact law_next F hN hb1 hb2 hZ

set_option maxHeartbeats 4000000 in
theorem law_c15 (Z lm : IM) (bt rt : Nat) (F : Fg M G A0 YLw) (hX : Sx M A0 ad L xs) (hL : L ≤ 3072) (hc : c ≤ 600000 ∧ s ≤ 7302250) (i : Nat) (hi : i + 6 ≤ L) (hbt : bt < 6) (hrt : rt < 6) (h : REL Z Z) (hN : Nxt M G A0 Q c s ad i) : Wg M G A0 YLw room_1 Q c s ad nA 667 [some (vR 96 0), some (vR 0 0), some (vR 30 0), some (vI (i : Int))] [] (Z, rs bt rt, lm) := by
  refine z_aload_n (t := 668) F dL_law_667 rfl rfl rfl ?_
  refine z_aload_n (t := 669) F dL_law_668 rfl rfl rfl ?_
  refine z_iload_n (t := 670) F dL_law_669 rfl rfl rfl ?_
  refine z_iconst (t := 671) F dL_law_670 rfl ?_
  refine z_iadd (t := 672) F dL_law_671 rfl ?_
  refine z_sld2 (k := i + 1) (t := 673) F dL_law_672 hX (by omega) (by omega) hL rfl ?_
  refine z_aload_n (t := 674) F dL_law_673 rfl rfl rfl ?_
  refine z_iload_n (t := 675) F dL_law_674 rfl rfl rfl ?_
  refine z_iconst (t := 676) F dL_law_675 rfl ?_
  refine z_iadd (t := 677) F dL_law_676 rfl ?_
  refine z_sld2 (k := i + 2) (t := 678) F dL_law_677 hX (by omega) (by omega) hL rfl ?_
  refine z_aload_n (t := 679) F dL_law_678 rfl rfl rfl ?_
  refine z_iload_n (t := 680) F dL_law_679 rfl rfl rfl ?_
  refine z_iconst (t := 681) F dL_law_680 rfl ?_
  refine z_iadd (t := 682) F dL_law_681 rfl ?_
  refine z_sld2 (k := i + 3) (t := 683) F dL_law_682 hX (by omega) (by omega) hL rfl ?_
  refine z_callV (t := 686) [vI (xs (i + 1)).toInt, vI (xs (i + 2)).toInt, vI (xs (i + 3)).toInt] F dL_law_683 k_X8_few v_X8_few ml_L_78 rfl rfl rfl rfl (Nat.le_of_ble_eq_true rfl) (Nat.le_of_ble_eq_true rfl) (Nat.le_of_ble_eq_true rfl) hc (okq_of (by decide) (by decide)) sideCA (agI_rfl _ _) (c_X8_few _ G Z bt rt lm hbt hrt h.1 (xs (i + 1)).toInt (xs (i + 2)).toInt (xs (i + 3)).toInt (j_ri _) (j_ri _) (j_ri _)) (fun r m' hp => ?_) rfl (fun r m' hp => ?_)
  · obtain ⟨x, rfl, hx, im1, bt1, rt1, hb1, hb2, hR1, hag, rfl⟩ := hp
    exact okM_R hb1 hb2
  obtain ⟨x, rfl, hx, im1, bt1, rt1, hb1, hb2, hR1, hag, rfl⟩ := hp
  show Wg _ G _ _ _ _ _ _ _ _ 686 [some (vR 96 0), some (vR 0 0), some (vR 30 0), some (vI (i : Int))] [vI x] _
  rw [mix_C2]
  show Wg _ G _ _ _ _ _ _ _ _ 686 [some (vR 96 0), some (vR 0 0), some (vR 30 0), some (vI (i : Int))] [vI x] (mxC im1 Z, rs bt1 rt1, lm)
  have hM := REL_mid h hR1
  refine z_popI (t := 687) F dL_law_686 rfl ?_
  refine z_aload_n (t := 688) F dL_law_687 rfl rfl rfl ?_
  refine z_aload_n (t := 689) F dL_law_688 rfl rfl rfl ?_
  refine z_iload_n (t := 690) F dL_law_689 rfl rfl rfl ?_
  refine z_iconst (t := 691) F dL_law_690 rfl ?_
  refine z_iadd (t := 692) F dL_law_691 rfl ?_
  refine z_sld2 (k := i + 1) (t := 693) F dL_law_692 hX (by omega) (by omega) hL rfl ?_
  refine z_aload_n (t := 694) F dL_law_693 rfl rfl rfl ?_
  refine z_iload_n (t := 695) F dL_law_694 rfl rfl rfl ?_
  refine z_iconst (t := 696) F dL_law_695 rfl ?_
  refine z_iadd (t := 697) F dL_law_696 rfl ?_
  refine z_sld2 (k := i + 2) (t := 698) F dL_law_697 hX (by omega) (by omega) hL rfl ?_
  refine z_aload_n (t := 699) F dL_law_698 rfl rfl rfl ?_
  refine z_iload_n (t := 700) F dL_law_699 rfl rfl rfl ?_
  refine z_iconst (t := 701) F dL_law_700 rfl ?_
  refine z_iadd (t := 702) F dL_law_701 rfl ?_
  refine z_sld2 (k := i + 3) (t := 703) F dL_law_702 hX (by omega) (by omega) hL rfl ?_
  refine z_callV (t := 706) [vI (xs (i + 1)).toInt, vI (xs (i + 2)).toInt, vI (xs (i + 3)).toInt] F dL_law_703 k_X9_few v_X9_few ml_L_81 rfl rfl rfl rfl (Nat.le_of_ble_eq_true rfl) (Nat.le_of_ble_eq_true rfl) (Nat.le_of_ble_eq_true rfl) hc (okq_of (by decide) (by decide)) sideR (agI_rfl _ _) (q_few _ G hM bt1 rt1 lm (xs (i + 1)).toInt (xs (i + 2)).toInt (xs (i + 3)).toInt (j_ri _) (j_ri _) (j_ri _)) (fun r m' hp => ?_) rfl (fun r m' hp => ?_)
  · obtain ⟨y, rfl, im2, lm2, h2, rfl⟩ := hp
    exact okM_R hb1 hb2
  obtain ⟨y, rfl, im2, lm2, h2, rfl⟩ := hp
  show Wg _ G _ _ _ _ _ _ _ _ 706 [some (vR 96 0), some (vR 0 0), some (vR 30 0), some (vI (i : Int))] [vI y] _
  rw [mix_R2]
  have hZ := REL_fin h2 hag hR1 h.2.1
  refine z_popI (t := 707) F dL_law_706 rfl ?_
  refine z_goto (t := 1265) F dL_law_707 (by decide) ?_
  exact law_next F hN hb1 hb2 hZ

set_option maxHeartbeats 4000000 in
theorem law_c16 (Z lm : IM) (bt rt : Nat) (F : Fg M G A0 YLw) (hX : Sx M A0 ad L xs) (hL : L ≤ 3072) (hc : c ≤ 600000 ∧ s ≤ 7302250) (i : Nat) (hi : i + 6 ≤ L) (hbt : bt < 6) (hrt : rt < 6) (h : REL Z Z) (hN : Nxt M G A0 Q c s ad i) : Wg M G A0 YLw room_1 Q c s ad nA 710 [some (vR 96 0), some (vR 0 0), some (vR 30 0), some (vI (i : Int))] [] (Z, rs bt rt, lm) := by
  refine z_aload_n (t := 711) F dL_law_710 rfl rfl rfl ?_
  refine z_aload_n (t := 712) F dL_law_711 rfl rfl rfl ?_
  refine z_iload_n (t := 713) F dL_law_712 rfl rfl rfl ?_
  refine z_iconst (t := 714) F dL_law_713 rfl ?_
  refine z_iadd (t := 715) F dL_law_714 rfl ?_
  refine z_sld2 (k := i + 1) (t := 716) F dL_law_715 hX (by omega) (by omega) hL rfl ?_
  refine z_aload_n (t := 717) F dL_law_716 rfl rfl rfl ?_
  refine z_iload_n (t := 718) F dL_law_717 rfl rfl rfl ?_
  refine z_iconst (t := 719) F dL_law_718 rfl ?_
  refine z_iadd (t := 720) F dL_law_719 rfl ?_
  refine z_sld2 (k := i + 2) (t := 721) F dL_law_720 hX (by omega) (by omega) hL rfl ?_
  refine z_callV (t := 724) [vI (xs (i + 1)).toInt, vI (xs (i + 2)).toInt] F dL_law_721 k_X8_kissing v_X8_kissing ml_L_82 rfl rfl rfl rfl (Nat.le_of_ble_eq_true rfl) (Nat.le_of_ble_eq_true rfl) (Nat.le_of_ble_eq_true rfl) hc (okq_of (by decide) (by decide)) sideCA (agI_rfl _ _) (c_X8_kissing _ G Z bt rt lm hbt hrt h.1 (xs (i + 1)).toInt (xs (i + 2)).toInt (j_ri _) (j_ri _)) (fun r m' hp => ?_) rfl (fun r m' hp => ?_)
  · obtain ⟨x, rfl, hx, im1, bt1, rt1, hb1, hb2, hR1, hag, rfl⟩ := hp
    exact okM_R hb1 hb2
  obtain ⟨x, rfl, hx, im1, bt1, rt1, hb1, hb2, hR1, hag, rfl⟩ := hp
  show Wg _ G _ _ _ _ _ _ _ _ 724 [some (vR 96 0), some (vR 0 0), some (vR 30 0), some (vI (i : Int))] [vI x] _
  rw [mix_C2]
  show Wg _ G _ _ _ _ _ _ _ _ 724 [some (vR 96 0), some (vR 0 0), some (vR 30 0), some (vI (i : Int))] [vI x] (mxC im1 Z, rs bt1 rt1, lm)
  have hM := REL_mid h hR1
  refine z_popI (t := 725) F dL_law_724 rfl ?_
  refine z_aload_n (t := 726) F dL_law_725 rfl rfl rfl ?_
  refine z_aload_n (t := 727) F dL_law_726 rfl rfl rfl ?_
  refine z_iload_n (t := 728) F dL_law_727 rfl rfl rfl ?_
  refine z_iconst (t := 729) F dL_law_728 rfl ?_
  refine z_iadd (t := 730) F dL_law_729 rfl ?_
  refine z_sld2 (k := i + 1) (t := 731) F dL_law_730 hX (by omega) (by omega) hL rfl ?_
  refine z_aload_n (t := 732) F dL_law_731 rfl rfl rfl ?_
  refine z_iload_n (t := 733) F dL_law_732 rfl rfl rfl ?_
  refine z_iconst (t := 734) F dL_law_733 rfl ?_
  refine z_iadd (t := 735) F dL_law_734 rfl ?_
  refine z_sld2 (k := i + 2) (t := 736) F dL_law_735 hX (by omega) (by omega) hL rfl ?_
  refine z_callV (t := 739) [vI (xs (i + 1)).toInt, vI (xs (i + 2)).toInt] F dL_law_736 k_X9_kissing v_X9_kissing ml_L_85 rfl rfl rfl rfl (Nat.le_of_ble_eq_true rfl) (Nat.le_of_ble_eq_true rfl) (Nat.le_of_ble_eq_true rfl) hc (okq_of (by decide) (by decide)) sideR (agI_rfl _ _) (q_kissing _ G hM bt1 rt1 lm (xs (i + 1)).toInt (xs (i + 2)).toInt (j_ri _) (j_ri _)) (fun r m' hp => ?_) rfl (fun r m' hp => ?_)
  · obtain ⟨y, rfl, im2, lm2, h2, rfl⟩ := hp
    exact okM_R hb1 hb2
  obtain ⟨y, rfl, im2, lm2, h2, rfl⟩ := hp
  show Wg _ G _ _ _ _ _ _ _ _ 739 [some (vR 96 0), some (vR 0 0), some (vR 30 0), some (vI (i : Int))] [vI y] _
  rw [mix_R2]
  have hZ := REL_fin h2 hag hR1 h.2.1
  refine z_popI (t := 740) F dL_law_739 rfl ?_
  refine z_goto (t := 1265) F dL_law_740 (by decide) ?_
  exact law_next F hN hb1 hb2 hZ

set_option maxHeartbeats 4000000 in
theorem law_c17 (Z lm : IM) (bt rt : Nat) (F : Fg M G A0 YLw) (hX : Sx M A0 ad L xs) (hL : L ≤ 3072) (hc : c ≤ 600000 ∧ s ≤ 7302250) (i : Nat) (hi : i + 6 ≤ L) (hbt : bt < 6) (hrt : rt < 6) (h : REL Z Z) (hN : Nxt M G A0 Q c s ad i) : Wg M G A0 YLw room_1 Q c s ad nA 743 [some (vR 96 0), some (vR 0 0), some (vR 30 0), some (vI (i : Int))] [] (Z, rs bt rt, lm) := by
  refine z_aload_n (t := 744) F dL_law_743 rfl rfl rfl ?_
  refine z_aload_n (t := 745) F dL_law_744 rfl rfl rfl ?_
  refine z_iload_n (t := 746) F dL_law_745 rfl rfl rfl ?_
  refine z_iconst (t := 747) F dL_law_746 rfl ?_
  refine z_iadd (t := 748) F dL_law_747 rfl ?_
  refine z_sld2 (k := i + 1) (t := 749) F dL_law_748 hX (by omega) (by omega) hL rfl ?_
  refine z_aload_n (t := 750) F dL_law_749 rfl rfl rfl ?_
  refine z_iload_n (t := 751) F dL_law_750 rfl rfl rfl ?_
  refine z_iconst (t := 752) F dL_law_751 rfl ?_
  refine z_iadd (t := 753) F dL_law_752 rfl ?_
  refine z_sld2 (k := i + 2) (t := 754) F dL_law_753 hX (by omega) (by omega) hL rfl ?_
  refine z_callV (t := 757) [vI (xs (i + 1)).toInt, vI (xs (i + 2)).toInt] F dL_law_754 k_X8_church v_X8_church ml_L_86 rfl rfl rfl rfl (Nat.le_of_ble_eq_true rfl) (Nat.le_of_ble_eq_true rfl) (Nat.le_of_ble_eq_true rfl) hc (okq_of (by decide) (by decide)) sideCA (agI_rfl _ _) (c_X8_church _ G Z bt rt lm hbt hrt h.1 (xs (i + 1)).toInt (xs (i + 2)).toInt (j_ri _) (j_ri _)) (fun r m' hp => ?_) rfl (fun r m' hp => ?_)
  · obtain ⟨x, rfl, hx, im1, bt1, rt1, hb1, hb2, hR1, hag, rfl⟩ := hp
    exact okM_R hb1 hb2
  obtain ⟨x, rfl, hx, im1, bt1, rt1, hb1, hb2, hR1, hag, rfl⟩ := hp
  show Wg _ G _ _ _ _ _ _ _ _ 757 [some (vR 96 0), some (vR 0 0), some (vR 30 0), some (vI (i : Int))] [vI x] _
  rw [mix_C2]
  show Wg _ G _ _ _ _ _ _ _ _ 757 [some (vR 96 0), some (vR 0 0), some (vR 30 0), some (vI (i : Int))] [vI x] (mxC im1 Z, rs bt1 rt1, lm)
  have hM := REL_mid h hR1
  refine z_popI (t := 758) F dL_law_757 rfl ?_
  refine z_aload_n (t := 759) F dL_law_758 rfl rfl rfl ?_
  refine z_aload_n (t := 760) F dL_law_759 rfl rfl rfl ?_
  refine z_iload_n (t := 761) F dL_law_760 rfl rfl rfl ?_
  refine z_iconst (t := 762) F dL_law_761 rfl ?_
  refine z_iadd (t := 763) F dL_law_762 rfl ?_
  refine z_sld2 (k := i + 1) (t := 764) F dL_law_763 hX (by omega) (by omega) hL rfl ?_
  refine z_aload_n (t := 765) F dL_law_764 rfl rfl rfl ?_
  refine z_iload_n (t := 766) F dL_law_765 rfl rfl rfl ?_
  refine z_iconst (t := 767) F dL_law_766 rfl ?_
  refine z_iadd (t := 768) F dL_law_767 rfl ?_
  refine z_sld2 (k := i + 2) (t := 769) F dL_law_768 hX (by omega) (by omega) hL rfl ?_
  refine z_callV (t := 772) [vI (xs (i + 1)).toInt, vI (xs (i + 2)).toInt] F dL_law_769 k_X9_church v_X9_church ml_L_89 rfl rfl rfl rfl (Nat.le_of_ble_eq_true rfl) (Nat.le_of_ble_eq_true rfl) (Nat.le_of_ble_eq_true rfl) hc (okq_of (by decide) (by decide)) sideR (agI_rfl _ _) (q_church _ G hM bt1 rt1 lm (xs (i + 1)).toInt (xs (i + 2)).toInt (j_ri _) (j_ri _)) (fun r m' hp => ?_) rfl (fun r m' hp => ?_)
  · obtain ⟨y, rfl, im2, lm2, h2, rfl⟩ := hp
    exact okM_R hb1 hb2
  obtain ⟨y, rfl, im2, lm2, h2, rfl⟩ := hp
  show Wg _ G _ _ _ _ _ _ _ _ 772 [some (vR 96 0), some (vR 0 0), some (vR 30 0), some (vI (i : Int))] [vI y] _
  rw [mix_R2]
  have hZ := REL_fin h2 hag hR1 h.2.1
  refine z_popI (t := 773) F dL_law_772 rfl ?_
  refine z_goto (t := 1265) F dL_law_773 (by decide) ?_
  exact law_next F hN hb1 hb2 hZ

set_option maxHeartbeats 4000000 in
theorem law_c18 (Z lm : IM) (bt rt : Nat) (F : Fg M G A0 YLw) (hX : Sx M A0 ad L xs) (hL : L ≤ 3072) (hc : c ≤ 600000 ∧ s ≤ 7302250) (i : Nat) (hi : i + 6 ≤ L) (hbt : bt < 6) (hrt : rt < 6) (h : REL Z Z) (hN : Nxt M G A0 Q c s ad i) : Wg M G A0 YLw room_1 Q c s ad nA 776 [some (vR 96 0), some (vR 0 0), some (vR 30 0), some (vI (i : Int))] [] (Z, rs bt rt, lm) := by
  refine z_aload_n (t := 777) F dL_law_776 rfl rfl rfl ?_
  refine z_aload_n (t := 778) F dL_law_777 rfl rfl rfl ?_
  refine z_iload_n (t := 779) F dL_law_778 rfl rfl rfl ?_
  refine z_iconst (t := 780) F dL_law_779 rfl ?_
  refine z_iadd (t := 781) F dL_law_780 rfl ?_
  refine z_sld2 (k := i + 1) (t := 782) F dL_law_781 hX (by omega) (by omega) hL rfl ?_
  refine z_aload_n (t := 783) F dL_law_782 rfl rfl rfl ?_
  refine z_iload_n (t := 784) F dL_law_783 rfl rfl rfl ?_
  refine z_iconst (t := 785) F dL_law_784 rfl ?_
  refine z_iadd (t := 786) F dL_law_785 rfl ?_
  refine z_sld2 (k := i + 2) (t := 787) F dL_law_786 hX (by omega) (by omega) hL rfl ?_
  refine z_callV (t := 790) [vI (xs (i + 1)).toInt, vI (xs (i + 2)).toInt] F dL_law_787 k_X8_plan v_X8_plan ml_L_90 rfl rfl rfl rfl (Nat.le_of_ble_eq_true rfl) (Nat.le_of_ble_eq_true rfl) (Nat.le_of_ble_eq_true rfl) hc (okq_of (by decide) (by decide)) sideCA (agI_rfl _ _) (c_X8_plan _ G Z bt rt lm hbt hrt h.1 (xs (i + 1)).toInt (xs (i + 2)).toInt (j_ri _) (j_ri _)) (fun r m' hp => ?_) rfl (fun r m' hp => ?_)
  · obtain ⟨x, rfl, hx, im1, bt1, rt1, hb1, hb2, hR1, hag, rfl⟩ := hp
    exact okM_R hb1 hb2
  obtain ⟨x, rfl, hx, im1, bt1, rt1, hb1, hb2, hR1, hag, rfl⟩ := hp
  show Wg _ G _ _ _ _ _ _ _ _ 790 [some (vR 96 0), some (vR 0 0), some (vR 30 0), some (vI (i : Int))] [vI x] _
  rw [mix_C2]
  show Wg _ G _ _ _ _ _ _ _ _ 790 [some (vR 96 0), some (vR 0 0), some (vR 30 0), some (vI (i : Int))] [vI x] (mxC im1 Z, rs bt1 rt1, lm)
  have hM := REL_mid h hR1
  refine z_popI (t := 791) F dL_law_790 rfl ?_
  refine z_aload_n (t := 792) F dL_law_791 rfl rfl rfl ?_
  refine z_aload_n (t := 793) F dL_law_792 rfl rfl rfl ?_
  refine z_iload_n (t := 794) F dL_law_793 rfl rfl rfl ?_
  refine z_iconst (t := 795) F dL_law_794 rfl ?_
  refine z_iadd (t := 796) F dL_law_795 rfl ?_
  refine z_sld2 (k := i + 1) (t := 797) F dL_law_796 hX (by omega) (by omega) hL rfl ?_
  refine z_aload_n (t := 798) F dL_law_797 rfl rfl rfl ?_
  refine z_iload_n (t := 799) F dL_law_798 rfl rfl rfl ?_
  refine z_iconst (t := 800) F dL_law_799 rfl ?_
  refine z_iadd (t := 801) F dL_law_800 rfl ?_
  refine z_sld2 (k := i + 2) (t := 802) F dL_law_801 hX (by omega) (by omega) hL rfl ?_
  refine z_callV (t := 805) [vI (xs (i + 1)).toInt, vI (xs (i + 2)).toInt] F dL_law_802 k_X9_plan v_X9_plan ml_L_93 rfl rfl rfl rfl (Nat.le_of_ble_eq_true rfl) (Nat.le_of_ble_eq_true rfl) (Nat.le_of_ble_eq_true rfl) hc (okq_of (by decide) (by decide)) sideR (agI_rfl _ _) (q_plan _ G hM bt1 rt1 lm (xs (i + 1)).toInt (xs (i + 2)).toInt (j_ri _) (j_ri _)) (fun r m' hp => ?_) rfl (fun r m' hp => ?_)
  · obtain ⟨y, rfl, im2, lm2, h2, rfl⟩ := hp
    exact okM_R hb1 hb2
  obtain ⟨y, rfl, im2, lm2, h2, rfl⟩ := hp
  show Wg _ G _ _ _ _ _ _ _ _ 805 [some (vR 96 0), some (vR 0 0), some (vR 30 0), some (vI (i : Int))] [vI y] _
  rw [mix_R2]
  have hZ := REL_fin h2 hag hR1 h.2.1
  refine z_popI (t := 806) F dL_law_805 rfl ?_
  refine z_goto (t := 1265) F dL_law_806 (by decide) ?_
  exact law_next F hN hb1 hb2 hZ

set_option maxHeartbeats 4000000 in
theorem law_c19 (Z lm : IM) (bt rt : Nat) (F : Fg M G A0 YLw) (hX : Sx M A0 ad L xs) (hL : L ≤ 3072) (hc : c ≤ 600000 ∧ s ≤ 7302250) (i : Nat) (hi : i + 6 ≤ L) (hbt : bt < 6) (hrt : rt < 6) (h : REL Z Z) (hN : Nxt M G A0 Q c s ad i) : Wg M G A0 YLw room_1 Q c s ad nA 809 [some (vR 96 0), some (vR 0 0), some (vR 30 0), some (vI (i : Int))] [] (Z, rs bt rt, lm) := by
  refine z_aload_n (t := 810) F dL_law_809 rfl rfl rfl ?_
  refine z_aload_n (t := 811) F dL_law_810 rfl rfl rfl ?_
  refine z_iload_n (t := 812) F dL_law_811 rfl rfl rfl ?_
  refine z_iconst (t := 813) F dL_law_812 rfl ?_
  refine z_iadd (t := 814) F dL_law_813 rfl ?_
  refine z_sld2 (k := i + 1) (t := 815) F dL_law_814 hX (by omega) (by omega) hL rfl ?_
  refine z_aload_n (t := 816) F dL_law_815 rfl rfl rfl ?_
  refine z_iload_n (t := 817) F dL_law_816 rfl rfl rfl ?_
  refine z_iconst (t := 818) F dL_law_817 rfl ?_
  refine z_iadd (t := 819) F dL_law_818 rfl ?_
  refine z_sld2 (k := i + 2) (t := 820) F dL_law_819 hX (by omega) (by omega) hL rfl ?_
  refine z_aload_n (t := 821) F dL_law_820 rfl rfl rfl ?_
  refine z_iload_n (t := 822) F dL_law_821 rfl rfl rfl ?_
  refine z_iconst (t := 823) F dL_law_822 rfl ?_
  refine z_iadd (t := 824) F dL_law_823 rfl ?_
  refine z_sld2 (k := i + 3) (t := 825) F dL_law_824 hX (by omega) (by omega) hL rfl ?_
  refine z_callV (t := 828) [vI (xs (i + 1)).toInt, vI (xs (i + 2)).toInt, vI (xs (i + 3)).toInt] F dL_law_825 k_X8_tells v_X8_tells ml_L_94 rfl rfl rfl rfl (Nat.le_of_ble_eq_true rfl) (Nat.le_of_ble_eq_true rfl) (Nat.le_of_ble_eq_true rfl) hc (okq_of (by decide) (by decide)) sideCA (agI_rfl _ _) (c_X8_tells _ G Z bt rt lm hbt hrt h.1 (xs (i + 1)).toInt (xs (i + 2)).toInt (xs (i + 3)).toInt (j_ri _) (j_ri _) (j_ri _)) (fun r m' hp => ?_) rfl (fun r m' hp => ?_)
  · obtain ⟨x, rfl, hx, im1, bt1, rt1, hb1, hb2, hR1, hag, rfl⟩ := hp
    exact okM_R hb1 hb2
  obtain ⟨x, rfl, hx, im1, bt1, rt1, hb1, hb2, hR1, hag, rfl⟩ := hp
  show Wg _ G _ _ _ _ _ _ _ _ 828 [some (vR 96 0), some (vR 0 0), some (vR 30 0), some (vI (i : Int))] [vI x] _
  rw [mix_C2]
  show Wg _ G _ _ _ _ _ _ _ _ 828 [some (vR 96 0), some (vR 0 0), some (vR 30 0), some (vI (i : Int))] [vI x] (mxC im1 Z, rs bt1 rt1, lm)
  have hM := REL_mid h hR1
  refine z_popI (t := 829) F dL_law_828 rfl ?_
  refine z_aload_n (t := 830) F dL_law_829 rfl rfl rfl ?_
  refine z_aload_n (t := 831) F dL_law_830 rfl rfl rfl ?_
  refine z_iload_n (t := 832) F dL_law_831 rfl rfl rfl ?_
  refine z_iconst (t := 833) F dL_law_832 rfl ?_
  refine z_iadd (t := 834) F dL_law_833 rfl ?_
  refine z_sld2 (k := i + 1) (t := 835) F dL_law_834 hX (by omega) (by omega) hL rfl ?_
  refine z_aload_n (t := 836) F dL_law_835 rfl rfl rfl ?_
  refine z_iload_n (t := 837) F dL_law_836 rfl rfl rfl ?_
  refine z_iconst (t := 838) F dL_law_837 rfl ?_
  refine z_iadd (t := 839) F dL_law_838 rfl ?_
  refine z_sld2 (k := i + 2) (t := 840) F dL_law_839 hX (by omega) (by omega) hL rfl ?_
  refine z_aload_n (t := 841) F dL_law_840 rfl rfl rfl ?_
  refine z_iload_n (t := 842) F dL_law_841 rfl rfl rfl ?_
  refine z_iconst (t := 843) F dL_law_842 rfl ?_
  refine z_iadd (t := 844) F dL_law_843 rfl ?_
  refine z_sld2 (k := i + 3) (t := 845) F dL_law_844 hX (by omega) (by omega) hL rfl ?_
  refine z_callV (t := 848) [vI (xs (i + 1)).toInt, vI (xs (i + 2)).toInt, vI (xs (i + 3)).toInt] F dL_law_845 k_X9_tells v_X9_tells ml_L_97 rfl rfl rfl rfl (Nat.le_of_ble_eq_true rfl) (Nat.le_of_ble_eq_true rfl) (Nat.le_of_ble_eq_true rfl) hc (okq_of (by decide) (by decide)) sideR (agI_rfl _ _) (q_tells _ G hM bt1 rt1 lm (xs (i + 1)).toInt (xs (i + 2)).toInt (xs (i + 3)).toInt (j_ri _) (j_ri _) (j_ri _)) (fun r m' hp => ?_) rfl (fun r m' hp => ?_)
  · obtain ⟨y, rfl, im2, lm2, h2, rfl⟩ := hp
    exact okM_R hb1 hb2
  obtain ⟨y, rfl, im2, lm2, h2, rfl⟩ := hp
  show Wg _ G _ _ _ _ _ _ _ _ 848 [some (vR 96 0), some (vR 0 0), some (vR 30 0), some (vI (i : Int))] [vI y] _
  rw [mix_R2]
  have hZ := REL_fin h2 hag hR1 h.2.1
  refine z_popI (t := 849) F dL_law_848 rfl ?_
  refine z_goto (t := 1265) F dL_law_849 (by decide) ?_
  exact law_next F hN hb1 hb2 hZ

set_option maxHeartbeats 4000000 in
theorem law_c20 (Z lm : IM) (bt rt : Nat) (F : Fg M G A0 YLw) (hX : Sx M A0 ad L xs) (hL : L ≤ 3072) (hc : c ≤ 600000 ∧ s ≤ 7302250) (i : Nat) (hi : i + 6 ≤ L) (hbt : bt < 6) (hrt : rt < 6) (h : REL Z Z) (hN : Nxt M G A0 Q c s ad i) : Wg M G A0 YLw room_1 Q c s ad nA 852 [some (vR 96 0), some (vR 0 0), some (vR 30 0), some (vI (i : Int))] [] (Z, rs bt rt, lm) := by
  refine z_aload_n (t := 853) F dL_law_852 rfl rfl rfl ?_
  refine z_aload_n (t := 854) F dL_law_853 rfl rfl rfl ?_
  refine z_iload_n (t := 855) F dL_law_854 rfl rfl rfl ?_
  refine z_iconst (t := 856) F dL_law_855 rfl ?_
  refine z_iadd (t := 857) F dL_law_856 rfl ?_
  refine z_sld2 (k := i + 1) (t := 858) F dL_law_857 hX (by omega) (by omega) hL rfl ?_
  refine z_aload_n (t := 859) F dL_law_858 rfl rfl rfl ?_
  refine z_iload_n (t := 860) F dL_law_859 rfl rfl rfl ?_
  refine z_iconst (t := 861) F dL_law_860 rfl ?_
  refine z_iadd (t := 862) F dL_law_861 rfl ?_
  refine z_sld2 (k := i + 2) (t := 863) F dL_law_862 hX (by omega) (by omega) hL rfl ?_
  refine z_callV (t := 866) [vI (xs (i + 1)).toInt, vI (xs (i + 2)).toInt] F dL_law_863 k_X8_film v_X8_film ml_L_98 rfl rfl rfl rfl (Nat.le_of_ble_eq_true rfl) (Nat.le_of_ble_eq_true rfl) (Nat.le_of_ble_eq_true rfl) hc (okq_of (by decide) (by decide)) sideCA (agI_rfl _ _) (c_X8_film _ G Z bt rt lm hbt hrt h.1 (xs (i + 1)).toInt (xs (i + 2)).toInt (j_ri _) (j_ri _)) (fun r m' hp => ?_) rfl (fun r m' hp => ?_)
  · obtain ⟨x, rfl, hx, im1, bt1, rt1, hb1, hb2, hR1, hag, rfl⟩ := hp
    exact okM_R hb1 hb2
  obtain ⟨x, rfl, hx, im1, bt1, rt1, hb1, hb2, hR1, hag, rfl⟩ := hp
  show Wg _ G _ _ _ _ _ _ _ _ 866 [some (vR 96 0), some (vR 0 0), some (vR 30 0), some (vI (i : Int))] [vI x] _
  rw [mix_C2]
  show Wg _ G _ _ _ _ _ _ _ _ 866 [some (vR 96 0), some (vR 0 0), some (vR 30 0), some (vI (i : Int))] [vI x] (mxC im1 Z, rs bt1 rt1, lm)
  have hM := REL_mid h hR1
  refine z_popI (t := 867) F dL_law_866 rfl ?_
  refine z_aload_n (t := 868) F dL_law_867 rfl rfl rfl ?_
  refine z_aload_n (t := 869) F dL_law_868 rfl rfl rfl ?_
  refine z_iload_n (t := 870) F dL_law_869 rfl rfl rfl ?_
  refine z_iconst (t := 871) F dL_law_870 rfl ?_
  refine z_iadd (t := 872) F dL_law_871 rfl ?_
  refine z_sld2 (k := i + 1) (t := 873) F dL_law_872 hX (by omega) (by omega) hL rfl ?_
  refine z_aload_n (t := 874) F dL_law_873 rfl rfl rfl ?_
  refine z_iload_n (t := 875) F dL_law_874 rfl rfl rfl ?_
  refine z_iconst (t := 876) F dL_law_875 rfl ?_
  refine z_iadd (t := 877) F dL_law_876 rfl ?_
  refine z_sld2 (k := i + 2) (t := 878) F dL_law_877 hX (by omega) (by omega) hL rfl ?_
  refine z_callV (t := 881) [vI (xs (i + 1)).toInt, vI (xs (i + 2)).toInt] F dL_law_878 k_X9_film v_X9_film ml_L_101 rfl rfl rfl rfl (Nat.le_of_ble_eq_true rfl) (Nat.le_of_ble_eq_true rfl) (Nat.le_of_ble_eq_true rfl) hc (okq_of (by decide) (by decide)) sideR (agI_rfl _ _) (q_film _ G hM bt1 rt1 lm (xs (i + 1)).toInt (xs (i + 2)).toInt (j_ri _) (j_ri _)) (fun r m' hp => ?_) rfl (fun r m' hp => ?_)
  · obtain ⟨y, rfl, im2, lm2, h2, rfl⟩ := hp
    exact okM_R hb1 hb2
  obtain ⟨y, rfl, im2, lm2, h2, rfl⟩ := hp
  show Wg _ G _ _ _ _ _ _ _ _ 881 [some (vR 96 0), some (vR 0 0), some (vR 30 0), some (vI (i : Int))] [vI y] _
  rw [mix_R2]
  have hZ := REL_fin h2 hag hR1 h.2.1
  refine z_popI (t := 882) F dL_law_881 rfl ?_
  refine z_goto (t := 1265) F dL_law_882 (by decide) ?_
  exact law_next F hN hb1 hb2 hZ

set_option maxHeartbeats 4000000 in
theorem law_c21 (Z lm : IM) (bt rt : Nat) (F : Fg M G A0 YLw) (hX : Sx M A0 ad L xs) (hL : L ≤ 3072) (hc : c ≤ 600000 ∧ s ≤ 7302250) (i : Nat) (hi : i + 6 ≤ L) (hbt : bt < 6) (hrt : rt < 6) (h : REL Z Z) (hN : Nxt M G A0 Q c s ad i) : Wg M G A0 YLw room_1 Q c s ad nA 885 [some (vR 96 0), some (vR 0 0), some (vR 30 0), some (vI (i : Int))] [] (Z, rs bt rt, lm) := by
  refine z_aload_n (t := 886) F dL_law_885 rfl rfl rfl ?_
  refine z_aload_n (t := 887) F dL_law_886 rfl rfl rfl ?_
  refine z_iload_n (t := 888) F dL_law_887 rfl rfl rfl ?_
  refine z_iconst (t := 889) F dL_law_888 rfl ?_
  refine z_iadd (t := 890) F dL_law_889 rfl ?_
  refine z_sld2 (k := i + 1) (t := 891) F dL_law_890 hX (by omega) (by omega) hL rfl ?_
  refine z_aload_n (t := 892) F dL_law_891 rfl rfl rfl ?_
  refine z_iload_n (t := 893) F dL_law_892 rfl rfl rfl ?_
  refine z_iconst (t := 894) F dL_law_893 rfl ?_
  refine z_iadd (t := 895) F dL_law_894 rfl ?_
  refine z_sld2 (k := i + 2) (t := 896) F dL_law_895 hX (by omega) (by omega) hL rfl ?_
  refine z_aload_n (t := 897) F dL_law_896 rfl rfl rfl ?_
  refine z_iload_n (t := 898) F dL_law_897 rfl rfl rfl ?_
  refine z_iconst (t := 899) F dL_law_898 rfl ?_
  refine z_iadd (t := 900) F dL_law_899 rfl ?_
  refine z_sld2 (k := i + 3) (t := 901) F dL_law_900 hX (by omega) (by omega) hL rfl ?_
  refine z_callV (t := 904) [vI (xs (i + 1)).toInt, vI (xs (i + 2)).toInt, vI (xs (i + 3)).toInt] F dL_law_901 k_X8_drawn v_X8_drawn ml_L_102 rfl rfl rfl rfl (Nat.le_of_ble_eq_true rfl) (Nat.le_of_ble_eq_true rfl) (Nat.le_of_ble_eq_true rfl) hc (okq_of (by decide) (by decide)) sideCA (agI_rfl _ _) (c_X8_drawn _ G Z bt rt lm hbt hrt h.1 (xs (i + 1)).toInt (xs (i + 2)).toInt (xs (i + 3)).toInt (j_ri _) (j_ri _) (j_ri _)) (fun r m' hp => ?_) rfl (fun r m' hp => ?_)
  · obtain ⟨x, rfl, hx, im1, bt1, rt1, hb1, hb2, hR1, hag, rfl⟩ := hp
    exact okM_R hb1 hb2
  obtain ⟨x, rfl, hx, im1, bt1, rt1, hb1, hb2, hR1, hag, rfl⟩ := hp
  show Wg _ G _ _ _ _ _ _ _ _ 904 [some (vR 96 0), some (vR 0 0), some (vR 30 0), some (vI (i : Int))] [vI x] _
  rw [mix_C2]
  show Wg _ G _ _ _ _ _ _ _ _ 904 [some (vR 96 0), some (vR 0 0), some (vR 30 0), some (vI (i : Int))] [vI x] (mxC im1 Z, rs bt1 rt1, lm)
  have hM := REL_mid h hR1
  refine z_popI (t := 905) F dL_law_904 rfl ?_
  refine z_aload_n (t := 906) F dL_law_905 rfl rfl rfl ?_
  refine z_aload_n (t := 907) F dL_law_906 rfl rfl rfl ?_
  refine z_iload_n (t := 908) F dL_law_907 rfl rfl rfl ?_
  refine z_iconst (t := 909) F dL_law_908 rfl ?_
  refine z_iadd (t := 910) F dL_law_909 rfl ?_
  refine z_sld2 (k := i + 1) (t := 911) F dL_law_910 hX (by omega) (by omega) hL rfl ?_
  refine z_aload_n (t := 912) F dL_law_911 rfl rfl rfl ?_
  refine z_iload_n (t := 913) F dL_law_912 rfl rfl rfl ?_
  refine z_iconst (t := 914) F dL_law_913 rfl ?_
  refine z_iadd (t := 915) F dL_law_914 rfl ?_
  refine z_sld2 (k := i + 2) (t := 916) F dL_law_915 hX (by omega) (by omega) hL rfl ?_
  refine z_aload_n (t := 917) F dL_law_916 rfl rfl rfl ?_
  refine z_iload_n (t := 918) F dL_law_917 rfl rfl rfl ?_
  refine z_iconst (t := 919) F dL_law_918 rfl ?_
  refine z_iadd (t := 920) F dL_law_919 rfl ?_
  refine z_sld2 (k := i + 3) (t := 921) F dL_law_920 hX (by omega) (by omega) hL rfl ?_
  refine z_callV (t := 924) [vI (xs (i + 1)).toInt, vI (xs (i + 2)).toInt, vI (xs (i + 3)).toInt] F dL_law_921 k_X9_drawn v_X9_drawn ml_L_105 rfl rfl rfl rfl (Nat.le_of_ble_eq_true rfl) (Nat.le_of_ble_eq_true rfl) (Nat.le_of_ble_eq_true rfl) hc (okq_of (by decide) (by decide)) sideR (agI_rfl _ _) (q_drawn _ G hM bt1 rt1 lm (xs (i + 1)).toInt (xs (i + 2)).toInt (xs (i + 3)).toInt (j_ri _) (j_ri _) (j_ri _)) (fun r m' hp => ?_) rfl (fun r m' hp => ?_)
  · obtain ⟨y, rfl, im2, lm2, h2, rfl⟩ := hp
    exact okM_R hb1 hb2
  obtain ⟨y, rfl, im2, lm2, h2, rfl⟩ := hp
  show Wg _ G _ _ _ _ _ _ _ _ 924 [some (vR 96 0), some (vR 0 0), some (vR 30 0), some (vI (i : Int))] [vI y] _
  rw [mix_R2]
  have hZ := REL_fin h2 hag hR1 h.2.1
  refine z_popI (t := 925) F dL_law_924 rfl ?_
  refine z_goto (t := 1265) F dL_law_925 (by decide) ?_
  exact law_next F hN hb1 hb2 hZ

set_option maxHeartbeats 4000000 in
theorem law_c22 (Z lm : IM) (bt rt : Nat) (F : Fg M G A0 YLw) (hX : Sx M A0 ad L xs) (hL : L ≤ 3072) (hc : c ≤ 600000 ∧ s ≤ 7302250) (i : Nat) (hi : i + 6 ≤ L) (hbt : bt < 6) (hrt : rt < 6) (h : REL Z Z) (hN : Nxt M G A0 Q c s ad i) : Wg M G A0 YLw room_1 Q c s ad nA 928 [some (vR 96 0), some (vR 0 0), some (vR 30 0), some (vI (i : Int))] [] (Z, rs bt rt, lm) := by
  refine z_aload_n (t := 929) F dL_law_928 rfl rfl rfl ?_
  refine z_aload_n (t := 930) F dL_law_929 rfl rfl rfl ?_
  refine z_iload_n (t := 931) F dL_law_930 rfl rfl rfl ?_
  refine z_iconst (t := 932) F dL_law_931 rfl ?_
  refine z_iadd (t := 933) F dL_law_932 rfl ?_
  refine z_sld2 (k := i + 1) (t := 934) F dL_law_933 hX (by omega) (by omega) hL rfl ?_
  refine z_aload_n (t := 935) F dL_law_934 rfl rfl rfl ?_
  refine z_iload_n (t := 936) F dL_law_935 rfl rfl rfl ?_
  refine z_iconst (t := 937) F dL_law_936 rfl ?_
  refine z_iadd (t := 938) F dL_law_937 rfl ?_
  refine z_sld2 (k := i + 2) (t := 939) F dL_law_938 hX (by omega) (by omega) hL rfl ?_
  refine z_aload_n (t := 940) F dL_law_939 rfl rfl rfl ?_
  refine z_iload_n (t := 941) F dL_law_940 rfl rfl rfl ?_
  refine z_iconst (t := 942) F dL_law_941 rfl ?_
  refine z_iadd (t := 943) F dL_law_942 rfl ?_
  refine z_sld2 (k := i + 3) (t := 944) F dL_law_943 hX (by omega) (by omega) hL rfl ?_
  refine z_aload_n (t := 945) F dL_law_944 rfl rfl rfl ?_
  refine z_iload_n (t := 946) F dL_law_945 rfl rfl rfl ?_
  refine z_iconst (t := 947) F dL_law_946 rfl ?_
  refine z_iadd (t := 948) F dL_law_947 rfl ?_
  refine z_sld2 (k := i + 4) (t := 949) F dL_law_948 hX (by omega) (by omega) hL rfl ?_
  refine z_callV (t := 952) [vI (xs (i + 1)).toInt, vI (xs (i + 2)).toInt, vI (xs (i + 3)).toInt, vI (xs (i + 4)).toInt] F dL_law_949 k_X8_chance v_X8_chance ml_L_106 rfl rfl rfl rfl (Nat.le_of_ble_eq_true rfl) (Nat.le_of_ble_eq_true rfl) (Nat.le_of_ble_eq_true rfl) hc (okq_of (by decide) (by decide)) sideCA (agI_rfl _ _) (c_X8_chance _ G Z bt rt lm hbt hrt h.1 (xs (i + 1)).toInt (xs (i + 2)).toInt (xs (i + 3)).toInt (xs (i + 4)).toInt (j_ri _) (j_ri _) (j_ri _) (j_ri _)) (fun r m' hp => ?_) rfl (fun r m' hp => ?_)
  · obtain ⟨x, rfl, hx, im1, bt1, rt1, hb1, hb2, hR1, hag, rfl⟩ := hp
    exact okM_R hb1 hb2
  obtain ⟨x, rfl, hx, im1, bt1, rt1, hb1, hb2, hR1, hag, rfl⟩ := hp
  show Wg _ G _ _ _ _ _ _ _ _ 952 [some (vR 96 0), some (vR 0 0), some (vR 30 0), some (vI (i : Int))] [vL x] _
  rw [mix_C2]
  show Wg _ G _ _ _ _ _ _ _ _ 952 [some (vR 96 0), some (vR 0 0), some (vR 30 0), some (vI (i : Int))] [vL x] (mxC im1 Z, rs bt1 rt1, lm)
  have hM := REL_mid h hR1
  refine z_popL (t := 953) F dL_law_952 rfl ?_
  refine z_aload_n (t := 954) F dL_law_953 rfl rfl rfl ?_
  refine z_aload_n (t := 955) F dL_law_954 rfl rfl rfl ?_
  refine z_iload_n (t := 956) F dL_law_955 rfl rfl rfl ?_
  refine z_iconst (t := 957) F dL_law_956 rfl ?_
  refine z_iadd (t := 958) F dL_law_957 rfl ?_
  refine z_sld2 (k := i + 1) (t := 959) F dL_law_958 hX (by omega) (by omega) hL rfl ?_
  refine z_aload_n (t := 960) F dL_law_959 rfl rfl rfl ?_
  refine z_iload_n (t := 961) F dL_law_960 rfl rfl rfl ?_
  refine z_iconst (t := 962) F dL_law_961 rfl ?_
  refine z_iadd (t := 963) F dL_law_962 rfl ?_
  refine z_sld2 (k := i + 2) (t := 964) F dL_law_963 hX (by omega) (by omega) hL rfl ?_
  refine z_aload_n (t := 965) F dL_law_964 rfl rfl rfl ?_
  refine z_iload_n (t := 966) F dL_law_965 rfl rfl rfl ?_
  refine z_iconst (t := 967) F dL_law_966 rfl ?_
  refine z_iadd (t := 968) F dL_law_967 rfl ?_
  refine z_sld2 (k := i + 3) (t := 969) F dL_law_968 hX (by omega) (by omega) hL rfl ?_
  refine z_aload_n (t := 970) F dL_law_969 rfl rfl rfl ?_
  refine z_iload_n (t := 971) F dL_law_970 rfl rfl rfl ?_
  refine z_iconst (t := 972) F dL_law_971 rfl ?_
  refine z_iadd (t := 973) F dL_law_972 rfl ?_
  refine z_sld2 (k := i + 4) (t := 974) F dL_law_973 hX (by omega) (by omega) hL rfl ?_
  refine z_callV (t := 977) [vI (xs (i + 1)).toInt, vI (xs (i + 2)).toInt, vI (xs (i + 3)).toInt, vI (xs (i + 4)).toInt] F dL_law_974 k_X9_chance v_X9_chance ml_L_110 rfl rfl rfl rfl (Nat.le_of_ble_eq_true rfl) (Nat.le_of_ble_eq_true rfl) (Nat.le_of_ble_eq_true rfl) hc (okq_of (by decide) (by decide)) sideR (agI_rfl _ _) (q_chance _ G hM bt1 rt1 lm (xs (i + 1)).toInt (xs (i + 2)).toInt (xs (i + 3)).toInt (xs (i + 4)).toInt (j_ri _) (j_ri _) (j_ri _) (j_ri _)) (fun r m' hp => ?_) rfl (fun r m' hp => ?_)
  · obtain ⟨y, rfl, im2, lm2, h2, rfl⟩ := hp
    exact okM_R hb1 hb2
  obtain ⟨y, rfl, im2, lm2, h2, rfl⟩ := hp
  show Wg _ G _ _ _ _ _ _ _ _ 977 [some (vR 96 0), some (vR 0 0), some (vR 30 0), some (vI (i : Int))] [vL y] _
  rw [mix_R2]
  have hZ := REL_fin h2 hag hR1 h.2.1
  refine z_popL (t := 978) F dL_law_977 rfl ?_
  refine z_goto (t := 1265) F dL_law_978 (by decide) ?_
  exact law_next F hN hb1 hb2 hZ

set_option maxHeartbeats 4000000 in
theorem law_c23 (Z lm : IM) (bt rt : Nat) (F : Fg M G A0 YLw) (hX : Sx M A0 ad L xs) (hL : L ≤ 3072) (hc : c ≤ 600000 ∧ s ≤ 7302250) (i : Nat) (hi : i + 6 ≤ L) (hbt : bt < 6) (hrt : rt < 6) (h : REL Z Z) (hN : Nxt M G A0 Q c s ad i) : Wg M G A0 YLw room_1 Q c s ad nA 981 [some (vR 96 0), some (vR 0 0), some (vR 30 0), some (vI (i : Int))] [] (Z, rs bt rt, lm) := by
  refine z_aload_n (t := 982) F dL_law_981 rfl rfl rfl ?_
  refine z_callV (t := 985) [] F dL_law_982 k_X8_image v_X8_image ml_L_111 rfl rfl rfl rfl (Nat.le_of_ble_eq_true rfl) (Nat.le_of_ble_eq_true rfl) (Nat.le_of_ble_eq_true rfl) hc (okq_of (by decide) (by decide)) sideCA (agI_rfl _ _) (c_X8_image _ G Z bt rt lm hbt hrt h.1) (fun r m' hp => ?_) rfl (fun r m' hp => ?_)
  · obtain ⟨x, rfl, hx, im1, bt1, rt1, hb1, hb2, hR1, hag, rfl⟩ := hp
    exact okM_R hb1 hb2
  obtain ⟨x, rfl, hx, im1, bt1, rt1, hb1, hb2, hR1, hag, rfl⟩ := hp
  show Wg _ G _ _ _ _ _ _ _ _ 985 [some (vR 96 0), some (vR 0 0), some (vR 30 0), some (vI (i : Int))] [vI x] _
  rw [mix_C2]
  show Wg _ G _ _ _ _ _ _ _ _ 985 [some (vR 96 0), some (vR 0 0), some (vR 30 0), some (vI (i : Int))] [vI x] (mxC im1 Z, rs bt1 rt1, lm)
  have hM := REL_mid h hR1
  refine z_popI (t := 986) F dL_law_985 rfl ?_
  refine z_aload_n (t := 987) F dL_law_986 rfl rfl rfl ?_
  refine z_callV (t := 990) [] F dL_law_987 k_X9_image v_X9_image ml_L_114 rfl rfl rfl rfl (Nat.le_of_ble_eq_true rfl) (Nat.le_of_ble_eq_true rfl) (Nat.le_of_ble_eq_true rfl) hc (okq_of (by decide) (by decide)) sideR (agI_rfl _ _) (q_image _ G hM bt1 rt1 lm) (fun r m' hp => ?_) rfl (fun r m' hp => ?_)
  · obtain ⟨y, rfl, im2, lm2, h2, rfl⟩ := hp
    exact okM_R hb1 hb2
  obtain ⟨y, rfl, im2, lm2, h2, rfl⟩ := hp
  show Wg _ G _ _ _ _ _ _ _ _ 990 [some (vR 96 0), some (vR 0 0), some (vR 30 0), some (vI (i : Int))] [vI y] _
  rw [mix_R2]
  have hZ := REL_fin h2 hag hR1 h.2.1
  refine z_popI (t := 991) F dL_law_990 rfl ?_
  refine z_goto (t := 1265) F dL_law_991 (by decide) ?_
  exact law_next F hN hb1 hb2 hZ

set_option maxHeartbeats 4000000 in
theorem law_c24 (Z lm : IM) (bt rt : Nat) (F : Fg M G A0 YLw) (hX : Sx M A0 ad L xs) (hL : L ≤ 3072) (hc : c ≤ 600000 ∧ s ≤ 7302250) (i : Nat) (hi : i + 6 ≤ L) (hbt : bt < 6) (hrt : rt < 6) (h : REL Z Z) (hN : Nxt M G A0 Q c s ad i) : Wg M G A0 YLw room_1 Q c s ad nA 994 [some (vR 96 0), some (vR 0 0), some (vR 30 0), some (vI (i : Int))] [] (Z, rs bt rt, lm) := by
  refine z_aload_n (t := 995) F dL_law_994 rfl rfl rfl ?_
  refine z_callV (t := 998) [] F dL_law_995 k_X8_back v_X8_back ml_L_115 rfl rfl rfl rfl (Nat.le_of_ble_eq_true rfl) (Nat.le_of_ble_eq_true rfl) (Nat.le_of_ble_eq_true rfl) hc (okq_of (by decide) (by decide)) sideCA (agI_rfl _ _) (c_X8_back _ G Z bt rt lm hbt hrt h.1) (fun r m' hp => ?_) rfl (fun r m' hp => ?_)
  · obtain ⟨x, rfl, hx, im1, bt1, rt1, hb1, hb2, hR1, hag, rfl⟩ := hp
    exact okM_R hb1 hb2
  obtain ⟨x, rfl, hx, im1, bt1, rt1, hb1, hb2, hR1, hag, rfl⟩ := hp
  show Wg _ G _ _ _ _ _ _ _ _ 998 [some (vR 96 0), some (vR 0 0), some (vR 30 0), some (vI (i : Int))] [vI x] _
  rw [mix_C2]
  show Wg _ G _ _ _ _ _ _ _ _ 998 [some (vR 96 0), some (vR 0 0), some (vR 30 0), some (vI (i : Int))] [vI x] (mxC im1 Z, rs bt1 rt1, lm)
  have hM := REL_mid h hR1
  refine z_popI (t := 999) F dL_law_998 rfl ?_
  refine z_aload_n (t := 1000) F dL_law_999 rfl rfl rfl ?_
  refine z_callV (t := 1003) [] F dL_law_1000 k_X9_back v_X9_back ml_L_118 rfl rfl rfl rfl (Nat.le_of_ble_eq_true rfl) (Nat.le_of_ble_eq_true rfl) (Nat.le_of_ble_eq_true rfl) hc (okq_of (by decide) (by decide)) sideR (agI_rfl _ _) (q_back _ G hM bt1 rt1 lm) (fun r m' hp => ?_) rfl (fun r m' hp => ?_)
  · obtain ⟨y, rfl, im2, lm2, h2, rfl⟩ := hp
    exact okM_R hb1 hb2
  obtain ⟨y, rfl, im2, lm2, h2, rfl⟩ := hp
  show Wg _ G _ _ _ _ _ _ _ _ 1003 [some (vR 96 0), some (vR 0 0), some (vR 30 0), some (vI (i : Int))] [vI y] _
  rw [mix_R2]
  have hZ := REL_fin h2 hag hR1 h.2.1
  refine z_popI (t := 1004) F dL_law_1003 rfl ?_
  refine z_goto (t := 1265) F dL_law_1004 (by decide) ?_
  exact law_next F hN hb1 hb2 hZ

set_option maxHeartbeats 4000000 in
theorem law_c25 (Z lm : IM) (bt rt : Nat) (F : Fg M G A0 YLw) (hX : Sx M A0 ad L xs) (hL : L ≤ 3072) (hc : c ≤ 600000 ∧ s ≤ 7302250) (i : Nat) (hi : i + 6 ≤ L) (hbt : bt < 6) (hrt : rt < 6) (h : REL Z Z) (hN : Nxt M G A0 Q c s ad i) : Wg M G A0 YLw room_1 Q c s ad nA 1007 [some (vR 96 0), some (vR 0 0), some (vR 30 0), some (vI (i : Int))] [] (Z, rs bt rt, lm) := by
  refine z_aload_n (t := 1008) F dL_law_1007 rfl rfl rfl ?_
  refine z_aload_n (t := 1009) F dL_law_1008 rfl rfl rfl ?_
  refine z_iload_n (t := 1010) F dL_law_1009 rfl rfl rfl ?_
  refine z_iconst (t := 1011) F dL_law_1010 rfl ?_
  refine z_iadd (t := 1012) F dL_law_1011 rfl ?_
  refine z_sld2 (k := i + 1) (t := 1013) F dL_law_1012 hX (by omega) (by omega) hL rfl ?_
  refine z_callV (t := 1016) [vI (xs (i + 1)).toInt] F dL_law_1013 k_X8_count v_X8_count ml_L_119 rfl rfl rfl rfl (Nat.le_of_ble_eq_true rfl) (Nat.le_of_ble_eq_true rfl) (Nat.le_of_ble_eq_true rfl) hc (okq_of (by decide) (by decide)) sideCA (agI_rfl _ _) (c_X8_count _ G Z bt rt lm hbt hrt h.1 (xs (i + 1)).toInt (j_ri _)) (fun r m' hp => ?_) rfl (fun r m' hp => ?_)
  · obtain ⟨x, rfl, hx, im1, bt1, rt1, hb1, hb2, hR1, hag, rfl⟩ := hp
    exact okM_R hb1 hb2
  obtain ⟨x, rfl, hx, im1, bt1, rt1, hb1, hb2, hR1, hag, rfl⟩ := hp
  show Wg _ G _ _ _ _ _ _ _ _ 1016 [some (vR 96 0), some (vR 0 0), some (vR 30 0), some (vI (i : Int))] [vI x] _
  rw [mix_C2]
  show Wg _ G _ _ _ _ _ _ _ _ 1016 [some (vR 96 0), some (vR 0 0), some (vR 30 0), some (vI (i : Int))] [vI x] (mxC im1 Z, rs bt1 rt1, lm)
  have hM := REL_mid h hR1
  refine z_popI (t := 1017) F dL_law_1016 rfl ?_
  refine z_aload_n (t := 1018) F dL_law_1017 rfl rfl rfl ?_
  refine z_aload_n (t := 1019) F dL_law_1018 rfl rfl rfl ?_
  refine z_iload_n (t := 1020) F dL_law_1019 rfl rfl rfl ?_
  refine z_iconst (t := 1021) F dL_law_1020 rfl ?_
  refine z_iadd (t := 1022) F dL_law_1021 rfl ?_
  refine z_sld2 (k := i + 1) (t := 1023) F dL_law_1022 hX (by omega) (by omega) hL rfl ?_
  refine z_callV (t := 1026) [vI (xs (i + 1)).toInt] F dL_law_1023 k_X9_count v_X9_count ml_L_122 rfl rfl rfl rfl (Nat.le_of_ble_eq_true rfl) (Nat.le_of_ble_eq_true rfl) (Nat.le_of_ble_eq_true rfl) hc (okq_of (by decide) (by decide)) sideR (agI_rfl _ _) (q_count _ G hM bt1 rt1 lm (xs (i + 1)).toInt (j_ri _)) (fun r m' hp => ?_) rfl (fun r m' hp => ?_)
  · obtain ⟨y, rfl, im2, lm2, h2, rfl⟩ := hp
    exact okM_R hb1 hb2
  obtain ⟨y, rfl, im2, lm2, h2, rfl⟩ := hp
  show Wg _ G _ _ _ _ _ _ _ _ 1026 [some (vR 96 0), some (vR 0 0), some (vR 30 0), some (vI (i : Int))] [vI y] _
  rw [mix_R2]
  have hZ := REL_fin h2 hag hR1 h.2.1
  refine z_popI (t := 1027) F dL_law_1026 rfl ?_
  refine z_goto (t := 1265) F dL_law_1027 (by decide) ?_
  exact law_next F hN hb1 hb2 hZ

set_option maxHeartbeats 4000000 in
theorem law_c26 (Z lm : IM) (bt rt : Nat) (F : Fg M G A0 YLw) (hX : Sx M A0 ad L xs) (hL : L ≤ 3072) (hc : c ≤ 600000 ∧ s ≤ 7302250) (i : Nat) (hi : i + 6 ≤ L) (hbt : bt < 6) (hrt : rt < 6) (h : REL Z Z) (hN : Nxt M G A0 Q c s ad i) : Wg M G A0 YLw room_1 Q c s ad nA 1030 [some (vR 96 0), some (vR 0 0), some (vR 30 0), some (vI (i : Int))] [] (Z, rs bt rt, lm) := by
  refine z_aload_n (t := 1031) F dL_law_1030 rfl rfl rfl ?_
  refine z_aload_n (t := 1032) F dL_law_1031 rfl rfl rfl ?_
  refine z_iload_n (t := 1033) F dL_law_1032 rfl rfl rfl ?_
  refine z_iconst (t := 1034) F dL_law_1033 rfl ?_
  refine z_iadd (t := 1035) F dL_law_1034 rfl ?_
  refine z_sld2 (k := i + 1) (t := 1036) F dL_law_1035 hX (by omega) (by omega) hL rfl ?_
  refine z_aload_n (t := 1037) F dL_law_1036 rfl rfl rfl ?_
  refine z_iload_n (t := 1038) F dL_law_1037 rfl rfl rfl ?_
  refine z_iconst (t := 1039) F dL_law_1038 rfl ?_
  refine z_iadd (t := 1040) F dL_law_1039 rfl ?_
  refine z_sld2 (k := i + 2) (t := 1041) F dL_law_1040 hX (by omega) (by omega) hL rfl ?_
  refine z_aload_n (t := 1042) F dL_law_1041 rfl rfl rfl ?_
  refine z_iload_n (t := 1043) F dL_law_1042 rfl rfl rfl ?_
  refine z_iconst (t := 1044) F dL_law_1043 rfl ?_
  refine z_iadd (t := 1045) F dL_law_1044 rfl ?_
  refine z_sld2 (k := i + 3) (t := 1046) F dL_law_1045 hX (by omega) (by omega) hL rfl ?_
  refine z_callV (t := 1049) [vI (xs (i + 1)).toInt, vI (xs (i + 2)).toInt, vI (xs (i + 3)).toInt] F dL_law_1046 k_X8_sheet v_X8_sheet ml_L_123 rfl rfl rfl rfl (Nat.le_of_ble_eq_true rfl) (Nat.le_of_ble_eq_true rfl) (Nat.le_of_ble_eq_true rfl) hc (okq_of (by decide) (by decide)) sideCA (agI_rfl _ _) (c_X8_sheet _ G Z bt rt lm hbt hrt h.1 (xs (i + 1)).toInt (xs (i + 2)).toInt (xs (i + 3)).toInt (j_ri _) (j_ri _) (j_ri _)) (fun r m' hp => ?_) rfl (fun r m' hp => ?_)
  · obtain ⟨x, rfl, hx, im1, bt1, rt1, hb1, hb2, hR1, hag, rfl⟩ := hp
    exact okM_R hb1 hb2
  obtain ⟨x, rfl, hx, im1, bt1, rt1, hb1, hb2, hR1, hag, rfl⟩ := hp
  show Wg _ G _ _ _ _ _ _ _ _ 1049 [some (vR 96 0), some (vR 0 0), some (vR 30 0), some (vI (i : Int))] [vI x] _
  rw [mix_C2]
  show Wg _ G _ _ _ _ _ _ _ _ 1049 [some (vR 96 0), some (vR 0 0), some (vR 30 0), some (vI (i : Int))] [vI x] (mxC im1 Z, rs bt1 rt1, lm)
  have hM := REL_mid h hR1
  refine z_popI (t := 1050) F dL_law_1049 rfl ?_
  refine z_aload_n (t := 1051) F dL_law_1050 rfl rfl rfl ?_
  refine z_aload_n (t := 1052) F dL_law_1051 rfl rfl rfl ?_
  refine z_iload_n (t := 1053) F dL_law_1052 rfl rfl rfl ?_
  refine z_iconst (t := 1054) F dL_law_1053 rfl ?_
  refine z_iadd (t := 1055) F dL_law_1054 rfl ?_
  refine z_sld2 (k := i + 1) (t := 1056) F dL_law_1055 hX (by omega) (by omega) hL rfl ?_
  refine z_aload_n (t := 1057) F dL_law_1056 rfl rfl rfl ?_
  refine z_iload_n (t := 1058) F dL_law_1057 rfl rfl rfl ?_
  refine z_iconst (t := 1059) F dL_law_1058 rfl ?_
  refine z_iadd (t := 1060) F dL_law_1059 rfl ?_
  refine z_sld2 (k := i + 2) (t := 1061) F dL_law_1060 hX (by omega) (by omega) hL rfl ?_
  refine z_aload_n (t := 1062) F dL_law_1061 rfl rfl rfl ?_
  refine z_iload_n (t := 1063) F dL_law_1062 rfl rfl rfl ?_
  refine z_iconst (t := 1064) F dL_law_1063 rfl ?_
  refine z_iadd (t := 1065) F dL_law_1064 rfl ?_
  refine z_sld2 (k := i + 3) (t := 1066) F dL_law_1065 hX (by omega) (by omega) hL rfl ?_
  refine z_callV (t := 1069) [vI (xs (i + 1)).toInt, vI (xs (i + 2)).toInt, vI (xs (i + 3)).toInt] F dL_law_1066 k_X9_sheet v_X9_sheet ml_L_126 rfl rfl rfl rfl (Nat.le_of_ble_eq_true rfl) (Nat.le_of_ble_eq_true rfl) (Nat.le_of_ble_eq_true rfl) hc (okq_of (by decide) (by decide)) sideR (agI_rfl _ _) (q_sheet _ G hM bt1 rt1 lm (xs (i + 1)).toInt (xs (i + 2)).toInt (xs (i + 3)).toInt (j_ri _) (j_ri _) (j_ri _)) (fun r m' hp => ?_) rfl (fun r m' hp => ?_)
  · obtain ⟨y, rfl, im2, lm2, h2, -, rfl⟩ := hp
    exact okM_R hb1 hb2
  obtain ⟨y, rfl, im2, lm2, h2, -, rfl⟩ := hp
  show Wg _ G _ _ _ _ _ _ _ _ 1069 [some (vR 96 0), some (vR 0 0), some (vR 30 0), some (vI (i : Int))] [vI y] _
  rw [mix_R2]
  have hZ := REL_fin h2 hag hR1 h.2.1
  refine z_popI (t := 1070) F dL_law_1069 rfl ?_
  refine z_goto (t := 1265) F dL_law_1070 (by decide) ?_
  exact law_next F hN hb1 hb2 hZ

set_option maxHeartbeats 4000000 in
theorem law_c27 (Z lm : IM) (bt rt : Nat) (F : Fg M G A0 YLw) (hX : Sx M A0 ad L xs) (hL : L ≤ 3072) (hc : c ≤ 600000 ∧ s ≤ 7302250) (i : Nat) (hi : i + 6 ≤ L) (hbt : bt < 6) (hrt : rt < 6) (h : REL Z Z) (hN : Nxt M G A0 Q c s ad i) : Wg M G A0 YLw room_1 Q c s ad nA 1073 [some (vR 96 0), some (vR 0 0), some (vR 30 0), some (vI (i : Int))] [] (Z, rs bt rt, lm) := by
  refine z_aload_n (t := 1074) F dL_law_1073 rfl rfl rfl ?_
  refine z_aload_n (t := 1075) F dL_law_1074 rfl rfl rfl ?_
  refine z_iload_n (t := 1076) F dL_law_1075 rfl rfl rfl ?_
  refine z_iconst (t := 1077) F dL_law_1076 rfl ?_
  refine z_iadd (t := 1078) F dL_law_1077 rfl ?_
  refine z_sld2 (k := i + 1) (t := 1079) F dL_law_1078 hX (by omega) (by omega) hL rfl ?_
  refine z_aload_n (t := 1080) F dL_law_1079 rfl rfl rfl ?_
  refine z_iload_n (t := 1081) F dL_law_1080 rfl rfl rfl ?_
  refine z_iconst (t := 1082) F dL_law_1081 rfl ?_
  refine z_iadd (t := 1083) F dL_law_1082 rfl ?_
  refine z_sld2 (k := i + 2) (t := 1084) F dL_law_1083 hX (by omega) (by omega) hL rfl ?_
  refine z_aload_n (t := 1085) F dL_law_1084 rfl rfl rfl ?_
  refine z_iload_n (t := 1086) F dL_law_1085 rfl rfl rfl ?_
  refine z_iconst (t := 1087) F dL_law_1086 rfl ?_
  refine z_iadd (t := 1088) F dL_law_1087 rfl ?_
  refine z_sld2 (k := i + 3) (t := 1089) F dL_law_1088 hX (by omega) (by omega) hL rfl ?_
  refine z_callV (t := 1092) [vI (xs (i + 1)).toInt, vI (xs (i + 2)).toInt, vI (xs (i + 3)).toInt] F dL_law_1089 k_X8_cell v_X8_cell ml_L_127 rfl rfl rfl rfl (Nat.le_of_ble_eq_true rfl) (Nat.le_of_ble_eq_true rfl) (Nat.le_of_ble_eq_true rfl) hc (okq_of (by decide) (by decide)) sideCA (agI_rfl _ _) (c_X8_cell _ G Z bt rt lm hbt hrt h.1 (xs (i + 1)).toInt (xs (i + 2)).toInt (xs (i + 3)).toInt (j_ri _) (j_ri _) (j_ri _)) (fun r m' hp => ?_) rfl (fun r m' hp => ?_)
  · obtain ⟨x, rfl, hx, im1, bt1, rt1, hb1, hb2, hR1, hag, rfl⟩ := hp
    exact okM_R hb1 hb2
  obtain ⟨x, rfl, hx, im1, bt1, rt1, hb1, hb2, hR1, hag, rfl⟩ := hp
  show Wg _ G _ _ _ _ _ _ _ _ 1092 [some (vR 96 0), some (vR 0 0), some (vR 30 0), some (vI (i : Int))] [vI x] _
  rw [mix_C2]
  show Wg _ G _ _ _ _ _ _ _ _ 1092 [some (vR 96 0), some (vR 0 0), some (vR 30 0), some (vI (i : Int))] [vI x] (mxC im1 Z, rs bt1 rt1, lm)
  have hM := REL_mid h hR1
  refine z_popI (t := 1093) F dL_law_1092 rfl ?_
  refine z_aload_n (t := 1094) F dL_law_1093 rfl rfl rfl ?_
  refine z_aload_n (t := 1095) F dL_law_1094 rfl rfl rfl ?_
  refine z_iload_n (t := 1096) F dL_law_1095 rfl rfl rfl ?_
  refine z_iconst (t := 1097) F dL_law_1096 rfl ?_
  refine z_iadd (t := 1098) F dL_law_1097 rfl ?_
  refine z_sld2 (k := i + 1) (t := 1099) F dL_law_1098 hX (by omega) (by omega) hL rfl ?_
  refine z_aload_n (t := 1100) F dL_law_1099 rfl rfl rfl ?_
  refine z_iload_n (t := 1101) F dL_law_1100 rfl rfl rfl ?_
  refine z_iconst (t := 1102) F dL_law_1101 rfl ?_
  refine z_iadd (t := 1103) F dL_law_1102 rfl ?_
  refine z_sld2 (k := i + 2) (t := 1104) F dL_law_1103 hX (by omega) (by omega) hL rfl ?_
  refine z_aload_n (t := 1105) F dL_law_1104 rfl rfl rfl ?_
  refine z_iload_n (t := 1106) F dL_law_1105 rfl rfl rfl ?_
  refine z_iconst (t := 1107) F dL_law_1106 rfl ?_
  refine z_iadd (t := 1108) F dL_law_1107 rfl ?_
  refine z_sld2 (k := i + 3) (t := 1109) F dL_law_1108 hX (by omega) (by omega) hL rfl ?_
  refine z_callV (t := 1112) [vI (xs (i + 1)).toInt, vI (xs (i + 2)).toInt, vI (xs (i + 3)).toInt] F dL_law_1109 k_X9_cell v_X9_cell ml_L_130 rfl rfl rfl rfl (Nat.le_of_ble_eq_true rfl) (Nat.le_of_ble_eq_true rfl) (Nat.le_of_ble_eq_true rfl) hc (okq_of (by decide) (by decide)) sideR (agI_rfl _ _) (q_cell _ G hM bt1 rt1 lm (xs (i + 1)).toInt (xs (i + 2)).toInt (xs (i + 3)).toInt (j_ri _) (j_ri _) (j_ri _)) (fun r m' hp => ?_) rfl (fun r m' hp => ?_)
  · obtain ⟨y, rfl, im2, lm2, h2, rfl⟩ := hp
    exact okM_R hb1 hb2
  obtain ⟨y, rfl, im2, lm2, h2, rfl⟩ := hp
  show Wg _ G _ _ _ _ _ _ _ _ 1112 [some (vR 96 0), some (vR 0 0), some (vR 30 0), some (vI (i : Int))] [vI y] _
  rw [mix_R2]
  have hZ := REL_fin h2 hag hR1 h.2.1
  refine z_popI (t := 1113) F dL_law_1112 rfl ?_
  refine z_goto (t := 1265) F dL_law_1113 (by decide) ?_
  exact law_next F hN hb1 hb2 hZ

set_option maxHeartbeats 4000000 in
theorem law_c28 (Z lm : IM) (bt rt : Nat) (F : Fg M G A0 YLw) (hX : Sx M A0 ad L xs) (hL : L ≤ 3072) (hc : c ≤ 600000 ∧ s ≤ 7302250) (i : Nat) (hi : i + 6 ≤ L) (hbt : bt < 6) (hrt : rt < 6) (h : REL Z Z) (hN : Nxt M G A0 Q c s ad i) : Wg M G A0 YLw room_1 Q c s ad nA 1116 [some (vR 96 0), some (vR 0 0), some (vR 30 0), some (vI (i : Int))] [] (Z, rs bt rt, lm) := by
  refine z_aload_n (t := 1117) F dL_law_1116 rfl rfl rfl ?_
  refine z_aload_n (t := 1118) F dL_law_1117 rfl rfl rfl ?_
  refine z_iload_n (t := 1119) F dL_law_1118 rfl rfl rfl ?_
  refine z_iconst (t := 1120) F dL_law_1119 rfl ?_
  refine z_iadd (t := 1121) F dL_law_1120 rfl ?_
  refine z_sld2 (k := i + 1) (t := 1122) F dL_law_1121 hX (by omega) (by omega) hL rfl ?_
  refine z_aload_n (t := 1123) F dL_law_1122 rfl rfl rfl ?_
  refine z_iload_n (t := 1124) F dL_law_1123 rfl rfl rfl ?_
  refine z_iconst (t := 1125) F dL_law_1124 rfl ?_
  refine z_iadd (t := 1126) F dL_law_1125 rfl ?_
  refine z_sld2 (k := i + 2) (t := 1127) F dL_law_1126 hX (by omega) (by omega) hL rfl ?_
  refine z_aload_n (t := 1128) F dL_law_1127 rfl rfl rfl ?_
  refine z_iload_n (t := 1129) F dL_law_1128 rfl rfl rfl ?_
  refine z_iconst (t := 1130) F dL_law_1129 rfl ?_
  refine z_iadd (t := 1131) F dL_law_1130 rfl ?_
  refine z_sld2 (k := i + 3) (t := 1132) F dL_law_1131 hX (by omega) (by omega) hL rfl ?_
  refine z_aload_n (t := 1133) F dL_law_1132 rfl rfl rfl ?_
  refine z_iload_n (t := 1134) F dL_law_1133 rfl rfl rfl ?_
  refine z_iconst (t := 1135) F dL_law_1134 rfl ?_
  refine z_iadd (t := 1136) F dL_law_1135 rfl ?_
  refine z_sld2 (k := i + 4) (t := 1137) F dL_law_1136 hX (by omega) (by omega) hL rfl ?_
  refine z_aload_n (t := 1138) F dL_law_1137 rfl rfl rfl ?_
  refine z_iload_n (t := 1139) F dL_law_1138 rfl rfl rfl ?_
  refine z_iconst (t := 1140) F dL_law_1139 rfl ?_
  refine z_iadd (t := 1141) F dL_law_1140 rfl ?_
  refine z_sld2 (k := i + 5) (t := 1142) F dL_law_1141 hX (by omega) (by omega) hL rfl ?_
  refine z_callV (t := 1145) [vI (xs (i + 1)).toInt, vI (xs (i + 2)).toInt, vI (xs (i + 3)).toInt, vI (xs (i + 4)).toInt, vI (xs (i + 5)).toInt] F dL_law_1142 k_X8_copy v_X8_copy ml_L_131 rfl rfl rfl rfl (Nat.le_of_ble_eq_true rfl) (Nat.le_of_ble_eq_true rfl) (Nat.le_of_ble_eq_true rfl) hc (okq_of (by decide) (by decide)) sideCA (agI_rfl _ _) (c_X8_copy _ G Z bt rt lm hbt hrt h.1 (xs (i + 1)).toInt (xs (i + 2)).toInt (xs (i + 3)).toInt (xs (i + 4)).toInt (xs (i + 5)).toInt (j_ri _) (j_ri _) (j_ri _) (j_ri _) (j_ri _)) (fun r m' hp => ?_) rfl (fun r m' hp => ?_)
  · obtain ⟨x, rfl, hx, im1, bt1, rt1, hb1, hb2, hR1, hag, rfl⟩ := hp
    exact okM_R hb1 hb2
  obtain ⟨x, rfl, hx, im1, bt1, rt1, hb1, hb2, hR1, hag, rfl⟩ := hp
  show Wg _ G _ _ _ _ _ _ _ _ 1145 [some (vR 96 0), some (vR 0 0), some (vR 30 0), some (vI (i : Int))] [vI x] _
  rw [mix_C2]
  show Wg _ G _ _ _ _ _ _ _ _ 1145 [some (vR 96 0), some (vR 0 0), some (vR 30 0), some (vI (i : Int))] [vI x] (mxC im1 Z, rs bt1 rt1, lm)
  have hM := REL_mid h hR1
  refine z_popI (t := 1146) F dL_law_1145 rfl ?_
  refine z_aload_n (t := 1147) F dL_law_1146 rfl rfl rfl ?_
  refine z_aload_n (t := 1148) F dL_law_1147 rfl rfl rfl ?_
  refine z_iload_n (t := 1149) F dL_law_1148 rfl rfl rfl ?_
  refine z_iconst (t := 1150) F dL_law_1149 rfl ?_
  refine z_iadd (t := 1151) F dL_law_1150 rfl ?_
  refine z_sld2 (k := i + 1) (t := 1152) F dL_law_1151 hX (by omega) (by omega) hL rfl ?_
  refine z_aload_n (t := 1153) F dL_law_1152 rfl rfl rfl ?_
  refine z_iload_n (t := 1154) F dL_law_1153 rfl rfl rfl ?_
  refine z_iconst (t := 1155) F dL_law_1154 rfl ?_
  refine z_iadd (t := 1156) F dL_law_1155 rfl ?_
  refine z_sld2 (k := i + 2) (t := 1157) F dL_law_1156 hX (by omega) (by omega) hL rfl ?_
  refine z_aload_n (t := 1158) F dL_law_1157 rfl rfl rfl ?_
  refine z_iload_n (t := 1159) F dL_law_1158 rfl rfl rfl ?_
  refine z_iconst (t := 1160) F dL_law_1159 rfl ?_
  refine z_iadd (t := 1161) F dL_law_1160 rfl ?_
  refine z_sld2 (k := i + 3) (t := 1162) F dL_law_1161 hX (by omega) (by omega) hL rfl ?_
  refine z_aload_n (t := 1163) F dL_law_1162 rfl rfl rfl ?_
  refine z_iload_n (t := 1164) F dL_law_1163 rfl rfl rfl ?_
  refine z_iconst (t := 1165) F dL_law_1164 rfl ?_
  refine z_iadd (t := 1166) F dL_law_1165 rfl ?_
  refine z_sld2 (k := i + 4) (t := 1167) F dL_law_1166 hX (by omega) (by omega) hL rfl ?_
  refine z_aload_n (t := 1168) F dL_law_1167 rfl rfl rfl ?_
  refine z_iload_n (t := 1169) F dL_law_1168 rfl rfl rfl ?_
  refine z_iconst (t := 1170) F dL_law_1169 rfl ?_
  refine z_iadd (t := 1171) F dL_law_1170 rfl ?_
  refine z_sld2 (k := i + 5) (t := 1172) F dL_law_1171 hX (by omega) (by omega) hL rfl ?_
  refine z_callV (t := 1175) [vI (xs (i + 1)).toInt, vI (xs (i + 2)).toInt, vI (xs (i + 3)).toInt, vI (xs (i + 4)).toInt, vI (xs (i + 5)).toInt] F dL_law_1172 k_X9_copy v_X9_copy ml_L_135 rfl rfl rfl rfl (Nat.le_of_ble_eq_true rfl) (Nat.le_of_ble_eq_true rfl) (Nat.le_of_ble_eq_true rfl) hc (okq_of (by decide) (by decide)) sideR (agI_rfl _ _) (q_copy _ G hM bt1 rt1 lm (xs (i + 1)).toInt (xs (i + 2)).toInt (xs (i + 3)).toInt (xs (i + 4)).toInt (xs (i + 5)).toInt (j_ri _) (j_ri _) (j_ri _) (j_ri _) (j_ri _)) (fun r m' hp => ?_) rfl (fun r m' hp => ?_)
  · obtain ⟨y, rfl, im2, lm2, h2, rfl⟩ := hp
    exact okM_R hb1 hb2
  obtain ⟨y, rfl, im2, lm2, h2, rfl⟩ := hp
  show Wg _ G _ _ _ _ _ _ _ _ 1175 [some (vR 96 0), some (vR 0 0), some (vR 30 0), some (vI (i : Int))] [vI y] _
  rw [mix_R2]
  have hZ := REL_fin h2 hag hR1 h.2.1
  refine z_popI (t := 1176) F dL_law_1175 rfl ?_
  refine z_goto (t := 1265) F dL_law_1176 (by decide) ?_
  exact law_next F hN hb1 hb2 hZ

set_option maxHeartbeats 4000000 in
theorem law_c29 (Z lm : IM) (bt rt : Nat) (F : Fg M G A0 YLw) (hX : Sx M A0 ad L xs) (hL : L ≤ 3072) (hc : c ≤ 600000 ∧ s ≤ 7302250) (i : Nat) (hi : i + 6 ≤ L) (hbt : bt < 6) (hrt : rt < 6) (h : REL Z Z) (hN : Nxt M G A0 Q c s ad i) : Wg M G A0 YLw room_1 Q c s ad nA 1179 [some (vR 96 0), some (vR 0 0), some (vR 30 0), some (vI (i : Int))] [] (Z, rs bt rt, lm) := by
  refine z_aload_n (t := 1180) F dL_law_1179 rfl rfl rfl ?_
  refine z_aload_n (t := 1181) F dL_law_1180 rfl rfl rfl ?_
  refine z_iload_n (t := 1182) F dL_law_1181 rfl rfl rfl ?_
  refine z_iconst (t := 1183) F dL_law_1182 rfl ?_
  refine z_iadd (t := 1184) F dL_law_1183 rfl ?_
  refine z_sld2 (k := i + 1) (t := 1185) F dL_law_1184 hX (by omega) (by omega) hL rfl ?_
  refine z_aload_n (t := 1186) F dL_law_1185 rfl rfl rfl ?_
  refine z_iload_n (t := 1187) F dL_law_1186 rfl rfl rfl ?_
  refine z_iconst (t := 1188) F dL_law_1187 rfl ?_
  refine z_iadd (t := 1189) F dL_law_1188 rfl ?_
  refine z_sld2 (k := i + 2) (t := 1190) F dL_law_1189 hX (by omega) (by omega) hL rfl ?_
  refine z_aload_n (t := 1191) F dL_law_1190 rfl rfl rfl ?_
  refine z_iload_n (t := 1192) F dL_law_1191 rfl rfl rfl ?_
  refine z_iconst (t := 1193) F dL_law_1192 rfl ?_
  refine z_iadd (t := 1194) F dL_law_1193 rfl ?_
  refine z_sld2 (k := i + 3) (t := 1195) F dL_law_1194 hX (by omega) (by omega) hL rfl ?_
  refine z_aload_n (t := 1196) F dL_law_1195 rfl rfl rfl ?_
  refine z_iload_n (t := 1197) F dL_law_1196 rfl rfl rfl ?_
  refine z_iconst (t := 1198) F dL_law_1197 rfl ?_
  refine z_iadd (t := 1199) F dL_law_1198 rfl ?_
  refine z_sld2 (k := i + 4) (t := 1200) F dL_law_1199 hX (by omega) (by omega) hL rfl ?_
  refine z_callV (t := 1203) [vI (xs (i + 1)).toInt, vI (xs (i + 2)).toInt, vI (xs (i + 3)).toInt, vI (xs (i + 4)).toInt] F dL_law_1200 k_X8_people v_X8_people ml_L_136 rfl rfl rfl rfl (Nat.le_of_ble_eq_true rfl) (Nat.le_of_ble_eq_true rfl) (Nat.le_of_ble_eq_true rfl) hc (okq_of (by decide) (by decide)) sideCA (agI_rfl _ _) (c_X8_people _ G Z bt rt lm hbt hrt h.1 (xs (i + 1)).toInt (xs (i + 2)).toInt (xs (i + 3)).toInt (xs (i + 4)).toInt (j_ri _) (j_ri _) (j_ri _) (j_ri _)) (fun r m' hp => ?_) rfl (fun r m' hp => ?_)
  · obtain ⟨x, rfl, hx, im1, bt1, rt1, hb1, hb2, hR1, hag, rfl⟩ := hp
    exact okM_R hb1 hb2
  obtain ⟨x, rfl, hx, im1, bt1, rt1, hb1, hb2, hR1, hag, rfl⟩ := hp
  show Wg _ G _ _ _ _ _ _ _ _ 1203 [some (vR 96 0), some (vR 0 0), some (vR 30 0), some (vI (i : Int))] [vI x] _
  rw [mix_C2]
  show Wg _ G _ _ _ _ _ _ _ _ 1203 [some (vR 96 0), some (vR 0 0), some (vR 30 0), some (vI (i : Int))] [vI x] (mxC im1 Z, rs bt1 rt1, lm)
  have hM := REL_mid h hR1
  refine z_popI (t := 1204) F dL_law_1203 rfl ?_
  refine z_aload_n (t := 1205) F dL_law_1204 rfl rfl rfl ?_
  refine z_aload_n (t := 1206) F dL_law_1205 rfl rfl rfl ?_
  refine z_iload_n (t := 1207) F dL_law_1206 rfl rfl rfl ?_
  refine z_iconst (t := 1208) F dL_law_1207 rfl ?_
  refine z_iadd (t := 1209) F dL_law_1208 rfl ?_
  refine z_sld2 (k := i + 1) (t := 1210) F dL_law_1209 hX (by omega) (by omega) hL rfl ?_
  refine z_aload_n (t := 1211) F dL_law_1210 rfl rfl rfl ?_
  refine z_iload_n (t := 1212) F dL_law_1211 rfl rfl rfl ?_
  refine z_iconst (t := 1213) F dL_law_1212 rfl ?_
  refine z_iadd (t := 1214) F dL_law_1213 rfl ?_
  refine z_sld2 (k := i + 2) (t := 1215) F dL_law_1214 hX (by omega) (by omega) hL rfl ?_
  refine z_aload_n (t := 1216) F dL_law_1215 rfl rfl rfl ?_
  refine z_iload_n (t := 1217) F dL_law_1216 rfl rfl rfl ?_
  refine z_iconst (t := 1218) F dL_law_1217 rfl ?_
  refine z_iadd (t := 1219) F dL_law_1218 rfl ?_
  refine z_sld2 (k := i + 3) (t := 1220) F dL_law_1219 hX (by omega) (by omega) hL rfl ?_
  refine z_aload_n (t := 1221) F dL_law_1220 rfl rfl rfl ?_
  refine z_iload_n (t := 1222) F dL_law_1221 rfl rfl rfl ?_
  refine z_iconst (t := 1223) F dL_law_1222 rfl ?_
  refine z_iadd (t := 1224) F dL_law_1223 rfl ?_
  refine z_sld2 (k := i + 4) (t := 1225) F dL_law_1224 hX (by omega) (by omega) hL rfl ?_
  refine z_callV (t := 1228) [vI (xs (i + 1)).toInt, vI (xs (i + 2)).toInt, vI (xs (i + 3)).toInt, vI (xs (i + 4)).toInt] F dL_law_1225 k_X9_people v_X9_people ml_L_139 rfl rfl rfl rfl (Nat.le_of_ble_eq_true rfl) (Nat.le_of_ble_eq_true rfl) (Nat.le_of_ble_eq_true rfl) hc (okq_of (by decide) (by decide)) sideR (agI_rfl _ _) (q_people _ G hM bt1 rt1 lm (xs (i + 1)).toInt (xs (i + 2)).toInt (xs (i + 3)).toInt (xs (i + 4)).toInt (j_ri _) (j_ri _) (j_ri _) (j_ri _)) (fun r m' hp => ?_) rfl (fun r m' hp => ?_)
  · obtain ⟨y, rfl, im2, lm2, h2, rfl⟩ := hp
    exact okM_R hb1 hb2
  obtain ⟨y, rfl, im2, lm2, h2, rfl⟩ := hp
  show Wg _ G _ _ _ _ _ _ _ _ 1228 [some (vR 96 0), some (vR 0 0), some (vR 30 0), some (vI (i : Int))] [vI y] _
  rw [mix_R2]
  have hZ := REL_fin h2 hag hR1 h.2.1
  refine z_popI (t := 1229) F dL_law_1228 rfl ?_
  refine z_goto (t := 1265) F dL_law_1229 (by decide) ?_
  exact law_next F hN hb1 hb2 hZ

set_option maxHeartbeats 4000000 in
theorem law_c30 (Z lm : IM) (bt rt : Nat) (F : Fg M G A0 YLw) (hX : Sx M A0 ad L xs) (hL : L ≤ 3072) (hc : c ≤ 600000 ∧ s ≤ 7302250) (i : Nat) (hi : i + 6 ≤ L) (hbt : bt < 6) (hrt : rt < 6) (h : REL Z Z) (hN : Nxt M G A0 Q c s ad i) : Wg M G A0 YLw room_1 Q c s ad nA 1232 [some (vR 96 0), some (vR 0 0), some (vR 30 0), some (vI (i : Int))] [] (Z, rs bt rt, lm) := by
  refine z_aload_n (t := 1233) F dL_law_1232 rfl rfl rfl ?_
  refine z_aload_n (t := 1234) F dL_law_1233 rfl rfl rfl ?_
  refine z_iload_n (t := 1235) F dL_law_1234 rfl rfl rfl ?_
  refine z_iconst (t := 1236) F dL_law_1235 rfl ?_
  refine z_iadd (t := 1237) F dL_law_1236 rfl ?_
  refine z_sld2 (k := i + 1) (t := 1238) F dL_law_1237 hX (by omega) (by omega) hL rfl ?_
  refine z_aload_n (t := 1239) F dL_law_1238 rfl rfl rfl ?_
  refine z_iload_n (t := 1240) F dL_law_1239 rfl rfl rfl ?_
  refine z_iconst (t := 1241) F dL_law_1240 rfl ?_
  refine z_iadd (t := 1242) F dL_law_1241 rfl ?_
  refine z_sld2 (k := i + 2) (t := 1243) F dL_law_1242 hX (by omega) (by omega) hL rfl ?_
  refine z_callV (t := 1246) [vI (xs (i + 1)).toInt, vI (xs (i + 2)).toInt] F dL_law_1243 k_X8_taken v_X8_taken ml_L_140 rfl rfl rfl rfl (Nat.le_of_ble_eq_true rfl) (Nat.le_of_ble_eq_true rfl) (Nat.le_of_ble_eq_true rfl) hc (okq_of (by decide) (by decide)) sideCA (agI_rfl _ _) (c_X8_taken _ G Z bt rt lm hbt hrt h.1 (xs (i + 1)).toInt (xs (i + 2)).toInt (j_ri _) (j_ri _)) (fun r m' hp => ?_) rfl (fun r m' hp => ?_)
  · obtain ⟨x, rfl, hx, im1, bt1, rt1, hb1, hb2, hR1, hag, rfl⟩ := hp
    exact okM_R hb1 hb2
  obtain ⟨x, rfl, hx, im1, bt1, rt1, hb1, hb2, hR1, hag, rfl⟩ := hp
  show Wg _ G _ _ _ _ _ _ _ _ 1246 [some (vR 96 0), some (vR 0 0), some (vR 30 0), some (vI (i : Int))] [vI x] _
  rw [mix_C2]
  show Wg _ G _ _ _ _ _ _ _ _ 1246 [some (vR 96 0), some (vR 0 0), some (vR 30 0), some (vI (i : Int))] [vI x] (mxC im1 Z, rs bt1 rt1, lm)
  have hM := REL_mid h hR1
  refine z_aload_n (t := 1247) F dL_law_1246 rfl rfl rfl ?_
  refine z_aload_n (t := 1248) F dL_law_1247 rfl rfl rfl ?_
  refine z_iload_n (t := 1249) F dL_law_1248 rfl rfl rfl ?_
  refine z_iconst (t := 1250) F dL_law_1249 rfl ?_
  refine z_iadd (t := 1251) F dL_law_1250 rfl ?_
  refine z_sld2 (k := i + 1) (t := 1252) F dL_law_1251 hX (by omega) (by omega) hL rfl ?_
  refine z_aload_n (t := 1253) F dL_law_1252 rfl rfl rfl ?_
  refine z_iload_n (t := 1254) F dL_law_1253 rfl rfl rfl ?_
  refine z_iconst (t := 1255) F dL_law_1254 rfl ?_
  refine z_iadd (t := 1256) F dL_law_1255 rfl ?_
  refine z_sld2 (k := i + 2) (t := 1257) F dL_law_1256 hX (by omega) (by omega) hL rfl ?_
  refine z_callV (t := 1260) [vI (xs (i + 1)).toInt, vI (xs (i + 2)).toInt] F dL_law_1257 k_X9_taken v_X9_taken ml_L_143 rfl rfl rfl rfl (Nat.le_of_ble_eq_true rfl) (Nat.le_of_ble_eq_true rfl) (Nat.le_of_ble_eq_true rfl) hc (okq_of (by decide) (by decide)) sideR (agI_rfl _ _) (s_taken _ G hM bt1 rt1 lm (xs (i + 1)).toInt (xs (i + 2)).toInt (j_ri _) (j_ri _)) (fun r m' hp => ?_) rfl (fun r m' hp => ?_)
  · obtain ⟨y, rfl, im2, lm2, h2, hy, rfl⟩ := hp
    exact okM_R hb1 hb2
  obtain ⟨y, rfl, im2, lm2, h2, hy, rfl⟩ := hp
  show Wg _ G _ _ _ _ _ _ _ _ 1260 [some (vR 96 0), some (vR 0 0), some (vR 30 0), some (vI (i : Int))] [vI y, vI x] _
  rw [mix_R2]
  have hZ := REL_fin h2 hag hR1 h.2.1
  have hxy : x = y := hx.trans hy.1.symm
  refine z_same (u := 1265) F dL_law_1260 (by rw [hxy]; exact hy.2) hxy (by decide) ?_
  exact law_next F hN hb1 hb2 hZ

set_option maxHeartbeats 4000000 in
theorem law_ev (F : Fg M G A0 YLw) (hE : Ends M G A0 Q) (hX : Sx M A0 ad L xs) (hL : L ≤ 3072) (hc : c ≤ 600000 ∧ s ≤ 7302250) (d : Nat) : ∀ (i : Nat) (Z lm : IM) (bt rt : Nat), L + 6 ≤ i + d → i ≤ 3078 → bt < 6 → rt < 6 → REL Z Z → Wg M G A0 YLw room_1 Q c s ad nA 18 [some (vR 96 0), some (vR 0 0), some (vR 30 0), some (vI (i : Int))] [] (Z, rs bt rt, lm) := by
  induction d with
  | zero => exact fun i Z lm bt rt hd hi hbt hrt h => law_out F hE hX hL hc i (by omega) hi
  | succ d ih =>
    intro i Z lm bt rt hd hi hbt hrt h
    by_cases hL6 : i + 6 ≤ L
    · have hN : Nxt M G A0 Q c s ad i := fun im lm2 bt2 rt2 h1 h2 h3 => ih (i + 6) im lm2 bt2 rt2 (by omega) (by omega) h1 h2 h3
      refine z_iload_n (t := 19) F dL_law_18 rfl rfl rfl ?_
      refine z_aload_n (t := 20) F dL_law_19 rfl rfl rfl ?_
      refine z_slen2 (t := 21) F dL_law_20 hX rfl ?_
      refine z_bipush (t := 23) F dL_law_21 (by decide) rfl ?_
      refine z_isub (t := 24) F dL_law_23 rfl ?_
      refine z_icmp_gt (t := 27) (u := 1271) F dL_law_24 (by constructor <;> omega) (by constructor <;> omega) (by decide) rfl (fun h => by omega) (fun _ => ?_)
      refine z_aload_n (t := 28) F dL_law_27 rfl rfl rfl ?_
      refine z_iload_n (t := 29) F dL_law_28 rfl rfl rfl ?_
      refine z_sld2 (k := i) (t := 30) F dL_law_29 hX rfl (by omega) hL rfl ?_
      refine z_bipush (t := 32) F dL_law_30 (by decide) rfl ?_
      refine z_and31 (t := 33) F dL_law_32 rfl (fun y h0 h31 => ?_)
      rcases (show y = 0 ∨ y = 1 ∨ y = 2 ∨ y = 3 ∨ y = 4 ∨ y = 5 ∨ y = 6 ∨ y = 7 ∨ y = 8 ∨ y = 9 ∨ y = 10 ∨ y = 11 ∨ y = 12 ∨ y = 13 ∨ y = 14 ∨ y = 15 ∨ y = 16 ∨ y = 17 ∨ y = 18 ∨ y = 19 ∨ y = 20 ∨ y = 21 ∨ y = 22 ∨ y = 23 ∨ y = 24 ∨ y = 25 ∨ y = 26 ∨ y = 27 ∨ y = 28 ∨ y = 29 ∨ y = 30 ∨ y = 31 by omega) with rfl | rfl | rfl | rfl | rfl | rfl | rfl | rfl | rfl | rfl | rfl | rfl | rfl | rfl | rfl | rfl | rfl | rfl | rfl | rfl | rfl | rfl | rfl | rfl | rfl | rfl | rfl | rfl | rfl | rfl | rfl | rfl
      · exact z_tableIn (t := 172) F dL_law_33 (by constructor <;> omega) (by omega) (by omega) rfl (by decide) (law_c0 Z lm bt rt F hX hL hc i hL6 hbt hrt h hN)
      · exact z_tableIn (t := 215) F dL_law_33 (by constructor <;> omega) (by omega) (by omega) rfl (by decide) (law_c1 Z lm bt rt F hX hL hc i hL6 hbt hrt h hN)
      · exact z_tableIn (t := 248) F dL_law_33 (by constructor <;> omega) (by omega) (by omega) rfl (by decide) (law_c2 Z lm bt rt F hX hL hc i hL6 hbt hrt h hN)
      · exact z_tableIn (t := 281) F dL_law_33 (by constructor <;> omega) (by omega) (by omega) rfl (by decide) (law_c3 Z lm bt rt F hX hL hc i hL6 hbt hrt h hN)
      · exact z_tableIn (t := 334) F dL_law_33 (by constructor <;> omega) (by omega) (by omega) rfl (by decide) (law_c4 Z lm bt rt F hX hL hc i hL6 hbt hrt h hN)
      · exact z_tableIn (t := 357) F dL_law_33 (by constructor <;> omega) (by omega) (by omega) rfl (by decide) (law_c5 Z lm bt rt F hX hL hc i hL6 hbt hrt h hN)
      · exact z_tableIn (t := 370) F dL_law_33 (by constructor <;> omega) (by omega) (by omega) rfl (by decide) (law_c6 Z lm bt rt F hX hL hc i hL6 hbt hrt h hN)
      · exact z_tableIn (t := 393) F dL_law_33 (by constructor <;> omega) (by omega) (by omega) rfl (by decide) (law_c7 Z lm bt rt F hX hL hc i hL6 hbt hrt h hN)
      · exact z_tableIn (t := 436) F dL_law_33 (by constructor <;> omega) (by omega) (by omega) rfl (by decide) (law_c8 Z lm bt rt F hX hL hc i hL6 hbt hrt h hN)
      · exact z_tableIn (t := 469) F dL_law_33 (by constructor <;> omega) (by omega) (by omega) rfl (by decide) (law_c9 Z lm bt rt F hX hL hc i hL6 hbt hrt h hN)
      · exact z_tableIn (t := 502) F dL_law_33 (by constructor <;> omega) (by omega) (by omega) rfl (by decide) (law_c10 Z lm bt rt F hX hL hc i hL6 hbt hrt h hN)
      · exact z_tableIn (t := 515) F dL_law_33 (by constructor <;> omega) (by omega) (by omega) rfl (by decide) (law_c11 Z lm bt rt F hX hL hc i hL6 hbt hrt h hN)
      · exact z_tableIn (t := 548) F dL_law_33 (by constructor <;> omega) (by omega) (by omega) rfl (by decide) (law_c12 Z lm bt rt F hX hL hc i hL6 hbt hrt h hN)
      · exact z_tableIn (t := 591) F dL_law_33 (by constructor <;> omega) (by omega) (by omega) rfl (by decide) (law_c13 Z lm bt rt F hX hL hc i hL6 hbt hrt h hN)
      · exact z_tableIn (t := 634) F dL_law_33 (by constructor <;> omega) (by omega) (by omega) rfl (by decide) (law_c14 Z lm bt rt F hX hL hc i hL6 hbt hrt h hN)
      · exact z_tableIn (t := 667) F dL_law_33 (by constructor <;> omega) (by omega) (by omega) rfl (by decide) (law_c15 Z lm bt rt F hX hL hc i hL6 hbt hrt h hN)
      · exact z_tableIn (t := 710) F dL_law_33 (by constructor <;> omega) (by omega) (by omega) rfl (by decide) (law_c16 Z lm bt rt F hX hL hc i hL6 hbt hrt h hN)
      · exact z_tableIn (t := 743) F dL_law_33 (by constructor <;> omega) (by omega) (by omega) rfl (by decide) (law_c17 Z lm bt rt F hX hL hc i hL6 hbt hrt h hN)
      · exact z_tableIn (t := 776) F dL_law_33 (by constructor <;> omega) (by omega) (by omega) rfl (by decide) (law_c18 Z lm bt rt F hX hL hc i hL6 hbt hrt h hN)
      · exact z_tableIn (t := 809) F dL_law_33 (by constructor <;> omega) (by omega) (by omega) rfl (by decide) (law_c19 Z lm bt rt F hX hL hc i hL6 hbt hrt h hN)
      · exact z_tableIn (t := 852) F dL_law_33 (by constructor <;> omega) (by omega) (by omega) rfl (by decide) (law_c20 Z lm bt rt F hX hL hc i hL6 hbt hrt h hN)
      · exact z_tableIn (t := 885) F dL_law_33 (by constructor <;> omega) (by omega) (by omega) rfl (by decide) (law_c21 Z lm bt rt F hX hL hc i hL6 hbt hrt h hN)
      · exact z_tableIn (t := 928) F dL_law_33 (by constructor <;> omega) (by omega) (by omega) rfl (by decide) (law_c22 Z lm bt rt F hX hL hc i hL6 hbt hrt h hN)
      · exact z_tableIn (t := 981) F dL_law_33 (by constructor <;> omega) (by omega) (by omega) rfl (by decide) (law_c23 Z lm bt rt F hX hL hc i hL6 hbt hrt h hN)
      · exact z_tableIn (t := 994) F dL_law_33 (by constructor <;> omega) (by omega) (by omega) rfl (by decide) (law_c24 Z lm bt rt F hX hL hc i hL6 hbt hrt h hN)
      · exact z_tableIn (t := 1007) F dL_law_33 (by constructor <;> omega) (by omega) (by omega) rfl (by decide) (law_c25 Z lm bt rt F hX hL hc i hL6 hbt hrt h hN)
      · exact z_tableIn (t := 1030) F dL_law_33 (by constructor <;> omega) (by omega) (by omega) rfl (by decide) (law_c26 Z lm bt rt F hX hL hc i hL6 hbt hrt h hN)
      · exact z_tableIn (t := 1073) F dL_law_33 (by constructor <;> omega) (by omega) (by omega) rfl (by decide) (law_c27 Z lm bt rt F hX hL hc i hL6 hbt hrt h hN)
      · exact z_tableIn (t := 1116) F dL_law_33 (by constructor <;> omega) (by omega) (by omega) rfl (by decide) (law_c28 Z lm bt rt F hX hL hc i hL6 hbt hrt h hN)
      · exact z_tableIn (t := 1179) F dL_law_33 (by constructor <;> omega) (by omega) (by omega) rfl (by decide) (law_c29 Z lm bt rt F hX hL hc i hL6 hbt hrt h hN)
      · exact z_tableIn (t := 1232) F dL_law_33 (by constructor <;> omega) (by omega) (by omega) rfl (by decide) (law_c30 Z lm bt rt F hX hL hc i hL6 hbt hrt h hN)
      · exact z_tableOut (t := 1265) F dL_law_33 (by constructor <;> omega) (Or.inr (by omega)) (by decide) (law_next F hN hbt hrt h)
    · exact law_out F hE hX hL hc i (by omega) hi
end LawP
