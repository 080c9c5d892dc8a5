/-! ===== the law: a case of its switch, its loop ===== -/
theorem lw_c0 {L : Nat} {xs : Nat → Int32} {nc ns : Nat} (hL : L ≤ 3072) (hnc : nc ≤ 600000) (hns : ns ≤ 7302250) {i : Int} (h0 : 0 ≤ i) (h1 : i + 5 < L) (mem : Mem) (A : AS) (hK : KR mem A) (x4 x5 x6 x7 : AV)
    (IH : ∀ (x4 x5 x6 x7 : AV) (m : Mem) (A : AS), KR m A → LV L xs nc ns 1027 [aR 128, aR 0, aR 116, aI i, x4, x5, x6, x7] [] m) : LV L xs nc ns 156 [aR 128, aR 0, aR 116, aI i, x4, x5, x6, x7] [] mem := by
  refine v_aload_n (j := 1) (q := 157) rfl dL_law_156 rfl ?_
  refine v_aload_n (j := 0) (q := 158) rfl dL_law_157 rfl ?_
  refine v_iload_n (j := 3) (q := 159) rfl dL_law_158 rfl ?_
  refine v_iconst (q := 160) dL_law_159 rfl ?_
  refine v_iadd (q := 161) dL_law_160 rfl ?_
  refine v_sld (q := 162) hL dL_law_161 (by omega) (by omega) rfl ?_
  refine v_aload_n (j := 0) (q := 163) rfl dL_law_162 rfl ?_
  refine v_iload_n (j := 3) (q := 164) rfl dL_law_163 rfl ?_
  refine v_iconst (q := 165) dL_law_164 rfl ?_
  refine v_iadd (q := 166) dL_law_165 rfl ?_
  refine v_sld (q := 167) hL dL_law_166 (by omega) (by omega) rfl ?_
  refine v_cVI2 (q := 170) dL_law_167 mlL_13 mdX9_begin (by decide) kd_0 rfl rfl ⟨hnc, hns⟩ (by exact Nat.le_of_ble_eq_true rfl) rfl (c_X9_begin _ _ _ A hK.1.1 (sx_R _ _) (sx_R _ _)) ?_
  intro z m1 hq
  obtain ⟨hz, k1, k2⟩ := hK.cq hq
  subst hz
  refine v_aload_n (j := 2) (q := 171) rfl dL_law_170 rfl ?_
  refine v_aload_n (j := 0) (q := 172) rfl dL_law_171 rfl ?_
  refine v_iload_n (j := 3) (q := 173) rfl dL_law_172 rfl ?_
  refine v_iconst (q := 174) dL_law_173 rfl ?_
  refine v_iadd (q := 175) dL_law_174 rfl ?_
  refine v_sld (q := 176) hL dL_law_175 (by omega) (by omega) rfl ?_
  refine v_aload_n (j := 0) (q := 177) rfl dL_law_176 rfl ?_
  refine v_iload_n (j := 3) (q := 178) rfl dL_law_177 rfl ?_
  refine v_iconst (q := 179) dL_law_178 rfl ?_
  refine v_iadd (q := 180) dL_law_179 rfl ?_
  refine v_sld (q := 181) hL dL_law_180 (by omega) (by omega) rfl ?_
  refine v_cVI2 (q := 184) dL_law_181 mlL_17 mdX10_begin (by decide) kd_116 rfl rfl ⟨hnc, hns⟩ (by exact Nat.le_of_ble_eq_true rfl) rfl (c_X10_begin _ _ _ A k2.1 (sx_R _ _) (sx_R _ _)) ?_
  intro z m2 hq
  obtain ⟨hz, k3⟩ := KR.rq k1 k2 hq
  subst hz
  refine v_icmp_same (tgt := 1027) dL_law_184 (by decide) ?_
  exact IH _ _ _ _ _ _ k3
theorem lw_c1 {L : Nat} {xs : Nat → Int32} {nc ns : Nat} (hL : L ≤ 3072) (hnc : nc ≤ 600000) (hns : ns ≤ 7302250) {i : Int} (h0 : 0 ≤ i) (h1 : i + 5 < L) (mem : Mem) (A : AS) (hK : KR mem A) (x4 x5 x6 x7 : AV)
    (IH : ∀ (x4 x5 x6 x7 : AV) (m : Mem) (A : AS), KR m A → LV L xs nc ns 1027 [aR 128, aR 0, aR 116, aI i, x4, x5, x6, x7] [] m) : LV L xs nc ns 189 [aR 128, aR 0, aR 116, aI i, x4, x5, x6, x7] [] mem := by
  refine v_aload_n (j := 1) (q := 190) rfl dL_law_189 rfl ?_
  refine v_aload_n (j := 0) (q := 191) rfl dL_law_190 rfl ?_
  refine v_iload_n (j := 3) (q := 192) rfl dL_law_191 rfl ?_
  refine v_iconst (q := 193) dL_law_192 rfl ?_
  refine v_iadd (q := 194) dL_law_193 rfl ?_
  refine v_sld (q := 195) hL dL_law_194 (by omega) (by omega) rfl ?_
  refine v_aload_n (j := 0) (q := 196) rfl dL_law_195 rfl ?_
  refine v_iload_n (j := 3) (q := 197) rfl dL_law_196 rfl ?_
  refine v_iconst (q := 198) dL_law_197 rfl ?_
  refine v_iadd (q := 199) dL_law_198 rfl ?_
  refine v_sld (q := 200) hL dL_law_199 (by omega) (by omega) rfl ?_
  refine v_aload_n (j := 0) (q := 201) rfl dL_law_200 rfl ?_
  refine v_iload_n (j := 3) (q := 202) rfl dL_law_201 rfl ?_
  refine v_iconst (q := 203) dL_law_202 rfl ?_
  refine v_iadd (q := 204) dL_law_203 rfl ?_
  refine v_sld (q := 205) hL dL_law_204 (by omega) (by omega) rfl ?_
  refine v_aload_n (j := 0) (q := 206) rfl dL_law_205 rfl ?_
  refine v_iload_n (j := 3) (q := 207) rfl dL_law_206 rfl ?_
  refine v_iconst (q := 208) dL_law_207 rfl ?_
  refine v_iadd (q := 209) dL_law_208 rfl ?_
  refine v_sld (q := 210) hL dL_law_209 (by omega) (by omega) rfl ?_
  refine v_aload_n (j := 0) (q := 211) rfl dL_law_210 rfl ?_
  refine v_iload_n (j := 3) (q := 212) rfl dL_law_211 rfl ?_
  refine v_iconst (q := 213) dL_law_212 rfl ?_
  refine v_iadd (q := 214) dL_law_213 rfl ?_
  refine v_sld (q := 215) hL dL_law_214 (by omega) (by omega) rfl ?_
  refine v_cVI5 (q := 218) dL_law_215 mlL_18 mdX9_addRule (by decide) kd_0 rfl rfl ⟨hnc, hns⟩ (by exact Nat.le_of_ble_eq_true rfl) rfl (c_X9_addRule _ _ _ _ _ _ A hK.1.1 (sx_R _ _) (sx_R _ _) (sx_R _ _) (sx_R _ _) (sx_R _ _)) ?_
  intro z m1 hq
  obtain ⟨hz, k1, k2⟩ := hK.cq hq
  subst hz
  refine v_aload_n (j := 2) (q := 219) rfl dL_law_218 rfl ?_
  refine v_aload_n (j := 0) (q := 220) rfl dL_law_219 rfl ?_
  refine v_iload_n (j := 3) (q := 221) rfl dL_law_220 rfl ?_
  refine v_iconst (q := 222) dL_law_221 rfl ?_
  refine v_iadd (q := 223) dL_law_222 rfl ?_
  refine v_sld (q := 224) hL dL_law_223 (by omega) (by omega) rfl ?_
  refine v_aload_n (j := 0) (q := 225) rfl dL_law_224 rfl ?_
  refine v_iload_n (j := 3) (q := 226) rfl dL_law_225 rfl ?_
  refine v_iconst (q := 227) dL_law_226 rfl ?_
  refine v_iadd (q := 228) dL_law_227 rfl ?_
  refine v_sld (q := 229) hL dL_law_228 (by omega) (by omega) rfl ?_
  refine v_aload_n (j := 0) (q := 230) rfl dL_law_229 rfl ?_
  refine v_iload_n (j := 3) (q := 231) rfl dL_law_230 rfl ?_
  refine v_iconst (q := 232) dL_law_231 rfl ?_
  refine v_iadd (q := 233) dL_law_232 rfl ?_
  refine v_sld (q := 234) hL dL_law_233 (by omega) (by omega) rfl ?_
  refine v_aload_n (j := 0) (q := 235) rfl dL_law_234 rfl ?_
  refine v_iload_n (j := 3) (q := 236) rfl dL_law_235 rfl ?_
  refine v_iconst (q := 237) dL_law_236 rfl ?_
  refine v_iadd (q := 238) dL_law_237 rfl ?_
  refine v_sld (q := 239) hL dL_law_238 (by omega) (by omega) rfl ?_
  refine v_aload_n (j := 0) (q := 240) rfl dL_law_239 rfl ?_
  refine v_iload_n (j := 3) (q := 241) rfl dL_law_240 rfl ?_
  refine v_iconst (q := 242) dL_law_241 rfl ?_
  refine v_iadd (q := 243) dL_law_242 rfl ?_
  refine v_sld (q := 244) hL dL_law_243 (by omega) (by omega) rfl ?_
  refine v_cVI5 (q := 247) dL_law_244 mlL_22 mdX10_addRule (by decide) kd_116 rfl rfl ⟨hnc, hns⟩ (by exact Nat.le_of_ble_eq_true rfl) rfl (c_X10_addRule _ _ _ _ _ _ A k2.1 (sx_R _ _) (sx_R _ _) (sx_R _ _) (sx_R _ _) (sx_R _ _)) ?_
  intro z m2 hq
  obtain ⟨hz, k3⟩ := KR.rq k1 k2 hq
  subst hz
  refine v_icmp_same (tgt := 1027) dL_law_247 (by decide) ?_
  exact IH _ _ _ _ _ _ k3
theorem lw_c2 {L : Nat} {xs : Nat → Int32} {nc ns : Nat} (hL : L ≤ 3072) (hnc : nc ≤ 600000) (hns : ns ≤ 7302250) {i : Int} (h0 : 0 ≤ i) (h1 : i + 5 < L) (mem : Mem) (A : AS) (hK : KR mem A) (x4 x5 x6 x7 : AV)
    (IH : ∀ (x4 x5 x6 x7 : AV) (m : Mem) (A : AS), KR m A → LV L xs nc ns 1027 [aR 128, aR 0, aR 116, aI i, x4, x5, x6, x7] [] m) : LV L xs nc ns 252 [aR 128, aR 0, aR 116, aI i, x4, x5, x6, x7] [] mem := by
  refine v_aload_n (j := 1) (q := 253) rfl dL_law_252 rfl ?_
  refine v_aload_n (j := 0) (q := 254) rfl dL_law_253 rfl ?_
  refine v_iload_n (j := 3) (q := 255) rfl dL_law_254 rfl ?_
  refine v_iconst (q := 256) dL_law_255 rfl ?_
  refine v_iadd (q := 257) dL_law_256 rfl ?_
  refine v_sld (q := 258) hL dL_law_257 (by omega) (by omega) rfl ?_
  refine v_cVI1 (q := 261) dL_law_258 mlL_23 mdX9_removeRule (by decide) kd_0 rfl rfl ⟨hnc, hns⟩ (by exact Nat.le_of_ble_eq_true rfl) rfl (c_X9_removeRule _ _ A hK.1.1 (sx_R _ _)) ?_
  intro z m1 hq
  obtain ⟨hz, k1, k2⟩ := hK.cq hq
  subst hz
  refine v_aload_n (j := 2) (q := 262) rfl dL_law_261 rfl ?_
  refine v_aload_n (j := 0) (q := 263) rfl dL_law_262 rfl ?_
  refine v_iload_n (j := 3) (q := 264) rfl dL_law_263 rfl ?_
  refine v_iconst (q := 265) dL_law_264 rfl ?_
  refine v_iadd (q := 266) dL_law_265 rfl ?_
  refine v_sld (q := 267) hL dL_law_266 (by omega) (by omega) rfl ?_
  refine v_cVI1 (q := 270) dL_law_267 mlL_27 mdX10_removeRule (by decide) kd_116 rfl rfl ⟨hnc, hns⟩ (by exact Nat.le_of_ble_eq_true rfl) rfl (c_X10_removeRule _ _ A k2.1 (sx_R _ _)) ?_
  intro z m2 hq
  obtain ⟨hz, k3⟩ := KR.rq k1 k2 hq
  subst hz
  refine v_icmp_same (tgt := 1027) dL_law_270 (by decide) ?_
  exact IH _ _ _ _ _ _ k3
theorem lw_c3 {L : Nat} {xs : Nat → Int32} {nc ns : Nat} (hL : L ≤ 3072) (hnc : nc ≤ 600000) (hns : ns ≤ 7302250) {i : Int} (h0 : 0 ≤ i) (h1 : i + 5 < L) (mem : Mem) (A : AS) (hK : KR mem A) (x4 x5 x6 x7 : AV)
    (IH : ∀ (x4 x5 x6 x7 : AV) (m : Mem) (A : AS), KR m A → LV L xs nc ns 1027 [aR 128, aR 0, aR 116, aI i, x4, x5, x6, x7] [] m) : LV L xs nc ns 275 [aR 128, aR 0, aR 116, aI i, x4, x5, x6, x7] [] mem := by
  refine v_aload_n (j := 1) (q := 276) rfl dL_law_275 rfl ?_
  refine v_aload_n (j := 0) (q := 277) rfl dL_law_276 rfl ?_
  refine v_iload_n (j := 3) (q := 278) rfl dL_law_277 rfl ?_
  refine v_iconst (q := 279) dL_law_278 rfl ?_
  refine v_iadd (q := 280) dL_law_279 rfl ?_
  refine v_sld (q := 281) hL dL_law_280 (by omega) (by omega) rfl ?_
  refine v_aload_n (j := 0) (q := 282) rfl dL_law_281 rfl ?_
  refine v_iload_n (j := 3) (q := 283) rfl dL_law_282 rfl ?_
  refine v_iconst (q := 284) dL_law_283 rfl ?_
  refine v_iadd (q := 285) dL_law_284 rfl ?_
  refine v_sld (q := 286) hL dL_law_285 (by omega) (by omega) rfl ?_
  refine v_cVI2 (q := 289) dL_law_286 mlL_28 mdX9_setWeight (by decide) kd_0 rfl rfl ⟨hnc, hns⟩ (by exact Nat.le_of_ble_eq_true rfl) rfl (c_X9_setWeight _ _ _ A hK.1.1 (sx_R _ _) (sx_R _ _)) ?_
  intro z m1 hq
  obtain ⟨hz, k1, k2⟩ := hK.cq hq
  subst hz
  refine v_aload_n (j := 2) (q := 290) rfl dL_law_289 rfl ?_
  refine v_aload_n (j := 0) (q := 291) rfl dL_law_290 rfl ?_
  refine v_iload_n (j := 3) (q := 292) rfl dL_law_291 rfl ?_
  refine v_iconst (q := 293) dL_law_292 rfl ?_
  refine v_iadd (q := 294) dL_law_293 rfl ?_
  refine v_sld (q := 295) hL dL_law_294 (by omega) (by omega) rfl ?_
  refine v_aload_n (j := 0) (q := 296) rfl dL_law_295 rfl ?_
  refine v_iload_n (j := 3) (q := 297) rfl dL_law_296 rfl ?_
  refine v_iconst (q := 298) dL_law_297 rfl ?_
  refine v_iadd (q := 299) dL_law_298 rfl ?_
  refine v_sld (q := 300) hL dL_law_299 (by omega) (by omega) rfl ?_
  refine v_cVI2 (q := 303) dL_law_300 mlL_31 mdX10_setWeight (by decide) kd_116 rfl rfl ⟨hnc, hns⟩ (by exact Nat.le_of_ble_eq_true rfl) rfl (c_X10_setWeight _ _ _ A k2.1 (sx_R _ _) (sx_R _ _)) ?_
  intro z m2 hq
  obtain ⟨hz, k3⟩ := KR.rq k1 k2 hq
  subst hz
  refine v_icmp_same (tgt := 1027) dL_law_303 (by decide) ?_
  exact IH _ _ _ _ _ _ k3
theorem lw_c4 {L : Nat} {xs : Nat → Int32} {nc ns : Nat} (hL : L ≤ 3072) (hnc : nc ≤ 600000) (hns : ns ≤ 7302250) {i : Int} (h0 : 0 ≤ i) (h1 : i + 5 < L) (mem : Mem) (A : AS) (hK : KR mem A) (x4 x5 x6 x7 : AV)
    (IH : ∀ (x4 x5 x6 x7 : AV) (m : Mem) (A : AS), KR m A → LV L xs nc ns 1027 [aR 128, aR 0, aR 116, aI i, x4, x5, x6, x7] [] m) : LV L xs nc ns 308 [aR 128, aR 0, aR 116, aI i, x4, x5, x6, x7] [] mem := by
  refine v_aload_n (j := 1) (q := 309) rfl dL_law_308 rfl ?_
  refine v_aload_n (j := 0) (q := 310) rfl dL_law_309 rfl ?_
  refine v_iload_n (j := 3) (q := 311) rfl dL_law_310 rfl ?_
  refine v_iconst (q := 312) dL_law_311 rfl ?_
  refine v_iadd (q := 313) dL_law_312 rfl ?_
  refine v_sld (q := 314) hL dL_law_313 (by omega) (by omega) rfl ?_
  refine v_aload_n (j := 0) (q := 315) rfl dL_law_314 rfl ?_
  refine v_iload_n (j := 3) (q := 316) rfl dL_law_315 rfl ?_
  refine v_iconst (q := 317) dL_law_316 rfl ?_
  refine v_iadd (q := 318) dL_law_317 rfl ?_
  refine v_sld (q := 319) hL dL_law_318 (by omega) (by omega) rfl ?_
  refine v_cVI2 (q := 322) dL_law_319 mlL_32 mdX9_setStart (by decide) kd_0 rfl rfl ⟨hnc, hns⟩ (by exact Nat.le_of_ble_eq_true rfl) rfl (c_X9_setStart _ _ _ A hK.1.1 (sx_R _ _) (sx_R _ _)) ?_
  intro z m1 hq
  obtain ⟨hz, k1, k2⟩ := hK.cq hq
  subst hz
  refine v_aload_n (j := 2) (q := 323) rfl dL_law_322 rfl ?_
  refine v_aload_n (j := 0) (q := 324) rfl dL_law_323 rfl ?_
  refine v_iload_n (j := 3) (q := 325) rfl dL_law_324 rfl ?_
  refine v_iconst (q := 326) dL_law_325 rfl ?_
  refine v_iadd (q := 327) dL_law_326 rfl ?_
  refine v_sld (q := 328) hL dL_law_327 (by omega) (by omega) rfl ?_
  refine v_aload_n (j := 0) (q := 329) rfl dL_law_328 rfl ?_
  refine v_iload_n (j := 3) (q := 330) rfl dL_law_329 rfl ?_
  refine v_iconst (q := 331) dL_law_330 rfl ?_
  refine v_iadd (q := 332) dL_law_331 rfl ?_
  refine v_sld (q := 333) hL dL_law_332 (by omega) (by omega) rfl ?_
  refine v_cVI2 (q := 336) dL_law_333 mlL_35 mdX10_setStart (by decide) kd_116 rfl rfl ⟨hnc, hns⟩ (by exact Nat.le_of_ble_eq_true rfl) rfl (c_X10_setStart _ _ _ A k2.1 (sx_R _ _) (sx_R _ _)) ?_
  intro z m2 hq
  obtain ⟨hz, k3⟩ := KR.rq k1 k2 hq
  subst hz
  refine v_icmp_same (tgt := 1027) dL_law_336 (by decide) ?_
  exact IH _ _ _ _ _ _ k3
theorem lw_c5 {L : Nat} {xs : Nat → Int32} {nc ns : Nat} (hL : L ≤ 3072) (hnc : nc ≤ 600000) (hns : ns ≤ 7302250) {i : Int} (h0 : 0 ≤ i) (h1 : i + 5 < L) (mem : Mem) (A : AS) (hK : KR mem A) (x4 x5 x6 x7 : AV)
    (IH : ∀ (x4 x5 x6 x7 : AV) (m : Mem) (A : AS), KR m A → LV L xs nc ns 1027 [aR 128, aR 0, aR 116, aI i, x4, x5, x6, x7] [] m) : LV L xs nc ns 341 [aR 128, aR 0, aR 116, aI i, x4, x5, x6, x7] [] mem := by
  refine v_aload_n (j := 1) (q := 342) rfl dL_law_341 rfl ?_
  refine v_cVI0 (q := 345) dL_law_342 mlL_36 mdX9_undo (by decide) kd_0 rfl rfl ⟨hnc, hns⟩ (by exact Nat.le_of_ble_eq_true rfl) rfl (c_X9_undo _ A hK.1.1) ?_
  intro z m1 hq
  obtain ⟨hz, k1, k2⟩ := hK.cq hq
  subst hz
  refine v_aload_n (j := 2) (q := 346) rfl dL_law_345 rfl ?_
  refine v_cVI0 (q := 349) dL_law_346 mlL_40 mdX10_undo (by decide) kd_116 rfl rfl ⟨hnc, hns⟩ (by exact Nat.le_of_ble_eq_true rfl) rfl (c_X10_undo _ A k2.1) ?_
  intro z m2 hq
  obtain ⟨hz, k3⟩ := KR.rq k1 k2 hq
  subst hz
  refine v_icmp_same (tgt := 1027) dL_law_349 (by decide) ?_
  exact IH _ _ _ _ _ _ k3
theorem lw_c6 {L : Nat} {xs : Nat → Int32} {nc ns : Nat} (hL : L ≤ 3072) (hnc : nc ≤ 600000) (hns : ns ≤ 7302250) {i : Int} (h0 : 0 ≤ i) (h1 : i + 5 < L) (mem : Mem) (A : AS) (hK : KR mem A) (x4 x5 x6 x7 : AV)
    (IH : ∀ (x4 x5 x6 x7 : AV) (m : Mem) (A : AS), KR m A → LV L xs nc ns 1027 [aR 128, aR 0, aR 116, aI i, x4, x5, x6, x7] [] m) : LV L xs nc ns 354 [aR 128, aR 0, aR 116, aI i, x4, x5, x6, x7] [] mem := by
  refine v_aload_n (j := 1) (q := 355) rfl dL_law_354 rfl ?_
  refine v_aload_n (j := 0) (q := 356) rfl dL_law_355 rfl ?_
  refine v_iload_n (j := 3) (q := 357) rfl dL_law_356 rfl ?_
  refine v_iconst (q := 358) dL_law_357 rfl ?_
  refine v_iadd (q := 359) dL_law_358 rfl ?_
  refine v_sld (q := 360) hL dL_law_359 (by omega) (by omega) rfl ?_
  refine v_cVI1 (q := 363) dL_law_360 mlL_41 mdX9_told (by decide) kd_0 rfl rfl ⟨hnc, hns⟩ (by exact Nat.le_of_ble_eq_true rfl) rfl (c_X9_told _ _ A hK.1.1 (sx_R _ _)) ?_
  intro z m1 hq
  obtain ⟨hz, k1, k2⟩ := hK.cq hq
  subst hz
  refine v_aload_n (j := 2) (q := 364) rfl dL_law_363 rfl ?_
  refine v_aload_n (j := 0) (q := 365) rfl dL_law_364 rfl ?_
  refine v_iload_n (j := 3) (q := 366) rfl dL_law_365 rfl ?_
  refine v_iconst (q := 367) dL_law_366 rfl ?_
  refine v_iadd (q := 368) dL_law_367 rfl ?_
  refine v_sld (q := 369) hL dL_law_368 (by omega) (by omega) rfl ?_
  refine v_cVI1 (q := 372) dL_law_369 mlL_44 mdX10_told (by decide) kd_116 rfl rfl ⟨hnc, hns⟩ (by exact Nat.le_of_ble_eq_true rfl) rfl (c_X10_told _ _ A k2.1 (sx_R _ _)) ?_
  intro z m2 hq
  obtain ⟨hz, k3⟩ := KR.rq k1 k2 hq
  subst hz
  refine v_icmp_same (tgt := 1027) dL_law_372 (by decide) ?_
  exact IH _ _ _ _ _ _ k3
theorem lw_c7 {L : Nat} {xs : Nat → Int32} {nc ns : Nat} (hL : L ≤ 3072) (hnc : nc ≤ 600000) (hns : ns ≤ 7302250) {i : Int} (h0 : 0 ≤ i) (h1 : i + 5 < L) (mem : Mem) (A : AS) (hK : KR mem A) (x4 x5 x6 x7 : AV)
    (IH : ∀ (x4 x5 x6 x7 : AV) (m : Mem) (A : AS), KR m A → LV L xs nc ns 1027 [aR 128, aR 0, aR 116, aI i, x4, x5, x6, x7] [] m) : LV L xs nc ns 377 [aR 128, aR 0, aR 116, aI i, x4, x5, x6, x7] [] mem := by
  refine v_aload_n (j := 1) (q := 378) rfl dL_law_377 rfl ?_
  refine v_aload_n (j := 0) (q := 379) rfl dL_law_378 rfl ?_
  refine v_iload_n (j := 3) (q := 380) rfl dL_law_379 rfl ?_
  refine v_iconst (q := 381) dL_law_380 rfl ?_
  refine v_iadd (q := 382) dL_law_381 rfl ?_
  refine v_sld (q := 383) hL dL_law_382 (by omega) (by omega) rfl ?_
  refine v_aload_n (j := 0) (q := 384) rfl dL_law_383 rfl ?_
  refine v_iload_n (j := 3) (q := 385) rfl dL_law_384 rfl ?_
  refine v_iconst (q := 386) dL_law_385 rfl ?_
  refine v_iadd (q := 387) dL_law_386 rfl ?_
  refine v_sld (q := 388) hL dL_law_387 (by omega) (by omega) rfl ?_
  refine v_cVI2 (q := 391) dL_law_388 mlL_45 mdX9_rule (by decide) kd_0 rfl rfl ⟨hnc, hns⟩ (by exact Nat.le_of_ble_eq_true rfl) rfl (c_X9_rule _ _ _ A hK.1.1 (sx_R _ _) (sx_R _ _)) ?_
  intro z m1 hq
  obtain ⟨hz, k1, k2⟩ := hK.cq hq
  subst hz
  refine v_aload_n (j := 2) (q := 392) rfl dL_law_391 rfl ?_
  refine v_aload_n (j := 0) (q := 393) rfl dL_law_392 rfl ?_
  refine v_iload_n (j := 3) (q := 394) rfl dL_law_393 rfl ?_
  refine v_iconst (q := 395) dL_law_394 rfl ?_
  refine v_iadd (q := 396) dL_law_395 rfl ?_
  refine v_sld (q := 397) hL dL_law_396 (by omega) (by omega) rfl ?_
  refine v_aload_n (j := 0) (q := 398) rfl dL_law_397 rfl ?_
  refine v_iload_n (j := 3) (q := 399) rfl dL_law_398 rfl ?_
  refine v_iconst (q := 400) dL_law_399 rfl ?_
  refine v_iadd (q := 401) dL_law_400 rfl ?_
  refine v_sld (q := 402) hL dL_law_401 (by omega) (by omega) rfl ?_
  refine v_cVI2 (q := 405) dL_law_402 mlL_48 mdX10_rule (by decide) kd_116 rfl rfl ⟨hnc, hns⟩ (by exact Nat.le_of_ble_eq_true rfl) rfl (c_X10_rule _ _ _ A k2.1 (sx_R _ _) (sx_R _ _)) ?_
  intro z m2 hq
  obtain ⟨hz, k3⟩ := KR.rq k1 k2 hq
  subst hz
  refine v_icmp_same (tgt := 1027) dL_law_405 (by decide) ?_
  exact IH _ _ _ _ _ _ k3
theorem lw_c8 {L : Nat} {xs : Nat → Int32} {nc ns : Nat} (hL : L ≤ 3072) (hnc : nc ≤ 600000) (hns : ns ≤ 7302250) {i : Int} (h0 : 0 ≤ i) (h1 : i + 5 < L) (mem : Mem) (A : AS) (hK : KR mem A) (x4 x5 x6 x7 : AV)
    (IH : ∀ (x4 x5 x6 x7 : AV) (m : Mem) (A : AS), KR m A → LV L xs nc ns 1027 [aR 128, aR 0, aR 116, aI i, x4, x5, x6, x7] [] m) : LV L xs nc ns 410 [aR 128, aR 0, aR 116, aI i, x4, x5, x6, x7] [] mem := by
  refine v_aload_n (j := 1) (q := 411) rfl dL_law_410 rfl ?_
  refine v_aload_n (j := 0) (q := 412) rfl dL_law_411 rfl ?_
  refine v_iload_n (j := 3) (q := 413) rfl dL_law_412 rfl ?_
  refine v_iconst (q := 414) dL_law_413 rfl ?_
  refine v_iadd (q := 415) dL_law_414 rfl ?_
  refine v_sld (q := 416) hL dL_law_415 (by omega) (by omega) rfl ?_
  refine v_aload_n (j := 0) (q := 417) rfl dL_law_416 rfl ?_
  refine v_iload_n (j := 3) (q := 418) rfl dL_law_417 rfl ?_
  refine v_iconst (q := 419) dL_law_418 rfl ?_
  refine v_iadd (q := 420) dL_law_419 rfl ?_
  refine v_sld (q := 421) hL dL_law_420 (by omega) (by omega) rfl ?_
  refine v_cVI2 (q := 424) dL_law_421 mlL_49 mdX9_distance (by decide) kd_0 rfl rfl ⟨hnc, hns⟩ (by exact Nat.le_of_ble_eq_true rfl) rfl (c_X9_distance MO_c _ _ _ A hK.1 (sx_R _ _) (sx_R _ _)) ?_
  intro z m1 hq
  obtain ⟨hz, hq⟩ := hq
  obtain ⟨k1, k2⟩ := hK.kq hq
  subst hz
  refine v_aload_n (j := 2) (q := 425) rfl dL_law_424 rfl ?_
  refine v_aload_n (j := 0) (q := 426) rfl dL_law_425 rfl ?_
  refine v_iload_n (j := 3) (q := 427) rfl dL_law_426 rfl ?_
  refine v_iconst (q := 428) dL_law_427 rfl ?_
  refine v_iadd (q := 429) dL_law_428 rfl ?_
  refine v_sld (q := 430) hL dL_law_429 (by omega) (by omega) rfl ?_
  refine v_aload_n (j := 0) (q := 431) rfl dL_law_430 rfl ?_
  refine v_iload_n (j := 3) (q := 432) rfl dL_law_431 rfl ?_
  refine v_iconst (q := 433) dL_law_432 rfl ?_
  refine v_iadd (q := 434) dL_law_433 rfl ?_
  refine v_sld (q := 435) hL dL_law_434 (by omega) (by omega) rfl ?_
  refine v_cVI2 (q := 438) dL_law_435 mlL_52 mdX10_distance (by decide) kd_116 rfl rfl ⟨hnc, hns⟩ (by exact Nat.le_of_ble_eq_true rfl) rfl (c_X10_distance _ _ _ A k2 (sx_R _ _) (sx_R _ _)) ?_
  intro z2 m2 hq
  obtain ⟨hz2, hq⟩ := hq
  have k3 := KR.rk k1 hq
  subst hz2
  refine v_icmp_same (tgt := 1027) dL_law_438 (by decide) ?_
  exact IH _ _ _ _ _ _ k3
theorem lw_c9 {L : Nat} {xs : Nat → Int32} {nc ns : Nat} (hL : L ≤ 3072) (hnc : nc ≤ 600000) (hns : ns ≤ 7302250) {i : Int} (h0 : 0 ≤ i) (h1 : i + 5 < L) (mem : Mem) (A : AS) (hK : KR mem A) (x4 x5 x6 x7 : AV)
    (IH : ∀ (x4 x5 x6 x7 : AV) (m : Mem) (A : AS), KR m A → LV L xs nc ns 1027 [aR 128, aR 0, aR 116, aI i, x4, x5, x6, x7] [] m) : LV L xs nc ns 443 [aR 128, aR 0, aR 116, aI i, x4, x5, x6, x7] [] mem := by
  refine v_aload_n (j := 1) (q := 444) rfl dL_law_443 rfl ?_
  refine v_aload_n (j := 0) (q := 445) rfl dL_law_444 rfl ?_
  refine v_iload_n (j := 3) (q := 446) rfl dL_law_445 rfl ?_
  refine v_iconst (q := 447) dL_law_446 rfl ?_
  refine v_iadd (q := 448) dL_law_447 rfl ?_
  refine v_sld (q := 449) hL dL_law_448 (by omega) (by omega) rfl ?_
  refine v_aload_n (j := 0) (q := 450) rfl dL_law_449 rfl ?_
  refine v_iload_n (j := 3) (q := 451) rfl dL_law_450 rfl ?_
  refine v_iconst (q := 452) dL_law_451 rfl ?_
  refine v_iadd (q := 453) dL_law_452 rfl ?_
  refine v_sld (q := 454) hL dL_law_453 (by omega) (by omega) rfl ?_
  refine v_cVI2 (q := 457) dL_law_454 mlL_53 mdX9_steps (by decide) kd_0 rfl rfl ⟨hnc, hns⟩ (by exact Nat.le_of_ble_eq_true rfl) rfl (c_X9_steps MO_c _ _ _ A hK.1 (sx_R _ _) (sx_R _ _)) ?_
  intro z m1 hq
  obtain ⟨hz, hq⟩ := hq
  obtain ⟨k1, k2⟩ := hK.kq hq
  subst hz
  refine v_aload_n (j := 2) (q := 458) rfl dL_law_457 rfl ?_
  refine v_aload_n (j := 0) (q := 459) rfl dL_law_458 rfl ?_
  refine v_iload_n (j := 3) (q := 460) rfl dL_law_459 rfl ?_
  refine v_iconst (q := 461) dL_law_460 rfl ?_
  refine v_iadd (q := 462) dL_law_461 rfl ?_
  refine v_sld (q := 463) hL dL_law_462 (by omega) (by omega) rfl ?_
  refine v_aload_n (j := 0) (q := 464) rfl dL_law_463 rfl ?_
  refine v_iload_n (j := 3) (q := 465) rfl dL_law_464 rfl ?_
  refine v_iconst (q := 466) dL_law_465 rfl ?_
  refine v_iadd (q := 467) dL_law_466 rfl ?_
  refine v_sld (q := 468) hL dL_law_467 (by omega) (by omega) rfl ?_
  refine v_cVI2 (q := 471) dL_law_468 mlL_56 mdX10_steps (by decide) kd_116 rfl rfl ⟨hnc, hns⟩ (by exact Nat.le_of_ble_eq_true rfl) rfl (c_X10_steps _ _ _ A k2 (sx_R _ _) (sx_R _ _)) ?_
  intro z2 m2 hq
  obtain ⟨hz2, hq⟩ := hq
  have k3 := KR.rk k1 hq
  subst hz2
  refine v_icmp_same (tgt := 1027) dL_law_471 (by decide) ?_
  exact IH _ _ _ _ _ _ k3
theorem lw_c10 {L : Nat} {xs : Nat → Int32} {nc ns : Nat} (hL : L ≤ 3072) (hnc : nc ≤ 600000) (hns : ns ≤ 7302250) {i : Int} (h0 : 0 ≤ i) (h1 : i + 5 < L) (mem : Mem) (A : AS) (hK : KR mem A) (x4 x5 x6 x7 : AV)
    (IH : ∀ (x4 x5 x6 x7 : AV) (m : Mem) (A : AS), KR m A → LV L xs nc ns 1027 [aR 128, aR 0, aR 116, aI i, x4, x5, x6, x7] [] m) : LV L xs nc ns 476 [aR 128, aR 0, aR 116, aI i, x4, x5, x6, x7] [] mem := by
  refine v_aload_n (j := 1) (q := 477) rfl dL_law_476 rfl ?_
  refine v_aload_n (j := 0) (q := 478) rfl dL_law_477 rfl ?_
  refine v_iload_n (j := 3) (q := 479) rfl dL_law_478 rfl ?_
  refine v_iconst (q := 480) dL_law_479 rfl ?_
  refine v_iadd (q := 481) dL_law_480 rfl ?_
  refine v_sld (q := 482) hL dL_law_481 (by omega) (by omega) rfl ?_
  refine v_aload_n (j := 0) (q := 483) rfl dL_law_482 rfl ?_
  refine v_iload_n (j := 3) (q := 484) rfl dL_law_483 rfl ?_
  refine v_iconst (q := 485) dL_law_484 rfl ?_
  refine v_iadd (q := 486) dL_law_485 rfl ?_
  refine v_sld (q := 487) hL dL_law_486 (by omega) (by omega) rfl ?_
  refine v_aload_n (j := 0) (q := 488) rfl dL_law_487 rfl ?_
  refine v_iload_n (j := 3) (q := 489) rfl dL_law_488 rfl ?_
  refine v_iconst (q := 490) dL_law_489 rfl ?_
  refine v_iadd (q := 491) dL_law_490 rfl ?_
  refine v_sld (q := 492) hL dL_law_491 (by omega) (by omega) rfl ?_
  refine v_aload_n (j := 0) (q := 493) rfl dL_law_492 rfl ?_
  refine v_iload_n (j := 3) (q := 494) rfl dL_law_493 rfl ?_
  refine v_iconst (q := 495) dL_law_494 rfl ?_
  refine v_iadd (q := 496) dL_law_495 rfl ?_
  refine v_sld (q := 497) hL dL_law_496 (by omega) (by omega) rfl ?_
  refine v_cVI4 (q := 500) dL_law_497 mlL_57 mdX9_witness (by decide) kd_0 rfl rfl ⟨hnc, hns⟩ (by exact Nat.le_of_ble_eq_true rfl) rfl (c_X9_witness MO_c _ _ _ _ _ A hK.1 (sx_R _ _) (sx_R _ _) (sx_R _ _) (sx_R _ _)) ?_
  intro z m1 hq
  obtain ⟨hz, hq⟩ := hq
  obtain ⟨k1, k2⟩ := hK.kq hq
  refine v_aload_n (j := 2) (q := 501) rfl dL_law_500 rfl ?_
  refine v_aload_n (j := 0) (q := 502) rfl dL_law_501 rfl ?_
  refine v_iload_n (j := 3) (q := 503) rfl dL_law_502 rfl ?_
  refine v_iconst (q := 504) dL_law_503 rfl ?_
  refine v_iadd (q := 505) dL_law_504 rfl ?_
  refine v_sld (q := 506) hL dL_law_505 (by omega) (by omega) rfl ?_
  refine v_aload_n (j := 0) (q := 507) rfl dL_law_506 rfl ?_
  refine v_iload_n (j := 3) (q := 508) rfl dL_law_507 rfl ?_
  refine v_iconst (q := 509) dL_law_508 rfl ?_
  refine v_iadd (q := 510) dL_law_509 rfl ?_
  refine v_sld (q := 511) hL dL_law_510 (by omega) (by omega) rfl ?_
  refine v_aload_n (j := 0) (q := 512) rfl dL_law_511 rfl ?_
  refine v_iload_n (j := 3) (q := 513) rfl dL_law_512 rfl ?_
  refine v_iconst (q := 514) dL_law_513 rfl ?_
  refine v_iadd (q := 515) dL_law_514 rfl ?_
  refine v_sld (q := 516) hL dL_law_515 (by omega) (by omega) rfl ?_
  refine v_aload_n (j := 0) (q := 517) rfl dL_law_516 rfl ?_
  refine v_iload_n (j := 3) (q := 518) rfl dL_law_517 rfl ?_
  refine v_iconst (q := 519) dL_law_518 rfl ?_
  refine v_iadd (q := 520) dL_law_519 rfl ?_
  refine v_sld (q := 521) hL dL_law_520 (by omega) (by omega) rfl ?_
  refine v_cVI4 (q := 524) dL_law_521 mlL_61 mdX10_witness (by decide) kd_116 rfl rfl ⟨hnc, hns⟩ (by exact Nat.le_of_ble_eq_true rfl) rfl (c_X10_witness _ _ _ _ _ A k2 (sx_R _ _) (sx_R _ _) (sx_R _ _) (sx_R _ _)) ?_
  intro z2 m2 hq
  obtain ⟨hz2, hq⟩ := hq
  have k3 := KR.rk k1 hq
  have e := hz.det hz2
  subst e
  refine v_icmp_same (tgt := 1027) dL_law_524 (by decide) ?_
  exact IH _ _ _ _ _ _ k3
theorem lw_c11 {L : Nat} {xs : Nat → Int32} {nc ns : Nat} (hL : L ≤ 3072) (hnc : nc ≤ 600000) (hns : ns ≤ 7302250) {i : Int} (h0 : 0 ≤ i) (h1 : i + 5 < L) (mem : Mem) (A : AS) (hK : KR mem A) (x4 x5 x6 x7 : AV)
    (IH : ∀ (x4 x5 x6 x7 : AV) (m : Mem) (A : AS), KR m A → LV L xs nc ns 1027 [aR 128, aR 0, aR 116, aI i, x4, x5, x6, x7] [] m) : LV L xs nc ns 529 [aR 128, aR 0, aR 116, aI i, x4, x5, x6, x7] [] mem := by
  refine v_aload_n (j := 1) (q := 530) rfl dL_law_529 rfl ?_
  refine v_aload_n (j := 0) (q := 531) rfl dL_law_530 rfl ?_
  refine v_iload_n (j := 3) (q := 532) rfl dL_law_531 rfl ?_
  refine v_iconst (q := 533) dL_law_532 rfl ?_
  refine v_iadd (q := 534) dL_law_533 rfl ?_
  refine v_sld (q := 535) hL dL_law_534 (by omega) (by omega) rfl ?_
  refine v_aload_n (j := 0) (q := 536) rfl dL_law_535 rfl ?_
  refine v_iload_n (j := 3) (q := 537) rfl dL_law_536 rfl ?_
  refine v_iconst (q := 538) dL_law_537 rfl ?_
  refine v_iadd (q := 539) dL_law_538 rfl ?_
  refine v_sld (q := 540) hL dL_law_539 (by omega) (by omega) rfl ?_
  refine v_cVF2 (q := 543) dL_law_540 mlL_62 mdX9_mean (by decide) kd_0 rfl rfl ⟨hnc, hns⟩ (by exact Nat.le_of_ble_eq_true rfl) rfl (c_X9_mean MO_c _ _ _ A hK.1 (sx_R _ _) (sx_R _ _)) ?_
  intro z m1 hq
  obtain ⟨hz, hq⟩ := hq
  obtain ⟨k1, k2⟩ := hK.kq hq
  subst hz
  refine v_f2d (q := 544) (nn_f2d (sMean_nn hK.1.1.1.2.2.1 _ _)) dL_law_543 rfl ?_
  refine v_dst4 (q := 546) rfl dL_law_544 (by decide) rfl ?_
  refine v_aload_n (j := 2) (q := 547) rfl dL_law_546 rfl ?_
  refine v_aload_n (j := 0) (q := 548) rfl dL_law_547 rfl ?_
  refine v_iload_n (j := 3) (q := 549) rfl dL_law_548 rfl ?_
  refine v_iconst (q := 550) dL_law_549 rfl ?_
  refine v_iadd (q := 551) dL_law_550 rfl ?_
  refine v_sld (q := 552) hL dL_law_551 (by omega) (by omega) rfl ?_
  refine v_aload_n (j := 0) (q := 553) rfl dL_law_552 rfl ?_
  refine v_iload_n (j := 3) (q := 554) rfl dL_law_553 rfl ?_
  refine v_iconst (q := 555) dL_law_554 rfl ?_
  refine v_iadd (q := 556) dL_law_555 rfl ?_
  refine v_sld (q := 557) hL dL_law_556 (by omega) (by omega) rfl ?_
  refine v_cVF2 (q := 560) dL_law_557 mlL_66 mdX10_mean (by decide) kd_116 rfl rfl ⟨hnc, hns⟩ (by exact Nat.le_of_ble_eq_true rfl) rfl (c_X10_mean _ _ _ A k2 (sx_R _ _) (sx_R _ _)) ?_
  intro z2 m2 hq
  obtain ⟨hz2, hq⟩ := hq
  have k3 := KR.rk k1 hq
  subst hz2
  refine v_f2d (q := 561) (nn_f2d (sMean_nn hK.1.1.1.2.2.1 _ _)) dL_law_560 rfl ?_
  refine v_dst6 (q := 563) rfl dL_law_561 (by decide) rfl ?_
  refine v_dload (j := 4) (q := 565) rfl dL_law_563 rfl ?_
  refine v_dload (j := 6) (q := 567) rfl dL_law_565 rfl ?_
  refine v_dcmp (z := 0) (q := 568) (dcmp_same (nn_f2d (sMean_nn hK.1.1.1.2.2.1 _ _))) dL_law_567 rfl ?_
  refine v_if_eq (tgt := 589) (q := 571) dL_law_568 (by decide) rfl (by omega) (fun h568 => ?_) (fun h568 => ?_)
  · refine v_goto (q := 1027) dL_law_589 (by decide) ?_
    exact IH _ _ _ _ _ _ k3
  · exact absurd h568 (by omega)
theorem lw_c12 {L : Nat} {xs : Nat → Int32} {nc ns : Nat} (hL : L ≤ 3072) (hnc : nc ≤ 600000) (hns : ns ≤ 7302250) {i : Int} (h0 : 0 ≤ i) (h1 : i + 5 < L) (mem : Mem) (A : AS) (hK : KR mem A) (x4 x5 x6 x7 : AV)
    (IH : ∀ (x4 x5 x6 x7 : AV) (m : Mem) (A : AS), KR m A → LV L xs nc ns 1027 [aR 128, aR 0, aR 116, aI i, x4, x5, x6, x7] [] m) : LV L xs nc ns 592 [aR 128, aR 0, aR 116, aI i, x4, x5, x6, x7] [] mem := by
  refine v_aload_n (j := 1) (q := 593) rfl dL_law_592 rfl ?_
  refine v_aload_n (j := 0) (q := 594) rfl dL_law_593 rfl ?_
  refine v_iload_n (j := 3) (q := 595) rfl dL_law_594 rfl ?_
  refine v_iconst (q := 596) dL_law_595 rfl ?_
  refine v_iadd (q := 597) dL_law_596 rfl ?_
  refine v_sld (q := 598) hL dL_law_597 (by omega) (by omega) rfl ?_
  refine v_aload_n (j := 0) (q := 599) rfl dL_law_598 rfl ?_
  refine v_iload_n (j := 3) (q := 600) rfl dL_law_599 rfl ?_
  refine v_iconst (q := 601) dL_law_600 rfl ?_
  refine v_iadd (q := 602) dL_law_601 rfl ?_
  refine v_sld (q := 603) hL dL_law_602 (by omega) (by omega) rfl ?_
  refine v_cVI2 (q := 606) dL_law_603 mlL_67 mdX9_headDistance (by decide) kd_0 rfl rfl ⟨hnc, hns⟩ (by exact Nat.le_of_ble_eq_true rfl) rfl (c_X9_headDistance _ _ _ A hK.1 (sx_R _ _) (sx_R _ _)) ?_
  intro z m1 hq
  obtain ⟨hz, hq⟩ := hq
  obtain ⟨k1, k2⟩ := hK.kq hq
  subst hz
  refine v_aload_n (j := 2) (q := 607) rfl dL_law_606 rfl ?_
  refine v_aload_n (j := 0) (q := 608) rfl dL_law_607 rfl ?_
  refine v_iload_n (j := 3) (q := 609) rfl dL_law_608 rfl ?_
  refine v_iconst (q := 610) dL_law_609 rfl ?_
  refine v_iadd (q := 611) dL_law_610 rfl ?_
  refine v_sld (q := 612) hL dL_law_611 (by omega) (by omega) rfl ?_
  refine v_aload_n (j := 0) (q := 613) rfl dL_law_612 rfl ?_
  refine v_iload_n (j := 3) (q := 614) rfl dL_law_613 rfl ?_
  refine v_iconst (q := 615) dL_law_614 rfl ?_
  refine v_iadd (q := 616) dL_law_615 rfl ?_
  refine v_sld (q := 617) hL dL_law_616 (by omega) (by omega) rfl ?_
  refine v_cVI2 (q := 620) dL_law_617 mlL_70 mdX10_headDistance (by decide) kd_116 rfl rfl ⟨hnc, hns⟩ (by exact Nat.le_of_ble_eq_true rfl) rfl (c_X10_headDistance _ _ _ A k2 (sx_R _ _) (sx_R _ _)) ?_
  intro z2 m2 hq
  obtain ⟨hz2, hq⟩ := hq
  have k3 := KR.rk k1 hq
  subst hz2
  refine v_icmp_same (tgt := 1027) dL_law_620 (by decide) ?_
  exact IH _ _ _ _ _ _ k3
theorem lw_c13 {L : Nat} {xs : Nat → Int32} {nc ns : Nat} (hL : L ≤ 3072) (hnc : nc ≤ 600000) (hns : ns ≤ 7302250) {i : Int} (h0 : 0 ≤ i) (h1 : i + 5 < L) (mem : Mem) (A : AS) (hK : KR mem A) (x4 x5 x6 x7 : AV)
    (IH : ∀ (x4 x5 x6 x7 : AV) (m : Mem) (A : AS), KR m A → LV L xs nc ns 1027 [aR 128, aR 0, aR 116, aI i, x4, x5, x6, x7] [] m) : LV L xs nc ns 625 [aR 128, aR 0, aR 116, aI i, x4, x5, x6, x7] [] mem := by
  refine v_aload_n (j := 1) (q := 626) rfl dL_law_625 rfl ?_
  refine v_aload_n (j := 0) (q := 627) rfl dL_law_626 rfl ?_
  refine v_iload_n (j := 3) (q := 628) rfl dL_law_627 rfl ?_
  refine v_iconst (q := 629) dL_law_628 rfl ?_
  refine v_iadd (q := 630) dL_law_629 rfl ?_
  refine v_sld (q := 631) hL dL_law_630 (by omega) (by omega) rfl ?_
  refine v_aload_n (j := 0) (q := 632) rfl dL_law_631 rfl ?_
  refine v_iload_n (j := 3) (q := 633) rfl dL_law_632 rfl ?_
  refine v_iconst (q := 634) dL_law_633 rfl ?_
  refine v_iadd (q := 635) dL_law_634 rfl ?_
  refine v_sld (q := 636) hL dL_law_635 (by omega) (by omega) rfl ?_
  refine v_cVI2 (q := 639) dL_law_636 mlL_71 mdX9_nearestStack (by decide) kd_0 rfl rfl ⟨hnc, hns⟩ (by exact Nat.le_of_ble_eq_true rfl) rfl (c_X9_nearestStack _ _ _ A hK.1 (sx_R _ _) (sx_R _ _)) ?_
  intro z m1 hq
  obtain ⟨hz, hq⟩ := hq
  obtain ⟨k1, k2⟩ := hK.kq hq
  refine v_aload_n (j := 2) (q := 640) rfl dL_law_639 rfl ?_
  refine v_aload_n (j := 0) (q := 641) rfl dL_law_640 rfl ?_
  refine v_iload_n (j := 3) (q := 642) rfl dL_law_641 rfl ?_
  refine v_iconst (q := 643) dL_law_642 rfl ?_
  refine v_iadd (q := 644) dL_law_643 rfl ?_
  refine v_sld (q := 645) hL dL_law_644 (by omega) (by omega) rfl ?_
  refine v_aload_n (j := 0) (q := 646) rfl dL_law_645 rfl ?_
  refine v_iload_n (j := 3) (q := 647) rfl dL_law_646 rfl ?_
  refine v_iconst (q := 648) dL_law_647 rfl ?_
  refine v_iadd (q := 649) dL_law_648 rfl ?_
  refine v_sld (q := 650) hL dL_law_649 (by omega) (by omega) rfl ?_
  refine v_cVI2 (q := 653) dL_law_650 mlL_74 mdX10_nearestStack (by decide) kd_116 rfl rfl ⟨hnc, hns⟩ (by exact Nat.le_of_ble_eq_true rfl) rfl (c_X10_nearestStack _ _ _ A k2 (sx_R _ _) (sx_R _ _)) ?_
  intro z2 m2 hq
  obtain ⟨hz2, hq⟩ := hq
  have k3 := KR.rk k1 hq
  have e := hz.det hz2
  subst e
  refine v_icmp_same (tgt := 1027) dL_law_653 (by decide) ?_
  exact IH _ _ _ _ _ _ k3
theorem lw_c14 {L : Nat} {xs : Nat → Int32} {nc ns : Nat} (hL : L ≤ 3072) (hnc : nc ≤ 600000) (hns : ns ≤ 7302250) {i : Int} (h0 : 0 ≤ i) (h1 : i + 5 < L) (mem : Mem) (A : AS) (hK : KR mem A) (x4 x5 x6 x7 : AV)
    (IH : ∀ (x4 x5 x6 x7 : AV) (m : Mem) (A : AS), KR m A → LV L xs nc ns 1027 [aR 128, aR 0, aR 116, aI i, x4, x5, x6, x7] [] m) : LV L xs nc ns 658 [aR 128, aR 0, aR 116, aI i, x4, x5, x6, x7] [] mem := by
  refine v_aload_n (j := 1) (q := 659) rfl dL_law_658 rfl ?_
  refine v_cVI0 (q := 662) dL_law_659 mlL_75 mdX9_heads (by decide) kd_0 rfl rfl ⟨hnc, hns⟩ (by exact Nat.le_of_ble_eq_true rfl) rfl (c_X9_heads _ A hK.1) ?_
  intro z m1 hq
  obtain ⟨hz, hq⟩ := hq
  obtain ⟨k1, k2⟩ := hK.kq hq
  subst hz
  refine v_aload_n (j := 2) (q := 663) rfl dL_law_662 rfl ?_
  refine v_cVI0 (q := 666) dL_law_663 mlL_78 mdX10_heads (by decide) kd_116 rfl rfl ⟨hnc, hns⟩ (by exact Nat.le_of_ble_eq_true rfl) rfl (c_X10_heads _ A k2) ?_
  intro z2 m2 hq
  obtain ⟨hz2, hq⟩ := hq
  have k3 := KR.rk k1 hq
  subst hz2
  refine v_icmp_same (tgt := 1027) dL_law_666 (by decide) ?_
  exact IH _ _ _ _ _ _ k3
theorem lw_c15 {L : Nat} {xs : Nat → Int32} {nc ns : Nat} (hL : L ≤ 3072) (hnc : nc ≤ 600000) (hns : ns ≤ 7302250) {i : Int} (h0 : 0 ≤ i) (h1 : i + 5 < L) (mem : Mem) (A : AS) (hK : KR mem A) (x4 x5 x6 x7 : AV)
    (IH : ∀ (x4 x5 x6 x7 : AV) (m : Mem) (A : AS), KR m A → LV L xs nc ns 1027 [aR 128, aR 0, aR 116, aI i, x4, x5, x6, x7] [] m) : LV L xs nc ns 671 [aR 128, aR 0, aR 116, aI i, x4, x5, x6, x7] [] mem := by
  refine v_aload_n (j := 1) (q := 672) rfl dL_law_671 rfl ?_
  refine v_aload_n (j := 0) (q := 673) rfl dL_law_672 rfl ?_
  refine v_iload_n (j := 3) (q := 674) rfl dL_law_673 rfl ?_
  refine v_iconst (q := 675) dL_law_674 rfl ?_
  refine v_iadd (q := 676) dL_law_675 rfl ?_
  refine v_sld (q := 677) hL dL_law_676 (by omega) (by omega) rfl ?_
  refine v_aload_n (j := 0) (q := 678) rfl dL_law_677 rfl ?_
  refine v_iload_n (j := 3) (q := 679) rfl dL_law_678 rfl ?_
  refine v_iconst (q := 680) dL_law_679 rfl ?_
  refine v_iadd (q := 681) dL_law_680 rfl ?_
  refine v_sld (q := 682) hL dL_law_681 (by omega) (by omega) rfl ?_
  refine v_aload_n (j := 0) (q := 683) rfl dL_law_682 rfl ?_
  refine v_iload_n (j := 3) (q := 684) rfl dL_law_683 rfl ?_
  refine v_iconst (q := 685) dL_law_684 rfl ?_
  refine v_iadd (q := 686) dL_law_685 rfl ?_
  refine v_sld (q := 687) hL dL_law_686 (by omega) (by omega) rfl ?_
  refine v_cVI3 (q := 690) dL_law_687 mlL_79 mdX9_price (by decide) kd_0 rfl rfl ⟨hnc, hns⟩ (by exact Nat.le_of_ble_eq_true rfl) rfl (c_X9_price _ _ _ _ A hK.1 (sx_R _ _) (sx_R _ _) (sx_R _ _)) ?_
  intro z m1 hq
  obtain ⟨hz, hq⟩ := hq
  obtain ⟨k1, k2⟩ := hK.kq hq
  subst hz
  refine v_aload_n (j := 2) (q := 691) rfl dL_law_690 rfl ?_
  refine v_aload_n (j := 0) (q := 692) rfl dL_law_691 rfl ?_
  refine v_iload_n (j := 3) (q := 693) rfl dL_law_692 rfl ?_
  refine v_iconst (q := 694) dL_law_693 rfl ?_
  refine v_iadd (q := 695) dL_law_694 rfl ?_
  refine v_sld (q := 696) hL dL_law_695 (by omega) (by omega) rfl ?_
  refine v_aload_n (j := 0) (q := 697) rfl dL_law_696 rfl ?_
  refine v_iload_n (j := 3) (q := 698) rfl dL_law_697 rfl ?_
  refine v_iconst (q := 699) dL_law_698 rfl ?_
  refine v_iadd (q := 700) dL_law_699 rfl ?_
  refine v_sld (q := 701) hL dL_law_700 (by omega) (by omega) rfl ?_
  refine v_aload_n (j := 0) (q := 702) rfl dL_law_701 rfl ?_
  refine v_iload_n (j := 3) (q := 703) rfl dL_law_702 rfl ?_
  refine v_iconst (q := 704) dL_law_703 rfl ?_
  refine v_iadd (q := 705) dL_law_704 rfl ?_
  refine v_sld (q := 706) hL dL_law_705 (by omega) (by omega) rfl ?_
  refine v_cVI3 (q := 709) dL_law_706 mlL_83 mdX10_price (by decide) kd_116 rfl rfl ⟨hnc, hns⟩ (by exact Nat.le_of_ble_eq_true rfl) rfl (c_X10_price _ _ _ _ A k2 (sx_R _ _) (sx_R _ _) (sx_R _ _)) ?_
  intro z2 m2 hq
  obtain ⟨hz2, hq⟩ := hq
  have k3 := KR.rk k1 hq
  subst hz2
  refine v_icmp_same (tgt := 1027) dL_law_709 (by decide) ?_
  exact IH _ _ _ _ _ _ k3
theorem lw_c16 {L : Nat} {xs : Nat → Int32} {nc ns : Nat} (hL : L ≤ 3072) (hnc : nc ≤ 600000) (hns : ns ≤ 7302250) {i : Int} (h0 : 0 ≤ i) (h1 : i + 5 < L) (mem : Mem) (A : AS) (hK : KR mem A) (x4 x5 x6 x7 : AV)
    (IH : ∀ (x4 x5 x6 x7 : AV) (m : Mem) (A : AS), KR m A → LV L xs nc ns 1027 [aR 128, aR 0, aR 116, aI i, x4, x5, x6, x7] [] m) : LV L xs nc ns 714 [aR 128, aR 0, aR 116, aI i, x4, x5, x6, x7] [] mem := by
  refine v_aload_n (j := 1) (q := 715) rfl dL_law_714 rfl ?_
  refine v_aload_n (j := 0) (q := 716) rfl dL_law_715 rfl ?_
  refine v_iload_n (j := 3) (q := 717) rfl dL_law_716 rfl ?_
  refine v_iconst (q := 718) dL_law_717 rfl ?_
  refine v_iadd (q := 719) dL_law_718 rfl ?_
  refine v_sld (q := 720) hL dL_law_719 (by omega) (by omega) rfl ?_
  refine v_aload_n (j := 0) (q := 721) rfl dL_law_720 rfl ?_
  refine v_iload_n (j := 3) (q := 722) rfl dL_law_721 rfl ?_
  refine v_iconst (q := 723) dL_law_722 rfl ?_
  refine v_iadd (q := 724) dL_law_723 rfl ?_
  refine v_sld (q := 725) hL dL_law_724 (by omega) (by omega) rfl ?_
  refine v_aload_n (j := 0) (q := 726) rfl dL_law_725 rfl ?_
  refine v_iload_n (j := 3) (q := 727) rfl dL_law_726 rfl ?_
  refine v_iconst (q := 728) dL_law_727 rfl ?_
  refine v_iadd (q := 729) dL_law_728 rfl ?_
  refine v_sld (q := 730) hL dL_law_729 (by omega) (by omega) rfl ?_
  refine v_cVI3 (q := 733) dL_law_730 mlL_84 mdX9_wordPrice (by decide) kd_0 rfl rfl ⟨hnc, hns⟩ (by exact Nat.le_of_ble_eq_true rfl) rfl (c_X9_wordPrice MO_c _ _ _ _ A hK.1 (sx_R _ _) (sx_R _ _) (sx_R _ _)) ?_
  intro z m1 hq
  obtain ⟨hz, hq⟩ := hq
  obtain ⟨k1, k2⟩ := hK.kq hq
  subst hz
  refine v_aload_n (j := 2) (q := 734) rfl dL_law_733 rfl ?_
  refine v_aload_n (j := 0) (q := 735) rfl dL_law_734 rfl ?_
  refine v_iload_n (j := 3) (q := 736) rfl dL_law_735 rfl ?_
  refine v_iconst (q := 737) dL_law_736 rfl ?_
  refine v_iadd (q := 738) dL_law_737 rfl ?_
  refine v_sld (q := 739) hL dL_law_738 (by omega) (by omega) rfl ?_
  refine v_aload_n (j := 0) (q := 740) rfl dL_law_739 rfl ?_
  refine v_iload_n (j := 3) (q := 741) rfl dL_law_740 rfl ?_
  refine v_iconst (q := 742) dL_law_741 rfl ?_
  refine v_iadd (q := 743) dL_law_742 rfl ?_
  refine v_sld (q := 744) hL dL_law_743 (by omega) (by omega) rfl ?_
  refine v_aload_n (j := 0) (q := 745) rfl dL_law_744 rfl ?_
  refine v_iload_n (j := 3) (q := 746) rfl dL_law_745 rfl ?_
  refine v_iconst (q := 747) dL_law_746 rfl ?_
  refine v_iadd (q := 748) dL_law_747 rfl ?_
  refine v_sld (q := 749) hL dL_law_748 (by omega) (by omega) rfl ?_
  refine v_cVI3 (q := 752) dL_law_749 mlL_87 mdX10_wordPrice (by decide) kd_116 rfl rfl ⟨hnc, hns⟩ (by exact Nat.le_of_ble_eq_true rfl) rfl (c_X10_wordPrice _ _ _ _ A k2 (sx_R _ _) (sx_R _ _) (sx_R _ _)) ?_
  intro z2 m2 hq
  obtain ⟨hz2, hq⟩ := hq
  have k3 := KR.rk k1 hq
  subst hz2
  refine v_icmp_same (tgt := 1027) dL_law_752 (by decide) ?_
  exact IH _ _ _ _ _ _ k3
theorem lw_c17 {L : Nat} {xs : Nat → Int32} {nc ns : Nat} (hL : L ≤ 3072) (hnc : nc ≤ 600000) (hns : ns ≤ 7302250) {i : Int} (h0 : 0 ≤ i) (h1 : i + 5 < L) (mem : Mem) (A : AS) (hK : KR mem A) (x4 x5 x6 x7 : AV)
    (IH : ∀ (x4 x5 x6 x7 : AV) (m : Mem) (A : AS), KR m A → LV L xs nc ns 1027 [aR 128, aR 0, aR 116, aI i, x4, x5, x6, x7] [] m) : LV L xs nc ns 757 [aR 128, aR 0, aR 116, aI i, x4, x5, x6, x7] [] mem := by
  refine v_aload_n (j := 1) (q := 758) rfl dL_law_757 rfl ?_
  refine v_cVI0 (q := 761) dL_law_758 mlL_88 mdX9_arcs (by decide) kd_0 rfl rfl ⟨hnc, hns⟩ (by exact Nat.le_of_ble_eq_true rfl) rfl (c_X9_arcs _ A hK.1) ?_
  intro z m1 hq
  obtain ⟨hz, hq⟩ := hq
  obtain ⟨k1, k2⟩ := hK.kq hq
  subst hz
  refine v_aload_n (j := 2) (q := 762) rfl dL_law_761 rfl ?_
  refine v_cVI0 (q := 765) dL_law_762 mlL_91 mdX10_arcs (by decide) kd_116 rfl rfl ⟨hnc, hns⟩ (by exact Nat.le_of_ble_eq_true rfl) rfl (c_X10_arcs _ A k2) ?_
  intro z2 m2 hq
  obtain ⟨hz2, hq⟩ := hq
  have k3 := KR.rk k1 hq
  subst hz2
  refine v_icmp_same (tgt := 1027) dL_law_765 (by decide) ?_
  exact IH _ _ _ _ _ _ k3
theorem lw_c18 {L : Nat} {xs : Nat → Int32} {nc ns : Nat} (hL : L ≤ 3072) (hnc : nc ≤ 600000) (hns : ns ≤ 7302250) {i : Int} (h0 : 0 ≤ i) (h1 : i + 5 < L) (mem : Mem) (A : AS) (hK : KR mem A) (x4 x5 x6 x7 : AV)
    (IH : ∀ (x4 x5 x6 x7 : AV) (m : Mem) (A : AS), KR m A → LV L xs nc ns 1027 [aR 128, aR 0, aR 116, aI i, x4, x5, x6, x7] [] m) : LV L xs nc ns 770 [aR 128, aR 0, aR 116, aI i, x4, x5, x6, x7] [] mem := by
  refine v_aload_n (j := 1) (q := 771) rfl dL_law_770 rfl ?_
  refine v_aload_n (j := 0) (q := 772) rfl dL_law_771 rfl ?_
  refine v_iload_n (j := 3) (q := 773) rfl dL_law_772 rfl ?_
  refine v_iconst (q := 774) dL_law_773 rfl ?_
  refine v_iadd (q := 775) dL_law_774 rfl ?_
  refine v_sld (q := 776) hL dL_law_775 (by omega) (by omega) rfl ?_
  refine v_aload_n (j := 0) (q := 777) rfl dL_law_776 rfl ?_
  refine v_iload_n (j := 3) (q := 778) rfl dL_law_777 rfl ?_
  refine v_iconst (q := 779) dL_law_778 rfl ?_
  refine v_iadd (q := 780) dL_law_779 rfl ?_
  refine v_sld (q := 781) hL dL_law_780 (by omega) (by omega) rfl ?_
  refine v_cVI2 (q := 784) dL_law_781 mlL_92 mdX9_arc (by decide) kd_0 rfl rfl ⟨hnc, hns⟩ (by exact Nat.le_of_ble_eq_true rfl) rfl (c_X9_arc _ _ _ A hK.1 (sx_R _ _) (sx_R _ _)) ?_
  intro z m1 hq
  obtain ⟨hz, hq⟩ := hq
  obtain ⟨k1, k2⟩ := hK.kq hq
  refine v_aload_n (j := 2) (q := 785) rfl dL_law_784 rfl ?_
  refine v_aload_n (j := 0) (q := 786) rfl dL_law_785 rfl ?_
  refine v_iload_n (j := 3) (q := 787) rfl dL_law_786 rfl ?_
  refine v_iconst (q := 788) dL_law_787 rfl ?_
  refine v_iadd (q := 789) dL_law_788 rfl ?_
  refine v_sld (q := 790) hL dL_law_789 (by omega) (by omega) rfl ?_
  refine v_aload_n (j := 0) (q := 791) rfl dL_law_790 rfl ?_
  refine v_iload_n (j := 3) (q := 792) rfl dL_law_791 rfl ?_
  refine v_iconst (q := 793) dL_law_792 rfl ?_
  refine v_iadd (q := 794) dL_law_793 rfl ?_
  refine v_sld (q := 795) hL dL_law_794 (by omega) (by omega) rfl ?_
  refine v_cVI2 (q := 798) dL_law_795 mlL_95 mdX10_arc (by decide) kd_116 rfl rfl ⟨hnc, hns⟩ (by exact Nat.le_of_ble_eq_true rfl) rfl (c_X10_arc _ _ _ A k2 (sx_R _ _) (sx_R _ _)) ?_
  intro z2 m2 hq
  obtain ⟨hz2, hq⟩ := hq
  have k3 := KR.rk k1 hq
  have e := hz.det hz2
  subst e
  refine v_icmp_same (tgt := 1027) dL_law_798 (by decide) ?_
  exact IH _ _ _ _ _ _ k3
theorem lw_c19 {L : Nat} {xs : Nat → Int32} {nc ns : Nat} (hL : L ≤ 3072) (hnc : nc ≤ 600000) (hns : ns ≤ 7302250) {i : Int} (h0 : 0 ≤ i) (h1 : i + 5 < L) (mem : Mem) (A : AS) (hK : KR mem A) (x4 x5 x6 x7 : AV)
    (IH : ∀ (x4 x5 x6 x7 : AV) (m : Mem) (A : AS), KR m A → LV L xs nc ns 1027 [aR 128, aR 0, aR 116, aI i, x4, x5, x6, x7] [] m) : LV L xs nc ns 803 [aR 128, aR 0, aR 116, aI i, x4, x5, x6, x7] [] mem := by
  refine v_aload_n (j := 1) (q := 804) rfl dL_law_803 rfl ?_
  refine v_aload_n (j := 0) (q := 805) rfl dL_law_804 rfl ?_
  refine v_iload_n (j := 3) (q := 806) rfl dL_law_805 rfl ?_
  refine v_iconst (q := 807) dL_law_806 rfl ?_
  refine v_iadd (q := 808) dL_law_807 rfl ?_
  refine v_sld (q := 809) hL dL_law_808 (by omega) (by omega) rfl ?_
  refine v_aload_n (j := 0) (q := 810) rfl dL_law_809 rfl ?_
  refine v_iload_n (j := 3) (q := 811) rfl dL_law_810 rfl ?_
  refine v_iconst (q := 812) dL_law_811 rfl ?_
  refine v_iadd (q := 813) dL_law_812 rfl ?_
  refine v_sld (q := 814) hL dL_law_813 (by omega) (by omega) rfl ?_
  refine v_aload_n (j := 0) (q := 815) rfl dL_law_814 rfl ?_
  refine v_iload_n (j := 3) (q := 816) rfl dL_law_815 rfl ?_
  refine v_iconst (q := 817) dL_law_816 rfl ?_
  refine v_iadd (q := 818) dL_law_817 rfl ?_
  refine v_sld (q := 819) hL dL_law_818 (by omega) (by omega) rfl ?_
  refine v_cVI3 (q := 822) dL_law_819 mlL_96 mdX9_arcWeight (by decide) kd_0 rfl rfl ⟨hnc, hns⟩ (by exact Nat.le_of_ble_eq_true rfl) rfl (c_X9_arcWeight _ _ _ _ A hK.1 (sx_R _ _) (sx_R _ _) (sx_R _ _)) ?_
  intro z m1 hq
  obtain ⟨hz, hq⟩ := hq
  obtain ⟨k1, k2⟩ := hK.kq hq
  subst hz
  refine v_aload_n (j := 2) (q := 823) rfl dL_law_822 rfl ?_
  refine v_aload_n (j := 0) (q := 824) rfl dL_law_823 rfl ?_
  refine v_iload_n (j := 3) (q := 825) rfl dL_law_824 rfl ?_
  refine v_iconst (q := 826) dL_law_825 rfl ?_
  refine v_iadd (q := 827) dL_law_826 rfl ?_
  refine v_sld (q := 828) hL dL_law_827 (by omega) (by omega) rfl ?_
  refine v_aload_n (j := 0) (q := 829) rfl dL_law_828 rfl ?_
  refine v_iload_n (j := 3) (q := 830) rfl dL_law_829 rfl ?_
  refine v_iconst (q := 831) dL_law_830 rfl ?_
  refine v_iadd (q := 832) dL_law_831 rfl ?_
  refine v_sld (q := 833) hL dL_law_832 (by omega) (by omega) rfl ?_
  refine v_aload_n (j := 0) (q := 834) rfl dL_law_833 rfl ?_
  refine v_iload_n (j := 3) (q := 835) rfl dL_law_834 rfl ?_
  refine v_iconst (q := 836) dL_law_835 rfl ?_
  refine v_iadd (q := 837) dL_law_836 rfl ?_
  refine v_sld (q := 838) hL dL_law_837 (by omega) (by omega) rfl ?_
  refine v_cVI3 (q := 841) dL_law_838 mlL_99 mdX10_arcWeight (by decide) kd_116 rfl rfl ⟨hnc, hns⟩ (by exact Nat.le_of_ble_eq_true rfl) rfl (c_X10_arcWeight _ _ _ _ A k2 (sx_R _ _) (sx_R _ _) (sx_R _ _)) ?_
  intro z2 m2 hq
  obtain ⟨hz2, hq⟩ := hq
  have k3 := KR.rk k1 hq
  subst hz2
  refine v_icmp_same (tgt := 1027) dL_law_841 (by decide) ?_
  exact IH _ _ _ _ _ _ k3
theorem lw_c20 {L : Nat} {xs : Nat → Int32} {nc ns : Nat} (hL : L ≤ 3072) (hnc : nc ≤ 600000) (hns : ns ≤ 7302250) {i : Int} (h0 : 0 ≤ i) (h1 : i + 5 < L) (mem : Mem) (A : AS) (hK : KR mem A) (x4 x5 x6 x7 : AV)
    (IH : ∀ (x4 x5 x6 x7 : AV) (m : Mem) (A : AS), KR m A → LV L xs nc ns 1027 [aR 128, aR 0, aR 116, aI i, x4, x5, x6, x7] [] m) : LV L xs nc ns 846 [aR 128, aR 0, aR 116, aI i, x4, x5, x6, x7] [] mem := by
  refine v_aload_n (j := 1) (q := 847) rfl dL_law_846 rfl ?_
  refine v_aload_n (j := 0) (q := 848) rfl dL_law_847 rfl ?_
  refine v_iload_n (j := 3) (q := 849) rfl dL_law_848 rfl ?_
  refine v_iconst (q := 850) dL_law_849 rfl ?_
  refine v_iadd (q := 851) dL_law_850 rfl ?_
  refine v_sld (q := 852) hL dL_law_851 (by omega) (by omega) rfl ?_
  refine v_aload_n (j := 0) (q := 853) rfl dL_law_852 rfl ?_
  refine v_iload_n (j := 3) (q := 854) rfl dL_law_853 rfl ?_
  refine v_iconst (q := 855) dL_law_854 rfl ?_
  refine v_iadd (q := 856) dL_law_855 rfl ?_
  refine v_sld (q := 857) hL dL_law_856 (by omega) (by omega) rfl ?_
  refine v_aload_n (j := 0) (q := 858) rfl dL_law_857 rfl ?_
  refine v_iload_n (j := 3) (q := 859) rfl dL_law_858 rfl ?_
  refine v_iconst (q := 860) dL_law_859 rfl ?_
  refine v_iadd (q := 861) dL_law_860 rfl ?_
  refine v_sld (q := 862) hL dL_law_861 (by omega) (by omega) rfl ?_
  refine v_cVI3 (q := 865) dL_law_862 mlL_100 mdX9_distanceWithout (by decide) kd_0 rfl rfl ⟨hnc, hns⟩ (by exact Nat.le_of_ble_eq_true rfl) rfl (c_X9_distanceWithout MO_c _ _ _ _ A hK.1 (sx_R _ _) (sx_R _ _) (sx_R _ _)) ?_
  intro z m1 hq
  obtain ⟨hz, hq⟩ := hq
  obtain ⟨k1, k2⟩ := hK.kq hq
  subst hz
  refine v_aload_n (j := 2) (q := 866) rfl dL_law_865 rfl ?_
  refine v_aload_n (j := 0) (q := 867) rfl dL_law_866 rfl ?_
  refine v_iload_n (j := 3) (q := 868) rfl dL_law_867 rfl ?_
  refine v_iconst (q := 869) dL_law_868 rfl ?_
  refine v_iadd (q := 870) dL_law_869 rfl ?_
  refine v_sld (q := 871) hL dL_law_870 (by omega) (by omega) rfl ?_
  refine v_aload_n (j := 0) (q := 872) rfl dL_law_871 rfl ?_
  refine v_iload_n (j := 3) (q := 873) rfl dL_law_872 rfl ?_
  refine v_iconst (q := 874) dL_law_873 rfl ?_
  refine v_iadd (q := 875) dL_law_874 rfl ?_
  refine v_sld (q := 876) hL dL_law_875 (by omega) (by omega) rfl ?_
  refine v_aload_n (j := 0) (q := 877) rfl dL_law_876 rfl ?_
  refine v_iload_n (j := 3) (q := 878) rfl dL_law_877 rfl ?_
  refine v_iconst (q := 879) dL_law_878 rfl ?_
  refine v_iadd (q := 880) dL_law_879 rfl ?_
  refine v_sld (q := 881) hL dL_law_880 (by omega) (by omega) rfl ?_
  refine v_cVI3 (q := 884) dL_law_881 mlL_103 mdX10_distanceWithout (by decide) kd_116 rfl rfl ⟨hnc, hns⟩ (by exact Nat.le_of_ble_eq_true rfl) rfl (c_X10_distanceWithout _ _ _ _ A k2 (sx_R _ _) (sx_R _ _) (sx_R _ _)) ?_
  intro z2 m2 hq
  obtain ⟨hz2, hq⟩ := hq
  have k3 := KR.rk k1 hq
  subst hz2
  refine v_icmp_same (tgt := 1027) dL_law_884 (by decide) ?_
  exact IH _ _ _ _ _ _ k3
theorem lw_c21 {L : Nat} {xs : Nat → Int32} {nc ns : Nat} (hL : L ≤ 3072) (hnc : nc ≤ 600000) (hns : ns ≤ 7302250) {i : Int} (h0 : 0 ≤ i) (h1 : i + 5 < L) (mem : Mem) (A : AS) (hK : KR mem A) (x4 x5 x6 x7 : AV)
    (IH : ∀ (x4 x5 x6 x7 : AV) (m : Mem) (A : AS), KR m A → LV L xs nc ns 1027 [aR 128, aR 0, aR 116, aI i, x4, x5, x6, x7] [] m) : LV L xs nc ns 889 [aR 128, aR 0, aR 116, aI i, x4, x5, x6, x7] [] mem := by
  refine v_aload_n (j := 1) (q := 890) rfl dL_law_889 rfl ?_
  refine v_aload_n (j := 0) (q := 891) rfl dL_law_890 rfl ?_
  refine v_iload_n (j := 3) (q := 892) rfl dL_law_891 rfl ?_
  refine v_iconst (q := 893) dL_law_892 rfl ?_
  refine v_iadd (q := 894) dL_law_893 rfl ?_
  refine v_sld (q := 895) hL dL_law_894 (by omega) (by omega) rfl ?_
  refine v_aload_n (j := 0) (q := 896) rfl dL_law_895 rfl ?_
  refine v_iload_n (j := 3) (q := 897) rfl dL_law_896 rfl ?_
  refine v_iconst (q := 898) dL_law_897 rfl ?_
  refine v_iadd (q := 899) dL_law_898 rfl ?_
  refine v_sld (q := 900) hL dL_law_899 (by omega) (by omega) rfl ?_
  refine v_cVI2 (q := 903) dL_law_900 mlL_104 mdX9_critical (by decide) kd_0 rfl rfl ⟨hnc, hns⟩ (by exact Nat.le_of_ble_eq_true rfl) rfl (c_X9_critical MO_c _ _ _ A hK.1 (sx_R _ _) (sx_R _ _)) ?_
  intro z m1 hq
  obtain ⟨hz, hq⟩ := hq
  obtain ⟨k1, k2⟩ := hK.kq hq
  subst hz
  refine v_aload_n (j := 2) (q := 904) rfl dL_law_903 rfl ?_
  refine v_aload_n (j := 0) (q := 905) rfl dL_law_904 rfl ?_
  refine v_iload_n (j := 3) (q := 906) rfl dL_law_905 rfl ?_
  refine v_iconst (q := 907) dL_law_906 rfl ?_
  refine v_iadd (q := 908) dL_law_907 rfl ?_
  refine v_sld (q := 909) hL dL_law_908 (by omega) (by omega) rfl ?_
  refine v_aload_n (j := 0) (q := 910) rfl dL_law_909 rfl ?_
  refine v_iload_n (j := 3) (q := 911) rfl dL_law_910 rfl ?_
  refine v_iconst (q := 912) dL_law_911 rfl ?_
  refine v_iadd (q := 913) dL_law_912 rfl ?_
  refine v_sld (q := 914) hL dL_law_913 (by omega) (by omega) rfl ?_
  refine v_cVI2 (q := 917) dL_law_914 mlL_107 mdX10_critical (by decide) kd_116 rfl rfl ⟨hnc, hns⟩ (by exact Nat.le_of_ble_eq_true rfl) rfl (c_X10_critical _ _ _ A k2 (sx_R _ _) (sx_R _ _)) ?_
  intro z2 m2 hq
  obtain ⟨hz2, hq⟩ := hq
  have k3 := KR.rk k1 hq
  subst hz2
  refine v_icmp_same (tgt := 1027) dL_law_917 (by decide) ?_
  exact IH _ _ _ _ _ _ k3
theorem lw_c22 {L : Nat} {xs : Nat → Int32} {nc ns : Nat} (hL : L ≤ 3072) (hnc : nc ≤ 600000) (hns : ns ≤ 7302250) {i : Int} (h0 : 0 ≤ i) (h1 : i + 5 < L) (mem : Mem) (A : AS) (hK : KR mem A) (x4 x5 x6 x7 : AV)
    (IH : ∀ (x4 x5 x6 x7 : AV) (m : Mem) (A : AS), KR m A → LV L xs nc ns 1027 [aR 128, aR 0, aR 116, aI i, x4, x5, x6, x7] [] m) : LV L xs nc ns 922 [aR 128, aR 0, aR 116, aI i, x4, x5, x6, x7] [] mem := by
  refine v_aload_n (j := 1) (q := 923) rfl dL_law_922 rfl ?_
  refine v_aload_n (j := 0) (q := 924) rfl dL_law_923 rfl ?_
  refine v_iload_n (j := 3) (q := 925) rfl dL_law_924 rfl ?_
  refine v_iconst (q := 926) dL_law_925 rfl ?_
  refine v_iadd (q := 927) dL_law_926 rfl ?_
  refine v_sld (q := 928) hL dL_law_927 (by omega) (by omega) rfl ?_
  refine v_aload_n (j := 0) (q := 929) rfl dL_law_928 rfl ?_
  refine v_iload_n (j := 3) (q := 930) rfl dL_law_929 rfl ?_
  refine v_iconst (q := 931) dL_law_930 rfl ?_
  refine v_iadd (q := 932) dL_law_931 rfl ?_
  refine v_sld (q := 933) hL dL_law_932 (by omega) (by omega) rfl ?_
  refine v_aload_n (j := 0) (q := 934) rfl dL_law_933 rfl ?_
  refine v_iload_n (j := 3) (q := 935) rfl dL_law_934 rfl ?_
  refine v_iconst (q := 936) dL_law_935 rfl ?_
  refine v_iadd (q := 937) dL_law_936 rfl ?_
  refine v_sld (q := 938) hL dL_law_937 (by omega) (by omega) rfl ?_
  refine v_cVI3 (q := 941) dL_law_938 mlL_108 mdX9_tolerance (by decide) kd_0 rfl rfl ⟨hnc, hns⟩ (by exact Nat.le_of_ble_eq_true rfl) rfl (c_X9_tolerance MO_c _ _ _ _ A hK.1 (sx_R _ _) (sx_R _ _) (sx_R _ _)) ?_
  intro z m1 hq
  obtain ⟨hz, hq⟩ := hq
  obtain ⟨k1, k2⟩ := hK.kq hq
  subst hz
  refine v_aload_n (j := 2) (q := 942) rfl dL_law_941 rfl ?_
  refine v_aload_n (j := 0) (q := 943) rfl dL_law_942 rfl ?_
  refine v_iload_n (j := 3) (q := 944) rfl dL_law_943 rfl ?_
  refine v_iconst (q := 945) dL_law_944 rfl ?_
  refine v_iadd (q := 946) dL_law_945 rfl ?_
  refine v_sld (q := 947) hL dL_law_946 (by omega) (by omega) rfl ?_
  refine v_aload_n (j := 0) (q := 948) rfl dL_law_947 rfl ?_
  refine v_iload_n (j := 3) (q := 949) rfl dL_law_948 rfl ?_
  refine v_iconst (q := 950) dL_law_949 rfl ?_
  refine v_iadd (q := 951) dL_law_950 rfl ?_
  refine v_sld (q := 952) hL dL_law_951 (by omega) (by omega) rfl ?_
  refine v_aload_n (j := 0) (q := 953) rfl dL_law_952 rfl ?_
  refine v_iload_n (j := 3) (q := 954) rfl dL_law_953 rfl ?_
  refine v_iconst (q := 955) dL_law_954 rfl ?_
  refine v_iadd (q := 956) dL_law_955 rfl ?_
  refine v_sld (q := 957) hL dL_law_956 (by omega) (by omega) rfl ?_
  refine v_cVI3 (q := 960) dL_law_957 mlL_111 mdX10_tolerance (by decide) kd_116 rfl rfl ⟨hnc, hns⟩ (by exact Nat.le_of_ble_eq_true rfl) rfl (c_X10_tolerance _ _ _ _ A k2 (sx_R _ _) (sx_R _ _) (sx_R _ _)) ?_
  intro z2 m2 hq
  obtain ⟨hz2, hq⟩ := hq
  have k3 := KR.rk k1 hq
  subst hz2
  refine v_icmp_same (tgt := 1027) dL_law_960 (by decide) ?_
  exact IH _ _ _ _ _ _ k3
theorem lw_c23 {L : Nat} {xs : Nat → Int32} {nc ns : Nat} (hL : L ≤ 3072) (hnc : nc ≤ 600000) (hns : ns ≤ 7302250) {i : Int} (h0 : 0 ≤ i) (h1 : i + 5 < L) (mem : Mem) (A : AS) (hK : KR mem A) (x4 x5 x6 x7 : AV)
    (IH : ∀ (x4 x5 x6 x7 : AV) (m : Mem) (A : AS), KR m A → LV L xs nc ns 1027 [aR 128, aR 0, aR 116, aI i, x4, x5, x6, x7] [] m) : LV L xs nc ns 965 [aR 128, aR 0, aR 116, aI i, x4, x5, x6, x7] [] mem := by
  refine v_aload_n (j := 1) (q := 966) rfl dL_law_965 rfl ?_
  refine v_aload_n (j := 0) (q := 967) rfl dL_law_966 rfl ?_
  refine v_iload_n (j := 3) (q := 968) rfl dL_law_967 rfl ?_
  refine v_iconst (q := 969) dL_law_968 rfl ?_
  refine v_iadd (q := 970) dL_law_969 rfl ?_
  refine v_sld (q := 971) hL dL_law_970 (by omega) (by omega) rfl ?_
  refine v_cVI1 (q := 974) dL_law_971 mlL_112 mdX9_write (by decide) kd_0 rfl rfl ⟨hnc, hns⟩ (by exact Nat.le_of_ble_eq_true rfl) rfl (c_X9_write _ _ A hK.1.1 (sx_R _ _)) ?_
  intro z m1 hq
  obtain ⟨hz, k1, k2⟩ := hK.cq hq
  subst hz
  refine v_aload_n (j := 2) (q := 975) rfl dL_law_974 rfl ?_
  refine v_aload_n (j := 0) (q := 976) rfl dL_law_975 rfl ?_
  refine v_iload_n (j := 3) (q := 977) rfl dL_law_976 rfl ?_
  refine v_iconst (q := 978) dL_law_977 rfl ?_
  refine v_iadd (q := 979) dL_law_978 rfl ?_
  refine v_sld (q := 980) hL dL_law_979 (by omega) (by omega) rfl ?_
  refine v_cVI1 (q := 983) dL_law_980 mlL_115 mdX10_write (by decide) kd_116 rfl rfl ⟨hnc, hns⟩ (by exact Nat.le_of_ble_eq_true rfl) rfl (c_X10_write _ _ A k2.1 (sx_R _ _)) ?_
  intro z m2 hq
  obtain ⟨hz, k3⟩ := KR.rq k1 k2 hq
  subst hz
  refine v_icmp_same (tgt := 1027) dL_law_983 (by decide) ?_
  exact IH _ _ _ _ _ _ k3
theorem lw_c24 {L : Nat} {xs : Nat → Int32} {nc ns : Nat} (hL : L ≤ 3072) (hnc : nc ≤ 600000) (hns : ns ≤ 7302250) {i : Int} (h0 : 0 ≤ i) (h1 : i + 5 < L) (mem : Mem) (A : AS) (hK : KR mem A) (x4 x5 x6 x7 : AV)
    (IH : ∀ (x4 x5 x6 x7 : AV) (m : Mem) (A : AS), KR m A → LV L xs nc ns 1027 [aR 128, aR 0, aR 116, aI i, x4, x5, x6, x7] [] m) : LV L xs nc ns 988 [aR 128, aR 0, aR 116, aI i, x4, x5, x6, x7] [] mem := by
  refine v_aload_n (j := 1) (q := 989) rfl dL_law_988 rfl ?_
  refine v_cVI0 (q := 992) dL_law_989 mlL_116 mdX9_wipe (by decide) kd_0 rfl rfl ⟨hnc, hns⟩ (by exact Nat.le_of_ble_eq_true rfl) rfl (c_X9_wipe _ A hK.1.1) ?_
  intro z m1 hq
  obtain ⟨hz, k1, k2⟩ := hK.cq hq
  subst hz
  refine v_aload_n (j := 2) (q := 993) rfl dL_law_992 rfl ?_
  refine v_cVI0 (q := 996) dL_law_993 mlL_119 mdX10_wipe (by decide) kd_116 rfl rfl ⟨hnc, hns⟩ (by exact Nat.le_of_ble_eq_true rfl) rfl (c_X10_wipe _ A k2.1) ?_
  intro z m2 hq
  obtain ⟨hz, k3⟩ := KR.rq k1 k2 hq
  subst hz
  refine v_icmp_same (tgt := 1027) dL_law_996 (by decide) ?_
  exact IH _ _ _ _ _ _ k3
theorem lw_c25 {L : Nat} {xs : Nat → Int32} {nc ns : Nat} (hL : L ≤ 3072) (hnc : nc ≤ 600000) (hns : ns ≤ 7302250) {i : Int} (h0 : 0 ≤ i) (h1 : i + 5 < L) (mem : Mem) (A : AS) (hK : KR mem A) (x4 x5 x6 x7 : AV)
    (IH : ∀ (x4 x5 x6 x7 : AV) (m : Mem) (A : AS), KR m A → LV L xs nc ns 1027 [aR 128, aR 0, aR 116, aI i, x4, x5, x6, x7] [] m) : LV L xs nc ns 1001 [aR 128, aR 0, aR 116, aI i, x4, x5, x6, x7] [] mem := by
  refine v_aload_n (j := 1) (q := 1002) rfl dL_law_1001 rfl ?_
  refine v_cVI0 (q := 1005) dL_law_1002 mlL_120 mdX9_fault (by decide) kd_0 rfl rfl ⟨hnc, hns⟩ (by exact Nat.le_of_ble_eq_true rfl) rfl (c_X9_fault _ A hK.1.1) ?_
  intro z m1 hq
  obtain ⟨hz, k1, k2⟩ := hK.cq hq
  subst hz
  refine v_aload_n (j := 2) (q := 1006) rfl dL_law_1005 rfl ?_
  refine v_cVI0 (q := 1009) dL_law_1006 mlL_123 mdX10_fault (by decide) kd_116 rfl rfl ⟨hnc, hns⟩ (by exact Nat.le_of_ble_eq_true rfl) rfl (c_X10_fault _ A k2.1) ?_
  intro z m2 hq
  obtain ⟨hz, k3⟩ := KR.rq k1 k2 hq
  subst hz
  refine v_icmp_same (tgt := 1027) dL_law_1009 (by decide) ?_
  exact IH _ _ _ _ _ _ k3
theorem lw_c26 {L : Nat} {xs : Nat → Int32} {nc ns : Nat} (hL : L ≤ 3072) (hnc : nc ≤ 600000) (hns : ns ≤ 7302250) {i : Int} (h0 : 0 ≤ i) (h1 : i + 5 < L) (mem : Mem) (A : AS) (hK : KR mem A) (x4 x5 x6 x7 : AV)
    (IH : ∀ (x4 x5 x6 x7 : AV) (m : Mem) (A : AS), KR m A → LV L xs nc ns 1027 [aR 128, aR 0, aR 116, aI i, x4, x5, x6, x7] [] m) : LV L xs nc ns 1014 [aR 128, aR 0, aR 116, aI i, x4, x5, x6, x7] [] mem := by
  refine v_aload_n (j := 1) (q := 1015) rfl dL_law_1014 rfl ?_
  refine v_cVI0 (q := 1018) dL_law_1015 mlL_124 mdX9_load (by decide) kd_0 rfl rfl ⟨hnc, hns⟩ (by exact Nat.le_of_ble_eq_true rfl) rfl (c_X9_load _ A hK.1.1) ?_
  intro z m1 hq
  obtain ⟨hz, k1, k2⟩ := hK.cq hq
  subst hz
  refine v_aload_n (j := 2) (q := 1019) rfl dL_law_1018 rfl ?_
  refine v_cVI0 (q := 1022) dL_law_1019 mlL_127 mdX10_load (by decide) kd_116 rfl rfl ⟨hnc, hns⟩ (by exact Nat.le_of_ble_eq_true rfl) rfl (c_X10_load _ A k2.1) ?_
  intro z m2 hq
  obtain ⟨hz, k3⟩ := KR.rq k1 k2 hq
  subst hz
  refine v_icmp_same (tgt := 1027) dL_law_1022 (by decide) ?_
  exact IH _ _ _ _ _ _ k3
theorem lw_sw {L : Nat} {xs : Nat → Int32} {nc ns : Nat} (hL : L ≤ 3072) (hnc : nc ≤ 600000) (hns : ns ≤ 7302250) {i : Int} (h0 : 0 ≤ i) (h1 : i + 5 < L) {n : Nat} (hn : (L : Int) - i < n + 1) (mem : Mem) (A : AS) (hK : KR mem A) (x4 x5 x6 x7 : AV)
    (ih : ∀ (i : Int) (_ : 0 ≤ i) (_ : (L : Int) - i < n) (_ : i ≤ 4000) (mem : Mem) (A : AS) (_ : KR mem A) (x4 x5 x6 x7 : AV), LV L xs nc ns 18 [aR 128, aR 0, aR 116, aI i, x4, x5, x6, x7] [] mem) {v : Int} : LV L xs nc ns 30 [aR 128, aR 0, aR 116, aI i, x4, x5, x6, x7] [aI v] mem := by
  have IH : ∀ (x4 x5 x6 x7 : AV) (m : Mem) (A : AS), KR m A → LV L xs nc ns 1027 [aR 128, aR 0, aR 116, aI i, x4, x5, x6, x7] [] m := by
    intro x4 x5 x6 x7 m A hK
    refine v_iinc3 (q := 1030) rfl dL_law_1027 (by decide) rfl ?_
    refine v_goto (q := 18) dL_law_1030 (by decide) ?_
    exact ih _ (by omega) (by omega) (by omega) m A hK _ _ _ _
  obtain ⟨z, hz0, hz1, hz⟩ := and31 v
  refine v_bipush (q := 32) (by decide) dL_law_30 rfl ?_
  refine v_iand (q := 33) hz dL_law_32 rfl ?_
  rcases (show (z < 0 ∨ 26 < z) ∨ z = 0 ∨ z = 1 ∨ z = 2 ∨ z = 3 ∨ z = 4 ∨ z = 5 ∨ z = 6 ∨ z = 7 ∨ z = 8 ∨ z = 9 ∨ z = 10 ∨ z = 11 ∨ z = 12 ∨ z = 13 ∨ z = 14 ∨ z = 15 ∨ z = 16 ∨ z = 17 ∨ z = 18 ∨ z = 19 ∨ z = 20 ∨ z = 21 ∨ z = 22 ∨ z = 23 ∨ z = 24 ∨ z = 25 ∨ z = 26 by omega) with hsw | rfl | rfl | rfl | rfl | rfl | rfl | rfl | rfl | rfl | rfl | rfl | rfl | rfl | rfl | rfl | rfl | rfl | rfl | rfl | rfl | rfl | rfl | rfl | rfl | rfl | rfl | rfl
  · refine v_tableOut (tgt := 1027) dL_law_33 (by omega) hsw (by decide) ?_
    exact IH _ _ _ _ _ _ hK
  · refine v_tableIn (tgt := 156) dL_law_33 (by omega) (by omega) (by omega) rfl (by decide) ?_
    exact lw_c0 hL hnc hns h0 h1 mem A hK _ _ _ _ IH
  · refine v_tableIn (tgt := 189) dL_law_33 (by omega) (by omega) (by omega) rfl (by decide) ?_
    exact lw_c1 hL hnc hns h0 h1 mem A hK _ _ _ _ IH
  · refine v_tableIn (tgt := 252) dL_law_33 (by omega) (by omega) (by omega) rfl (by decide) ?_
    exact lw_c2 hL hnc hns h0 h1 mem A hK _ _ _ _ IH
  · refine v_tableIn (tgt := 275) dL_law_33 (by omega) (by omega) (by omega) rfl (by decide) ?_
    exact lw_c3 hL hnc hns h0 h1 mem A hK _ _ _ _ IH
  · refine v_tableIn (tgt := 308) dL_law_33 (by omega) (by omega) (by omega) rfl (by decide) ?_
    exact lw_c4 hL hnc hns h0 h1 mem A hK _ _ _ _ IH
  · refine v_tableIn (tgt := 341) dL_law_33 (by omega) (by omega) (by omega) rfl (by decide) ?_
    exact lw_c5 hL hnc hns h0 h1 mem A hK _ _ _ _ IH
  · refine v_tableIn (tgt := 354) dL_law_33 (by omega) (by omega) (by omega) rfl (by decide) ?_
    exact lw_c6 hL hnc hns h0 h1 mem A hK _ _ _ _ IH
  · refine v_tableIn (tgt := 377) dL_law_33 (by omega) (by omega) (by omega) rfl (by decide) ?_
    exact lw_c7 hL hnc hns h0 h1 mem A hK _ _ _ _ IH
  · refine v_tableIn (tgt := 410) dL_law_33 (by omega) (by omega) (by omega) rfl (by decide) ?_
    exact lw_c8 hL hnc hns h0 h1 mem A hK _ _ _ _ IH
  · refine v_tableIn (tgt := 443) dL_law_33 (by omega) (by omega) (by omega) rfl (by decide) ?_
    exact lw_c9 hL hnc hns h0 h1 mem A hK _ _ _ _ IH
  · refine v_tableIn (tgt := 476) dL_law_33 (by omega) (by omega) (by omega) rfl (by decide) ?_
    exact lw_c10 hL hnc hns h0 h1 mem A hK _ _ _ _ IH
  · refine v_tableIn (tgt := 529) dL_law_33 (by omega) (by omega) (by omega) rfl (by decide) ?_
    exact lw_c11 hL hnc hns h0 h1 mem A hK _ _ _ _ IH
  · refine v_tableIn (tgt := 592) dL_law_33 (by omega) (by omega) (by omega) rfl (by decide) ?_
    exact lw_c12 hL hnc hns h0 h1 mem A hK _ _ _ _ IH
  · refine v_tableIn (tgt := 625) dL_law_33 (by omega) (by omega) (by omega) rfl (by decide) ?_
    exact lw_c13 hL hnc hns h0 h1 mem A hK _ _ _ _ IH
  · refine v_tableIn (tgt := 658) dL_law_33 (by omega) (by omega) (by omega) rfl (by decide) ?_
    exact lw_c14 hL hnc hns h0 h1 mem A hK _ _ _ _ IH
  · refine v_tableIn (tgt := 671) dL_law_33 (by omega) (by omega) (by omega) rfl (by decide) ?_
    exact lw_c15 hL hnc hns h0 h1 mem A hK _ _ _ _ IH
  · refine v_tableIn (tgt := 714) dL_law_33 (by omega) (by omega) (by omega) rfl (by decide) ?_
    exact lw_c16 hL hnc hns h0 h1 mem A hK _ _ _ _ IH
  · refine v_tableIn (tgt := 757) dL_law_33 (by omega) (by omega) (by omega) rfl (by decide) ?_
    exact lw_c17 hL hnc hns h0 h1 mem A hK _ _ _ _ IH
  · refine v_tableIn (tgt := 770) dL_law_33 (by omega) (by omega) (by omega) rfl (by decide) ?_
    exact lw_c18 hL hnc hns h0 h1 mem A hK _ _ _ _ IH
  · refine v_tableIn (tgt := 803) dL_law_33 (by omega) (by omega) (by omega) rfl (by decide) ?_
    exact lw_c19 hL hnc hns h0 h1 mem A hK _ _ _ _ IH
  · refine v_tableIn (tgt := 846) dL_law_33 (by omega) (by omega) (by omega) rfl (by decide) ?_
    exact lw_c20 hL hnc hns h0 h1 mem A hK _ _ _ _ IH
  · refine v_tableIn (tgt := 889) dL_law_33 (by omega) (by omega) (by omega) rfl (by decide) ?_
    exact lw_c21 hL hnc hns h0 h1 mem A hK _ _ _ _ IH
  · refine v_tableIn (tgt := 922) dL_law_33 (by omega) (by omega) (by omega) rfl (by decide) ?_
    exact lw_c22 hL hnc hns h0 h1 mem A hK _ _ _ _ IH
  · refine v_tableIn (tgt := 965) dL_law_33 (by omega) (by omega) (by omega) rfl (by decide) ?_
    exact lw_c23 hL hnc hns h0 h1 mem A hK _ _ _ _ IH
  · refine v_tableIn (tgt := 988) dL_law_33 (by omega) (by omega) (by omega) rfl (by decide) ?_
    exact lw_c24 hL hnc hns h0 h1 mem A hK _ _ _ _ IH
  · refine v_tableIn (tgt := 1001) dL_law_33 (by omega) (by omega) (by omega) rfl (by decide) ?_
    exact lw_c25 hL hnc hns h0 h1 mem A hK _ _ _ _ IH
  · refine v_tableIn (tgt := 1014) dL_law_33 (by omega) (by omega) (by omega) rfl (by decide) ?_
    exact lw_c26 hL hnc hns h0 h1 mem A hK _ _ _ _ IH
theorem lw_loop {L : Nat} {xs : Nat → Int32} {nc ns : Nat} (hL : L ≤ 3072) (hnc : nc ≤ 600000) (hns : ns ≤ 7302250) : ∀ (n : Nat) (i : Int) (_ : 0 ≤ i) (_ : (L : Int) - i < n) (_ : i ≤ 4000) (mem : Mem) (A : AS) (_ : KR mem A) (x4 x5 x6 x7 : AV), LV L xs nc ns 18 [aR 128, aR 0, aR 116, aI i, x4, x5, x6, x7] [] mem := by
  intro n
  induction n with
  | zero =>
    intro i h0 hn hi mem A hK x4 x5 x6 x7
    refine v_iload_n (j := 3) (q := 19) rfl dL_law_18 rfl ?_
    refine v_aload_n (j := 0) (q := 20) rfl dL_law_19 rfl ?_
    refine v_slen (q := 21) dL_law_20 rfl ?_
    refine v_bipush (q := 23) (by decide) dL_law_21 rfl ?_
    refine v_isub (q := 24) dL_law_23 rfl ?_
    refine v_icmp_gt (tgt := 1033) (q := 27) dL_law_24 (by decide) rfl (by omega) (by omega) (fun h24 => ?_) (fun h24 => ?_)
    · exact lw_end hnc hns
    · exact absurd h24 (by omega)
  | succ n ih =>
    intro i h0 hn hi mem A hK x4 x5 x6 x7
    refine v_iload_n (j := 3) (q := 19) rfl dL_law_18 rfl ?_
    refine v_aload_n (j := 0) (q := 20) rfl dL_law_19 rfl ?_
    refine v_slen (q := 21) dL_law_20 rfl ?_
    refine v_bipush (q := 23) (by decide) dL_law_21 rfl ?_
    refine v_isub (q := 24) dL_law_23 rfl ?_
    refine v_icmp_gt (tgt := 1033) (q := 27) dL_law_24 (by decide) rfl (by omega) (by omega) (fun h24 => ?_) (fun h24 => ?_)
    · exact lw_end hnc hns
    · refine v_aload_n (j := 0) (q := 28) rfl dL_law_27 rfl ?_
      refine v_iload_n (j := 3) (q := 29) rfl dL_law_28 rfl ?_
      refine v_sld (q := 30) hL dL_law_29 (by omega) (by omega) rfl ?_
      exact lw_sw hL hnc hns h0 (by omega) (by omega) mem A hK x4 x5 x6 x7 (fun j a b c d e f => ih j a b c d e f)
