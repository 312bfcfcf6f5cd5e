/-! the law's loop -/
theorem law_row {L : Nat} {xs : Nat → Int32} {M : jm_M} {i : Nat} (hi : i + 5 < L) (hL : L ≤ 3072) (hI : GI M) (Q : Option Value → jm_M → Prop) (K : ∀ M1, GI M1 → jm_J (some (L, xs)) YL_law 1199 [some (.ref 1000), some (.ref 0), some (.ref 11), some (.int (nI i))] [] M1 Q) : jm_J (some (L, xs)) YL_law 180 [some (.ref 1000), some (.ref 0), some (.ref 11), some (.int (nI i))] [] M Q := by
  refine jm_ald_n (Y := YL_law) (pc := 180) (i := 1) dL_law_180 rfl rfl ?_
  refine jm_ald_n (Y := YL_law) (pc := 181) (i := 0) dL_law_181 rfl rfl ?_
  refine jm_ild_n (Y := YL_law) (pc := 182) (i := 3) dL_law_182 rfl rfl ?_
  refine jm_icN (Y := YL_law) (pc := 183) 1 dL_law_183 rfl ?_
  refine jm_addN (Y := YL_law) (pc := 184) dL_law_184 ?_
  refine jm_sld (Y := YL_law) (pc := 185) dL_law_185 (vp_in_nI (by omega) (by omega)) ?_
  refine jm_ald_n (Y := YL_law) (pc := 186) (i := 0) dL_law_186 rfl rfl ?_
  refine jm_ild_n (Y := YL_law) (pc := 187) (i := 3) dL_law_187 rfl rfl ?_
  refine jm_icN (Y := YL_law) (pc := 188) 2 dL_law_188 rfl ?_
  refine jm_addN (Y := YL_law) (pc := 189) dL_law_189 ?_
  refine jm_sld (Y := YL_law) (pc := 190) dL_law_190 (vp_in_nI (by omega) (by omega)) ?_
  refine jm_ald_n (Y := YL_law) (pc := 191) (i := 0) dL_law_191 rfl rfl ?_
  refine jm_ild_n (Y := YL_law) (pc := 192) (i := 3) dL_law_192 rfl rfl ?_
  refine jm_icN (Y := YL_law) (pc := 193) 3 dL_law_193 rfl ?_
  refine jm_addN (Y := YL_law) (pc := 194) dL_law_194 ?_
  refine jm_sld (Y := YL_law) (pc := 195) dL_law_195 (vp_in_nI (by omega) (by omega)) ?_
  refine jm_V3i (Y := YL_law) (pc := 196) dL_law_196 lk_RL_13 ⟨_, rfl⟩ rfl rfl rfl rfl (by decide) (Nat.le_of_ble_eq_true rfl) ⟨by decide, by decide⟩ (st_row hI _ _ _) (fun r_196 M_196 q_196 => ?_)
  obtain ⟨v, ev, hn⟩ := q_196
  cases ev
  refine jm_ald_n (Y := YL_law) (pc := 199) (i := 2) dL_law_199 rfl rfl ?_
  refine jm_ald_n (Y := YL_law) (pc := 200) (i := 0) dL_law_200 rfl rfl ?_
  refine jm_ild_n (Y := YL_law) (pc := 201) (i := 3) dL_law_201 rfl rfl ?_
  refine jm_icN (Y := YL_law) (pc := 202) 1 dL_law_202 rfl ?_
  refine jm_addN (Y := YL_law) (pc := 203) dL_law_203 ?_
  refine jm_sld (Y := YL_law) (pc := 204) dL_law_204 (vp_in_nI (by omega) (by omega)) ?_
  refine jm_ald_n (Y := YL_law) (pc := 205) (i := 0) dL_law_205 rfl rfl ?_
  refine jm_ild_n (Y := YL_law) (pc := 206) (i := 3) dL_law_206 rfl rfl ?_
  refine jm_icN (Y := YL_law) (pc := 207) 2 dL_law_207 rfl ?_
  refine jm_addN (Y := YL_law) (pc := 208) dL_law_208 ?_
  refine jm_sld (Y := YL_law) (pc := 209) dL_law_209 (vp_in_nI (by omega) (by omega)) ?_
  refine jm_ald_n (Y := YL_law) (pc := 210) (i := 0) dL_law_210 rfl rfl ?_
  refine jm_ild_n (Y := YL_law) (pc := 211) (i := 3) dL_law_211 rfl rfl ?_
  refine jm_icN (Y := YL_law) (pc := 212) 3 dL_law_212 rfl ?_
  refine jm_addN (Y := YL_law) (pc := 213) dL_law_213 ?_
  refine jm_sld (Y := YL_law) (pc := 214) dL_law_214 (vp_in_nI (by omega) (by omega)) ?_
  refine jm_V3i (Y := YL_law) (pc := 215) dL_law_215 lk_RL_17 ⟨_, rfl⟩ rfl rfl rfl rfl (by decide) (Nat.le_of_ble_eq_true rfl) ⟨by decide, by decide⟩ (hn) (fun r_215 M_215 q_215 => ?_)
  obtain ⟨eo, hI2⟩ := q_215
  cases eo
  refine jm_icmp_eq (Y := YL_law) (pc := 218) dL_law_218 rfl (fun _ => ?_) (fun h => absurd rfl h)
  exact K _ hI2
theorem law_set {L : Nat} {xs : Nat → Int32} {M : jm_M} {i : Nat} (hi : i + 5 < L) (hL : L ≤ 3072) (hI : GI M) (Q : Option Value → jm_M → Prop) (K : ∀ M1, GI M1 → jm_J (some (L, xs)) YL_law 1199 [some (.ref 1000), some (.ref 0), some (.ref 11), some (.int (nI i))] [] M1 Q) : jm_J (some (L, xs)) YL_law 223 [some (.ref 1000), some (.ref 0), some (.ref 11), some (.int (nI i))] [] M Q := by
  refine jm_ald_n (Y := YL_law) (pc := 223) (i := 1) dL_law_223 rfl rfl ?_
  refine jm_ald_n (Y := YL_law) (pc := 224) (i := 0) dL_law_224 rfl rfl ?_
  refine jm_ild_n (Y := YL_law) (pc := 225) (i := 3) dL_law_225 rfl rfl ?_
  refine jm_icN (Y := YL_law) (pc := 226) 1 dL_law_226 rfl ?_
  refine jm_addN (Y := YL_law) (pc := 227) dL_law_227 ?_
  refine jm_sld (Y := YL_law) (pc := 228) dL_law_228 (vp_in_nI (by omega) (by omega)) ?_
  refine jm_ald_n (Y := YL_law) (pc := 229) (i := 0) dL_law_229 rfl rfl ?_
  refine jm_ild_n (Y := YL_law) (pc := 230) (i := 3) dL_law_230 rfl rfl ?_
  refine jm_icN (Y := YL_law) (pc := 231) 2 dL_law_231 rfl ?_
  refine jm_addN (Y := YL_law) (pc := 232) dL_law_232 ?_
  refine jm_sld (Y := YL_law) (pc := 233) dL_law_233 (vp_in_nI (by omega) (by omega)) ?_
  refine jm_ald_n (Y := YL_law) (pc := 234) (i := 0) dL_law_234 rfl rfl ?_
  refine jm_ild_n (Y := YL_law) (pc := 235) (i := 3) dL_law_235 rfl rfl ?_
  refine jm_icN (Y := YL_law) (pc := 236) 3 dL_law_236 rfl ?_
  refine jm_addN (Y := YL_law) (pc := 237) dL_law_237 ?_
  refine jm_sld (Y := YL_law) (pc := 238) dL_law_238 (vp_in_nI (by omega) (by omega)) ?_
  refine jm_V3i (Y := YL_law) (pc := 239) dL_law_239 lk_RL_18 ⟨_, rfl⟩ rfl rfl rfl rfl (by decide) (Nat.le_of_ble_eq_true rfl) ⟨by decide, by decide⟩ (st_set hI _ _ _) (fun r_239 M_239 q_239 => ?_)
  obtain ⟨v, ev, hn⟩ := q_239
  cases ev
  refine jm_ald_n (Y := YL_law) (pc := 242) (i := 2) dL_law_242 rfl rfl ?_
  refine jm_ald_n (Y := YL_law) (pc := 243) (i := 0) dL_law_243 rfl rfl ?_
  refine jm_ild_n (Y := YL_law) (pc := 244) (i := 3) dL_law_244 rfl rfl ?_
  refine jm_icN (Y := YL_law) (pc := 245) 1 dL_law_245 rfl ?_
  refine jm_addN (Y := YL_law) (pc := 246) dL_law_246 ?_
  refine jm_sld (Y := YL_law) (pc := 247) dL_law_247 (vp_in_nI (by omega) (by omega)) ?_
  refine jm_ald_n (Y := YL_law) (pc := 248) (i := 0) dL_law_248 rfl rfl ?_
  refine jm_ild_n (Y := YL_law) (pc := 249) (i := 3) dL_law_249 rfl rfl ?_
  refine jm_icN (Y := YL_law) (pc := 250) 2 dL_law_250 rfl ?_
  refine jm_addN (Y := YL_law) (pc := 251) dL_law_251 ?_
  refine jm_sld (Y := YL_law) (pc := 252) dL_law_252 (vp_in_nI (by omega) (by omega)) ?_
  refine jm_ald_n (Y := YL_law) (pc := 253) (i := 0) dL_law_253 rfl rfl ?_
  refine jm_ild_n (Y := YL_law) (pc := 254) (i := 3) dL_law_254 rfl rfl ?_
  refine jm_icN (Y := YL_law) (pc := 255) 3 dL_law_255 rfl ?_
  refine jm_addN (Y := YL_law) (pc := 256) dL_law_256 ?_
  refine jm_sld (Y := YL_law) (pc := 257) dL_law_257 (vp_in_nI (by omega) (by omega)) ?_
  refine jm_V3i (Y := YL_law) (pc := 258) dL_law_258 lk_RL_21 ⟨_, rfl⟩ rfl rfl rfl rfl (by decide) (Nat.le_of_ble_eq_true rfl) ⟨by decide, by decide⟩ (hn) (fun r_258 M_258 q_258 => ?_)
  obtain ⟨eo, hI2⟩ := q_258
  cases eo
  refine jm_icmp_eq (Y := YL_law) (pc := 261) dL_law_261 rfl (fun _ => ?_) (fun h => absurd rfl h)
  exact K _ hI2
theorem law_copy {L : Nat} {xs : Nat → Int32} {M : jm_M} {i : Nat} (hi : i + 5 < L) (hL : L ≤ 3072) (hI : GI M) (Q : Option Value → jm_M → Prop) (K : ∀ M1, GI M1 → jm_J (some (L, xs)) YL_law 1199 [some (.ref 1000), some (.ref 0), some (.ref 11), some (.int (nI i))] [] M1 Q) : jm_J (some (L, xs)) YL_law 266 [some (.ref 1000), some (.ref 0), some (.ref 11), some (.int (nI i))] [] M Q := by
  refine jm_ald_n (Y := YL_law) (pc := 266) (i := 1) dL_law_266 rfl rfl ?_
  refine jm_ald_n (Y := YL_law) (pc := 267) (i := 0) dL_law_267 rfl rfl ?_
  refine jm_ild_n (Y := YL_law) (pc := 268) (i := 3) dL_law_268 rfl rfl ?_
  refine jm_icN (Y := YL_law) (pc := 269) 1 dL_law_269 rfl ?_
  refine jm_addN (Y := YL_law) (pc := 270) dL_law_270 ?_
  refine jm_sld (Y := YL_law) (pc := 271) dL_law_271 (vp_in_nI (by omega) (by omega)) ?_
  refine jm_ald_n (Y := YL_law) (pc := 272) (i := 0) dL_law_272 rfl rfl ?_
  refine jm_ild_n (Y := YL_law) (pc := 273) (i := 3) dL_law_273 rfl rfl ?_
  refine jm_icN (Y := YL_law) (pc := 274) 2 dL_law_274 rfl ?_
  refine jm_addN (Y := YL_law) (pc := 275) dL_law_275 ?_
  refine jm_sld (Y := YL_law) (pc := 276) dL_law_276 (vp_in_nI (by omega) (by omega)) ?_
  refine jm_ald_n (Y := YL_law) (pc := 277) (i := 0) dL_law_277 rfl rfl ?_
  refine jm_ild_n (Y := YL_law) (pc := 278) (i := 3) dL_law_278 rfl rfl ?_
  refine jm_icN (Y := YL_law) (pc := 279) 3 dL_law_279 rfl ?_
  refine jm_addN (Y := YL_law) (pc := 280) dL_law_280 ?_
  refine jm_sld (Y := YL_law) (pc := 281) dL_law_281 (vp_in_nI (by omega) (by omega)) ?_
  refine jm_ald_n (Y := YL_law) (pc := 282) (i := 0) dL_law_282 rfl rfl ?_
  refine jm_ild_n (Y := YL_law) (pc := 283) (i := 3) dL_law_283 rfl rfl ?_
  refine jm_icN (Y := YL_law) (pc := 284) 4 dL_law_284 rfl ?_
  refine jm_addN (Y := YL_law) (pc := 285) dL_law_285 ?_
  refine jm_sld (Y := YL_law) (pc := 286) dL_law_286 (vp_in_nI (by omega) (by omega)) ?_
  refine jm_ald_n (Y := YL_law) (pc := 287) (i := 0) dL_law_287 rfl rfl ?_
  refine jm_ild_n (Y := YL_law) (pc := 288) (i := 3) dL_law_288 rfl rfl ?_
  refine jm_icN (Y := YL_law) (pc := 289) 5 dL_law_289 rfl ?_
  refine jm_addN (Y := YL_law) (pc := 290) dL_law_290 ?_
  refine jm_sld (Y := YL_law) (pc := 291) dL_law_291 (vp_in_nI (by omega) (by omega)) ?_
  refine jm_V5i (Y := YL_law) (pc := 292) dL_law_292 lk_RL_22 ⟨_, rfl⟩ rfl rfl rfl rfl rfl rfl (by decide) (Nat.le_of_ble_eq_true rfl) ⟨by decide, by decide⟩ (st_copy hI _ _ _ _ _) (fun r_292 M_292 q_292 => ?_)
  obtain ⟨v, ev, hn⟩ := q_292
  cases ev
  refine jm_ald_n (Y := YL_law) (pc := 295) (i := 2) dL_law_295 rfl rfl ?_
  refine jm_ald_n (Y := YL_law) (pc := 296) (i := 0) dL_law_296 rfl rfl ?_
  refine jm_ild_n (Y := YL_law) (pc := 297) (i := 3) dL_law_297 rfl rfl ?_
  refine jm_icN (Y := YL_law) (pc := 298) 1 dL_law_298 rfl ?_
  refine jm_addN (Y := YL_law) (pc := 299) dL_law_299 ?_
  refine jm_sld (Y := YL_law) (pc := 300) dL_law_300 (vp_in_nI (by omega) (by omega)) ?_
  refine jm_ald_n (Y := YL_law) (pc := 301) (i := 0) dL_law_301 rfl rfl ?_
  refine jm_ild_n (Y := YL_law) (pc := 302) (i := 3) dL_law_302 rfl rfl ?_
  refine jm_icN (Y := YL_law) (pc := 303) 2 dL_law_303 rfl ?_
  refine jm_addN (Y := YL_law) (pc := 304) dL_law_304 ?_
  refine jm_sld (Y := YL_law) (pc := 305) dL_law_305 (vp_in_nI (by omega) (by omega)) ?_
  refine jm_ald_n (Y := YL_law) (pc := 306) (i := 0) dL_law_306 rfl rfl ?_
  refine jm_ild_n (Y := YL_law) (pc := 307) (i := 3) dL_law_307 rfl rfl ?_
  refine jm_icN (Y := YL_law) (pc := 308) 3 dL_law_308 rfl ?_
  refine jm_addN (Y := YL_law) (pc := 309) dL_law_309 ?_
  refine jm_sld (Y := YL_law) (pc := 310) dL_law_310 (vp_in_nI (by omega) (by omega)) ?_
  refine jm_ald_n (Y := YL_law) (pc := 311) (i := 0) dL_law_311 rfl rfl ?_
  refine jm_ild_n (Y := YL_law) (pc := 312) (i := 3) dL_law_312 rfl rfl ?_
  refine jm_icN (Y := YL_law) (pc := 313) 4 dL_law_313 rfl ?_
  refine jm_addN (Y := YL_law) (pc := 314) dL_law_314 ?_
  refine jm_sld (Y := YL_law) (pc := 315) dL_law_315 (vp_in_nI (by omega) (by omega)) ?_
  refine jm_ald_n (Y := YL_law) (pc := 316) (i := 0) dL_law_316 rfl rfl ?_
  refine jm_ild_n (Y := YL_law) (pc := 317) (i := 3) dL_law_317 rfl rfl ?_
  refine jm_icN (Y := YL_law) (pc := 318) 5 dL_law_318 rfl ?_
  refine jm_addN (Y := YL_law) (pc := 319) dL_law_319 ?_
  refine jm_sld (Y := YL_law) (pc := 320) dL_law_320 (vp_in_nI (by omega) (by omega)) ?_
  refine jm_V5i (Y := YL_law) (pc := 321) dL_law_321 lk_RL_26 ⟨_, rfl⟩ rfl rfl rfl rfl rfl rfl (by decide) (Nat.le_of_ble_eq_true rfl) ⟨by decide, by decide⟩ (hn) (fun r_321 M_321 q_321 => ?_)
  obtain ⟨eo, hI2⟩ := q_321
  cases eo
  refine jm_icmp_eq (Y := YL_law) (pc := 324) dL_law_324 rfl (fun _ => ?_) (fun h => absurd rfl h)
  exact K _ hI2
theorem law_drop {L : Nat} {xs : Nat → Int32} {M : jm_M} {i : Nat} (hi : i + 5 < L) (hL : L ≤ 3072) (hI : GI M) (Q : Option Value → jm_M → Prop) (K : ∀ M1, GI M1 → jm_J (some (L, xs)) YL_law 1199 [some (.ref 1000), some (.ref 0), some (.ref 11), some (.int (nI i))] [] M1 Q) : jm_J (some (L, xs)) YL_law 329 [some (.ref 1000), some (.ref 0), some (.ref 11), some (.int (nI i))] [] M Q := by
  refine jm_ald_n (Y := YL_law) (pc := 329) (i := 1) dL_law_329 rfl rfl ?_
  refine jm_ald_n (Y := YL_law) (pc := 330) (i := 0) dL_law_330 rfl rfl ?_
  refine jm_ild_n (Y := YL_law) (pc := 331) (i := 3) dL_law_331 rfl rfl ?_
  refine jm_icN (Y := YL_law) (pc := 332) 1 dL_law_332 rfl ?_
  refine jm_addN (Y := YL_law) (pc := 333) dL_law_333 ?_
  refine jm_sld (Y := YL_law) (pc := 334) dL_law_334 (vp_in_nI (by omega) (by omega)) ?_
  refine jm_V1i (Y := YL_law) (pc := 335) dL_law_335 lk_RL_27 ⟨_, rfl⟩ rfl rfl (by decide) (Nat.le_of_ble_eq_true rfl) ⟨by decide, by decide⟩ (st_drop hI _) (fun r_335 M_335 q_335 => ?_)
  obtain ⟨v, ev, hn⟩ := q_335
  cases ev
  refine jm_ald_n (Y := YL_law) (pc := 338) (i := 2) dL_law_338 rfl rfl ?_
  refine jm_ald_n (Y := YL_law) (pc := 339) (i := 0) dL_law_339 rfl rfl ?_
  refine jm_ild_n (Y := YL_law) (pc := 340) (i := 3) dL_law_340 rfl rfl ?_
  refine jm_icN (Y := YL_law) (pc := 341) 1 dL_law_341 rfl ?_
  refine jm_addN (Y := YL_law) (pc := 342) dL_law_342 ?_
  refine jm_sld (Y := YL_law) (pc := 343) dL_law_343 (vp_in_nI (by omega) (by omega)) ?_
  refine jm_V1i (Y := YL_law) (pc := 344) dL_law_344 lk_RL_31 ⟨_, rfl⟩ rfl rfl (by decide) (Nat.le_of_ble_eq_true rfl) ⟨by decide, by decide⟩ (hn) (fun r_344 M_344 q_344 => ?_)
  obtain ⟨eo, hI2⟩ := q_344
  cases eo
  refine jm_icmp_eq (Y := YL_law) (pc := 347) dL_law_347 rfl (fun _ => ?_) (fun h => absurd rfl h)
  exact K _ hI2
theorem law_feed {L : Nat} {xs : Nat → Int32} {M : jm_M} {i : Nat} (hi : i + 5 < L) (hL : L ≤ 3072) (hI : GI M) (Q : Option Value → jm_M → Prop) (K : ∀ M1, GI M1 → jm_J (some (L, xs)) YL_law 1199 [some (.ref 1000), some (.ref 0), some (.ref 11), some (.int (nI i))] [] M1 Q) : jm_J (some (L, xs)) YL_law 352 [some (.ref 1000), some (.ref 0), some (.ref 11), some (.int (nI i))] [] M Q := by
  refine jm_ald_n (Y := YL_law) (pc := 352) (i := 1) dL_law_352 rfl rfl ?_
  refine jm_ald_n (Y := YL_law) (pc := 353) (i := 0) dL_law_353 rfl rfl ?_
  refine jm_ild_n (Y := YL_law) (pc := 354) (i := 3) dL_law_354 rfl rfl ?_
  refine jm_icN (Y := YL_law) (pc := 355) 1 dL_law_355 rfl ?_
  refine jm_addN (Y := YL_law) (pc := 356) dL_law_356 ?_
  refine jm_sld (Y := YL_law) (pc := 357) dL_law_357 (vp_in_nI (by omega) (by omega)) ?_
  refine jm_V1i (Y := YL_law) (pc := 358) dL_law_358 lk_RL_32 ⟨_, rfl⟩ rfl rfl (by decide) (Nat.le_of_ble_eq_true rfl) ⟨by decide, by decide⟩ (st_feed hI _) (fun r_358 M_358 q_358 => ?_)
  obtain ⟨v, ev, hn⟩ := q_358
  cases ev
  refine jm_ald_n (Y := YL_law) (pc := 361) (i := 2) dL_law_361 rfl rfl ?_
  refine jm_ald_n (Y := YL_law) (pc := 362) (i := 0) dL_law_362 rfl rfl ?_
  refine jm_ild_n (Y := YL_law) (pc := 363) (i := 3) dL_law_363 rfl rfl ?_
  refine jm_icN (Y := YL_law) (pc := 364) 1 dL_law_364 rfl ?_
  refine jm_addN (Y := YL_law) (pc := 365) dL_law_365 ?_
  refine jm_sld (Y := YL_law) (pc := 366) dL_law_366 (vp_in_nI (by omega) (by omega)) ?_
  refine jm_V1i (Y := YL_law) (pc := 367) dL_law_367 lk_RL_35 ⟨_, rfl⟩ rfl rfl (by decide) (Nat.le_of_ble_eq_true rfl) ⟨by decide, by decide⟩ (hn) (fun r_367 M_367 q_367 => ?_)
  obtain ⟨eo, hI2⟩ := q_367
  cases eo
  refine jm_icmp_eq (Y := YL_law) (pc := 370) dL_law_370 rfl (fun _ => ?_) (fun h => absurd rfl h)
  exact K _ hI2
theorem law_river {L : Nat} {xs : Nat → Int32} {M : jm_M} {i : Nat} (hi : i + 5 < L) (hL : L ≤ 3072) (hI : GI M) (Q : Option Value → jm_M → Prop) (K : ∀ M1, GI M1 → jm_J (some (L, xs)) YL_law 1199 [some (.ref 1000), some (.ref 0), some (.ref 11), some (.int (nI i))] [] M1 Q) : jm_J (some (L, xs)) YL_law 375 [some (.ref 1000), some (.ref 0), some (.ref 11), some (.int (nI i))] [] M Q := by
  refine jm_ald_n (Y := YL_law) (pc := 375) (i := 1) dL_law_375 rfl rfl ?_
  refine jm_V0i (Y := YL_law) (pc := 376) dL_law_376 lk_RL_36 ⟨_, rfl⟩ rfl (by decide) (Nat.le_of_ble_eq_true rfl) ⟨by decide, by decide⟩ (st_river hI) (fun r_376 M_376 q_376 => ?_)
  obtain ⟨v, ev, hn⟩ := q_376
  cases ev
  refine jm_ald_n (Y := YL_law) (pc := 379) (i := 2) dL_law_379 rfl rfl ?_
  refine jm_V0i (Y := YL_law) (pc := 380) dL_law_380 lk_RL_40 ⟨_, rfl⟩ rfl (by decide) (Nat.le_of_ble_eq_true rfl) ⟨by decide, by decide⟩ (hn) (fun r_380 M_380 q_380 => ?_)
  obtain ⟨eo, hI2⟩ := q_380
  cases eo
  refine jm_icmp_eq (Y := YL_law) (pc := 383) dL_law_383 rfl (fun _ => ?_) (fun h => absurd rfl h)
  exact K _ hI2
theorem law_fault {L : Nat} {xs : Nat → Int32} {M : jm_M} {i : Nat} (hi : i + 5 < L) (hL : L ≤ 3072) (hI : GI M) (Q : Option Value → jm_M → Prop) (K : ∀ M1, GI M1 → jm_J (some (L, xs)) YL_law 1199 [some (.ref 1000), some (.ref 0), some (.ref 11), some (.int (nI i))] [] M1 Q) : jm_J (some (L, xs)) YL_law 388 [some (.ref 1000), some (.ref 0), some (.ref 11), some (.int (nI i))] [] M Q := by
  refine jm_ald_n (Y := YL_law) (pc := 388) (i := 1) dL_law_388 rfl rfl ?_
  refine jm_V0i (Y := YL_law) (pc := 389) dL_law_389 lk_RL_41 ⟨_, rfl⟩ rfl (by decide) (Nat.le_of_ble_eq_true rfl) ⟨by decide, by decide⟩ (st_fault hI) (fun r_389 M_389 q_389 => ?_)
  obtain ⟨v, ev, hn⟩ := q_389
  cases ev
  refine jm_ald_n (Y := YL_law) (pc := 392) (i := 2) dL_law_392 rfl rfl ?_
  refine jm_V0i (Y := YL_law) (pc := 393) dL_law_393 lk_RL_44 ⟨_, rfl⟩ rfl (by decide) (Nat.le_of_ble_eq_true rfl) ⟨by decide, by decide⟩ (hn) (fun r_393 M_393 q_393 => ?_)
  obtain ⟨eo, hI2⟩ := q_393
  cases eo
  refine jm_icmp_eq (Y := YL_law) (pc := 396) dL_law_396 rfl (fun _ => ?_) (fun h => absurd rfl h)
  exact K _ hI2
theorem law_minutes {L : Nat} {xs : Nat → Int32} {M : jm_M} {i : Nat} (hi : i + 5 < L) (hL : L ≤ 3072) (hI : GI M) (Q : Option Value → jm_M → Prop) (K : ∀ M1, GI M1 → jm_J (some (L, xs)) YL_law 1199 [some (.ref 1000), some (.ref 0), some (.ref 11), some (.int (nI i))] [] M1 Q) : jm_J (some (L, xs)) YL_law 401 [some (.ref 1000), some (.ref 0), some (.ref 11), some (.int (nI i))] [] M Q := by
  refine jm_ald_n (Y := YL_law) (pc := 401) (i := 1) dL_law_401 rfl rfl ?_
  refine jm_ald_n (Y := YL_law) (pc := 402) (i := 0) dL_law_402 rfl rfl ?_
  refine jm_ild_n (Y := YL_law) (pc := 403) (i := 3) dL_law_403 rfl rfl ?_
  refine jm_icN (Y := YL_law) (pc := 404) 1 dL_law_404 rfl ?_
  refine jm_addN (Y := YL_law) (pc := 405) dL_law_405 ?_
  refine jm_sld (Y := YL_law) (pc := 406) dL_law_406 (vp_in_nI (by omega) (by omega)) ?_
  refine jm_V1i (Y := YL_law) (pc := 407) dL_law_407 lk_RL_45 ⟨_, rfl⟩ rfl rfl (by decide) (Nat.le_of_ble_eq_true rfl) ⟨by decide, by decide⟩ (st_minutes hI _) (fun r_407 M_407 q_407 => ?_)
  obtain ⟨v, ev, hn⟩ := q_407
  cases ev
  refine jm_ald_n (Y := YL_law) (pc := 410) (i := 2) dL_law_410 rfl rfl ?_
  refine jm_ald_n (Y := YL_law) (pc := 411) (i := 0) dL_law_411 rfl rfl ?_
  refine jm_ild_n (Y := YL_law) (pc := 412) (i := 3) dL_law_412 rfl rfl ?_
  refine jm_icN (Y := YL_law) (pc := 413) 1 dL_law_413 rfl ?_
  refine jm_addN (Y := YL_law) (pc := 414) dL_law_414 ?_
  refine jm_sld (Y := YL_law) (pc := 415) dL_law_415 (vp_in_nI (by omega) (by omega)) ?_
  refine jm_V1i (Y := YL_law) (pc := 416) dL_law_416 lk_RL_48 ⟨_, rfl⟩ rfl rfl (by decide) (Nat.le_of_ble_eq_true rfl) ⟨by decide, by decide⟩ (hn) (fun r_416 M_416 q_416 => ?_)
  obtain ⟨eo, hI2⟩ := q_416
  cases eo
  refine jm_icmp_eq (Y := YL_law) (pc := 419) dL_law_419 rfl (fun _ => ?_) (fun h => absurd rfl h)
  exact K _ hI2
theorem law_say {L : Nat} {xs : Nat → Int32} {M : jm_M} {i : Nat} (hi : i + 5 < L) (hL : L ≤ 3072) (hI : GI M) (Q : Option Value → jm_M → Prop) (K : ∀ M1, GI M1 → jm_J (some (L, xs)) YL_law 1199 [some (.ref 1000), some (.ref 0), some (.ref 11), some (.int (nI i))] [] M1 Q) : jm_J (some (L, xs)) YL_law 424 [some (.ref 1000), some (.ref 0), some (.ref 11), some (.int (nI i))] [] M Q := by
  refine jm_ald_n (Y := YL_law) (pc := 424) (i := 1) dL_law_424 rfl rfl ?_
  refine jm_ald_n (Y := YL_law) (pc := 425) (i := 0) dL_law_425 rfl rfl ?_
  refine jm_ild_n (Y := YL_law) (pc := 426) (i := 3) dL_law_426 rfl rfl ?_
  refine jm_icN (Y := YL_law) (pc := 427) 1 dL_law_427 rfl ?_
  refine jm_addN (Y := YL_law) (pc := 428) dL_law_428 ?_
  refine jm_sld (Y := YL_law) (pc := 429) dL_law_429 (vp_in_nI (by omega) (by omega)) ?_
  refine jm_ald_n (Y := YL_law) (pc := 430) (i := 0) dL_law_430 rfl rfl ?_
  refine jm_ild_n (Y := YL_law) (pc := 431) (i := 3) dL_law_431 rfl rfl ?_
  refine jm_icN (Y := YL_law) (pc := 432) 2 dL_law_432 rfl ?_
  refine jm_addN (Y := YL_law) (pc := 433) dL_law_433 ?_
  refine jm_sld (Y := YL_law) (pc := 434) dL_law_434 (vp_in_nI (by omega) (by omega)) ?_
  refine jm_ald_n (Y := YL_law) (pc := 435) (i := 0) dL_law_435 rfl rfl ?_
  refine jm_ild_n (Y := YL_law) (pc := 436) (i := 3) dL_law_436 rfl rfl ?_
  refine jm_icN (Y := YL_law) (pc := 437) 3 dL_law_437 rfl ?_
  refine jm_addN (Y := YL_law) (pc := 438) dL_law_438 ?_
  refine jm_sld (Y := YL_law) (pc := 439) dL_law_439 (vp_in_nI (by omega) (by omega)) ?_
  refine jm_V3i (Y := YL_law) (pc := 440) dL_law_440 lk_RL_49 ⟨_, rfl⟩ rfl rfl rfl rfl (by decide) (Nat.le_of_ble_eq_true rfl) ⟨by decide, by decide⟩ (st_say hI _ _ _) (fun r_440 M_440 q_440 => ?_)
  obtain ⟨v, ev, hn⟩ := q_440
  cases ev
  refine jm_ald_n (Y := YL_law) (pc := 443) (i := 2) dL_law_443 rfl rfl ?_
  refine jm_ald_n (Y := YL_law) (pc := 444) (i := 0) dL_law_444 rfl rfl ?_
  refine jm_ild_n (Y := YL_law) (pc := 445) (i := 3) dL_law_445 rfl rfl ?_
  refine jm_icN (Y := YL_law) (pc := 446) 1 dL_law_446 rfl ?_
  refine jm_addN (Y := YL_law) (pc := 447) dL_law_447 ?_
  refine jm_sld (Y := YL_law) (pc := 448) dL_law_448 (vp_in_nI (by omega) (by omega)) ?_
  refine jm_ald_n (Y := YL_law) (pc := 449) (i := 0) dL_law_449 rfl rfl ?_
  refine jm_ild_n (Y := YL_law) (pc := 450) (i := 3) dL_law_450 rfl rfl ?_
  refine jm_icN (Y := YL_law) (pc := 451) 2 dL_law_451 rfl ?_
  refine jm_addN (Y := YL_law) (pc := 452) dL_law_452 ?_
  refine jm_sld (Y := YL_law) (pc := 453) dL_law_453 (vp_in_nI (by omega) (by omega)) ?_
  refine jm_ald_n (Y := YL_law) (pc := 454) (i := 0) dL_law_454 rfl rfl ?_
  refine jm_ild_n (Y := YL_law) (pc := 455) (i := 3) dL_law_455 rfl rfl ?_
  refine jm_icN (Y := YL_law) (pc := 456) 3 dL_law_456 rfl ?_
  refine jm_addN (Y := YL_law) (pc := 457) dL_law_457 ?_
  refine jm_sld (Y := YL_law) (pc := 458) dL_law_458 (vp_in_nI (by omega) (by omega)) ?_
  refine jm_V3i (Y := YL_law) (pc := 459) dL_law_459 lk_RL_52 ⟨_, rfl⟩ rfl rfl rfl rfl (by decide) (Nat.le_of_ble_eq_true rfl) ⟨by decide, by decide⟩ (hn) (fun r_459 M_459 q_459 => ?_)
  obtain ⟨eo, hI2⟩ := q_459
  cases eo
  refine jm_icmp_eq (Y := YL_law) (pc := 462) dL_law_462 rfl (fun _ => ?_) (fun h => absurd rfl h)
  exact K _ hI2
theorem law_speed {L : Nat} {xs : Nat → Int32} {M : jm_M} {i : Nat} (hi : i + 5 < L) (hL : L ≤ 3072) (hI : GI M) (Q : Option Value → jm_M → Prop) (K : ∀ M1, GI M1 → jm_J (some (L, xs)) YL_law 1199 [some (.ref 1000), some (.ref 0), some (.ref 11), some (.int (nI i))] [] M1 Q) : jm_J (some (L, xs)) YL_law 467 [some (.ref 1000), some (.ref 0), some (.ref 11), some (.int (nI i))] [] M Q := by
  refine jm_ald_n (Y := YL_law) (pc := 467) (i := 1) dL_law_467 rfl rfl ?_
  refine jm_ald_n (Y := YL_law) (pc := 468) (i := 0) dL_law_468 rfl rfl ?_
  refine jm_ild_n (Y := YL_law) (pc := 469) (i := 3) dL_law_469 rfl rfl ?_
  refine jm_icN (Y := YL_law) (pc := 470) 1 dL_law_470 rfl ?_
  refine jm_addN (Y := YL_law) (pc := 471) dL_law_471 ?_
  refine jm_sld (Y := YL_law) (pc := 472) dL_law_472 (vp_in_nI (by omega) (by omega)) ?_
  refine jm_ald_n (Y := YL_law) (pc := 473) (i := 0) dL_law_473 rfl rfl ?_
  refine jm_ild_n (Y := YL_law) (pc := 474) (i := 3) dL_law_474 rfl rfl ?_
  refine jm_icN (Y := YL_law) (pc := 475) 2 dL_law_475 rfl ?_
  refine jm_addN (Y := YL_law) (pc := 476) dL_law_476 ?_
  refine jm_sld (Y := YL_law) (pc := 477) dL_law_477 (vp_in_nI (by omega) (by omega)) ?_
  refine jm_V2i (Y := YL_law) (pc := 478) dL_law_478 lk_RL_53 ⟨_, rfl⟩ rfl rfl rfl (by decide) (Nat.le_of_ble_eq_true rfl) ⟨by decide, by decide⟩ (st_speed hI _ _) (fun r_478 M_478 q_478 => ?_)
  obtain ⟨v, ev, hn⟩ := q_478
  cases ev
  refine jm_ald_n (Y := YL_law) (pc := 481) (i := 2) dL_law_481 rfl rfl ?_
  refine jm_ald_n (Y := YL_law) (pc := 482) (i := 0) dL_law_482 rfl rfl ?_
  refine jm_ild_n (Y := YL_law) (pc := 483) (i := 3) dL_law_483 rfl rfl ?_
  refine jm_icN (Y := YL_law) (pc := 484) 1 dL_law_484 rfl ?_
  refine jm_addN (Y := YL_law) (pc := 485) dL_law_485 ?_
  refine jm_sld (Y := YL_law) (pc := 486) dL_law_486 (vp_in_nI (by omega) (by omega)) ?_
  refine jm_ald_n (Y := YL_law) (pc := 487) (i := 0) dL_law_487 rfl rfl ?_
  refine jm_ild_n (Y := YL_law) (pc := 488) (i := 3) dL_law_488 rfl rfl ?_
  refine jm_icN (Y := YL_law) (pc := 489) 2 dL_law_489 rfl ?_
  refine jm_addN (Y := YL_law) (pc := 490) dL_law_490 ?_
  refine jm_sld (Y := YL_law) (pc := 491) dL_law_491 (vp_in_nI (by omega) (by omega)) ?_
  refine jm_V2i (Y := YL_law) (pc := 492) dL_law_492 lk_RL_57 ⟨_, rfl⟩ rfl rfl rfl (by decide) (Nat.le_of_ble_eq_true rfl) ⟨by decide, by decide⟩ (hn) (fun r_492 M_492 q_492 => ?_)
  obtain ⟨eo, hI2⟩ := q_492
  cases eo
  refine jm_icmp_eq (Y := YL_law) (pc := 495) dL_law_495 rfl (fun _ => ?_) (fun h => absurd rfl h)
  exact K _ hI2
theorem law_rain {L : Nat} {xs : Nat → Int32} {M : jm_M} {i : Nat} (hi : i + 5 < L) (hL : L ≤ 3072) (hI : GI M) (Q : Option Value → jm_M → Prop) (K : ∀ M1, GI M1 → jm_J (some (L, xs)) YL_law 1199 [some (.ref 1000), some (.ref 0), some (.ref 11), some (.int (nI i))] [] M1 Q) : jm_J (some (L, xs)) YL_law 500 [some (.ref 1000), some (.ref 0), some (.ref 11), some (.int (nI i))] [] M Q := by
  refine jm_ald_n (Y := YL_law) (pc := 500) (i := 1) dL_law_500 rfl rfl ?_
  refine jm_ald_n (Y := YL_law) (pc := 501) (i := 0) dL_law_501 rfl rfl ?_
  refine jm_ild_n (Y := YL_law) (pc := 502) (i := 3) dL_law_502 rfl rfl ?_
  refine jm_icN (Y := YL_law) (pc := 503) 1 dL_law_503 rfl ?_
  refine jm_addN (Y := YL_law) (pc := 504) dL_law_504 ?_
  refine jm_sld (Y := YL_law) (pc := 505) dL_law_505 (vp_in_nI (by omega) (by omega)) ?_
  refine jm_V1i (Y := YL_law) (pc := 506) dL_law_506 lk_RL_58 ⟨_, rfl⟩ rfl rfl (by decide) (Nat.le_of_ble_eq_true rfl) ⟨by decide, by decide⟩ (st_rain hI _) (fun r_506 M_506 q_506 => ?_)
  obtain ⟨v, ev, hn⟩ := q_506
  cases ev
  refine jm_ald_n (Y := YL_law) (pc := 509) (i := 2) dL_law_509 rfl rfl ?_
  refine jm_ald_n (Y := YL_law) (pc := 510) (i := 0) dL_law_510 rfl rfl ?_
  refine jm_ild_n (Y := YL_law) (pc := 511) (i := 3) dL_law_511 rfl rfl ?_
  refine jm_icN (Y := YL_law) (pc := 512) 1 dL_law_512 rfl ?_
  refine jm_addN (Y := YL_law) (pc := 513) dL_law_513 ?_
  refine jm_sld (Y := YL_law) (pc := 514) dL_law_514 (vp_in_nI (by omega) (by omega)) ?_
  refine jm_V1i (Y := YL_law) (pc := 515) dL_law_515 lk_RL_61 ⟨_, rfl⟩ rfl rfl (by decide) (Nat.le_of_ble_eq_true rfl) ⟨by decide, by decide⟩ (hn) (fun r_515 M_515 q_515 => ?_)
  obtain ⟨eo, hI2⟩ := q_515
  cases eo
  refine jm_icmp_eq (Y := YL_law) (pc := 518) dL_law_518 rfl (fun _ => ?_) (fun h => absurd rfl h)
  exact K _ hI2
theorem law_undo {L : Nat} {xs : Nat → Int32} {M : jm_M} {i : Nat} (hi : i + 5 < L) (hL : L ≤ 3072) (hI : GI M) (Q : Option Value → jm_M → Prop) (K : ∀ M1, GI M1 → jm_J (some (L, xs)) YL_law 1199 [some (.ref 1000), some (.ref 0), some (.ref 11), some (.int (nI i))] [] M1 Q) : jm_J (some (L, xs)) YL_law 523 [some (.ref 1000), some (.ref 0), some (.ref 11), some (.int (nI i))] [] M Q := by
  refine jm_ald_n (Y := YL_law) (pc := 523) (i := 1) dL_law_523 rfl rfl ?_
  refine jm_V0i (Y := YL_law) (pc := 524) dL_law_524 lk_RL_62 ⟨_, rfl⟩ rfl (by decide) (Nat.le_of_ble_eq_true rfl) ⟨by decide, by decide⟩ (st_undo hI) (fun r_524 M_524 q_524 => ?_)
  obtain ⟨v, ev, hn⟩ := q_524
  cases ev
  refine jm_ald_n (Y := YL_law) (pc := 527) (i := 2) dL_law_527 rfl rfl ?_
  refine jm_V0i (Y := YL_law) (pc := 528) dL_law_528 lk_RL_65 ⟨_, rfl⟩ rfl (by decide) (Nat.le_of_ble_eq_true rfl) ⟨by decide, by decide⟩ (hn) (fun r_528 M_528 q_528 => ?_)
  obtain ⟨eo, hI2⟩ := q_528
  cases eo
  refine jm_icmp_eq (Y := YL_law) (pc := 531) dL_law_531 rfl (fun _ => ?_) (fun h => absurd rfl h)
  exact K _ hI2
theorem law_word {L : Nat} {xs : Nat → Int32} {M : jm_M} {i : Nat} (hi : i + 5 < L) (hL : L ≤ 3072) (hI : GI M) (Q : Option Value → jm_M → Prop) (K : ∀ M1, GI M1 → jm_J (some (L, xs)) YL_law 1199 [some (.ref 1000), some (.ref 0), some (.ref 11), some (.int (nI i))] [] M1 Q) : jm_J (some (L, xs)) YL_law 536 [some (.ref 1000), some (.ref 0), some (.ref 11), some (.int (nI i))] [] M Q := by
  refine jm_ald_n (Y := YL_law) (pc := 536) (i := 1) dL_law_536 rfl rfl ?_
  refine jm_ald_n (Y := YL_law) (pc := 537) (i := 0) dL_law_537 rfl rfl ?_
  refine jm_ild_n (Y := YL_law) (pc := 538) (i := 3) dL_law_538 rfl rfl ?_
  refine jm_icN (Y := YL_law) (pc := 539) 1 dL_law_539 rfl ?_
  refine jm_addN (Y := YL_law) (pc := 540) dL_law_540 ?_
  refine jm_sld (Y := YL_law) (pc := 541) dL_law_541 (vp_in_nI (by omega) (by omega)) ?_
  refine jm_ald_n (Y := YL_law) (pc := 542) (i := 0) dL_law_542 rfl rfl ?_
  refine jm_ild_n (Y := YL_law) (pc := 543) (i := 3) dL_law_543 rfl rfl ?_
  refine jm_icN (Y := YL_law) (pc := 544) 2 dL_law_544 rfl ?_
  refine jm_addN (Y := YL_law) (pc := 545) dL_law_545 ?_
  refine jm_sld (Y := YL_law) (pc := 546) dL_law_546 (vp_in_nI (by omega) (by omega)) ?_
  refine jm_V2i (Y := YL_law) (pc := 547) dL_law_547 lk_RL_66 ⟨_, rfl⟩ rfl rfl rfl (by decide) (Nat.le_of_ble_eq_true rfl) ⟨by decide, by decide⟩ (st_word hI _ _) (fun r_547 M_547 q_547 => ?_)
  obtain ⟨v, ev, hn⟩ := q_547
  cases ev
  refine jm_ald_n (Y := YL_law) (pc := 550) (i := 2) dL_law_550 rfl rfl ?_
  refine jm_ald_n (Y := YL_law) (pc := 551) (i := 0) dL_law_551 rfl rfl ?_
  refine jm_ild_n (Y := YL_law) (pc := 552) (i := 3) dL_law_552 rfl rfl ?_
  refine jm_icN (Y := YL_law) (pc := 553) 1 dL_law_553 rfl ?_
  refine jm_addN (Y := YL_law) (pc := 554) dL_law_554 ?_
  refine jm_sld (Y := YL_law) (pc := 555) dL_law_555 (vp_in_nI (by omega) (by omega)) ?_
  refine jm_ald_n (Y := YL_law) (pc := 556) (i := 0) dL_law_556 rfl rfl ?_
  refine jm_ild_n (Y := YL_law) (pc := 557) (i := 3) dL_law_557 rfl rfl ?_
  refine jm_icN (Y := YL_law) (pc := 558) 2 dL_law_558 rfl ?_
  refine jm_addN (Y := YL_law) (pc := 559) dL_law_559 ?_
  refine jm_sld (Y := YL_law) (pc := 560) dL_law_560 (vp_in_nI (by omega) (by omega)) ?_
  refine jm_V2i (Y := YL_law) (pc := 561) dL_law_561 lk_RL_69 ⟨_, rfl⟩ rfl rfl rfl (by decide) (Nat.le_of_ble_eq_true rfl) ⟨by decide, by decide⟩ (hn) (fun r_561 M_561 q_561 => ?_)
  obtain ⟨eo, hI2⟩ := q_561
  cases eo
  refine jm_icmp_eq (Y := YL_law) (pc := 564) dL_law_564 rfl (fun _ => ?_) (fun h => absurd rfl h)
  exact K _ hI2
theorem law_cell {L : Nat} {xs : Nat → Int32} {M : jm_M} {i : Nat} (hi : i + 5 < L) (hL : L ≤ 3072) (hI : GI M) (Q : Option Value → jm_M → Prop) (K : ∀ M1, GI M1 → jm_J (some (L, xs)) YL_law 1199 [some (.ref 1000), some (.ref 0), some (.ref 11), some (.int (nI i))] [] M1 Q) : jm_J (some (L, xs)) YL_law 569 [some (.ref 1000), some (.ref 0), some (.ref 11), some (.int (nI i))] [] M Q := by
  refine jm_ald_n (Y := YL_law) (pc := 569) (i := 1) dL_law_569 rfl rfl ?_
  refine jm_ald_n (Y := YL_law) (pc := 570) (i := 0) dL_law_570 rfl rfl ?_
  refine jm_ild_n (Y := YL_law) (pc := 571) (i := 3) dL_law_571 rfl rfl ?_
  refine jm_icN (Y := YL_law) (pc := 572) 1 dL_law_572 rfl ?_
  refine jm_addN (Y := YL_law) (pc := 573) dL_law_573 ?_
  refine jm_sld (Y := YL_law) (pc := 574) dL_law_574 (vp_in_nI (by omega) (by omega)) ?_
  refine jm_ald_n (Y := YL_law) (pc := 575) (i := 0) dL_law_575 rfl rfl ?_
  refine jm_ild_n (Y := YL_law) (pc := 576) (i := 3) dL_law_576 rfl rfl ?_
  refine jm_icN (Y := YL_law) (pc := 577) 2 dL_law_577 rfl ?_
  refine jm_addN (Y := YL_law) (pc := 578) dL_law_578 ?_
  refine jm_sld (Y := YL_law) (pc := 579) dL_law_579 (vp_in_nI (by omega) (by omega)) ?_
  refine jm_V2i (Y := YL_law) (pc := 580) dL_law_580 lk_RL_70 ⟨_, rfl⟩ rfl rfl rfl (by decide) (Nat.le_of_ble_eq_true rfl) ⟨by decide, by decide⟩ (st_cell hI _ _) (fun r_580 M_580 q_580 => ?_)
  obtain ⟨v, ev, hn⟩ := q_580
  cases ev
  refine jm_ald_n (Y := YL_law) (pc := 583) (i := 2) dL_law_583 rfl rfl ?_
  refine jm_ald_n (Y := YL_law) (pc := 584) (i := 0) dL_law_584 rfl rfl ?_
  refine jm_ild_n (Y := YL_law) (pc := 585) (i := 3) dL_law_585 rfl rfl ?_
  refine jm_icN (Y := YL_law) (pc := 586) 1 dL_law_586 rfl ?_
  refine jm_addN (Y := YL_law) (pc := 587) dL_law_587 ?_
  refine jm_sld (Y := YL_law) (pc := 588) dL_law_588 (vp_in_nI (by omega) (by omega)) ?_
  refine jm_ald_n (Y := YL_law) (pc := 589) (i := 0) dL_law_589 rfl rfl ?_
  refine jm_ild_n (Y := YL_law) (pc := 590) (i := 3) dL_law_590 rfl rfl ?_
  refine jm_icN (Y := YL_law) (pc := 591) 2 dL_law_591 rfl ?_
  refine jm_addN (Y := YL_law) (pc := 592) dL_law_592 ?_
  refine jm_sld (Y := YL_law) (pc := 593) dL_law_593 (vp_in_nI (by omega) (by omega)) ?_
  refine jm_V2i (Y := YL_law) (pc := 594) dL_law_594 lk_RL_73 ⟨_, rfl⟩ rfl rfl rfl (by decide) (Nat.le_of_ble_eq_true rfl) ⟨by decide, by decide⟩ (hn) (fun r_594 M_594 q_594 => ?_)
  obtain ⟨eo, hI2⟩ := q_594
  cases eo
  refine jm_icmp_eq (Y := YL_law) (pc := 597) dL_law_597 rfl (fun _ => ?_) (fun h => absurd rfl h)
  exact K _ hI2
theorem law_ahead {L : Nat} {xs : Nat → Int32} {M : jm_M} {i : Nat} (hi : i + 5 < L) (hL : L ≤ 3072) (hI : GI M) (Q : Option Value → jm_M → Prop) (K : ∀ M1, GI M1 → jm_J (some (L, xs)) YL_law 1199 [some (.ref 1000), some (.ref 0), some (.ref 11), some (.int (nI i))] [] M1 Q) : jm_J (some (L, xs)) YL_law 602 [some (.ref 1000), some (.ref 0), some (.ref 11), some (.int (nI i))] [] M Q := by
  refine jm_ald_n (Y := YL_law) (pc := 602) (i := 1) dL_law_602 rfl rfl ?_
  refine jm_ald_n (Y := YL_law) (pc := 603) (i := 0) dL_law_603 rfl rfl ?_
  refine jm_ild_n (Y := YL_law) (pc := 604) (i := 3) dL_law_604 rfl rfl ?_
  refine jm_icN (Y := YL_law) (pc := 605) 1 dL_law_605 rfl ?_
  refine jm_addN (Y := YL_law) (pc := 606) dL_law_606 ?_
  refine jm_sld (Y := YL_law) (pc := 607) dL_law_607 (vp_in_nI (by omega) (by omega)) ?_
  refine jm_ald_n (Y := YL_law) (pc := 608) (i := 0) dL_law_608 rfl rfl ?_
  refine jm_ild_n (Y := YL_law) (pc := 609) (i := 3) dL_law_609 rfl rfl ?_
  refine jm_icN (Y := YL_law) (pc := 610) 2 dL_law_610 rfl ?_
  refine jm_addN (Y := YL_law) (pc := 611) dL_law_611 ?_
  refine jm_sld (Y := YL_law) (pc := 612) dL_law_612 (vp_in_nI (by omega) (by omega)) ?_
  refine jm_ald_n (Y := YL_law) (pc := 613) (i := 0) dL_law_613 rfl rfl ?_
  refine jm_ild_n (Y := YL_law) (pc := 614) (i := 3) dL_law_614 rfl rfl ?_
  refine jm_icN (Y := YL_law) (pc := 615) 3 dL_law_615 rfl ?_
  refine jm_addN (Y := YL_law) (pc := 616) dL_law_616 ?_
  refine jm_sld (Y := YL_law) (pc := 617) dL_law_617 (vp_in_nI (by omega) (by omega)) ?_
  refine jm_V3i (Y := YL_law) (pc := 618) dL_law_618 lk_RL_74 ⟨_, rfl⟩ rfl rfl rfl rfl (by decide) (Nat.le_of_ble_eq_true rfl) ⟨by decide, by decide⟩ (st_ahead hI _ _ _) (fun r_618 M_618 q_618 => ?_)
  obtain ⟨v, ev, hn⟩ := q_618
  cases ev
  refine jm_ald_n (Y := YL_law) (pc := 621) (i := 2) dL_law_621 rfl rfl ?_
  refine jm_ald_n (Y := YL_law) (pc := 622) (i := 0) dL_law_622 rfl rfl ?_
  refine jm_ild_n (Y := YL_law) (pc := 623) (i := 3) dL_law_623 rfl rfl ?_
  refine jm_icN (Y := YL_law) (pc := 624) 1 dL_law_624 rfl ?_
  refine jm_addN (Y := YL_law) (pc := 625) dL_law_625 ?_
  refine jm_sld (Y := YL_law) (pc := 626) dL_law_626 (vp_in_nI (by omega) (by omega)) ?_
  refine jm_ald_n (Y := YL_law) (pc := 627) (i := 0) dL_law_627 rfl rfl ?_
  refine jm_ild_n (Y := YL_law) (pc := 628) (i := 3) dL_law_628 rfl rfl ?_
  refine jm_icN (Y := YL_law) (pc := 629) 2 dL_law_629 rfl ?_
  refine jm_addN (Y := YL_law) (pc := 630) dL_law_630 ?_
  refine jm_sld (Y := YL_law) (pc := 631) dL_law_631 (vp_in_nI (by omega) (by omega)) ?_
  refine jm_ald_n (Y := YL_law) (pc := 632) (i := 0) dL_law_632 rfl rfl ?_
  refine jm_ild_n (Y := YL_law) (pc := 633) (i := 3) dL_law_633 rfl rfl ?_
  refine jm_icN (Y := YL_law) (pc := 634) 3 dL_law_634 rfl ?_
  refine jm_addN (Y := YL_law) (pc := 635) dL_law_635 ?_
  refine jm_sld (Y := YL_law) (pc := 636) dL_law_636 (vp_in_nI (by omega) (by omega)) ?_
  refine jm_V3i (Y := YL_law) (pc := 637) dL_law_637 lk_RL_77 ⟨_, rfl⟩ rfl rfl rfl rfl (by decide) (Nat.le_of_ble_eq_true rfl) ⟨by decide, by decide⟩ (hn) (fun r_637 M_637 q_637 => ?_)
  obtain ⟨eo, hI2⟩ := q_637
  cases eo
  refine jm_icmp_eq (Y := YL_law) (pc := 640) dL_law_640 rfl (fun _ => ?_) (fun h => absurd rfl h)
  exact K _ hI2
theorem law_quarrel {L : Nat} {xs : Nat → Int32} {M : jm_M} {i : Nat} (hi : i + 5 < L) (hL : L ≤ 3072) (hI : GI M) (Q : Option Value → jm_M → Prop) (K : ∀ M1, GI M1 → jm_J (some (L, xs)) YL_law 1199 [some (.ref 1000), some (.ref 0), some (.ref 11), some (.int (nI i))] [] M1 Q) : jm_J (some (L, xs)) YL_law 645 [some (.ref 1000), some (.ref 0), some (.ref 11), some (.int (nI i))] [] M Q := by
  refine jm_ald_n (Y := YL_law) (pc := 645) (i := 1) dL_law_645 rfl rfl ?_
  refine jm_ald_n (Y := YL_law) (pc := 646) (i := 0) dL_law_646 rfl rfl ?_
  refine jm_ild_n (Y := YL_law) (pc := 647) (i := 3) dL_law_647 rfl rfl ?_
  refine jm_icN (Y := YL_law) (pc := 648) 1 dL_law_648 rfl ?_
  refine jm_addN (Y := YL_law) (pc := 649) dL_law_649 ?_
  refine jm_sld (Y := YL_law) (pc := 650) dL_law_650 (vp_in_nI (by omega) (by omega)) ?_
  refine jm_V1i (Y := YL_law) (pc := 651) dL_law_651 lk_RL_78 ⟨_, rfl⟩ rfl rfl (by decide) (Nat.le_of_ble_eq_true rfl) ⟨by decide, by decide⟩ (st_quarrel hI _) (fun r_651 M_651 q_651 => ?_)
  obtain ⟨v, ev, hn⟩ := q_651
  cases ev
  refine jm_ald_n (Y := YL_law) (pc := 654) (i := 2) dL_law_654 rfl rfl ?_
  refine jm_ald_n (Y := YL_law) (pc := 655) (i := 0) dL_law_655 rfl rfl ?_
  refine jm_ild_n (Y := YL_law) (pc := 656) (i := 3) dL_law_656 rfl rfl ?_
  refine jm_icN (Y := YL_law) (pc := 657) 1 dL_law_657 rfl ?_
  refine jm_addN (Y := YL_law) (pc := 658) dL_law_658 ?_
  refine jm_sld (Y := YL_law) (pc := 659) dL_law_659 (vp_in_nI (by omega) (by omega)) ?_
  refine jm_V1i (Y := YL_law) (pc := 660) dL_law_660 lk_RL_81 ⟨_, rfl⟩ rfl rfl (by decide) (Nat.le_of_ble_eq_true rfl) ⟨by decide, by decide⟩ (hn) (fun r_660 M_660 q_660 => ?_)
  obtain ⟨eo, hI2⟩ := q_660
  cases eo
  refine jm_icmp_eq (Y := YL_law) (pc := 663) dL_law_663 rfl (fun _ => ?_) (fun h => absurd rfl h)
  exact K _ hI2
theorem law_over {L : Nat} {xs : Nat → Int32} {M : jm_M} {i : Nat} (hi : i + 5 < L) (hL : L ≤ 3072) (hI : GI M) (Q : Option Value → jm_M → Prop) (K : ∀ M1, GI M1 → jm_J (some (L, xs)) YL_law 1199 [some (.ref 1000), some (.ref 0), some (.ref 11), some (.int (nI i))] [] M1 Q) : jm_J (some (L, xs)) YL_law 668 [some (.ref 1000), some (.ref 0), some (.ref 11), some (.int (nI i))] [] M Q := by
  refine jm_ald_n (Y := YL_law) (pc := 668) (i := 1) dL_law_668 rfl rfl ?_
  refine jm_ald_n (Y := YL_law) (pc := 669) (i := 0) dL_law_669 rfl rfl ?_
  refine jm_ild_n (Y := YL_law) (pc := 670) (i := 3) dL_law_670 rfl rfl ?_
  refine jm_icN (Y := YL_law) (pc := 671) 1 dL_law_671 rfl ?_
  refine jm_addN (Y := YL_law) (pc := 672) dL_law_672 ?_
  refine jm_sld (Y := YL_law) (pc := 673) dL_law_673 (vp_in_nI (by omega) (by omega)) ?_
  refine jm_V1i (Y := YL_law) (pc := 674) dL_law_674 lk_RL_82 ⟨_, rfl⟩ rfl rfl (by decide) (Nat.le_of_ble_eq_true rfl) ⟨by decide, by decide⟩ (st_over hI _) (fun r_674 M_674 q_674 => ?_)
  obtain ⟨v, ev, hn⟩ := q_674
  cases ev
  refine jm_ald_n (Y := YL_law) (pc := 677) (i := 2) dL_law_677 rfl rfl ?_
  refine jm_ald_n (Y := YL_law) (pc := 678) (i := 0) dL_law_678 rfl rfl ?_
  refine jm_ild_n (Y := YL_law) (pc := 679) (i := 3) dL_law_679 rfl rfl ?_
  refine jm_icN (Y := YL_law) (pc := 680) 1 dL_law_680 rfl ?_
  refine jm_addN (Y := YL_law) (pc := 681) dL_law_681 ?_
  refine jm_sld (Y := YL_law) (pc := 682) dL_law_682 (vp_in_nI (by omega) (by omega)) ?_
  refine jm_V1i (Y := YL_law) (pc := 683) dL_law_683 lk_RL_85 ⟨_, rfl⟩ rfl rfl (by decide) (Nat.le_of_ble_eq_true rfl) ⟨by decide, by decide⟩ (hn) (fun r_683 M_683 q_683 => ?_)
  obtain ⟨eo, hI2⟩ := q_683
  cases eo
  refine jm_icmp_eq (Y := YL_law) (pc := 686) dL_law_686 rfl (fun _ => ?_) (fun h => absurd rfl h)
  exact K _ hI2
theorem law_kept {L : Nat} {xs : Nat → Int32} {M : jm_M} {i : Nat} (hi : i + 5 < L) (hL : L ≤ 3072) (hI : GI M) (Q : Option Value → jm_M → Prop) (K : ∀ M1, GI M1 → jm_J (some (L, xs)) YL_law 1199 [some (.ref 1000), some (.ref 0), some (.ref 11), some (.int (nI i))] [] M1 Q) : jm_J (some (L, xs)) YL_law 691 [some (.ref 1000), some (.ref 0), some (.ref 11), some (.int (nI i))] [] M Q := by
  refine jm_ald_n (Y := YL_law) (pc := 691) (i := 1) dL_law_691 rfl rfl ?_
  refine jm_V0i (Y := YL_law) (pc := 692) dL_law_692 lk_RL_86 ⟨_, rfl⟩ rfl (by decide) (Nat.le_of_ble_eq_true rfl) ⟨by decide, by decide⟩ (st_kept hI) (fun r_692 M_692 q_692 => ?_)
  obtain ⟨v, ev, hn⟩ := q_692
  cases ev
  refine jm_ald_n (Y := YL_law) (pc := 695) (i := 2) dL_law_695 rfl rfl ?_
  refine jm_V0i (Y := YL_law) (pc := 696) dL_law_696 lk_RL_89 ⟨_, rfl⟩ rfl (by decide) (Nat.le_of_ble_eq_true rfl) ⟨by decide, by decide⟩ (hn) (fun r_696 M_696 q_696 => ?_)
  obtain ⟨eo, hI2⟩ := q_696
  cases eo
  refine jm_icmp_eq (Y := YL_law) (pc := 699) dL_law_699 rfl (fun _ => ?_) (fun h => absurd rfl h)
  exact K _ hI2
theorem law_calm {L : Nat} {xs : Nat → Int32} {M : jm_M} {i : Nat} (hi : i + 5 < L) (hL : L ≤ 3072) (hI : GI M) (Q : Option Value → jm_M → Prop) (K : ∀ M1, GI M1 → jm_J (some (L, xs)) YL_law 1199 [some (.ref 1000), some (.ref 0), some (.ref 11), some (.int (nI i))] [] M1 Q) : jm_J (some (L, xs)) YL_law 704 [some (.ref 1000), some (.ref 0), some (.ref 11), some (.int (nI i))] [] M Q := by
  refine jm_ald_n (Y := YL_law) (pc := 704) (i := 1) dL_law_704 rfl rfl ?_
  refine jm_ald_n (Y := YL_law) (pc := 705) (i := 0) dL_law_705 rfl rfl ?_
  refine jm_ild_n (Y := YL_law) (pc := 706) (i := 3) dL_law_706 rfl rfl ?_
  refine jm_icN (Y := YL_law) (pc := 707) 1 dL_law_707 rfl ?_
  refine jm_addN (Y := YL_law) (pc := 708) dL_law_708 ?_
  refine jm_sld (Y := YL_law) (pc := 709) dL_law_709 (vp_in_nI (by omega) (by omega)) ?_
  refine jm_ald_n (Y := YL_law) (pc := 710) (i := 0) dL_law_710 rfl rfl ?_
  refine jm_ild_n (Y := YL_law) (pc := 711) (i := 3) dL_law_711 rfl rfl ?_
  refine jm_icN (Y := YL_law) (pc := 712) 2 dL_law_712 rfl ?_
  refine jm_addN (Y := YL_law) (pc := 713) dL_law_713 ?_
  refine jm_sld (Y := YL_law) (pc := 714) dL_law_714 (vp_in_nI (by omega) (by omega)) ?_
  refine jm_V2i (Y := YL_law) (pc := 715) dL_law_715 lk_RL_90 ⟨_, rfl⟩ rfl rfl rfl (by decide) (Nat.le_of_ble_eq_true rfl) ⟨by decide, by decide⟩ (st_calm hI _ _) (fun r_715 M_715 q_715 => ?_)
  obtain ⟨v, ev, hn⟩ := q_715
  cases ev
  refine jm_ald_n (Y := YL_law) (pc := 718) (i := 2) dL_law_718 rfl rfl ?_
  refine jm_ald_n (Y := YL_law) (pc := 719) (i := 0) dL_law_719 rfl rfl ?_
  refine jm_ild_n (Y := YL_law) (pc := 720) (i := 3) dL_law_720 rfl rfl ?_
  refine jm_icN (Y := YL_law) (pc := 721) 1 dL_law_721 rfl ?_
  refine jm_addN (Y := YL_law) (pc := 722) dL_law_722 ?_
  refine jm_sld (Y := YL_law) (pc := 723) dL_law_723 (vp_in_nI (by omega) (by omega)) ?_
  refine jm_ald_n (Y := YL_law) (pc := 724) (i := 0) dL_law_724 rfl rfl ?_
  refine jm_ild_n (Y := YL_law) (pc := 725) (i := 3) dL_law_725 rfl rfl ?_
  refine jm_icN (Y := YL_law) (pc := 726) 2 dL_law_726 rfl ?_
  refine jm_addN (Y := YL_law) (pc := 727) dL_law_727 ?_
  refine jm_sld (Y := YL_law) (pc := 728) dL_law_728 (vp_in_nI (by omega) (by omega)) ?_
  refine jm_V2i (Y := YL_law) (pc := 729) dL_law_729 lk_RL_93 ⟨_, rfl⟩ rfl rfl rfl (by decide) (Nat.le_of_ble_eq_true rfl) ⟨by decide, by decide⟩ (hn) (fun r_729 M_729 q_729 => ?_)
  obtain ⟨eo, hI2⟩ := q_729
  cases eo
  refine jm_icmp_eq (Y := YL_law) (pc := 732) dL_law_732 rfl (fun _ => ?_) (fun h => absurd rfl h)
  exact K _ hI2
theorem law_swift {L : Nat} {xs : Nat → Int32} {M : jm_M} {i : Nat} (hi : i + 5 < L) (hL : L ≤ 3072) (hI : GI M) (Q : Option Value → jm_M → Prop) (K : ∀ M1, GI M1 → jm_J (some (L, xs)) YL_law 1199 [some (.ref 1000), some (.ref 0), some (.ref 11), some (.int (nI i))] [] M1 Q) : jm_J (some (L, xs)) YL_law 737 [some (.ref 1000), some (.ref 0), some (.ref 11), some (.int (nI i))] [] M Q := by
  refine jm_ald_n (Y := YL_law) (pc := 737) (i := 1) dL_law_737 rfl rfl ?_
  refine jm_ald_n (Y := YL_law) (pc := 738) (i := 0) dL_law_738 rfl rfl ?_
  refine jm_ild_n (Y := YL_law) (pc := 739) (i := 3) dL_law_739 rfl rfl ?_
  refine jm_icN (Y := YL_law) (pc := 740) 1 dL_law_740 rfl ?_
  refine jm_addN (Y := YL_law) (pc := 741) dL_law_741 ?_
  refine jm_sld (Y := YL_law) (pc := 742) dL_law_742 (vp_in_nI (by omega) (by omega)) ?_
  refine jm_ald_n (Y := YL_law) (pc := 743) (i := 0) dL_law_743 rfl rfl ?_
  refine jm_ild_n (Y := YL_law) (pc := 744) (i := 3) dL_law_744 rfl rfl ?_
  refine jm_icN (Y := YL_law) (pc := 745) 2 dL_law_745 rfl ?_
  refine jm_addN (Y := YL_law) (pc := 746) dL_law_746 ?_
  refine jm_sld (Y := YL_law) (pc := 747) dL_law_747 (vp_in_nI (by omega) (by omega)) ?_
  refine jm_V2i (Y := YL_law) (pc := 748) dL_law_748 lk_RL_94 ⟨_, rfl⟩ rfl rfl rfl (by decide) (Nat.le_of_ble_eq_true rfl) ⟨by decide, by decide⟩ (st_swift hI _ _) (fun r_748 M_748 q_748 => ?_)
  obtain ⟨v, ev, hn⟩ := q_748
  cases ev
  refine jm_ald_n (Y := YL_law) (pc := 751) (i := 2) dL_law_751 rfl rfl ?_
  refine jm_ald_n (Y := YL_law) (pc := 752) (i := 0) dL_law_752 rfl rfl ?_
  refine jm_ild_n (Y := YL_law) (pc := 753) (i := 3) dL_law_753 rfl rfl ?_
  refine jm_icN (Y := YL_law) (pc := 754) 1 dL_law_754 rfl ?_
  refine jm_addN (Y := YL_law) (pc := 755) dL_law_755 ?_
  refine jm_sld (Y := YL_law) (pc := 756) dL_law_756 (vp_in_nI (by omega) (by omega)) ?_
  refine jm_ald_n (Y := YL_law) (pc := 757) (i := 0) dL_law_757 rfl rfl ?_
  refine jm_ild_n (Y := YL_law) (pc := 758) (i := 3) dL_law_758 rfl rfl ?_
  refine jm_icN (Y := YL_law) (pc := 759) 2 dL_law_759 rfl ?_
  refine jm_addN (Y := YL_law) (pc := 760) dL_law_760 ?_
  refine jm_sld (Y := YL_law) (pc := 761) dL_law_761 (vp_in_nI (by omega) (by omega)) ?_
  refine jm_V2i (Y := YL_law) (pc := 762) dL_law_762 lk_RL_97 ⟨_, rfl⟩ rfl rfl rfl (by decide) (Nat.le_of_ble_eq_true rfl) ⟨by decide, by decide⟩ (hn) (fun r_762 M_762 q_762 => ?_)
  obtain ⟨eo, hI2⟩ := q_762
  cases eo
  refine jm_icmp_eq (Y := YL_law) (pc := 765) dL_law_765 rfl (fun _ => ?_) (fun h => absurd rfl h)
  exact K _ hI2
theorem law_stir {L : Nat} {xs : Nat → Int32} {M : jm_M} {i : Nat} (hi : i + 5 < L) (hL : L ≤ 3072) (hI : GI M) (Q : Option Value → jm_M → Prop) (K : ∀ M1, GI M1 → jm_J (some (L, xs)) YL_law 1199 [some (.ref 1000), some (.ref 0), some (.ref 11), some (.int (nI i))] [] M1 Q) : jm_J (some (L, xs)) YL_law 770 [some (.ref 1000), some (.ref 0), some (.ref 11), some (.int (nI i))] [] M Q := by
  refine jm_ald_n (Y := YL_law) (pc := 770) (i := 1) dL_law_770 rfl rfl ?_
  refine jm_ald_n (Y := YL_law) (pc := 771) (i := 0) dL_law_771 rfl rfl ?_
  refine jm_ild_n (Y := YL_law) (pc := 772) (i := 3) dL_law_772 rfl rfl ?_
  refine jm_icN (Y := YL_law) (pc := 773) 1 dL_law_773 rfl ?_
  refine jm_addN (Y := YL_law) (pc := 774) dL_law_774 ?_
  refine jm_sld (Y := YL_law) (pc := 775) dL_law_775 (vp_in_nI (by omega) (by omega)) ?_
  refine jm_ald_n (Y := YL_law) (pc := 776) (i := 0) dL_law_776 rfl rfl ?_
  refine jm_ild_n (Y := YL_law) (pc := 777) (i := 3) dL_law_777 rfl rfl ?_
  refine jm_icN (Y := YL_law) (pc := 778) 2 dL_law_778 rfl ?_
  refine jm_addN (Y := YL_law) (pc := 779) dL_law_779 ?_
  refine jm_sld (Y := YL_law) (pc := 780) dL_law_780 (vp_in_nI (by omega) (by omega)) ?_
  refine jm_ald_n (Y := YL_law) (pc := 781) (i := 0) dL_law_781 rfl rfl ?_
  refine jm_ild_n (Y := YL_law) (pc := 782) (i := 3) dL_law_782 rfl rfl ?_
  refine jm_icN (Y := YL_law) (pc := 783) 3 dL_law_783 rfl ?_
  refine jm_addN (Y := YL_law) (pc := 784) dL_law_784 ?_
  refine jm_sld (Y := YL_law) (pc := 785) dL_law_785 (vp_in_nI (by omega) (by omega)) ?_
  refine jm_V3i (Y := YL_law) (pc := 786) dL_law_786 lk_RL_98 ⟨_, rfl⟩ rfl rfl rfl rfl (by decide) (Nat.le_of_ble_eq_true rfl) ⟨by decide, by decide⟩ (st_stir hI _ _ _) (fun r_786 M_786 q_786 => ?_)
  obtain ⟨v, ev, hn⟩ := q_786
  cases ev
  refine jm_ald_n (Y := YL_law) (pc := 789) (i := 2) dL_law_789 rfl rfl ?_
  refine jm_ald_n (Y := YL_law) (pc := 790) (i := 0) dL_law_790 rfl rfl ?_
  refine jm_ild_n (Y := YL_law) (pc := 791) (i := 3) dL_law_791 rfl rfl ?_
  refine jm_icN (Y := YL_law) (pc := 792) 1 dL_law_792 rfl ?_
  refine jm_addN (Y := YL_law) (pc := 793) dL_law_793 ?_
  refine jm_sld (Y := YL_law) (pc := 794) dL_law_794 (vp_in_nI (by omega) (by omega)) ?_
  refine jm_ald_n (Y := YL_law) (pc := 795) (i := 0) dL_law_795 rfl rfl ?_
  refine jm_ild_n (Y := YL_law) (pc := 796) (i := 3) dL_law_796 rfl rfl ?_
  refine jm_icN (Y := YL_law) (pc := 797) 2 dL_law_797 rfl ?_
  refine jm_addN (Y := YL_law) (pc := 798) dL_law_798 ?_
  refine jm_sld (Y := YL_law) (pc := 799) dL_law_799 (vp_in_nI (by omega) (by omega)) ?_
  refine jm_ald_n (Y := YL_law) (pc := 800) (i := 0) dL_law_800 rfl rfl ?_
  refine jm_ild_n (Y := YL_law) (pc := 801) (i := 3) dL_law_801 rfl rfl ?_
  refine jm_icN (Y := YL_law) (pc := 802) 3 dL_law_802 rfl ?_
  refine jm_addN (Y := YL_law) (pc := 803) dL_law_803 ?_
  refine jm_sld (Y := YL_law) (pc := 804) dL_law_804 (vp_in_nI (by omega) (by omega)) ?_
  refine jm_V3i (Y := YL_law) (pc := 805) dL_law_805 lk_RL_101 ⟨_, rfl⟩ rfl rfl rfl rfl (by decide) (Nat.le_of_ble_eq_true rfl) ⟨by decide, by decide⟩ (hn) (fun r_805 M_805 q_805 => ?_)
  obtain ⟨eo, hI2⟩ := q_805
  cases eo
  refine jm_icmp_eq (Y := YL_law) (pc := 808) dL_law_808 rfl (fun _ => ?_) (fun h => absurd rfl h)
  exact K _ hI2
theorem law_share {L : Nat} {xs : Nat → Int32} {M : jm_M} {i : Nat} (hi : i + 5 < L) (hL : L ≤ 3072) (hI : GI M) (Q : Option Value → jm_M → Prop) (K : ∀ M1, GI M1 → jm_J (some (L, xs)) YL_law 1199 [some (.ref 1000), some (.ref 0), some (.ref 11), some (.int (nI i))] [] M1 Q) : jm_J (some (L, xs)) YL_law 813 [some (.ref 1000), some (.ref 0), some (.ref 11), some (.int (nI i))] [] M Q := by
  refine jm_ald_n (Y := YL_law) (pc := 813) (i := 1) dL_law_813 rfl rfl ?_
  refine jm_ald_n (Y := YL_law) (pc := 814) (i := 0) dL_law_814 rfl rfl ?_
  refine jm_ild_n (Y := YL_law) (pc := 815) (i := 3) dL_law_815 rfl rfl ?_
  refine jm_icN (Y := YL_law) (pc := 816) 1 dL_law_816 rfl ?_
  refine jm_addN (Y := YL_law) (pc := 817) dL_law_817 ?_
  refine jm_sld (Y := YL_law) (pc := 818) dL_law_818 (vp_in_nI (by omega) (by omega)) ?_
  refine jm_ald_n (Y := YL_law) (pc := 819) (i := 0) dL_law_819 rfl rfl ?_
  refine jm_ild_n (Y := YL_law) (pc := 820) (i := 3) dL_law_820 rfl rfl ?_
  refine jm_icN (Y := YL_law) (pc := 821) 2 dL_law_821 rfl ?_
  refine jm_addN (Y := YL_law) (pc := 822) dL_law_822 ?_
  refine jm_sld (Y := YL_law) (pc := 823) dL_law_823 (vp_in_nI (by omega) (by omega)) ?_
  refine jm_V2i (Y := YL_law) (pc := 824) dL_law_824 lk_RL_102 ⟨_, rfl⟩ rfl rfl rfl (by decide) (Nat.le_of_ble_eq_true rfl) ⟨by decide, by decide⟩ (st_share hI _ _) (fun r_824 M_824 q_824 => ?_)
  obtain ⟨v, ev, hn⟩ := q_824
  cases ev
  refine jm_ald_n (Y := YL_law) (pc := 827) (i := 2) dL_law_827 rfl rfl ?_
  refine jm_ald_n (Y := YL_law) (pc := 828) (i := 0) dL_law_828 rfl rfl ?_
  refine jm_ild_n (Y := YL_law) (pc := 829) (i := 3) dL_law_829 rfl rfl ?_
  refine jm_icN (Y := YL_law) (pc := 830) 1 dL_law_830 rfl ?_
  refine jm_addN (Y := YL_law) (pc := 831) dL_law_831 ?_
  refine jm_sld (Y := YL_law) (pc := 832) dL_law_832 (vp_in_nI (by omega) (by omega)) ?_
  refine jm_ald_n (Y := YL_law) (pc := 833) (i := 0) dL_law_833 rfl rfl ?_
  refine jm_ild_n (Y := YL_law) (pc := 834) (i := 3) dL_law_834 rfl rfl ?_
  refine jm_icN (Y := YL_law) (pc := 835) 2 dL_law_835 rfl ?_
  refine jm_addN (Y := YL_law) (pc := 836) dL_law_836 ?_
  refine jm_sld (Y := YL_law) (pc := 837) dL_law_837 (vp_in_nI (by omega) (by omega)) ?_
  refine jm_V2i (Y := YL_law) (pc := 838) dL_law_838 lk_RL_105 ⟨_, rfl⟩ rfl rfl rfl (by decide) (Nat.le_of_ble_eq_true rfl) ⟨by decide, by decide⟩ (hn) (fun r_838 M_838 q_838 => ?_)
  obtain ⟨eo, hI2⟩ := q_838
  cases eo
  refine jm_icmp_eq (Y := YL_law) (pc := 841) dL_law_841 rfl (fun _ => ?_) (fun h => absurd rfl h)
  exact K _ hI2
theorem law_fits {L : Nat} {xs : Nat → Int32} {M : jm_M} {i : Nat} (hi : i + 5 < L) (hL : L ≤ 3072) (hI : GI M) (Q : Option Value → jm_M → Prop) (K : ∀ M1, GI M1 → jm_J (some (L, xs)) YL_law 1199 [some (.ref 1000), some (.ref 0), some (.ref 11), some (.int (nI i))] [] M1 Q) : jm_J (some (L, xs)) YL_law 846 [some (.ref 1000), some (.ref 0), some (.ref 11), some (.int (nI i))] [] M Q := by
  refine jm_ald_n (Y := YL_law) (pc := 846) (i := 1) dL_law_846 rfl rfl ?_
  refine jm_ald_n (Y := YL_law) (pc := 847) (i := 0) dL_law_847 rfl rfl ?_
  refine jm_ild_n (Y := YL_law) (pc := 848) (i := 3) dL_law_848 rfl rfl ?_
  refine jm_icN (Y := YL_law) (pc := 849) 1 dL_law_849 rfl ?_
  refine jm_addN (Y := YL_law) (pc := 850) dL_law_850 ?_
  refine jm_sld (Y := YL_law) (pc := 851) dL_law_851 (vp_in_nI (by omega) (by omega)) ?_
  refine jm_ald_n (Y := YL_law) (pc := 852) (i := 0) dL_law_852 rfl rfl ?_
  refine jm_ild_n (Y := YL_law) (pc := 853) (i := 3) dL_law_853 rfl rfl ?_
  refine jm_icN (Y := YL_law) (pc := 854) 2 dL_law_854 rfl ?_
  refine jm_addN (Y := YL_law) (pc := 855) dL_law_855 ?_
  refine jm_sld (Y := YL_law) (pc := 856) dL_law_856 (vp_in_nI (by omega) (by omega)) ?_
  refine jm_ald_n (Y := YL_law) (pc := 857) (i := 0) dL_law_857 rfl rfl ?_
  refine jm_ild_n (Y := YL_law) (pc := 858) (i := 3) dL_law_858 rfl rfl ?_
  refine jm_icN (Y := YL_law) (pc := 859) 3 dL_law_859 rfl ?_
  refine jm_addN (Y := YL_law) (pc := 860) dL_law_860 ?_
  refine jm_sld (Y := YL_law) (pc := 861) dL_law_861 (vp_in_nI (by omega) (by omega)) ?_
  refine jm_ald_n (Y := YL_law) (pc := 862) (i := 0) dL_law_862 rfl rfl ?_
  refine jm_ild_n (Y := YL_law) (pc := 863) (i := 3) dL_law_863 rfl rfl ?_
  refine jm_icN (Y := YL_law) (pc := 864) 4 dL_law_864 rfl ?_
  refine jm_addN (Y := YL_law) (pc := 865) dL_law_865 ?_
  refine jm_sld (Y := YL_law) (pc := 866) dL_law_866 (vp_in_nI (by omega) (by omega)) ?_
  refine jm_ald_n (Y := YL_law) (pc := 867) (i := 0) dL_law_867 rfl rfl ?_
  refine jm_ild_n (Y := YL_law) (pc := 868) (i := 3) dL_law_868 rfl rfl ?_
  refine jm_icN (Y := YL_law) (pc := 869) 5 dL_law_869 rfl ?_
  refine jm_addN (Y := YL_law) (pc := 870) dL_law_870 ?_
  refine jm_sld (Y := YL_law) (pc := 871) dL_law_871 (vp_in_nI (by omega) (by omega)) ?_
  refine jm_V5i (Y := YL_law) (pc := 872) dL_law_872 lk_RL_106 ⟨_, rfl⟩ rfl rfl rfl rfl rfl rfl (by decide) (Nat.le_of_ble_eq_true rfl) ⟨by decide, by decide⟩ (st_fits hI _ _ _ _ _) (fun r_872 M_872 q_872 => ?_)
  obtain ⟨v, ev, hn⟩ := q_872
  cases ev
  refine jm_ald_n (Y := YL_law) (pc := 875) (i := 2) dL_law_875 rfl rfl ?_
  refine jm_ald_n (Y := YL_law) (pc := 876) (i := 0) dL_law_876 rfl rfl ?_
  refine jm_ild_n (Y := YL_law) (pc := 877) (i := 3) dL_law_877 rfl rfl ?_
  refine jm_icN (Y := YL_law) (pc := 878) 1 dL_law_878 rfl ?_
  refine jm_addN (Y := YL_law) (pc := 879) dL_law_879 ?_
  refine jm_sld (Y := YL_law) (pc := 880) dL_law_880 (vp_in_nI (by omega) (by omega)) ?_
  refine jm_ald_n (Y := YL_law) (pc := 881) (i := 0) dL_law_881 rfl rfl ?_
  refine jm_ild_n (Y := YL_law) (pc := 882) (i := 3) dL_law_882 rfl rfl ?_
  refine jm_icN (Y := YL_law) (pc := 883) 2 dL_law_883 rfl ?_
  refine jm_addN (Y := YL_law) (pc := 884) dL_law_884 ?_
  refine jm_sld (Y := YL_law) (pc := 885) dL_law_885 (vp_in_nI (by omega) (by omega)) ?_
  refine jm_ald_n (Y := YL_law) (pc := 886) (i := 0) dL_law_886 rfl rfl ?_
  refine jm_ild_n (Y := YL_law) (pc := 887) (i := 3) dL_law_887 rfl rfl ?_
  refine jm_icN (Y := YL_law) (pc := 888) 3 dL_law_888 rfl ?_
  refine jm_addN (Y := YL_law) (pc := 889) dL_law_889 ?_
  refine jm_sld (Y := YL_law) (pc := 890) dL_law_890 (vp_in_nI (by omega) (by omega)) ?_
  refine jm_ald_n (Y := YL_law) (pc := 891) (i := 0) dL_law_891 rfl rfl ?_
  refine jm_ild_n (Y := YL_law) (pc := 892) (i := 3) dL_law_892 rfl rfl ?_
  refine jm_icN (Y := YL_law) (pc := 893) 4 dL_law_893 rfl ?_
  refine jm_addN (Y := YL_law) (pc := 894) dL_law_894 ?_
  refine jm_sld (Y := YL_law) (pc := 895) dL_law_895 (vp_in_nI (by omega) (by omega)) ?_
  refine jm_ald_n (Y := YL_law) (pc := 896) (i := 0) dL_law_896 rfl rfl ?_
  refine jm_ild_n (Y := YL_law) (pc := 897) (i := 3) dL_law_897 rfl rfl ?_
  refine jm_icN (Y := YL_law) (pc := 898) 5 dL_law_898 rfl ?_
  refine jm_addN (Y := YL_law) (pc := 899) dL_law_899 ?_
  refine jm_sld (Y := YL_law) (pc := 900) dL_law_900 (vp_in_nI (by omega) (by omega)) ?_
  refine jm_V5i (Y := YL_law) (pc := 901) dL_law_901 lk_RL_109 ⟨_, rfl⟩ rfl rfl rfl rfl rfl rfl (by decide) (Nat.le_of_ble_eq_true rfl) ⟨by decide, by decide⟩ (hn) (fun r_901 M_901 q_901 => ?_)
  obtain ⟨eo, hI2⟩ := q_901
  cases eo
  refine jm_icmp_eq (Y := YL_law) (pc := 904) dL_law_904 rfl (fun _ => ?_) (fun h => absurd rfl h)
  exact K _ hI2
theorem law_chance {L : Nat} {xs : Nat → Int32} {M : jm_M} {i : Nat} (hi : i + 5 < L) (hL : L ≤ 3072) (hI : GI M) (Q : Option Value → jm_M → Prop) (K : ∀ M1, GI M1 → jm_J (some (L, xs)) YL_law 1199 [some (.ref 1000), some (.ref 0), some (.ref 11), some (.int (nI i))] [] M1 Q) : jm_J (some (L, xs)) YL_law 909 [some (.ref 1000), some (.ref 0), some (.ref 11), some (.int (nI i))] [] M Q := by
  refine jm_ald_n (Y := YL_law) (pc := 909) (i := 1) dL_law_909 rfl rfl ?_
  refine jm_ald_n (Y := YL_law) (pc := 910) (i := 0) dL_law_910 rfl rfl ?_
  refine jm_ild_n (Y := YL_law) (pc := 911) (i := 3) dL_law_911 rfl rfl ?_
  refine jm_icN (Y := YL_law) (pc := 912) 1 dL_law_912 rfl ?_
  refine jm_addN (Y := YL_law) (pc := 913) dL_law_913 ?_
  refine jm_sld (Y := YL_law) (pc := 914) dL_law_914 (vp_in_nI (by omega) (by omega)) ?_
  refine jm_ald_n (Y := YL_law) (pc := 915) (i := 0) dL_law_915 rfl rfl ?_
  refine jm_ild_n (Y := YL_law) (pc := 916) (i := 3) dL_law_916 rfl rfl ?_
  refine jm_icN (Y := YL_law) (pc := 917) 2 dL_law_917 rfl ?_
  refine jm_addN (Y := YL_law) (pc := 918) dL_law_918 ?_
  refine jm_sld (Y := YL_law) (pc := 919) dL_law_919 (vp_in_nI (by omega) (by omega)) ?_
  refine jm_ald_n (Y := YL_law) (pc := 920) (i := 0) dL_law_920 rfl rfl ?_
  refine jm_ild_n (Y := YL_law) (pc := 921) (i := 3) dL_law_921 rfl rfl ?_
  refine jm_icN (Y := YL_law) (pc := 922) 3 dL_law_922 rfl ?_
  refine jm_addN (Y := YL_law) (pc := 923) dL_law_923 ?_
  refine jm_sld (Y := YL_law) (pc := 924) dL_law_924 (vp_in_nI (by omega) (by omega)) ?_
  refine jm_ald_n (Y := YL_law) (pc := 925) (i := 0) dL_law_925 rfl rfl ?_
  refine jm_ild_n (Y := YL_law) (pc := 926) (i := 3) dL_law_926 rfl rfl ?_
  refine jm_icN (Y := YL_law) (pc := 927) 4 dL_law_927 rfl ?_
  refine jm_addN (Y := YL_law) (pc := 928) dL_law_928 ?_
  refine jm_sld (Y := YL_law) (pc := 929) dL_law_929 (vp_in_nI (by omega) (by omega)) ?_
  refine jm_V4i (Y := YL_law) (pc := 930) dL_law_930 lk_RL_110 ⟨_, rfl⟩ rfl rfl rfl rfl rfl (by decide) (Nat.le_of_ble_eq_true rfl) ⟨by decide, by decide⟩ (st_chance hI _ _ _ _) (fun r_930 M_930 q_930 => ?_)
  obtain ⟨v, ev, hn⟩ := q_930
  cases ev
  refine jm_ald_n (Y := YL_law) (pc := 933) (i := 2) dL_law_933 rfl rfl ?_
  refine jm_ald_n (Y := YL_law) (pc := 934) (i := 0) dL_law_934 rfl rfl ?_
  refine jm_ild_n (Y := YL_law) (pc := 935) (i := 3) dL_law_935 rfl rfl ?_
  refine jm_icN (Y := YL_law) (pc := 936) 1 dL_law_936 rfl ?_
  refine jm_addN (Y := YL_law) (pc := 937) dL_law_937 ?_
  refine jm_sld (Y := YL_law) (pc := 938) dL_law_938 (vp_in_nI (by omega) (by omega)) ?_
  refine jm_ald_n (Y := YL_law) (pc := 939) (i := 0) dL_law_939 rfl rfl ?_
  refine jm_ild_n (Y := YL_law) (pc := 940) (i := 3) dL_law_940 rfl rfl ?_
  refine jm_icN (Y := YL_law) (pc := 941) 2 dL_law_941 rfl ?_
  refine jm_addN (Y := YL_law) (pc := 942) dL_law_942 ?_
  refine jm_sld (Y := YL_law) (pc := 943) dL_law_943 (vp_in_nI (by omega) (by omega)) ?_
  refine jm_ald_n (Y := YL_law) (pc := 944) (i := 0) dL_law_944 rfl rfl ?_
  refine jm_ild_n (Y := YL_law) (pc := 945) (i := 3) dL_law_945 rfl rfl ?_
  refine jm_icN (Y := YL_law) (pc := 946) 3 dL_law_946 rfl ?_
  refine jm_addN (Y := YL_law) (pc := 947) dL_law_947 ?_
  refine jm_sld (Y := YL_law) (pc := 948) dL_law_948 (vp_in_nI (by omega) (by omega)) ?_
  refine jm_ald_n (Y := YL_law) (pc := 949) (i := 0) dL_law_949 rfl rfl ?_
  refine jm_ild_n (Y := YL_law) (pc := 950) (i := 3) dL_law_950 rfl rfl ?_
  refine jm_icN (Y := YL_law) (pc := 951) 4 dL_law_951 rfl ?_
  refine jm_addN (Y := YL_law) (pc := 952) dL_law_952 ?_
  refine jm_sld (Y := YL_law) (pc := 953) dL_law_953 (vp_in_nI (by omega) (by omega)) ?_
  refine jm_V4i (Y := YL_law) (pc := 954) dL_law_954 lk_RL_114 ⟨_, rfl⟩ rfl rfl rfl rfl rfl (by decide) (Nat.le_of_ble_eq_true rfl) ⟨by decide, by decide⟩ (hn) (fun r_954 M_954 q_954 => ?_)
  obtain ⟨eo, hI2⟩ := q_954
  cases eo
  refine jm_icmp_eq (Y := YL_law) (pc := 957) dL_law_957 rfl (fun _ => ?_) (fun h => absurd rfl h)
  exact K _ hI2
theorem law_drawn {L : Nat} {xs : Nat → Int32} {M : jm_M} {i : Nat} (hi : i + 5 < L) (hL : L ≤ 3072) (hI : GI M) (Q : Option Value → jm_M → Prop) (K : ∀ M1, GI M1 → jm_J (some (L, xs)) YL_law 1199 [some (.ref 1000), some (.ref 0), some (.ref 11), some (.int (nI i))] [] M1 Q) : jm_J (some (L, xs)) YL_law 962 [some (.ref 1000), some (.ref 0), some (.ref 11), some (.int (nI i))] [] M Q := by
  refine jm_ald_n (Y := YL_law) (pc := 962) (i := 1) dL_law_962 rfl rfl ?_
  refine jm_ald_n (Y := YL_law) (pc := 963) (i := 0) dL_law_963 rfl rfl ?_
  refine jm_ild_n (Y := YL_law) (pc := 964) (i := 3) dL_law_964 rfl rfl ?_
  refine jm_icN (Y := YL_law) (pc := 965) 1 dL_law_965 rfl ?_
  refine jm_addN (Y := YL_law) (pc := 966) dL_law_966 ?_
  refine jm_sld (Y := YL_law) (pc := 967) dL_law_967 (vp_in_nI (by omega) (by omega)) ?_
  refine jm_ald_n (Y := YL_law) (pc := 968) (i := 0) dL_law_968 rfl rfl ?_
  refine jm_ild_n (Y := YL_law) (pc := 969) (i := 3) dL_law_969 rfl rfl ?_
  refine jm_icN (Y := YL_law) (pc := 970) 2 dL_law_970 rfl ?_
  refine jm_addN (Y := YL_law) (pc := 971) dL_law_971 ?_
  refine jm_sld (Y := YL_law) (pc := 972) dL_law_972 (vp_in_nI (by omega) (by omega)) ?_
  refine jm_ald_n (Y := YL_law) (pc := 973) (i := 0) dL_law_973 rfl rfl ?_
  refine jm_ild_n (Y := YL_law) (pc := 974) (i := 3) dL_law_974 rfl rfl ?_
  refine jm_icN (Y := YL_law) (pc := 975) 3 dL_law_975 rfl ?_
  refine jm_addN (Y := YL_law) (pc := 976) dL_law_976 ?_
  refine jm_sld (Y := YL_law) (pc := 977) dL_law_977 (vp_in_nI (by omega) (by omega)) ?_
  refine jm_V3i (Y := YL_law) (pc := 978) dL_law_978 lk_RL_115 ⟨_, rfl⟩ rfl rfl rfl rfl (by decide) (Nat.le_of_ble_eq_true rfl) ⟨by decide, by decide⟩ (st_drawn hI _ _ _) (fun r_978 M_978 q_978 => ?_)
  obtain ⟨v, ev, hn⟩ := q_978
  cases ev
  refine jm_ald_n (Y := YL_law) (pc := 981) (i := 2) dL_law_981 rfl rfl ?_
  refine jm_ald_n (Y := YL_law) (pc := 982) (i := 0) dL_law_982 rfl rfl ?_
  refine jm_ild_n (Y := YL_law) (pc := 983) (i := 3) dL_law_983 rfl rfl ?_
  refine jm_icN (Y := YL_law) (pc := 984) 1 dL_law_984 rfl ?_
  refine jm_addN (Y := YL_law) (pc := 985) dL_law_985 ?_
  refine jm_sld (Y := YL_law) (pc := 986) dL_law_986 (vp_in_nI (by omega) (by omega)) ?_
  refine jm_ald_n (Y := YL_law) (pc := 987) (i := 0) dL_law_987 rfl rfl ?_
  refine jm_ild_n (Y := YL_law) (pc := 988) (i := 3) dL_law_988 rfl rfl ?_
  refine jm_icN (Y := YL_law) (pc := 989) 2 dL_law_989 rfl ?_
  refine jm_addN (Y := YL_law) (pc := 990) dL_law_990 ?_
  refine jm_sld (Y := YL_law) (pc := 991) dL_law_991 (vp_in_nI (by omega) (by omega)) ?_
  refine jm_ald_n (Y := YL_law) (pc := 992) (i := 0) dL_law_992 rfl rfl ?_
  refine jm_ild_n (Y := YL_law) (pc := 993) (i := 3) dL_law_993 rfl rfl ?_
  refine jm_icN (Y := YL_law) (pc := 994) 3 dL_law_994 rfl ?_
  refine jm_addN (Y := YL_law) (pc := 995) dL_law_995 ?_
  refine jm_sld (Y := YL_law) (pc := 996) dL_law_996 (vp_in_nI (by omega) (by omega)) ?_
  refine jm_V3i (Y := YL_law) (pc := 997) dL_law_997 lk_RL_118 ⟨_, rfl⟩ rfl rfl rfl rfl (by decide) (Nat.le_of_ble_eq_true rfl) ⟨by decide, by decide⟩ (hn) (fun r_997 M_997 q_997 => ?_)
  obtain ⟨eo, hI2⟩ := q_997
  cases eo
  refine jm_icmp_eq (Y := YL_law) (pc := 1000) dL_law_1000 rfl (fun _ => ?_) (fun h => absurd rfl h)
  exact K _ hI2
theorem law_image {L : Nat} {xs : Nat → Int32} {M : jm_M} {i : Nat} (hi : i + 5 < L) (hL : L ≤ 3072) (hI : GI M) (Q : Option Value → jm_M → Prop) (K : ∀ M1, GI M1 → jm_J (some (L, xs)) YL_law 1199 [some (.ref 1000), some (.ref 0), some (.ref 11), some (.int (nI i))] [] M1 Q) : jm_J (some (L, xs)) YL_law 1005 [some (.ref 1000), some (.ref 0), some (.ref 11), some (.int (nI i))] [] M Q := by
  refine jm_ald_n (Y := YL_law) (pc := 1005) (i := 1) dL_law_1005 rfl rfl ?_
  refine jm_ald_n (Y := YL_law) (pc := 1006) (i := 0) dL_law_1006 rfl rfl ?_
  refine jm_ild_n (Y := YL_law) (pc := 1007) (i := 3) dL_law_1007 rfl rfl ?_
  refine jm_icN (Y := YL_law) (pc := 1008) 1 dL_law_1008 rfl ?_
  refine jm_addN (Y := YL_law) (pc := 1009) dL_law_1009 ?_
  refine jm_sld (Y := YL_law) (pc := 1010) dL_law_1010 (vp_in_nI (by omega) (by omega)) ?_
  refine jm_V1i (Y := YL_law) (pc := 1011) dL_law_1011 lk_RL_119 ⟨_, rfl⟩ rfl rfl (by decide) (Nat.le_of_ble_eq_true rfl) ⟨by decide, by decide⟩ (st_image hI _) (fun r_1011 M_1011 q_1011 => ?_)
  obtain ⟨v, ev, hn⟩ := q_1011
  cases ev
  refine jm_ald_n (Y := YL_law) (pc := 1014) (i := 2) dL_law_1014 rfl rfl ?_
  refine jm_ald_n (Y := YL_law) (pc := 1015) (i := 0) dL_law_1015 rfl rfl ?_
  refine jm_ild_n (Y := YL_law) (pc := 1016) (i := 3) dL_law_1016 rfl rfl ?_
  refine jm_icN (Y := YL_law) (pc := 1017) 1 dL_law_1017 rfl ?_
  refine jm_addN (Y := YL_law) (pc := 1018) dL_law_1018 ?_
  refine jm_sld (Y := YL_law) (pc := 1019) dL_law_1019 (vp_in_nI (by omega) (by omega)) ?_
  refine jm_V1i (Y := YL_law) (pc := 1020) dL_law_1020 lk_RL_122 ⟨_, rfl⟩ rfl rfl (by decide) (Nat.le_of_ble_eq_true rfl) ⟨by decide, by decide⟩ (hn) (fun r_1020 M_1020 q_1020 => ?_)
  obtain ⟨eo, hI2⟩ := q_1020
  cases eo
  refine jm_icmp_eq (Y := YL_law) (pc := 1023) dL_law_1023 rfl (fun _ => ?_) (fun h => absurd rfl h)
  exact K _ hI2
theorem law_restore {L : Nat} {xs : Nat → Int32} {M : jm_M} {i : Nat} (hi : i + 5 < L) (hL : L ≤ 3072) (hI : GI M) (Q : Option Value → jm_M → Prop) (K : ∀ M1, GI M1 → jm_J (some (L, xs)) YL_law 1199 [some (.ref 1000), some (.ref 0), some (.ref 11), some (.int (nI i))] [] M1 Q) : jm_J (some (L, xs)) YL_law 1028 [some (.ref 1000), some (.ref 0), some (.ref 11), some (.int (nI i))] [] M Q := by
  refine jm_ald_n (Y := YL_law) (pc := 1028) (i := 1) dL_law_1028 rfl rfl ?_
  refine jm_ald_n (Y := YL_law) (pc := 1029) (i := 0) dL_law_1029 rfl rfl ?_
  refine jm_ild_n (Y := YL_law) (pc := 1030) (i := 3) dL_law_1030 rfl rfl ?_
  refine jm_icN (Y := YL_law) (pc := 1031) 1 dL_law_1031 rfl ?_
  refine jm_addN (Y := YL_law) (pc := 1032) dL_law_1032 ?_
  refine jm_sld (Y := YL_law) (pc := 1033) dL_law_1033 (vp_in_nI (by omega) (by omega)) ?_
  refine jm_V1i (Y := YL_law) (pc := 1034) dL_law_1034 lk_RL_123 ⟨_, rfl⟩ rfl rfl (by decide) (Nat.le_of_ble_eq_true rfl) ⟨by decide, by decide⟩ (st_restore hI _) (fun r_1034 M_1034 q_1034 => ?_)
  obtain ⟨v, ev, hn⟩ := q_1034
  cases ev
  refine jm_ald_n (Y := YL_law) (pc := 1037) (i := 2) dL_law_1037 rfl rfl ?_
  refine jm_ald_n (Y := YL_law) (pc := 1038) (i := 0) dL_law_1038 rfl rfl ?_
  refine jm_ild_n (Y := YL_law) (pc := 1039) (i := 3) dL_law_1039 rfl rfl ?_
  refine jm_icN (Y := YL_law) (pc := 1040) 1 dL_law_1040 rfl ?_
  refine jm_addN (Y := YL_law) (pc := 1041) dL_law_1041 ?_
  refine jm_sld (Y := YL_law) (pc := 1042) dL_law_1042 (vp_in_nI (by omega) (by omega)) ?_
  refine jm_V1i (Y := YL_law) (pc := 1043) dL_law_1043 lk_RL_126 ⟨_, rfl⟩ rfl rfl (by decide) (Nat.le_of_ble_eq_true rfl) ⟨by decide, by decide⟩ (hn) (fun r_1043 M_1043 q_1043 => ?_)
  obtain ⟨eo, hI2⟩ := q_1043
  cases eo
  refine jm_icmp_eq (Y := YL_law) (pc := 1046) dL_law_1046 rfl (fun _ => ?_) (fun h => absurd rfl h)
  exact K _ hI2
theorem law_kind {L : Nat} {xs : Nat → Int32} {M : jm_M} {i : Nat} (hi : i + 5 < L) (hL : L ≤ 3072) (hI : GI M) (Q : Option Value → jm_M → Prop) (K : ∀ M1, GI M1 → jm_J (some (L, xs)) YL_law 1199 [some (.ref 1000), some (.ref 0), some (.ref 11), some (.int (nI i))] [] M1 Q) : jm_J (some (L, xs)) YL_law 1051 [some (.ref 1000), some (.ref 0), some (.ref 11), some (.int (nI i))] [] M Q := by
  refine jm_ald_n (Y := YL_law) (pc := 1051) (i := 1) dL_law_1051 rfl rfl ?_
  refine jm_ald_n (Y := YL_law) (pc := 1052) (i := 0) dL_law_1052 rfl rfl ?_
  refine jm_ild_n (Y := YL_law) (pc := 1053) (i := 3) dL_law_1053 rfl rfl ?_
  refine jm_icN (Y := YL_law) (pc := 1054) 1 dL_law_1054 rfl ?_
  refine jm_addN (Y := YL_law) (pc := 1055) dL_law_1055 ?_
  refine jm_sld (Y := YL_law) (pc := 1056) dL_law_1056 (vp_in_nI (by omega) (by omega)) ?_
  refine jm_V1i (Y := YL_law) (pc := 1057) dL_law_1057 lk_RL_127 ⟨_, rfl⟩ rfl rfl (by decide) (Nat.le_of_ble_eq_true rfl) ⟨by decide, by decide⟩ (st_kind hI _) (fun r_1057 M_1057 q_1057 => ?_)
  obtain ⟨v, ev, hn⟩ := q_1057
  cases ev
  refine jm_ald_n (Y := YL_law) (pc := 1060) (i := 2) dL_law_1060 rfl rfl ?_
  refine jm_ald_n (Y := YL_law) (pc := 1061) (i := 0) dL_law_1061 rfl rfl ?_
  refine jm_ild_n (Y := YL_law) (pc := 1062) (i := 3) dL_law_1062 rfl rfl ?_
  refine jm_icN (Y := YL_law) (pc := 1063) 1 dL_law_1063 rfl ?_
  refine jm_addN (Y := YL_law) (pc := 1064) dL_law_1064 ?_
  refine jm_sld (Y := YL_law) (pc := 1065) dL_law_1065 (vp_in_nI (by omega) (by omega)) ?_
  refine jm_V1i (Y := YL_law) (pc := 1066) dL_law_1066 lk_RL_130 ⟨_, rfl⟩ rfl rfl (by decide) (Nat.le_of_ble_eq_true rfl) ⟨by decide, by decide⟩ (hn) (fun r_1066 M_1066 q_1066 => ?_)
  obtain ⟨eo, hI2⟩ := q_1066
  cases eo
  refine jm_icmp_eq (Y := YL_law) (pc := 1069) dL_law_1069 rfl (fun _ => ?_) (fun h => absurd rfl h)
  exact K _ hI2
theorem law_as {L : Nat} {xs : Nat → Int32} {M : jm_M} {i : Nat} (hi : i + 5 < L) (hL : L ≤ 3072) (hI : GI M) (Q : Option Value → jm_M → Prop) (K : ∀ M1, GI M1 → jm_J (some (L, xs)) YL_law 1199 [some (.ref 1000), some (.ref 0), some (.ref 11), some (.int (nI i))] [] M1 Q) : jm_J (some (L, xs)) YL_law 1074 [some (.ref 1000), some (.ref 0), some (.ref 11), some (.int (nI i))] [] M Q := by
  refine jm_ald_n (Y := YL_law) (pc := 1074) (i := 1) dL_law_1074 rfl rfl ?_
  refine jm_ald_n (Y := YL_law) (pc := 1075) (i := 0) dL_law_1075 rfl rfl ?_
  refine jm_ild_n (Y := YL_law) (pc := 1076) (i := 3) dL_law_1076 rfl rfl ?_
  refine jm_icN (Y := YL_law) (pc := 1077) 1 dL_law_1077 rfl ?_
  refine jm_addN (Y := YL_law) (pc := 1078) dL_law_1078 ?_
  refine jm_sld (Y := YL_law) (pc := 1079) dL_law_1079 (vp_in_nI (by omega) (by omega)) ?_
  refine jm_ald_n (Y := YL_law) (pc := 1080) (i := 0) dL_law_1080 rfl rfl ?_
  refine jm_ild_n (Y := YL_law) (pc := 1081) (i := 3) dL_law_1081 rfl rfl ?_
  refine jm_icN (Y := YL_law) (pc := 1082) 2 dL_law_1082 rfl ?_
  refine jm_addN (Y := YL_law) (pc := 1083) dL_law_1083 ?_
  refine jm_sld (Y := YL_law) (pc := 1084) dL_law_1084 (vp_in_nI (by omega) (by omega)) ?_
  refine jm_V2i (Y := YL_law) (pc := 1085) dL_law_1085 lk_RL_131 ⟨_, rfl⟩ rfl rfl rfl (by decide) (Nat.le_of_ble_eq_true rfl) ⟨by decide, by decide⟩ (st_as hI _ _) (fun r_1085 M_1085 q_1085 => ?_)
  obtain ⟨v, ev, hn⟩ := q_1085
  cases ev
  refine jm_ald_n (Y := YL_law) (pc := 1088) (i := 2) dL_law_1088 rfl rfl ?_
  refine jm_ald_n (Y := YL_law) (pc := 1089) (i := 0) dL_law_1089 rfl rfl ?_
  refine jm_ild_n (Y := YL_law) (pc := 1090) (i := 3) dL_law_1090 rfl rfl ?_
  refine jm_icN (Y := YL_law) (pc := 1091) 1 dL_law_1091 rfl ?_
  refine jm_addN (Y := YL_law) (pc := 1092) dL_law_1092 ?_
  refine jm_sld (Y := YL_law) (pc := 1093) dL_law_1093 (vp_in_nI (by omega) (by omega)) ?_
  refine jm_ald_n (Y := YL_law) (pc := 1094) (i := 0) dL_law_1094 rfl rfl ?_
  refine jm_ild_n (Y := YL_law) (pc := 1095) (i := 3) dL_law_1095 rfl rfl ?_
  refine jm_icN (Y := YL_law) (pc := 1096) 2 dL_law_1096 rfl ?_
  refine jm_addN (Y := YL_law) (pc := 1097) dL_law_1097 ?_
  refine jm_sld (Y := YL_law) (pc := 1098) dL_law_1098 (vp_in_nI (by omega) (by omega)) ?_
  refine jm_V2i (Y := YL_law) (pc := 1099) dL_law_1099 lk_RL_134 ⟨_, rfl⟩ rfl rfl rfl (by decide) (Nat.le_of_ble_eq_true rfl) ⟨by decide, by decide⟩ (hn) (fun r_1099 M_1099 q_1099 => ?_)
  obtain ⟨eo, hI2⟩ := q_1099
  cases eo
  refine jm_icmp_eq (Y := YL_law) (pc := 1102) dL_law_1102 rfl (fun _ => ?_) (fun h => absurd rfl h)
  exact K _ hI2
theorem law_ask {L : Nat} {xs : Nat → Int32} {M : jm_M} {i : Nat} (hi : i + 5 < L) (hL : L ≤ 3072) (hI : GI M) (Q : Option Value → jm_M → Prop) (K : ∀ M1, GI M1 → jm_J (some (L, xs)) YL_law 1199 [some (.ref 1000), some (.ref 0), some (.ref 11), some (.int (nI i))] [] M1 Q) : jm_J (some (L, xs)) YL_law 1107 [some (.ref 1000), some (.ref 0), some (.ref 11), some (.int (nI i))] [] M Q := by
  refine jm_ald_n (Y := YL_law) (pc := 1107) (i := 1) dL_law_1107 rfl rfl ?_
  refine jm_ald_n (Y := YL_law) (pc := 1108) (i := 0) dL_law_1108 rfl rfl ?_
  refine jm_ild_n (Y := YL_law) (pc := 1109) (i := 3) dL_law_1109 rfl rfl ?_
  refine jm_icN (Y := YL_law) (pc := 1110) 1 dL_law_1110 rfl ?_
  refine jm_addN (Y := YL_law) (pc := 1111) dL_law_1111 ?_
  refine jm_sld (Y := YL_law) (pc := 1112) dL_law_1112 (vp_in_nI (by omega) (by omega)) ?_
  refine jm_ald_n (Y := YL_law) (pc := 1113) (i := 0) dL_law_1113 rfl rfl ?_
  refine jm_ild_n (Y := YL_law) (pc := 1114) (i := 3) dL_law_1114 rfl rfl ?_
  refine jm_icN (Y := YL_law) (pc := 1115) 2 dL_law_1115 rfl ?_
  refine jm_addN (Y := YL_law) (pc := 1116) dL_law_1116 ?_
  refine jm_sld (Y := YL_law) (pc := 1117) dL_law_1117 (vp_in_nI (by omega) (by omega)) ?_
  refine jm_V2i (Y := YL_law) (pc := 1118) dL_law_1118 lk_RL_135 ⟨_, rfl⟩ rfl rfl rfl (by decide) (Nat.le_of_ble_eq_true rfl) ⟨by decide, by decide⟩ (st_ask hI _ _) (fun r_1118 M_1118 q_1118 => ?_)
  obtain ⟨v, ev, hn⟩ := q_1118
  cases ev
  refine jm_ald_n (Y := YL_law) (pc := 1121) (i := 2) dL_law_1121 rfl rfl ?_
  refine jm_ald_n (Y := YL_law) (pc := 1122) (i := 0) dL_law_1122 rfl rfl ?_
  refine jm_ild_n (Y := YL_law) (pc := 1123) (i := 3) dL_law_1123 rfl rfl ?_
  refine jm_icN (Y := YL_law) (pc := 1124) 1 dL_law_1124 rfl ?_
  refine jm_addN (Y := YL_law) (pc := 1125) dL_law_1125 ?_
  refine jm_sld (Y := YL_law) (pc := 1126) dL_law_1126 (vp_in_nI (by omega) (by omega)) ?_
  refine jm_ald_n (Y := YL_law) (pc := 1127) (i := 0) dL_law_1127 rfl rfl ?_
  refine jm_ild_n (Y := YL_law) (pc := 1128) (i := 3) dL_law_1128 rfl rfl ?_
  refine jm_icN (Y := YL_law) (pc := 1129) 2 dL_law_1129 rfl ?_
  refine jm_addN (Y := YL_law) (pc := 1130) dL_law_1130 ?_
  refine jm_sld (Y := YL_law) (pc := 1131) dL_law_1131 (vp_in_nI (by omega) (by omega)) ?_
  refine jm_V2i (Y := YL_law) (pc := 1132) dL_law_1132 lk_RL_138 ⟨_, rfl⟩ rfl rfl rfl (by decide) (Nat.le_of_ble_eq_true rfl) ⟨by decide, by decide⟩ (hn) (fun r_1132 M_1132 q_1132 => ?_)
  obtain ⟨eo, hI2⟩ := q_1132
  cases eo
  refine jm_icmp_eq (Y := YL_law) (pc := 1135) dL_law_1135 rfl (fun _ => ?_) (fun h => absurd rfl h)
  exact K _ hI2
theorem law_trace {L : Nat} {xs : Nat → Int32} {M : jm_M} {i : Nat} (hi : i + 5 < L) (hL : L ≤ 3072) (hI : GI M) (Q : Option Value → jm_M → Prop) (K : ∀ M1, GI M1 → jm_J (some (L, xs)) YL_law 1199 [some (.ref 1000), some (.ref 0), some (.ref 11), some (.int (nI i))] [] M1 Q) : jm_J (some (L, xs)) YL_law 1140 [some (.ref 1000), some (.ref 0), some (.ref 11), some (.int (nI i))] [] M Q := by
  refine jm_ald_n (Y := YL_law) (pc := 1140) (i := 1) dL_law_1140 rfl rfl ?_
  refine jm_ald_n (Y := YL_law) (pc := 1141) (i := 0) dL_law_1141 rfl rfl ?_
  refine jm_ild_n (Y := YL_law) (pc := 1142) (i := 3) dL_law_1142 rfl rfl ?_
  refine jm_icN (Y := YL_law) (pc := 1143) 1 dL_law_1143 rfl ?_
  refine jm_addN (Y := YL_law) (pc := 1144) dL_law_1144 ?_
  refine jm_sld (Y := YL_law) (pc := 1145) dL_law_1145 (vp_in_nI (by omega) (by omega)) ?_
  refine jm_V1i (Y := YL_law) (pc := 1146) dL_law_1146 lk_RL_139 ⟨_, rfl⟩ rfl rfl (by decide) (Nat.le_of_ble_eq_true rfl) ⟨by decide, by decide⟩ (st_trace hI _) (fun r_1146 M_1146 q_1146 => ?_)
  obtain ⟨v, ev, hn⟩ := q_1146
  cases ev
  refine jm_ald_n (Y := YL_law) (pc := 1149) (i := 2) dL_law_1149 rfl rfl ?_
  refine jm_ald_n (Y := YL_law) (pc := 1150) (i := 0) dL_law_1150 rfl rfl ?_
  refine jm_ild_n (Y := YL_law) (pc := 1151) (i := 3) dL_law_1151 rfl rfl ?_
  refine jm_icN (Y := YL_law) (pc := 1152) 1 dL_law_1152 rfl ?_
  refine jm_addN (Y := YL_law) (pc := 1153) dL_law_1153 ?_
  refine jm_sld (Y := YL_law) (pc := 1154) dL_law_1154 (vp_in_nI (by omega) (by omega)) ?_
  refine jm_V1i (Y := YL_law) (pc := 1155) dL_law_1155 lk_RL_142 ⟨_, rfl⟩ rfl rfl (by decide) (Nat.le_of_ble_eq_true rfl) ⟨by decide, by decide⟩ (hn) (fun r_1155 M_1155 q_1155 => ?_)
  obtain ⟨eo, hI2⟩ := q_1155
  cases eo
  refine jm_icmp_eq (Y := YL_law) (pc := 1158) dL_law_1158 rfl (fun _ => ?_) (fun h => absurd rfl h)
  exact K _ hI2
theorem law_count {L : Nat} {xs : Nat → Int32} {M : jm_M} {i : Nat} (hi : i + 5 < L) (hL : L ≤ 3072) (hI : GI M) (Q : Option Value → jm_M → Prop) (K : ∀ M1, GI M1 → jm_J (some (L, xs)) YL_law 1199 [some (.ref 1000), some (.ref 0), some (.ref 11), some (.int (nI i))] [] M1 Q) : jm_J (some (L, xs)) YL_law 1163 [some (.ref 1000), some (.ref 0), some (.ref 11), some (.int (nI i))] [] M Q := by
  refine jm_ald_n (Y := YL_law) (pc := 1163) (i := 1) dL_law_1163 rfl rfl ?_
  refine jm_ald_n (Y := YL_law) (pc := 1164) (i := 0) dL_law_1164 rfl rfl ?_
  refine jm_ild_n (Y := YL_law) (pc := 1165) (i := 3) dL_law_1165 rfl rfl ?_
  refine jm_icN (Y := YL_law) (pc := 1166) 1 dL_law_1166 rfl ?_
  refine jm_addN (Y := YL_law) (pc := 1167) dL_law_1167 ?_
  refine jm_sld (Y := YL_law) (pc := 1168) dL_law_1168 (vp_in_nI (by omega) (by omega)) ?_
  refine jm_V1i (Y := YL_law) (pc := 1169) dL_law_1169 lk_RL_143 ⟨_, rfl⟩ rfl rfl (by decide) (Nat.le_of_ble_eq_true rfl) ⟨by decide, by decide⟩ (st_count hI _) (fun r_1169 M_1169 q_1169 => ?_)
  obtain ⟨v, ev, hn⟩ := q_1169
  cases ev
  refine jm_ald_n (Y := YL_law) (pc := 1172) (i := 2) dL_law_1172 rfl rfl ?_
  refine jm_ald_n (Y := YL_law) (pc := 1173) (i := 0) dL_law_1173 rfl rfl ?_
  refine jm_ild_n (Y := YL_law) (pc := 1174) (i := 3) dL_law_1174 rfl rfl ?_
  refine jm_icN (Y := YL_law) (pc := 1175) 1 dL_law_1175 rfl ?_
  refine jm_addN (Y := YL_law) (pc := 1176) dL_law_1176 ?_
  refine jm_sld (Y := YL_law) (pc := 1177) dL_law_1177 (vp_in_nI (by omega) (by omega)) ?_
  refine jm_V1i (Y := YL_law) (pc := 1178) dL_law_1178 lk_RL_146 ⟨_, rfl⟩ rfl rfl (by decide) (Nat.le_of_ble_eq_true rfl) ⟨by decide, by decide⟩ (hn) (fun r_1178 M_1178 q_1178 => ?_)
  obtain ⟨eo, hI2⟩ := q_1178
  cases eo
  refine jm_icmp_eq (Y := YL_law) (pc := 1181) dL_law_1181 rfl (fun _ => ?_) (fun h => absurd rfl h)
  exact K _ hI2
theorem law_status {L : Nat} {xs : Nat → Int32} {M : jm_M} {i : Nat} (hi : i + 5 < L) (hL : L ≤ 3072) (hI : GI M) (Q : Option Value → jm_M → Prop) (K : ∀ M1, GI M1 → jm_J (some (L, xs)) YL_law 1199 [some (.ref 1000), some (.ref 0), some (.ref 11), some (.int (nI i))] [] M1 Q) : jm_J (some (L, xs)) YL_law 1186 [some (.ref 1000), some (.ref 0), some (.ref 11), some (.int (nI i))] [] M Q := by
  refine jm_ald_n (Y := YL_law) (pc := 1186) (i := 1) dL_law_1186 rfl rfl ?_
  refine jm_V0i (Y := YL_law) (pc := 1187) dL_law_1187 lk_RL_147 ⟨_, rfl⟩ rfl (by decide) (Nat.le_of_ble_eq_true rfl) ⟨by decide, by decide⟩ (st_status hI) (fun r_1187 M_1187 q_1187 => ?_)
  obtain ⟨v, ev, hn⟩ := q_1187
  cases ev
  refine jm_ald_n (Y := YL_law) (pc := 1190) (i := 2) dL_law_1190 rfl rfl ?_
  refine jm_V0i (Y := YL_law) (pc := 1191) dL_law_1191 lk_RL_150 ⟨_, rfl⟩ rfl (by decide) (Nat.le_of_ble_eq_true rfl) ⟨by decide, by decide⟩ (hn) (fun r_1191 M_1191 q_1191 => ?_)
  obtain ⟨eo, hI2⟩ := q_1191
  cases eo
  refine jm_icmp_eq (Y := YL_law) (pc := 1194) dL_law_1194 rfl (fun _ => ?_) (fun h => absurd rfl h)
  exact K _ hI2
theorem law_loop {L : Nat} {xs : Nat → Int32} (hL : L ≤ 3072) : ∀ (m : Nat) (i : Nat) (M : jm_M), i ≤ L + 6 → GI M → L + 6 - i < m → jm_J (some (L, xs)) YL_law 18 [some (.ref 1000), some (.ref 0), some (.ref 11), some (.int (nI i))] [] M (fun o _ => o = some (.int (nI 1))) := by
  intro m
  induction m with
  | zero => intros; omega
  | succ m ih =>
    intro i M hi hI hmm
    have ti := jm_tI (show i < 2147483648 by omega)
    have hs6 : (nI L - nI 6).toInt = (L : Int) - 6 := by
      rw [Int32.toInt_sub, jm_tI (by omega), jm_tI (by decide)]
      exact Int.bmod_eq_of_le (by omega) (by omega)
    have K : i + 5 < L → ∀ M1, GI M1 → jm_J (some (L, xs)) YL_law 1199 [some (.ref 1000), some (.ref 0), some (.ref 11), some (.int (nI i))] [] M1 (fun o _ => o = some (.int (nI 1))) := fun hlt M1 hI1 => by
      refine jm_incN (Y := YL_law) (pc := 1199) (m := 6) (ls' := [_, _, _, _]) dL_law_1199 rfl rfl rfl rfl ?_
      refine jm_goto (Y := YL_law) (pc := 1202) dL_law_1202 rfl ?_
      exact ih (i + 6) M1 (by omega) hI1 (by omega)
    refine jm_ild_n (Y := YL_law) (pc := 18) (i := 3) dL_law_18 rfl rfl ?_
    refine jm_ald_n (Y := YL_law) (pc := 19) (i := 0) dL_law_19 rfl rfl ?_
    refine jm_slen (Y := YL_law) (pc := 20) dL_law_20 ?_
    refine jm_bpN (Y := YL_law) (pc := 21) 6 dL_law_21 rfl ?_
    refine jm_isub (Y := YL_law) (pc := 23) dL_law_23 ?_
    refine jm_icmp_gt (Y := YL_law) (pc := 24) dL_law_24 rfl (fun h_24 => ?_) (fun h_24 => ?_)
    · refine jm_icN (Y := YL_law) (pc := 1205) 1 dL_law_1205 rfl ?_
      refine jm_ret (Y := YL_law) (pc := 1206) (st := []) dL_law_1206 rfl rfl ?_
      exact rfl
    · have hlt : i + 5 < L := (by
        have z := h_24
        first
        | (rw [Int32.lt_iff_toInt_lt, hs6, ti] at z; omega)
        | (have z2 := Int32.not_lt.mp z; rw [Int32.le_iff_toInt_le, hs6, ti] at z2; omega)
        | (rw [Int32.le_iff_toInt_le, hs6, ti] at z; omega)
        | fail)
      refine jm_ald_n (Y := YL_law) (pc := 27) (i := 0) dL_law_27 rfl rfl ?_
      refine jm_ild_n (Y := YL_law) (pc := 28) (i := 3) dL_law_28 rfl rfl ?_
      refine jm_sld (Y := YL_law) (pc := 29) dL_law_29 (vp_in_nI (by omega) (by omega)) ?_
      refine jm_bpN (Y := YL_law) (pc := 30) 63 dL_law_30 rfl ?_
      refine jm_iand (Y := YL_law) (pc := 32) dL_law_32 ?_
      by_cases e_33_0 : Int32.toInt (xs (nI i).toNatClampNeg &&& nI 63) = 0
      · refine jm_tin dL_law_33 (by rw [e_33_0]; decide) (by rw [e_33_0]; decide) (by rw [e_33_0]; rfl) rfl ?_
        exact law_row hlt hL hI _ (K hlt)
      by_cases e_33_1 : Int32.toInt (xs (nI i).toNatClampNeg &&& nI 63) = 1
      · refine jm_tin dL_law_33 (by rw [e_33_1]; decide) (by rw [e_33_1]; decide) (by rw [e_33_1]; rfl) rfl ?_
        exact law_set hlt hL hI _ (K hlt)
      by_cases e_33_2 : Int32.toInt (xs (nI i).toNatClampNeg &&& nI 63) = 2
      · refine jm_tin dL_law_33 (by rw [e_33_2]; decide) (by rw [e_33_2]; decide) (by rw [e_33_2]; rfl) rfl ?_
        exact law_copy hlt hL hI _ (K hlt)
      by_cases e_33_3 : Int32.toInt (xs (nI i).toNatClampNeg &&& nI 63) = 3
      · refine jm_tin dL_law_33 (by rw [e_33_3]; decide) (by rw [e_33_3]; decide) (by rw [e_33_3]; rfl) rfl ?_
        exact law_drop hlt hL hI _ (K hlt)
      by_cases e_33_4 : Int32.toInt (xs (nI i).toNatClampNeg &&& nI 63) = 4
      · refine jm_tin dL_law_33 (by rw [e_33_4]; decide) (by rw [e_33_4]; decide) (by rw [e_33_4]; rfl) rfl ?_
        exact law_feed hlt hL hI _ (K hlt)
      by_cases e_33_5 : Int32.toInt (xs (nI i).toNatClampNeg &&& nI 63) = 5
      · refine jm_tin dL_law_33 (by rw [e_33_5]; decide) (by rw [e_33_5]; decide) (by rw [e_33_5]; rfl) rfl ?_
        exact law_river hlt hL hI _ (K hlt)
      by_cases e_33_6 : Int32.toInt (xs (nI i).toNatClampNeg &&& nI 63) = 6
      · refine jm_tin dL_law_33 (by rw [e_33_6]; decide) (by rw [e_33_6]; decide) (by rw [e_33_6]; rfl) rfl ?_
        exact law_fault hlt hL hI _ (K hlt)
      by_cases e_33_7 : Int32.toInt (xs (nI i).toNatClampNeg &&& nI 63) = 7
      · refine jm_tin dL_law_33 (by rw [e_33_7]; decide) (by rw [e_33_7]; decide) (by rw [e_33_7]; rfl) rfl ?_
        exact law_minutes hlt hL hI _ (K hlt)
      by_cases e_33_8 : Int32.toInt (xs (nI i).toNatClampNeg &&& nI 63) = 8
      · refine jm_tin dL_law_33 (by rw [e_33_8]; decide) (by rw [e_33_8]; decide) (by rw [e_33_8]; rfl) rfl ?_
        exact law_say hlt hL hI _ (K hlt)
      by_cases e_33_9 : Int32.toInt (xs (nI i).toNatClampNeg &&& nI 63) = 9
      · refine jm_tin dL_law_33 (by rw [e_33_9]; decide) (by rw [e_33_9]; decide) (by rw [e_33_9]; rfl) rfl ?_
        exact law_speed hlt hL hI _ (K hlt)
      by_cases e_33_10 : Int32.toInt (xs (nI i).toNatClampNeg &&& nI 63) = 10
      · refine jm_tin dL_law_33 (by rw [e_33_10]; decide) (by rw [e_33_10]; decide) (by rw [e_33_10]; rfl) rfl ?_
        exact law_rain hlt hL hI _ (K hlt)
      by_cases e_33_11 : Int32.toInt (xs (nI i).toNatClampNeg &&& nI 63) = 11
      · refine jm_tin dL_law_33 (by rw [e_33_11]; decide) (by rw [e_33_11]; decide) (by rw [e_33_11]; rfl) rfl ?_
        exact law_undo hlt hL hI _ (K hlt)
      by_cases e_33_12 : Int32.toInt (xs (nI i).toNatClampNeg &&& nI 63) = 12
      · refine jm_tin dL_law_33 (by rw [e_33_12]; decide) (by rw [e_33_12]; decide) (by rw [e_33_12]; rfl) rfl ?_
        exact law_word hlt hL hI _ (K hlt)
      by_cases e_33_13 : Int32.toInt (xs (nI i).toNatClampNeg &&& nI 63) = 13
      · refine jm_tin dL_law_33 (by rw [e_33_13]; decide) (by rw [e_33_13]; decide) (by rw [e_33_13]; rfl) rfl ?_
        exact law_cell hlt hL hI _ (K hlt)
      by_cases e_33_14 : Int32.toInt (xs (nI i).toNatClampNeg &&& nI 63) = 14
      · refine jm_tin dL_law_33 (by rw [e_33_14]; decide) (by rw [e_33_14]; decide) (by rw [e_33_14]; rfl) rfl ?_
        exact law_ahead hlt hL hI _ (K hlt)
      by_cases e_33_15 : Int32.toInt (xs (nI i).toNatClampNeg &&& nI 63) = 15
      · refine jm_tin dL_law_33 (by rw [e_33_15]; decide) (by rw [e_33_15]; decide) (by rw [e_33_15]; rfl) rfl ?_
        exact law_quarrel hlt hL hI _ (K hlt)
      by_cases e_33_16 : Int32.toInt (xs (nI i).toNatClampNeg &&& nI 63) = 16
      · refine jm_tin dL_law_33 (by rw [e_33_16]; decide) (by rw [e_33_16]; decide) (by rw [e_33_16]; rfl) rfl ?_
        exact law_over hlt hL hI _ (K hlt)
      by_cases e_33_17 : Int32.toInt (xs (nI i).toNatClampNeg &&& nI 63) = 17
      · refine jm_tin dL_law_33 (by rw [e_33_17]; decide) (by rw [e_33_17]; decide) (by rw [e_33_17]; rfl) rfl ?_
        exact law_kept hlt hL hI _ (K hlt)
      by_cases e_33_18 : Int32.toInt (xs (nI i).toNatClampNeg &&& nI 63) = 18
      · refine jm_tin dL_law_33 (by rw [e_33_18]; decide) (by rw [e_33_18]; decide) (by rw [e_33_18]; rfl) rfl ?_
        exact law_calm hlt hL hI _ (K hlt)
      by_cases e_33_19 : Int32.toInt (xs (nI i).toNatClampNeg &&& nI 63) = 19
      · refine jm_tin dL_law_33 (by rw [e_33_19]; decide) (by rw [e_33_19]; decide) (by rw [e_33_19]; rfl) rfl ?_
        exact law_swift hlt hL hI _ (K hlt)
      by_cases e_33_20 : Int32.toInt (xs (nI i).toNatClampNeg &&& nI 63) = 20
      · refine jm_tin dL_law_33 (by rw [e_33_20]; decide) (by rw [e_33_20]; decide) (by rw [e_33_20]; rfl) rfl ?_
        exact law_stir hlt hL hI _ (K hlt)
      by_cases e_33_21 : Int32.toInt (xs (nI i).toNatClampNeg &&& nI 63) = 21
      · refine jm_tin dL_law_33 (by rw [e_33_21]; decide) (by rw [e_33_21]; decide) (by rw [e_33_21]; rfl) rfl ?_
        exact law_share hlt hL hI _ (K hlt)
      by_cases e_33_22 : Int32.toInt (xs (nI i).toNatClampNeg &&& nI 63) = 22
      · refine jm_tin dL_law_33 (by rw [e_33_22]; decide) (by rw [e_33_22]; decide) (by rw [e_33_22]; rfl) rfl ?_
        exact law_fits hlt hL hI _ (K hlt)
      by_cases e_33_23 : Int32.toInt (xs (nI i).toNatClampNeg &&& nI 63) = 23
      · refine jm_tin dL_law_33 (by rw [e_33_23]; decide) (by rw [e_33_23]; decide) (by rw [e_33_23]; rfl) rfl ?_
        exact law_chance hlt hL hI _ (K hlt)
      by_cases e_33_24 : Int32.toInt (xs (nI i).toNatClampNeg &&& nI 63) = 24
      · refine jm_tin dL_law_33 (by rw [e_33_24]; decide) (by rw [e_33_24]; decide) (by rw [e_33_24]; rfl) rfl ?_
        exact law_drawn hlt hL hI _ (K hlt)
      by_cases e_33_25 : Int32.toInt (xs (nI i).toNatClampNeg &&& nI 63) = 25
      · refine jm_tin dL_law_33 (by rw [e_33_25]; decide) (by rw [e_33_25]; decide) (by rw [e_33_25]; rfl) rfl ?_
        exact law_image hlt hL hI _ (K hlt)
      by_cases e_33_26 : Int32.toInt (xs (nI i).toNatClampNeg &&& nI 63) = 26
      · refine jm_tin dL_law_33 (by rw [e_33_26]; decide) (by rw [e_33_26]; decide) (by rw [e_33_26]; rfl) rfl ?_
        exact law_restore hlt hL hI _ (K hlt)
      by_cases e_33_27 : Int32.toInt (xs (nI i).toNatClampNeg &&& nI 63) = 27
      · refine jm_tin dL_law_33 (by rw [e_33_27]; decide) (by rw [e_33_27]; decide) (by rw [e_33_27]; rfl) rfl ?_
        exact law_kind hlt hL hI _ (K hlt)
      by_cases e_33_28 : Int32.toInt (xs (nI i).toNatClampNeg &&& nI 63) = 28
      · refine jm_tin dL_law_33 (by rw [e_33_28]; decide) (by rw [e_33_28]; decide) (by rw [e_33_28]; rfl) rfl ?_
        exact law_as hlt hL hI _ (K hlt)
      by_cases e_33_29 : Int32.toInt (xs (nI i).toNatClampNeg &&& nI 63) = 29
      · refine jm_tin dL_law_33 (by rw [e_33_29]; decide) (by rw [e_33_29]; decide) (by rw [e_33_29]; rfl) rfl ?_
        exact law_ask hlt hL hI _ (K hlt)
      by_cases e_33_30 : Int32.toInt (xs (nI i).toNatClampNeg &&& nI 63) = 30
      · refine jm_tin dL_law_33 (by rw [e_33_30]; decide) (by rw [e_33_30]; decide) (by rw [e_33_30]; rfl) rfl ?_
        exact law_trace hlt hL hI _ (K hlt)
      by_cases e_33_31 : Int32.toInt (xs (nI i).toNatClampNeg &&& nI 63) = 31
      · refine jm_tin dL_law_33 (by rw [e_33_31]; decide) (by rw [e_33_31]; decide) (by rw [e_33_31]; rfl) rfl ?_
        exact law_count hlt hL hI _ (K hlt)
      by_cases e_33_32 : Int32.toInt (xs (nI i).toNatClampNeg &&& nI 63) = 32
      · refine jm_tin dL_law_33 (by rw [e_33_32]; decide) (by rw [e_33_32]; decide) (by rw [e_33_32]; rfl) rfl ?_
        exact law_status hlt hL hI _ (K hlt)
      refine jm_tout (Y := YL_law) (pc := 33) dL_law_33 (by omega) rfl ?_
      exact K hlt _ hI
