/-! the law's calls, one by one (1) -/
theorem lo_letter {X : am_X} {L i : Nat} {xs : Nat → Int32} {K : List Int32 → am_D → Prop} (O : ok_L_law X L xs K) {σ : Sg} {D E : am_D} (hI : IX σ D) (hM : IM σ E) (hi : i + 4 ≤ L) (hL : L ≤ 2048) (nx : ∀ σ' D' E', IX σ' D' → IM σ' E' → am_aw X 4 sh_Law 993 [some (.inr 999), some (.inr 0), some (.inr 57), some (.inl (nI i))] [] (D' ++ E')) : am_aw X 4 sh_Law 188 [some (.inr 999), some (.inr 0), some (.inr 57), some (.inl (nI i))] [] (D ++ E) := by
  obtain ⟨ik, n0, n1, n2, n3, n4, n5, k0, k1, k2, k3, k4, k5, t0, t1, u0, r0, r1, r2, r3, r4, r5, p0, p1, p2, p3, p4, p5, a0, a1, a2, a3, a4, a5, q0, q1, q2, q3, q4, q5, sd, b0, b1, b2, b3, b4, b5, s0, s1, s2, s3, s4, s5, w1, w2, rfl, hR, hk, ht, hu, hr, hp, ha, hq, hb, hs⟩ := hI
  obtain ⟨aT, iM, tU, aS, cH, lO, kA, fA, hA, lA, pA, tA, vA, oA, eA, xA, nA, gA, wA, uA, rfl, mR', mT', mO', mK'⟩ := hM
  refine am_nrq rfl rfl ?_
  refine st_aloadn O dL_law_188 rfl (q := 189) rfl ?_
  refine st_aloadn O dL_law_189 rfl (q := 190) rfl ?_
  refine st_iloadn O dL_law_190 rfl (q := 191) rfl ?_
  refine st_iconst O dL_law_191 am_iconst_1 (q := 192) rfl ?_
  refine st_iadd O dL_law_192 (by first | exact nI_add _ _ | exact rfl) (q := 193) rfl ?_
  refine st_rd O dL_law_193 (by decide) rfl (by omega) (by omega) (q := 194) rfl ?_
  refine st_call O dL_law_194 cs_L_law_194 (q := 197) rfl (am_siq rfl rfl rfl (Nat.le_of_ble_eq_true rfl) rfl ?_)
  refine ⟨ik, σ, _, ⟨_, _, rfl, ht⟩, rfl, fun d hd => ?_⟩
  obtain ⟨z_t0, z_t1, rfl, gt⟩ := hd
  refine am_nrp rfl rfl rfl rfl ?_
  refine st_aloadn O dL_law_197 rfl (q := 198) rfl ?_
  refine st_aloadn O dL_law_198 rfl (q := 199) rfl ?_
  refine st_iloadn O dL_law_199 rfl (q := 200) rfl ?_
  refine st_iconst O dL_law_200 am_iconst_1 (q := 201) rfl ?_
  refine st_iadd O dL_law_201 (by first | exact nI_add _ _ | exact rfl) (q := 202) rfl ?_
  refine st_rd O dL_law_202 (by decide) rfl (by omega) (by omega) (q := 203) rfl ?_
  refine st_call O dL_law_203 cs_L_law_203 (q := 206) rfl (am_siq rfl rfl rfl (Nat.le_of_ble_eq_true rfl) rfl ?_)
  refine ⟨σ, _, ⟨_, _, _, _, _, _, _, _, _, _, _, _, _, _, _, _, _, _, _, _, rfl, mR', mT', mO', mK'⟩, rfl, fun e he => ?_⟩
  have he' := he
  obtain ⟨y1, y2, y3, y4, y5, y6, y7, y8, y9, y10, y11, y12, y13, y14, y15, y16, y17, y18, y19, y20, rfl, -⟩ := he
  refine am_nrp rfl rfl rfl rfl ?_
  refine st_icmp_eq O dL_law_206 (t := 993) rfl (q := 209) rfl (fun c206 => ?_) (fun c206 => ?_)
  · have z := nx (f_letter (xs (i + 1)) σ).2 [.inl [ik, nI (f_letter (xs (i + 1)) σ).2.2.2.2.1.length], n0, n1, n2, n3, n4, n5, k0, k1, k2, k3, k4, k5, z_t0, z_t1, .inr u0, .inr (f_letter (xs (i + 1)) σ).2.2.2.2.2, r0, r1, r2, r3, r4, r5, p0, p1, p2, p3, p4, p5, .inl [], a0, a1, a2, a3, a4, a5, q0, q1, q2, q3, q4, q5, .inl [sd], b0, b1, b2, b3, b4, b5, s0, s1, s2, s3, s4, s5, .inr w1, .inr w2] _ ⟨_, _, _, _, _, _, _, _, _, _, _, _, _, _, _, _, _, _, _, _, _, _, _, _, _, _, _, _, _, _, _, _, _, _, _, _, _, _, _, _, _, _, _, _, _, _, _, _, _, _, _, _, _, _, _, rfl, (by rw [(fr_letter (xs (i + 1)) σ).1]; exact hR), (by rw [(fr_letter (xs (i + 1)) σ).2.1]; exact hk), gt, (by rw [(fr_letter (xs (i + 1)) σ).2.2]; exact hu), hr, hp, ha, hq, hb, hs⟩ he'
    exact z
  exact absurd rfl c206
theorem lo_road {X : am_X} {L i : Nat} {xs : Nat → Int32} {K : List Int32 → am_D → Prop} (O : ok_L_law X L xs K) {σ : Sg} {D E : am_D} (hI : IX σ D) (hM : IM σ E) (hi : i + 4 ≤ L) (hL : L ≤ 2048) (nx : ∀ σ' D' E', IX σ' D' → IM σ' E' → am_aw X 4 sh_Law 993 [some (.inr 999), some (.inr 0), some (.inr 57), some (.inl (nI i))] [] (D' ++ E')) : am_aw X 4 sh_Law 211 [some (.inr 999), some (.inr 0), some (.inr 57), some (.inl (nI i))] [] (D ++ E) := by
  obtain ⟨ik, n0, n1, n2, n3, n4, n5, k0, k1, k2, k3, k4, k5, t0, t1, u0, r0, r1, r2, r3, r4, r5, p0, p1, p2, p3, p4, p5, a0, a1, a2, a3, a4, a5, q0, q1, q2, q3, q4, q5, sd, b0, b1, b2, b3, b4, b5, s0, s1, s2, s3, s4, s5, w1, w2, rfl, hR, hk, ht, hu, hr, hp, ha, hq, hb, hs⟩ := hI
  obtain ⟨aT, iM, tU, aS, cH, lO, kA, fA, hA, lA, pA, tA, vA, oA, eA, xA, nA, gA, wA, uA, rfl, mR', mT', mO', mK'⟩ := hM
  refine am_nrq rfl rfl ?_
  refine st_aloadn O dL_law_211 rfl (q := 212) rfl ?_
  refine st_call O dL_law_212 cs_L_law_212 (q := 215) rfl (am_siq rfl rfl rfl (Nat.le_of_ble_eq_true rfl) rfl ?_)
  refine ⟨ik, σ, ⟨_, _, _, _, _, _, _, _, _, _, _, _, _, _, rfl, hR, ht, hr⟩, rfl, fun d hd => ?_⟩
  obtain ⟨z_n0, z_n1, z_n2, z_n3, z_n4, z_n5, z_t0, z_t1, z_r0, z_r1, z_r2, z_r3, z_r4, z_r5, rfl, gR, gt, gr⟩ := hd
  refine am_nrp rfl rfl rfl rfl ?_
  refine st_aloadn O dL_law_215 rfl (q := 216) rfl ?_
  refine st_call O dL_law_216 cs_L_law_216 (q := 219) rfl (am_siq rfl rfl rfl (Nat.le_of_ble_eq_true rfl) rfl ?_)
  refine ⟨σ, ⟨_, _, _, _, _, _, _, _, _, _, _, _, _, _, _, _, _, _, _, _, rfl, mR', mT', mO', mK'⟩, rfl, fun e he => ?_⟩
  have he' := he
  obtain ⟨y1, y2, y3, y4, y5, y6, y7, y8, y9, y10, y11, y12, y13, y14, y15, y16, y17, y18, y19, y20, rfl, -⟩ := he
  refine am_nrp rfl rfl rfl rfl ?_
  refine st_icmp_eq O dL_law_219 (t := 993) rfl (q := 222) rfl (fun c219 => ?_) (fun c219 => ?_)
  · have z := nx (f_road σ).2 [.inl [ik, nI (f_road σ).2.2.2.2.1.length], z_n0, z_n1, z_n2, z_n3, z_n4, z_n5, k0, k1, k2, k3, k4, k5, z_t0, z_t1, .inr u0, .inr (f_road σ).2.2.2.2.2, z_r0, z_r1, z_r2, z_r3, z_r4, z_r5, p0, p1, p2, p3, p4, p5, .inl [], a0, a1, a2, a3, a4, a5, q0, q1, q2, q3, q4, q5, .inl [sd], b0, b1, b2, b3, b4, b5, s0, s1, s2, s3, s4, s5, .inr w1, .inr w2] _ ⟨_, _, _, _, _, _, _, _, _, _, _, _, _, _, _, _, _, _, _, _, _, _, _, _, _, _, _, _, _, _, _, _, _, _, _, _, _, _, _, _, _, _, _, _, _, _, _, _, _, _, _, _, _, _, _, rfl, gR, hk, gt, hu, gr, hp, ha, hq, hb, hs⟩ he'
    exact z
  exact absurd rfl c219
theorem lo_car {X : am_X} {L i : Nat} {xs : Nat → Int32} {K : List Int32 → am_D → Prop} (O : ok_L_law X L xs K) {σ : Sg} {D E : am_D} (hI : IX σ D) (hM : IM σ E) (hi : i + 4 ≤ L) (hL : L ≤ 2048) (nx : ∀ σ' D' E', IX σ' D' → IM σ' E' → am_aw X 4 sh_Law 993 [some (.inr 999), some (.inr 0), some (.inr 57), some (.inl (nI i))] [] (D' ++ E')) : am_aw X 4 sh_Law 224 [some (.inr 999), some (.inr 0), some (.inr 57), some (.inl (nI i))] [] (D ++ E) := by
  obtain ⟨ik, n0, n1, n2, n3, n4, n5, k0, k1, k2, k3, k4, k5, t0, t1, u0, r0, r1, r2, r3, r4, r5, p0, p1, p2, p3, p4, p5, a0, a1, a2, a3, a4, a5, q0, q1, q2, q3, q4, q5, sd, b0, b1, b2, b3, b4, b5, s0, s1, s2, s3, s4, s5, w1, w2, rfl, hR, hk, ht, hu, hr, hp, ha, hq, hb, hs⟩ := hI
  obtain ⟨aT, iM, tU, aS, cH, lO, kA, fA, hA, lA, pA, tA, vA, oA, eA, xA, nA, gA, wA, uA, rfl, mR', mT', mO', mK'⟩ := hM
  refine am_nrq rfl rfl ?_
  refine st_aloadn O dL_law_224 rfl (q := 225) rfl ?_
  refine st_aloadn O dL_law_225 rfl (q := 226) rfl ?_
  refine st_iloadn O dL_law_226 rfl (q := 227) rfl ?_
  refine st_iconst O dL_law_227 am_iconst_1 (q := 228) rfl ?_
  refine st_iadd O dL_law_228 (by first | exact nI_add _ _ | exact rfl) (q := 229) rfl ?_
  refine st_rd O dL_law_229 (by decide) rfl (by omega) (by omega) (q := 230) rfl ?_
  refine st_aloadn O dL_law_230 rfl (q := 231) rfl ?_
  refine st_iloadn O dL_law_231 rfl (q := 232) rfl ?_
  refine st_iconst O dL_law_232 am_iconst_2 (q := 233) rfl ?_
  refine st_iadd O dL_law_233 (by first | exact nI_add _ _ | exact rfl) (q := 234) rfl ?_
  refine st_rd O dL_law_234 (by decide) rfl (by omega) (by omega) (q := 235) rfl ?_
  refine st_call O dL_law_235 cs_L_law_235 (q := 238) rfl (am_siq rfl rfl rfl (Nat.le_of_ble_eq_true rfl) rfl ?_)
  refine ⟨ik, σ, _, _, ⟨_, _, _, _, _, _, rfl, hR⟩, rfl, fun d hd => ?_⟩
  obtain ⟨z_n0, z_n1, z_n2, z_n3, z_n4, z_n5, rfl, gR⟩ := hd
  refine am_nrp rfl rfl rfl rfl ?_
  refine st_aloadn O dL_law_238 rfl (q := 239) rfl ?_
  refine st_aloadn O dL_law_239 rfl (q := 240) rfl ?_
  refine st_iloadn O dL_law_240 rfl (q := 241) rfl ?_
  refine st_iconst O dL_law_241 am_iconst_1 (q := 242) rfl ?_
  refine st_iadd O dL_law_242 (by first | exact nI_add _ _ | exact rfl) (q := 243) rfl ?_
  refine st_rd O dL_law_243 (by decide) rfl (by omega) (by omega) (q := 244) rfl ?_
  refine st_aloadn O dL_law_244 rfl (q := 245) rfl ?_
  refine st_iloadn O dL_law_245 rfl (q := 246) rfl ?_
  refine st_iconst O dL_law_246 am_iconst_2 (q := 247) rfl ?_
  refine st_iadd O dL_law_247 (by first | exact nI_add _ _ | exact rfl) (q := 248) rfl ?_
  refine st_rd O dL_law_248 (by decide) rfl (by omega) (by omega) (q := 249) rfl ?_
  refine st_call O dL_law_249 cs_L_law_249 (q := 252) rfl (am_siq rfl rfl rfl (Nat.le_of_ble_eq_true rfl) rfl ?_)
  refine ⟨σ, _, _, ⟨_, _, _, _, _, _, _, _, _, _, _, _, _, _, _, _, _, _, _, _, rfl, mR', mT', mO', mK'⟩, rfl, fun e he => ?_⟩
  have he' := he
  obtain ⟨y1, y2, y3, y4, y5, y6, y7, y8, y9, y10, y11, y12, y13, y14, y15, y16, y17, y18, y19, y20, rfl, -⟩ := he
  refine am_nrp rfl rfl rfl rfl ?_
  refine st_icmp_eq O dL_law_252 (t := 993) rfl (q := 255) rfl (fun c252 => ?_) (fun c252 => ?_)
  · have z := nx (f_car (xs (i + 1)) (xs (i + 2)) σ).2 [.inl [ik, nI (f_car (xs (i + 1)) (xs (i + 2)) σ).2.2.2.2.1.length], z_n0, z_n1, z_n2, z_n3, z_n4, z_n5, k0, k1, k2, k3, k4, k5, t0, t1, .inr u0, .inr (f_car (xs (i + 1)) (xs (i + 2)) σ).2.2.2.2.2, r0, r1, r2, r3, r4, r5, p0, p1, p2, p3, p4, p5, .inl [], a0, a1, a2, a3, a4, a5, q0, q1, q2, q3, q4, q5, .inl [sd], b0, b1, b2, b3, b4, b5, s0, s1, s2, s3, s4, s5, .inr w1, .inr w2] _ ⟨_, _, _, _, _, _, _, _, _, _, _, _, _, _, _, _, _, _, _, _, _, _, _, _, _, _, _, _, _, _, _, _, _, _, _, _, _, _, _, _, _, _, _, _, _, _, _, _, _, _, _, _, _, _, _, rfl, gR, (by rw [(fr_car (xs (i + 1)) (xs (i + 2)) σ).1]; exact hk), (by rw [(fr_car (xs (i + 1)) (xs (i + 2)) σ).2.1]; exact ht), (by rw [(fr_car (xs (i + 1)) (xs (i + 2)) σ).2.2]; exact hu), hr, hp, ha, hq, hb, hs⟩ he'
    exact z
  exact absurd rfl c252
theorem lo_hurry {X : am_X} {L i : Nat} {xs : Nat → Int32} {K : List Int32 → am_D → Prop} (O : ok_L_law X L xs K) {σ : Sg} {D E : am_D} (hI : IX σ D) (hM : IM σ E) (hi : i + 4 ≤ L) (hL : L ≤ 2048) (nx : ∀ σ' D' E', IX σ' D' → IM σ' E' → am_aw X 4 sh_Law 993 [some (.inr 999), some (.inr 0), some (.inr 57), some (.inl (nI i))] [] (D' ++ E')) : am_aw X 4 sh_Law 257 [some (.inr 999), some (.inr 0), some (.inr 57), some (.inl (nI i))] [] (D ++ E) := by
  obtain ⟨ik, n0, n1, n2, n3, n4, n5, k0, k1, k2, k3, k4, k5, t0, t1, u0, r0, r1, r2, r3, r4, r5, p0, p1, p2, p3, p4, p5, a0, a1, a2, a3, a4, a5, q0, q1, q2, q3, q4, q5, sd, b0, b1, b2, b3, b4, b5, s0, s1, s2, s3, s4, s5, w1, w2, rfl, hR, hk, ht, hu, hr, hp, ha, hq, hb, hs⟩ := hI
  obtain ⟨aT, iM, tU, aS, cH, lO, kA, fA, hA, lA, pA, tA, vA, oA, eA, xA, nA, gA, wA, uA, rfl, mR', mT', mO', mK'⟩ := hM
  refine am_nrq rfl rfl ?_
  refine st_aloadn O dL_law_257 rfl (q := 258) rfl ?_
  refine st_aloadn O dL_law_258 rfl (q := 259) rfl ?_
  refine st_iloadn O dL_law_259 rfl (q := 260) rfl ?_
  refine st_iconst O dL_law_260 am_iconst_1 (q := 261) rfl ?_
  refine st_iadd O dL_law_261 (by first | exact nI_add _ _ | exact rfl) (q := 262) rfl ?_
  refine st_rd O dL_law_262 (by decide) rfl (by omega) (by omega) (q := 263) rfl ?_
  refine st_aloadn O dL_law_263 rfl (q := 264) rfl ?_
  refine st_iloadn O dL_law_264 rfl (q := 265) rfl ?_
  refine st_iconst O dL_law_265 am_iconst_2 (q := 266) rfl ?_
  refine st_iadd O dL_law_266 (by first | exact nI_add _ _ | exact rfl) (q := 267) rfl ?_
  refine st_rd O dL_law_267 (by decide) rfl (by omega) (by omega) (q := 268) rfl ?_
  refine st_call O dL_law_268 cs_L_law_268 (q := 271) rfl (am_siq rfl rfl rfl (Nat.le_of_ble_eq_true rfl) rfl ?_)
  refine ⟨ik, σ, _, _, ⟨_, _, _, _, _, _, rfl, hR⟩, rfl, fun d hd => ?_⟩
  obtain ⟨z_n0, z_n1, z_n2, z_n3, z_n4, z_n5, rfl, gR⟩ := hd
  refine am_nrp rfl rfl rfl rfl ?_
  refine st_aloadn O dL_law_271 rfl (q := 272) rfl ?_
  refine st_aloadn O dL_law_272 rfl (q := 273) rfl ?_
  refine st_iloadn O dL_law_273 rfl (q := 274) rfl ?_
  refine st_iconst O dL_law_274 am_iconst_1 (q := 275) rfl ?_
  refine st_iadd O dL_law_275 (by first | exact nI_add _ _ | exact rfl) (q := 276) rfl ?_
  refine st_rd O dL_law_276 (by decide) rfl (by omega) (by omega) (q := 277) rfl ?_
  refine st_aloadn O dL_law_277 rfl (q := 278) rfl ?_
  refine st_iloadn O dL_law_278 rfl (q := 279) rfl ?_
  refine st_iconst O dL_law_279 am_iconst_2 (q := 280) rfl ?_
  refine st_iadd O dL_law_280 (by first | exact nI_add _ _ | exact rfl) (q := 281) rfl ?_
  refine st_rd O dL_law_281 (by decide) rfl (by omega) (by omega) (q := 282) rfl ?_
  refine st_call O dL_law_282 cs_L_law_282 (q := 285) rfl (am_siq rfl rfl rfl (Nat.le_of_ble_eq_true rfl) rfl ?_)
  refine ⟨σ, _, _, ⟨_, _, _, _, _, _, _, _, _, _, _, _, _, _, _, _, _, _, _, _, rfl, mR', mT', mO', mK'⟩, rfl, fun e he => ?_⟩
  have he' := he
  obtain ⟨y1, y2, y3, y4, y5, y6, y7, y8, y9, y10, y11, y12, y13, y14, y15, y16, y17, y18, y19, y20, rfl, -⟩ := he
  refine am_nrp rfl rfl rfl rfl ?_
  refine st_icmp_eq O dL_law_285 (t := 993) rfl (q := 288) rfl (fun c285 => ?_) (fun c285 => ?_)
  · have z := nx (f_hurry (xs (i + 1)) (xs (i + 2)) σ).2 [.inl [ik, nI (f_hurry (xs (i + 1)) (xs (i + 2)) σ).2.2.2.2.1.length], z_n0, z_n1, z_n2, z_n3, z_n4, z_n5, k0, k1, k2, k3, k4, k5, t0, t1, .inr u0, .inr (f_hurry (xs (i + 1)) (xs (i + 2)) σ).2.2.2.2.2, r0, r1, r2, r3, r4, r5, p0, p1, p2, p3, p4, p5, .inl [], a0, a1, a2, a3, a4, a5, q0, q1, q2, q3, q4, q5, .inl [sd], b0, b1, b2, b3, b4, b5, s0, s1, s2, s3, s4, s5, .inr w1, .inr w2] _ ⟨_, _, _, _, _, _, _, _, _, _, _, _, _, _, _, _, _, _, _, _, _, _, _, _, _, _, _, _, _, _, _, _, _, _, _, _, _, _, _, _, _, _, _, _, _, _, _, _, _, _, _, _, _, _, _, rfl, gR, (by rw [(fr_hurry (xs (i + 1)) (xs (i + 2)) σ).1]; exact hk), (by rw [(fr_hurry (xs (i + 1)) (xs (i + 2)) σ).2.1]; exact ht), (by rw [(fr_hurry (xs (i + 1)) (xs (i + 2)) σ).2.2]; exact hu), hr, hp, ha, hq, hb, hs⟩ he'
    exact z
  exact absurd rfl c285
theorem lo_goOver {X : am_X} {L i : Nat} {xs : Nat → Int32} {K : List Int32 → am_D → Prop} (O : ok_L_law X L xs K) {σ : Sg} {D E : am_D} (hI : IX σ D) (hM : IM σ E) (hi : i + 4 ≤ L) (hL : L ≤ 2048) (nx : ∀ σ' D' E', IX σ' D' → IM σ' E' → am_aw X 4 sh_Law 993 [some (.inr 999), some (.inr 0), some (.inr 57), some (.inl (nI i))] [] (D' ++ E')) : am_aw X 4 sh_Law 290 [some (.inr 999), some (.inr 0), some (.inr 57), some (.inl (nI i))] [] (D ++ E) := by
  obtain ⟨ik, n0, n1, n2, n3, n4, n5, k0, k1, k2, k3, k4, k5, t0, t1, u0, r0, r1, r2, r3, r4, r5, p0, p1, p2, p3, p4, p5, a0, a1, a2, a3, a4, a5, q0, q1, q2, q3, q4, q5, sd, b0, b1, b2, b3, b4, b5, s0, s1, s2, s3, s4, s5, w1, w2, rfl, hR, hk, ht, hu, hr, hp, ha, hq, hb, hs⟩ := hI
  obtain ⟨aT, iM, tU, aS, cH, lO, kA, fA, hA, lA, pA, tA, vA, oA, eA, xA, nA, gA, wA, uA, rfl, mR', mT', mO', mK'⟩ := hM
  refine am_nrq rfl rfl ?_
  refine st_aloadn O dL_law_290 rfl (q := 291) rfl ?_
  refine st_aloadn O dL_law_291 rfl (q := 292) rfl ?_
  refine st_iloadn O dL_law_292 rfl (q := 293) rfl ?_
  refine st_iconst O dL_law_293 am_iconst_1 (q := 294) rfl ?_
  refine st_iadd O dL_law_294 (by first | exact nI_add _ _ | exact rfl) (q := 295) rfl ?_
  refine st_rd O dL_law_295 (by decide) rfl (by omega) (by omega) (q := 296) rfl ?_
  refine st_call O dL_law_296 cs_L_law_296 (q := 299) rfl (am_siq rfl rfl rfl (Nat.le_of_ble_eq_true rfl) rfl ?_)
  refine ⟨ik, σ, _, ⟨_, _, _, _, _, _, rfl, hR⟩, rfl, fun d hd => ?_⟩
  obtain ⟨z_n0, z_n1, z_n2, z_n3, z_n4, z_n5, rfl, gR⟩ := hd
  refine am_nrp rfl rfl rfl rfl ?_
  refine st_aloadn O dL_law_299 rfl (q := 300) rfl ?_
  refine st_aloadn O dL_law_300 rfl (q := 301) rfl ?_
  refine st_iloadn O dL_law_301 rfl (q := 302) rfl ?_
  refine st_iconst O dL_law_302 am_iconst_1 (q := 303) rfl ?_
  refine st_iadd O dL_law_303 (by first | exact nI_add _ _ | exact rfl) (q := 304) rfl ?_
  refine st_rd O dL_law_304 (by decide) rfl (by omega) (by omega) (q := 305) rfl ?_
  refine st_call O dL_law_305 cs_L_law_305 (q := 308) rfl (am_siq rfl rfl rfl (Nat.le_of_ble_eq_true rfl) rfl ?_)
  refine ⟨σ, _, ⟨_, _, _, _, _, _, _, _, _, _, _, _, _, _, _, _, _, _, _, _, rfl, mR', mT', mO', mK'⟩, rfl, fun e he => ?_⟩
  have he' := he
  obtain ⟨y1, y2, y3, y4, y5, y6, y7, y8, y9, y10, y11, y12, y13, y14, y15, y16, y17, y18, y19, y20, rfl, -⟩ := he
  refine am_nrp rfl rfl rfl rfl ?_
  refine st_icmp_eq O dL_law_308 (t := 993) rfl (q := 311) rfl (fun c308 => ?_) (fun c308 => ?_)
  · have z := nx (f_goOver (xs (i + 1)) σ).2 [.inl [ik, nI (f_goOver (xs (i + 1)) σ).2.2.2.2.1.length], z_n0, z_n1, z_n2, z_n3, z_n4, z_n5, k0, k1, k2, k3, k4, k5, t0, t1, .inr u0, .inr (f_goOver (xs (i + 1)) σ).2.2.2.2.2, r0, r1, r2, r3, r4, r5, p0, p1, p2, p3, p4, p5, .inl [], a0, a1, a2, a3, a4, a5, q0, q1, q2, q3, q4, q5, .inl [sd], b0, b1, b2, b3, b4, b5, s0, s1, s2, s3, s4, s5, .inr w1, .inr w2] _ ⟨_, _, _, _, _, _, _, _, _, _, _, _, _, _, _, _, _, _, _, _, _, _, _, _, _, _, _, _, _, _, _, _, _, _, _, _, _, _, _, _, _, _, _, _, _, _, _, _, _, _, _, _, _, _, _, rfl, gR, (by rw [(fr_goOver (xs (i + 1)) σ).1]; exact hk), (by rw [(fr_goOver (xs (i + 1)) σ).2.1]; exact ht), (by rw [(fr_goOver (xs (i + 1)) σ).2.2]; exact hu), hr, hp, ha, hq, hb, hs⟩ he'
    exact z
  exact absurd rfl c308
theorem lo_standFirst {X : am_X} {L i : Nat} {xs : Nat → Int32} {K : List Int32 → am_D → Prop} (O : ok_L_law X L xs K) {σ : Sg} {D E : am_D} (hI : IX σ D) (hM : IM σ E) (hi : i + 4 ≤ L) (hL : L ≤ 2048) (nx : ∀ σ' D' E', IX σ' D' → IM σ' E' → am_aw X 4 sh_Law 993 [some (.inr 999), some (.inr 0), some (.inr 57), some (.inl (nI i))] [] (D' ++ E')) : am_aw X 4 sh_Law 313 [some (.inr 999), some (.inr 0), some (.inr 57), some (.inl (nI i))] [] (D ++ E) := by
  obtain ⟨ik, n0, n1, n2, n3, n4, n5, k0, k1, k2, k3, k4, k5, t0, t1, u0, r0, r1, r2, r3, r4, r5, p0, p1, p2, p3, p4, p5, a0, a1, a2, a3, a4, a5, q0, q1, q2, q3, q4, q5, sd, b0, b1, b2, b3, b4, b5, s0, s1, s2, s3, s4, s5, w1, w2, rfl, hR, hk, ht, hu, hr, hp, ha, hq, hb, hs⟩ := hI
  obtain ⟨aT, iM, tU, aS, cH, lO, kA, fA, hA, lA, pA, tA, vA, oA, eA, xA, nA, gA, wA, uA, rfl, mR', mT', mO', mK'⟩ := hM
  refine am_nrq rfl rfl ?_
  refine st_aloadn O dL_law_313 rfl (q := 314) rfl ?_
  refine st_aloadn O dL_law_314 rfl (q := 315) rfl ?_
  refine st_iloadn O dL_law_315 rfl (q := 316) rfl ?_
  refine st_iconst O dL_law_316 am_iconst_1 (q := 317) rfl ?_
  refine st_iadd O dL_law_317 (by first | exact nI_add _ _ | exact rfl) (q := 318) rfl ?_
  refine st_rd O dL_law_318 (by decide) rfl (by omega) (by omega) (q := 319) rfl ?_
  refine st_call O dL_law_319 cs_L_law_319 (q := 322) rfl (am_siq rfl rfl rfl (Nat.le_of_ble_eq_true rfl) rfl ?_)
  refine ⟨ik, σ, _, ⟨_, _, _, _, _, _, rfl, hR⟩, rfl, fun d hd => ?_⟩
  obtain ⟨z_n0, z_n1, z_n2, z_n3, z_n4, z_n5, rfl, gR⟩ := hd
  refine am_nrp rfl rfl rfl rfl ?_
  refine st_aloadn O dL_law_322 rfl (q := 323) rfl ?_
  refine st_aloadn O dL_law_323 rfl (q := 324) rfl ?_
  refine st_iloadn O dL_law_324 rfl (q := 325) rfl ?_
  refine st_iconst O dL_law_325 am_iconst_1 (q := 326) rfl ?_
  refine st_iadd O dL_law_326 (by first | exact nI_add _ _ | exact rfl) (q := 327) rfl ?_
  refine st_rd O dL_law_327 (by decide) rfl (by omega) (by omega) (q := 328) rfl ?_
  refine st_call O dL_law_328 cs_L_law_328 (q := 331) rfl (am_siq rfl rfl rfl (Nat.le_of_ble_eq_true rfl) rfl ?_)
  refine ⟨σ, _, ⟨_, _, _, _, _, _, _, _, _, _, _, _, _, _, _, _, _, _, _, _, rfl, mR', mT', mO', mK'⟩, rfl, fun e he => ?_⟩
  have he' := he
  obtain ⟨y1, y2, y3, y4, y5, y6, y7, y8, y9, y10, y11, y12, y13, y14, y15, y16, y17, y18, y19, y20, rfl, -⟩ := he
  refine am_nrp rfl rfl rfl rfl ?_
  refine st_icmp_eq O dL_law_331 (t := 993) rfl (q := 334) rfl (fun c331 => ?_) (fun c331 => ?_)
  · have z := nx (f_standFirst (xs (i + 1)) σ).2 [.inl [ik, nI (f_standFirst (xs (i + 1)) σ).2.2.2.2.1.length], z_n0, z_n1, z_n2, z_n3, z_n4, z_n5, k0, k1, k2, k3, k4, k5, t0, t1, .inr u0, .inr (f_standFirst (xs (i + 1)) σ).2.2.2.2.2, r0, r1, r2, r3, r4, r5, p0, p1, p2, p3, p4, p5, .inl [], a0, a1, a2, a3, a4, a5, q0, q1, q2, q3, q4, q5, .inl [sd], b0, b1, b2, b3, b4, b5, s0, s1, s2, s3, s4, s5, .inr w1, .inr w2] _ ⟨_, _, _, _, _, _, _, _, _, _, _, _, _, _, _, _, _, _, _, _, _, _, _, _, _, _, _, _, _, _, _, _, _, _, _, _, _, _, _, _, _, _, _, _, _, _, _, _, _, _, _, _, _, _, _, rfl, gR, (by rw [(fr_standFirst (xs (i + 1)) σ).1]; exact hk), (by rw [(fr_standFirst (xs (i + 1)) σ).2.1]; exact ht), (by rw [(fr_standFirst (xs (i + 1)) σ).2.2]; exact hu), hr, hp, ha, hq, hb, hs⟩ he'
    exact z
  exact absurd rfl c331
theorem lo_set {X : am_X} {L i : Nat} {xs : Nat → Int32} {K : List Int32 → am_D → Prop} (O : ok_L_law X L xs K) {σ : Sg} {D E : am_D} (hI : IX σ D) (hM : IM σ E) (hi : i + 4 ≤ L) (hL : L ≤ 2048) (nx : ∀ σ' D' E', IX σ' D' → IM σ' E' → am_aw X 4 sh_Law 993 [some (.inr 999), some (.inr 0), some (.inr 57), some (.inl (nI i))] [] (D' ++ E')) : am_aw X 4 sh_Law 336 [some (.inr 999), some (.inr 0), some (.inr 57), some (.inl (nI i))] [] (D ++ E) := by
  obtain ⟨ik, n0, n1, n2, n3, n4, n5, k0, k1, k2, k3, k4, k5, t0, t1, u0, r0, r1, r2, r3, r4, r5, p0, p1, p2, p3, p4, p5, a0, a1, a2, a3, a4, a5, q0, q1, q2, q3, q4, q5, sd, b0, b1, b2, b3, b4, b5, s0, s1, s2, s3, s4, s5, w1, w2, rfl, hR, hk, ht, hu, hr, hp, ha, hq, hb, hs⟩ := hI
  obtain ⟨aT, iM, tU, aS, cH, lO, kA, fA, hA, lA, pA, tA, vA, oA, eA, xA, nA, gA, wA, uA, rfl, mR', mT', mO', mK'⟩ := hM
  refine am_nrq rfl rfl ?_
  refine st_aloadn O dL_law_336 rfl (q := 337) rfl ?_
  refine st_aloadn O dL_law_337 rfl (q := 338) rfl ?_
  refine st_iloadn O dL_law_338 rfl (q := 339) rfl ?_
  refine st_iconst O dL_law_339 am_iconst_1 (q := 340) rfl ?_
  refine st_iadd O dL_law_340 (by first | exact nI_add _ _ | exact rfl) (q := 341) rfl ?_
  refine st_rd O dL_law_341 (by decide) rfl (by omega) (by omega) (q := 342) rfl ?_
  refine st_aloadn O dL_law_342 rfl (q := 343) rfl ?_
  refine st_iloadn O dL_law_343 rfl (q := 344) rfl ?_
  refine st_iconst O dL_law_344 am_iconst_2 (q := 345) rfl ?_
  refine st_iadd O dL_law_345 (by first | exact nI_add _ _ | exact rfl) (q := 346) rfl ?_
  refine st_rd O dL_law_346 (by decide) rfl (by omega) (by omega) (q := 347) rfl ?_
  refine st_call O dL_law_347 cs_L_law_347 (q := 350) rfl (am_siq rfl rfl rfl (Nat.le_of_ble_eq_true rfl) rfl ?_)
  refine ⟨ik, σ, _, _, ⟨_, _, _, _, _, _, rfl, hR⟩, rfl, fun d hd => ?_⟩
  obtain ⟨z_n0, z_n1, z_n2, z_n3, z_n4, z_n5, rfl, gR⟩ := hd
  refine am_nrp rfl rfl rfl rfl ?_
  refine st_aloadn O dL_law_350 rfl (q := 351) rfl ?_
  refine st_aloadn O dL_law_351 rfl (q := 352) rfl ?_
  refine st_iloadn O dL_law_352 rfl (q := 353) rfl ?_
  refine st_iconst O dL_law_353 am_iconst_1 (q := 354) rfl ?_
  refine st_iadd O dL_law_354 (by first | exact nI_add _ _ | exact rfl) (q := 355) rfl ?_
  refine st_rd O dL_law_355 (by decide) rfl (by omega) (by omega) (q := 356) rfl ?_
  refine st_aloadn O dL_law_356 rfl (q := 357) rfl ?_
  refine st_iloadn O dL_law_357 rfl (q := 358) rfl ?_
  refine st_iconst O dL_law_358 am_iconst_2 (q := 359) rfl ?_
  refine st_iadd O dL_law_359 (by first | exact nI_add _ _ | exact rfl) (q := 360) rfl ?_
  refine st_rd O dL_law_360 (by decide) rfl (by omega) (by omega) (q := 361) rfl ?_
  refine st_call O dL_law_361 cs_L_law_361 (q := 364) rfl (am_siq rfl rfl rfl (Nat.le_of_ble_eq_true rfl) rfl ?_)
  refine ⟨σ, _, _, ⟨_, _, _, _, _, _, _, _, _, _, _, _, _, _, _, _, _, _, _, _, rfl, mR', mT', mO', mK'⟩, rfl, fun e he => ?_⟩
  have he' := he
  obtain ⟨y1, y2, y3, y4, y5, y6, y7, y8, y9, y10, y11, y12, y13, y14, y15, y16, y17, y18, y19, y20, rfl, -⟩ := he
  refine am_nrp rfl rfl rfl rfl ?_
  refine st_icmp_eq O dL_law_364 (t := 993) rfl (q := 367) rfl (fun c364 => ?_) (fun c364 => ?_)
  · have z := nx (f_set (xs (i + 1)) (xs (i + 2)) σ).2 [.inl [ik, nI (f_set (xs (i + 1)) (xs (i + 2)) σ).2.2.2.2.1.length], z_n0, z_n1, z_n2, z_n3, z_n4, z_n5, k0, k1, k2, k3, k4, k5, t0, t1, .inr u0, .inr (f_set (xs (i + 1)) (xs (i + 2)) σ).2.2.2.2.2, r0, r1, r2, r3, r4, r5, p0, p1, p2, p3, p4, p5, .inl [], a0, a1, a2, a3, a4, a5, q0, q1, q2, q3, q4, q5, .inl [sd], b0, b1, b2, b3, b4, b5, s0, s1, s2, s3, s4, s5, .inr w1, .inr w2] _ ⟨_, _, _, _, _, _, _, _, _, _, _, _, _, _, _, _, _, _, _, _, _, _, _, _, _, _, _, _, _, _, _, _, _, _, _, _, _, _, _, _, _, _, _, _, _, _, _, _, _, _, _, _, _, _, _, rfl, gR, (by rw [(fr_set (xs (i + 1)) (xs (i + 2)) σ).1]; exact hk), (by rw [(fr_set (xs (i + 1)) (xs (i + 2)) σ).2.1]; exact ht), (by rw [(fr_set (xs (i + 1)) (xs (i + 2)) σ).2.2]; exact hu), hr, hp, ha, hq, hb, hs⟩ he'
    exact z
  exact absurd rfl c364
theorem lo_order {X : am_X} {L i : Nat} {xs : Nat → Int32} {K : List Int32 → am_D → Prop} (O : ok_L_law X L xs K) {σ : Sg} {D E : am_D} (hI : IX σ D) (hM : IM σ E) (hi : i + 4 ≤ L) (hL : L ≤ 2048) (nx : ∀ σ' D' E', IX σ' D' → IM σ' E' → am_aw X 4 sh_Law 993 [some (.inr 999), some (.inr 0), some (.inr 57), some (.inl (nI i))] [] (D' ++ E')) : am_aw X 4 sh_Law 369 [some (.inr 999), some (.inr 0), some (.inr 57), some (.inl (nI i))] [] (D ++ E) := by
  obtain ⟨ik, n0, n1, n2, n3, n4, n5, k0, k1, k2, k3, k4, k5, t0, t1, u0, r0, r1, r2, r3, r4, r5, p0, p1, p2, p3, p4, p5, a0, a1, a2, a3, a4, a5, q0, q1, q2, q3, q4, q5, sd, b0, b1, b2, b3, b4, b5, s0, s1, s2, s3, s4, s5, w1, w2, rfl, hR, hk, ht, hu, hr, hp, ha, hq, hb, hs⟩ := hI
  obtain ⟨aT, iM, tU, aS, cH, lO, kA, fA, hA, lA, pA, tA, vA, oA, eA, xA, nA, gA, wA, uA, rfl, mR', mT', mO', mK'⟩ := hM
  refine am_nrq rfl rfl ?_
  refine st_aloadn O dL_law_369 rfl (q := 370) rfl ?_
  refine st_aloadn O dL_law_370 rfl (q := 371) rfl ?_
  refine st_iloadn O dL_law_371 rfl (q := 372) rfl ?_
  refine st_iconst O dL_law_372 am_iconst_1 (q := 373) rfl ?_
  refine st_iadd O dL_law_373 (by first | exact nI_add _ _ | exact rfl) (q := 374) rfl ?_
  refine st_rd O dL_law_374 (by decide) rfl (by omega) (by omega) (q := 375) rfl ?_
  refine st_call O dL_law_375 cs_L_law_375 (q := 378) rfl (am_siq rfl rfl rfl (Nat.le_of_ble_eq_true rfl) rfl ?_)
  refine ⟨ik, σ, _, ⟨_, _, _, _, _, _, _, _, _, _, _, _, rfl, hR, hp⟩, rfl, fun d hd => ?_⟩
  obtain ⟨z_n0, z_n1, z_n2, z_n3, z_n4, z_n5, z_p0, z_p1, z_p2, z_p3, z_p4, z_p5, rfl, gR, gp⟩ := hd
  refine am_nrp rfl rfl rfl rfl ?_
  refine st_aloadn O dL_law_378 rfl (q := 379) rfl ?_
  refine st_aloadn O dL_law_379 rfl (q := 380) rfl ?_
  refine st_iloadn O dL_law_380 rfl (q := 381) rfl ?_
  refine st_iconst O dL_law_381 am_iconst_1 (q := 382) rfl ?_
  refine st_iadd O dL_law_382 (by first | exact nI_add _ _ | exact rfl) (q := 383) rfl ?_
  refine st_rd O dL_law_383 (by decide) rfl (by omega) (by omega) (q := 384) rfl ?_
  refine st_call O dL_law_384 cs_L_law_384 (q := 387) rfl (am_siq rfl rfl rfl (Nat.le_of_ble_eq_true rfl) rfl ?_)
  refine ⟨σ, _, ⟨_, _, _, _, _, _, _, _, _, _, _, _, _, _, _, _, _, _, _, _, rfl, mR', mT', mO', mK'⟩, rfl, fun e he => ?_⟩
  have he' := he
  obtain ⟨y1, y2, y3, y4, y5, y6, y7, y8, y9, y10, y11, y12, y13, y14, y15, y16, y17, y18, y19, y20, rfl, -⟩ := he
  refine am_nrp rfl rfl rfl rfl ?_
  refine st_icmp_eq O dL_law_387 (t := 993) rfl (q := 390) rfl (fun c387 => ?_) (fun c387 => ?_)
  · have z := nx (f_order (xs (i + 1)) σ).2 [.inl [ik, nI (f_order (xs (i + 1)) σ).2.2.2.2.1.length], z_n0, z_n1, z_n2, z_n3, z_n4, z_n5, k0, k1, k2, k3, k4, k5, t0, t1, .inr u0, .inr (f_order (xs (i + 1)) σ).2.2.2.2.2, r0, r1, r2, r3, r4, r5, z_p0, z_p1, z_p2, z_p3, z_p4, z_p5, .inl [], a0, a1, a2, a3, a4, a5, q0, q1, q2, q3, q4, q5, .inl [sd], b0, b1, b2, b3, b4, b5, s0, s1, s2, s3, s4, s5, .inr w1, .inr w2] _ ⟨_, _, _, _, _, _, _, _, _, _, _, _, _, _, _, _, _, _, _, _, _, _, _, _, _, _, _, _, _, _, _, _, _, _, _, _, _, _, _, _, _, _, _, _, _, _, _, _, _, _, _, _, _, _, _, rfl, gR, (by rw [(fr_order (xs (i + 1)) σ).1]; exact hk), (by rw [(fr_order (xs (i + 1)) σ).2.1]; exact ht), (by rw [(fr_order (xs (i + 1)) σ).2.2]; exact hu), hr, gp, ha, hq, hb, hs⟩ he'
    exact z
  exact absurd rfl c387
theorem lo_of {X : am_X} {L i : Nat} {xs : Nat → Int32} {K : List Int32 → am_D → Prop} (O : ok_L_law X L xs K) {σ : Sg} {D E : am_D} (hI : IX σ D) (hM : IM σ E) (hi : i + 4 ≤ L) (hL : L ≤ 2048) (nx : ∀ σ' D' E', IX σ' D' → IM σ' E' → am_aw X 4 sh_Law 993 [some (.inr 999), some (.inr 0), some (.inr 57), some (.inl (nI i))] [] (D' ++ E')) : am_aw X 4 sh_Law 392 [some (.inr 999), some (.inr 0), some (.inr 57), some (.inl (nI i))] [] (D ++ E) := by
  obtain ⟨ik, n0, n1, n2, n3, n4, n5, k0, k1, k2, k3, k4, k5, t0, t1, u0, r0, r1, r2, r3, r4, r5, p0, p1, p2, p3, p4, p5, a0, a1, a2, a3, a4, a5, q0, q1, q2, q3, q4, q5, sd, b0, b1, b2, b3, b4, b5, s0, s1, s2, s3, s4, s5, w1, w2, rfl, hR, hk, ht, hu, hr, hp, ha, hq, hb, hs⟩ := hI
  obtain ⟨aT, iM, tU, aS, cH, lO, kA, fA, hA, lA, pA, tA, vA, oA, eA, xA, nA, gA, wA, uA, rfl, mR', mT', mO', mK'⟩ := hM
  refine am_nrq rfl rfl ?_
  refine st_aloadn O dL_law_392 rfl (q := 393) rfl ?_
  refine st_aloadn O dL_law_393 rfl (q := 394) rfl ?_
  refine st_iloadn O dL_law_394 rfl (q := 395) rfl ?_
  refine st_iconst O dL_law_395 am_iconst_1 (q := 396) rfl ?_
  refine st_iadd O dL_law_396 (by first | exact nI_add _ _ | exact rfl) (q := 397) rfl ?_
  refine st_rd O dL_law_397 (by decide) rfl (by omega) (by omega) (q := 398) rfl ?_
  refine st_aloadn O dL_law_398 rfl (q := 399) rfl ?_
  refine st_iloadn O dL_law_399 rfl (q := 400) rfl ?_
  refine st_iconst O dL_law_400 am_iconst_2 (q := 401) rfl ?_
  refine st_iadd O dL_law_401 (by first | exact nI_add _ _ | exact rfl) (q := 402) rfl ?_
  refine st_rd O dL_law_402 (by decide) rfl (by omega) (by omega) (q := 403) rfl ?_
  refine st_call O dL_law_403 cs_L_law_403 (q := 406) rfl (am_siq rfl rfl rfl (Nat.le_of_ble_eq_true rfl) rfl ?_)
  refine ⟨ik, σ, _, _, ⟨_, _, _, _, _, _, _, _, _, _, _, _, rfl, hR, hp⟩, rfl, fun d hd => ?_⟩
  obtain ⟨z_n0, z_n1, z_n2, z_n3, z_n4, z_n5, z_p0, z_p1, z_p2, z_p3, z_p4, z_p5, rfl, gR, gp⟩ := hd
  refine am_nrp rfl rfl rfl rfl ?_
  refine st_aloadn O dL_law_406 rfl (q := 407) rfl ?_
  refine st_aloadn O dL_law_407 rfl (q := 408) rfl ?_
  refine st_iloadn O dL_law_408 rfl (q := 409) rfl ?_
  refine st_iconst O dL_law_409 am_iconst_1 (q := 410) rfl ?_
  refine st_iadd O dL_law_410 (by first | exact nI_add _ _ | exact rfl) (q := 411) rfl ?_
  refine st_rd O dL_law_411 (by decide) rfl (by omega) (by omega) (q := 412) rfl ?_
  refine st_aloadn O dL_law_412 rfl (q := 413) rfl ?_
  refine st_iloadn O dL_law_413 rfl (q := 414) rfl ?_
  refine st_iconst O dL_law_414 am_iconst_2 (q := 415) rfl ?_
  refine st_iadd O dL_law_415 (by first | exact nI_add _ _ | exact rfl) (q := 416) rfl ?_
  refine st_rd O dL_law_416 (by decide) rfl (by omega) (by omega) (q := 417) rfl ?_
  refine st_call O dL_law_417 cs_L_law_417 (q := 420) rfl (am_siq rfl rfl rfl (Nat.le_of_ble_eq_true rfl) rfl ?_)
  refine ⟨σ, _, _, ⟨_, _, _, _, _, _, _, _, _, _, _, _, _, _, _, _, _, _, _, _, rfl, mR', mT', mO', mK'⟩, rfl, fun e he => ?_⟩
  have he' := he
  obtain ⟨y1, y2, y3, y4, y5, y6, y7, y8, y9, y10, y11, y12, y13, y14, y15, y16, y17, y18, y19, y20, rfl, -⟩ := he
  refine am_nrp rfl rfl rfl rfl ?_
  refine st_icmp_eq O dL_law_420 (t := 993) rfl (q := 423) rfl (fun c420 => ?_) (fun c420 => ?_)
  · have z := nx (f_of (xs (i + 1)) (xs (i + 2)) σ).2 [.inl [ik, nI (f_of (xs (i + 1)) (xs (i + 2)) σ).2.2.2.2.1.length], z_n0, z_n1, z_n2, z_n3, z_n4, z_n5, k0, k1, k2, k3, k4, k5, t0, t1, .inr u0, .inr (f_of (xs (i + 1)) (xs (i + 2)) σ).2.2.2.2.2, r0, r1, r2, r3, r4, r5, z_p0, z_p1, z_p2, z_p3, z_p4, z_p5, .inl [], a0, a1, a2, a3, a4, a5, q0, q1, q2, q3, q4, q5, .inl [sd], b0, b1, b2, b3, b4, b5, s0, s1, s2, s3, s4, s5, .inr w1, .inr w2] _ ⟨_, _, _, _, _, _, _, _, _, _, _, _, _, _, _, _, _, _, _, _, _, _, _, _, _, _, _, _, _, _, _, _, _, _, _, _, _, _, _, _, _, _, _, _, _, _, _, _, _, _, _, _, _, _, _, rfl, gR, (by rw [(fr_of (xs (i + 1)) (xs (i + 2)) σ).1]; exact hk), (by rw [(fr_of (xs (i + 1)) (xs (i + 2)) σ).2.1]; exact ht), (by rw [(fr_of (xs (i + 1)) (xs (i + 2)) σ).2.2]; exact hu), hr, gp, ha, hq, hb, hs⟩ he'
    exact z
  exact absurd rfl c420
theorem lo_sums {X : am_X} {L i : Nat} {xs : Nat → Int32} {K : List Int32 → am_D → Prop} (O : ok_L_law X L xs K) {σ : Sg} {D E : am_D} (hI : IX σ D) (hM : IM σ E) (hi : i + 4 ≤ L) (hL : L ≤ 2048) (nx : ∀ σ' D' E', IX σ' D' → IM σ' E' → am_aw X 4 sh_Law 993 [some (.inr 999), some (.inr 0), some (.inr 57), some (.inl (nI i))] [] (D' ++ E')) : am_aw X 4 sh_Law 425 [some (.inr 999), some (.inr 0), some (.inr 57), some (.inl (nI i))] [] (D ++ E) := by
  obtain ⟨ik, n0, n1, n2, n3, n4, n5, k0, k1, k2, k3, k4, k5, t0, t1, u0, r0, r1, r2, r3, r4, r5, p0, p1, p2, p3, p4, p5, a0, a1, a2, a3, a4, a5, q0, q1, q2, q3, q4, q5, sd, b0, b1, b2, b3, b4, b5, s0, s1, s2, s3, s4, s5, w1, w2, rfl, hR, hk, ht, hu, hr, hp, ha, hq, hb, hs⟩ := hI
  obtain ⟨aT, iM, tU, aS, cH, lO, kA, fA, hA, lA, pA, tA, vA, oA, eA, xA, nA, gA, wA, uA, rfl, mR', mT', mO', mK'⟩ := hM
  refine am_nrq rfl rfl ?_
  refine st_aloadn O dL_law_425 rfl (q := 426) rfl ?_
  refine st_aloadn O dL_law_426 rfl (q := 427) rfl ?_
  refine st_iloadn O dL_law_427 rfl (q := 428) rfl ?_
  refine st_iconst O dL_law_428 am_iconst_1 (q := 429) rfl ?_
  refine st_iadd O dL_law_429 (by first | exact nI_add _ _ | exact rfl) (q := 430) rfl ?_
  refine st_rd O dL_law_430 (by decide) rfl (by omega) (by omega) (q := 431) rfl ?_
  refine st_call O dL_law_431 cs_L_law_431 (q := 434) rfl (am_siq rfl rfl rfl (Nat.le_of_ble_eq_true rfl) rfl ?_)
  refine ⟨ik, σ, _, ⟨_, _, _, _, _, _, _, _, _, _, _, _, rfl, hR, hp⟩, rfl, fun d hd => ?_⟩
  obtain ⟨z_n0, z_n1, z_n2, z_n3, z_n4, z_n5, z_p0, z_p1, z_p2, z_p3, z_p4, z_p5, rfl, gR, gp⟩ := hd
  refine am_nrp rfl rfl rfl rfl ?_
  refine st_aloadn O dL_law_434 rfl (q := 435) rfl ?_
  refine st_aloadn O dL_law_435 rfl (q := 436) rfl ?_
  refine st_iloadn O dL_law_436 rfl (q := 437) rfl ?_
  refine st_iconst O dL_law_437 am_iconst_1 (q := 438) rfl ?_
  refine st_iadd O dL_law_438 (by first | exact nI_add _ _ | exact rfl) (q := 439) rfl ?_
  refine st_rd O dL_law_439 (by decide) rfl (by omega) (by omega) (q := 440) rfl ?_
  refine st_call O dL_law_440 cs_L_law_440 (q := 443) rfl (am_siq rfl rfl rfl (Nat.le_of_ble_eq_true rfl) rfl ?_)
  refine ⟨σ, _, ⟨_, _, _, _, _, _, _, _, _, _, _, _, _, _, _, _, _, _, _, _, rfl, mR', mT', mO', mK'⟩, rfl, fun e he => ?_⟩
  have he' := he
  obtain ⟨y1, y2, y3, y4, y5, y6, y7, y8, y9, y10, y11, y12, y13, y14, y15, y16, y17, y18, y19, y20, rfl, -⟩ := he
  refine am_nrp rfl rfl rfl rfl ?_
  refine st_icmp_eq O dL_law_443 (t := 993) rfl (q := 446) rfl (fun c443 => ?_) (fun c443 => ?_)
  · have z := nx (f_sums (xs (i + 1)) σ).2 [.inl [ik, nI (f_sums (xs (i + 1)) σ).2.2.2.2.1.length], z_n0, z_n1, z_n2, z_n3, z_n4, z_n5, k0, k1, k2, k3, k4, k5, t0, t1, .inr u0, .inr (f_sums (xs (i + 1)) σ).2.2.2.2.2, r0, r1, r2, r3, r4, r5, z_p0, z_p1, z_p2, z_p3, z_p4, z_p5, .inl [], a0, a1, a2, a3, a4, a5, q0, q1, q2, q3, q4, q5, .inl [sd], b0, b1, b2, b3, b4, b5, s0, s1, s2, s3, s4, s5, .inr w1, .inr w2] _ ⟨_, _, _, _, _, _, _, _, _, _, _, _, _, _, _, _, _, _, _, _, _, _, _, _, _, _, _, _, _, _, _, _, _, _, _, _, _, _, _, _, _, _, _, _, _, _, _, _, _, _, _, _, _, _, _, rfl, gR, (by rw [(fr_sums (xs (i + 1)) σ).1]; exact hk), (by rw [(fr_sums (xs (i + 1)) σ).2.1]; exact ht), (by rw [(fr_sums (xs (i + 1)) σ).2.2]; exact hu), hr, gp, ha, hq, hb, hs⟩ he'
    exact z
  exact absurd rfl c443
theorem lo_queue {X : am_X} {L i : Nat} {xs : Nat → Int32} {K : List Int32 → am_D → Prop} (O : ok_L_law X L xs K) {σ : Sg} {D E : am_D} (hI : IX σ D) (hM : IM σ E) (hi : i + 4 ≤ L) (hL : L ≤ 2048) (nx : ∀ σ' D' E', IX σ' D' → IM σ' E' → am_aw X 4 sh_Law 993 [some (.inr 999), some (.inr 0), some (.inr 57), some (.inl (nI i))] [] (D' ++ E')) : am_aw X 4 sh_Law 448 [some (.inr 999), some (.inr 0), some (.inr 57), some (.inl (nI i))] [] (D ++ E) := by
  obtain ⟨ik, n0, n1, n2, n3, n4, n5, k0, k1, k2, k3, k4, k5, t0, t1, u0, r0, r1, r2, r3, r4, r5, p0, p1, p2, p3, p4, p5, a0, a1, a2, a3, a4, a5, q0, q1, q2, q3, q4, q5, sd, b0, b1, b2, b3, b4, b5, s0, s1, s2, s3, s4, s5, w1, w2, rfl, hR, hk, ht, hu, hr, hp, ha, hq, hb, hs⟩ := hI
  obtain ⟨aT, iM, tU, aS, cH, lO, kA, fA, hA, lA, pA, tA, vA, oA, eA, xA, nA, gA, wA, uA, rfl, mR', mT', mO', mK'⟩ := hM
  refine am_nrq rfl rfl ?_
  refine st_aloadn O dL_law_448 rfl (q := 449) rfl ?_
  refine st_aloadn O dL_law_449 rfl (q := 450) rfl ?_
  refine st_iloadn O dL_law_450 rfl (q := 451) rfl ?_
  refine st_iconst O dL_law_451 am_iconst_1 (q := 452) rfl ?_
  refine st_iadd O dL_law_452 (by first | exact nI_add _ _ | exact rfl) (q := 453) rfl ?_
  refine st_rd O dL_law_453 (by decide) rfl (by omega) (by omega) (q := 454) rfl ?_
  refine st_aloadn O dL_law_454 rfl (q := 455) rfl ?_
  refine st_iloadn O dL_law_455 rfl (q := 456) rfl ?_
  refine st_iconst O dL_law_456 am_iconst_2 (q := 457) rfl ?_
  refine st_iadd O dL_law_457 (by first | exact nI_add _ _ | exact rfl) (q := 458) rfl ?_
  refine st_rd O dL_law_458 (by decide) rfl (by omega) (by omega) (q := 459) rfl ?_
  refine st_call O dL_law_459 cs_L_law_459 (q := 462) rfl (am_siq rfl rfl rfl (Nat.le_of_ble_eq_true rfl) rfl ?_)
  refine ⟨ik, σ, _, _, ⟨_, _, _, _, _, _, _, _, _, _, _, _, rfl, hR, hp⟩, rfl, fun d hd => ?_⟩
  obtain ⟨z_n0, z_n1, z_n2, z_n3, z_n4, z_n5, z_p0, z_p1, z_p2, z_p3, z_p4, z_p5, rfl, gR, gp⟩ := hd
  refine am_nrp rfl rfl rfl rfl ?_
  refine st_aloadn O dL_law_462 rfl (q := 463) rfl ?_
  refine st_aloadn O dL_law_463 rfl (q := 464) rfl ?_
  refine st_iloadn O dL_law_464 rfl (q := 465) rfl ?_
  refine st_iconst O dL_law_465 am_iconst_1 (q := 466) rfl ?_
  refine st_iadd O dL_law_466 (by first | exact nI_add _ _ | exact rfl) (q := 467) rfl ?_
  refine st_rd O dL_law_467 (by decide) rfl (by omega) (by omega) (q := 468) rfl ?_
  refine st_aloadn O dL_law_468 rfl (q := 469) rfl ?_
  refine st_iloadn O dL_law_469 rfl (q := 470) rfl ?_
  refine st_iconst O dL_law_470 am_iconst_2 (q := 471) rfl ?_
  refine st_iadd O dL_law_471 (by first | exact nI_add _ _ | exact rfl) (q := 472) rfl ?_
  refine st_rd O dL_law_472 (by decide) rfl (by omega) (by omega) (q := 473) rfl ?_
  refine st_call O dL_law_473 cs_L_law_473 (q := 476) rfl (am_siq rfl rfl rfl (Nat.le_of_ble_eq_true rfl) rfl ?_)
  refine ⟨σ, _, _, ⟨_, _, _, _, _, _, _, _, _, _, _, _, _, _, _, _, _, _, _, _, rfl, mR', mT', mO', mK'⟩, rfl, fun e he => ?_⟩
  have he' := he
  obtain ⟨y1, y2, y3, y4, y5, y6, y7, y8, y9, y10, y11, y12, y13, y14, y15, y16, y17, y18, y19, y20, rfl, -⟩ := he
  refine am_nrp rfl rfl rfl rfl ?_
  refine st_icmp_eq O dL_law_476 (t := 993) rfl (q := 479) rfl (fun c476 => ?_) (fun c476 => ?_)
  · have z := nx (f_queue (xs (i + 1)) (xs (i + 2)) σ).2 [.inl [ik, nI (f_queue (xs (i + 1)) (xs (i + 2)) σ).2.2.2.2.1.length], z_n0, z_n1, z_n2, z_n3, z_n4, z_n5, k0, k1, k2, k3, k4, k5, t0, t1, .inr u0, .inr (f_queue (xs (i + 1)) (xs (i + 2)) σ).2.2.2.2.2, r0, r1, r2, r3, r4, r5, z_p0, z_p1, z_p2, z_p3, z_p4, z_p5, .inl [], a0, a1, a2, a3, a4, a5, q0, q1, q2, q3, q4, q5, .inl [sd], b0, b1, b2, b3, b4, b5, s0, s1, s2, s3, s4, s5, .inr w1, .inr w2] _ ⟨_, _, _, _, _, _, _, _, _, _, _, _, _, _, _, _, _, _, _, _, _, _, _, _, _, _, _, _, _, _, _, _, _, _, _, _, _, _, _, _, _, _, _, _, _, _, _, _, _, _, _, _, _, _, _, rfl, gR, (by rw [(fr_queue (xs (i + 1)) (xs (i + 2)) σ).1]; exact hk), (by rw [(fr_queue (xs (i + 1)) (xs (i + 2)) σ).2.1]; exact ht), (by rw [(fr_queue (xs (i + 1)) (xs (i + 2)) σ).2.2]; exact hu), hr, gp, ha, hq, hb, hs⟩ he'
    exact z
  exact absurd rfl c476
theorem lo_bestBoard {X : am_X} {L i : Nat} {xs : Nat → Int32} {K : List Int32 → am_D → Prop} (O : ok_L_law X L xs K) {σ : Sg} {D E : am_D} (hI : IX σ D) (hM : IM σ E) (hi : i + 4 ≤ L) (hL : L ≤ 2048) (nx : ∀ σ' D' E', IX σ' D' → IM σ' E' → am_aw X 4 sh_Law 993 [some (.inr 999), some (.inr 0), some (.inr 57), some (.inl (nI i))] [] (D' ++ E')) : am_aw X 4 sh_Law 481 [some (.inr 999), some (.inr 0), some (.inr 57), some (.inl (nI i))] [] (D ++ E) := by
  obtain ⟨ik, n0, n1, n2, n3, n4, n5, k0, k1, k2, k3, k4, k5, t0, t1, u0, r0, r1, r2, r3, r4, r5, p0, p1, p2, p3, p4, p5, a0, a1, a2, a3, a4, a5, q0, q1, q2, q3, q4, q5, sd, b0, b1, b2, b3, b4, b5, s0, s1, s2, s3, s4, s5, w1, w2, rfl, hR, hk, ht, hu, hr, hp, ha, hq, hb, hs⟩ := hI
  obtain ⟨aT, iM, tU, aS, cH, lO, kA, fA, hA, lA, pA, tA, vA, oA, eA, xA, nA, gA, wA, uA, rfl, mR', mT', mO', mK'⟩ := hM
  refine am_nrq rfl rfl ?_
  refine st_aloadn O dL_law_481 rfl (q := 482) rfl ?_
  refine st_call O dL_law_482 cs_L_law_482 (q := 485) rfl (am_siq rfl rfl rfl (Nat.le_of_ble_eq_true rfl) rfl ?_)
  refine ⟨ik, σ, ⟨_, _, _, _, _, _, _, _, _, _, _, _, _, _, _, _, _, _, rfl, hR, ha, hq⟩, rfl, fun d hd => ?_⟩
  obtain ⟨z_n0, z_n1, z_n2, z_n3, z_n4, z_n5, z_a0, z_a1, z_a2, z_a3, z_a4, z_a5, z_q0, z_q1, z_q2, z_q3, z_q4, z_q5, rfl, gR, ga, gq⟩ := hd
  refine am_nrp rfl rfl rfl rfl ?_
  refine st_aloadn O dL_law_485 rfl (q := 486) rfl ?_
  refine st_call O dL_law_486 cs_L_law_486 (q := 489) rfl (am_siq rfl rfl rfl (Nat.le_of_ble_eq_true rfl) rfl ?_)
  refine ⟨σ, ⟨_, _, _, _, _, _, _, _, _, _, _, _, _, _, _, _, _, _, _, _, rfl, mR', mT', mO', mK'⟩, rfl, fun e he => ?_⟩
  have he' := he
  obtain ⟨y1, y2, y3, y4, y5, y6, y7, y8, y9, y10, y11, y12, y13, y14, y15, y16, y17, y18, y19, y20, rfl, -⟩ := he
  refine am_nrp rfl rfl rfl rfl ?_
  refine st_icmp_eq O dL_law_489 (t := 993) rfl (q := 492) rfl (fun c489 => ?_) (fun c489 => ?_)
  · have z := nx (f_bestBoard σ).2 [.inl [ik, nI (f_bestBoard σ).2.2.2.2.1.length], z_n0, z_n1, z_n2, z_n3, z_n4, z_n5, k0, k1, k2, k3, k4, k5, t0, t1, .inr u0, .inr (f_bestBoard σ).2.2.2.2.2, r0, r1, r2, r3, r4, r5, p0, p1, p2, p3, p4, p5, .inl [], z_a0, z_a1, z_a2, z_a3, z_a4, z_a5, z_q0, z_q1, z_q2, z_q3, z_q4, z_q5, .inl [sd], b0, b1, b2, b3, b4, b5, s0, s1, s2, s3, s4, s5, .inr w1, .inr w2] _ ⟨_, _, _, _, _, _, _, _, _, _, _, _, _, _, _, _, _, _, _, _, _, _, _, _, _, _, _, _, _, _, _, _, _, _, _, _, _, _, _, _, _, _, _, _, _, _, _, _, _, _, _, _, _, _, _, rfl, gR, (by rw [(fr_bestBoard σ).1]; exact hk), (by rw [(fr_bestBoard σ).2.1]; exact ht), (by rw [(fr_bestBoard σ).2.2]; exact hu), hr, hp, ga, gq, hb, hs⟩ he'
    exact z
  exact absurd rfl c489
