/-! the law's calls, one by one (1) -/
theorem lo_letter {X : am_X} {L i : Nat} {xs : Nat → Int32} {K : List Int32 → am_D → Prop} (O : ok_L_law X L xs K) {σ : Sg} {D E : am_D} (hI : IX σ D) (hM : IM σ E) (hi : i + 4 ≤ L) (hL : L ≤ 2048) (nx : ∀ σ' D' E', IX σ' D' → IM σ' E' → am_aw X 4 sh_Law 993 [some (.inr 999), some (.inr 0), some (.inr 57), some (.inl (nI i))] [] (D' ++ E')) : am_aw X 4 sh_Law 188 [some (.inr 999), some (.inr 0), some (.inr 57), some (.inl (nI i))] [] (D ++ E) := by
  obtain ⟨ik, n0, n1, n2, n3, n4, n5, k0, k1, k2, k3, k4, k5, t0, t1, u0, r0, r1, r2, r3, r4, r5, p0, p1, p2, p3, p4, p5, a0, a1, a2, a3, a4, a5, q0, q1, q2, q3, q4, q5, sd, b0, b1, b2, b3, b4, b5, s0, s1, s2, s3, s4, s5, w1, w2, rfl, hR, hk, ht, hu, hr, hp, ha, hq, hb, hs⟩ := hI
  obtain ⟨aT, iM, tU, aS, cH, lO, kA, fA, hA, lA, pA, tA, vA, oA, eA, xA, nA, gA, wA, uA, rfl, mR', mT', mO', mK'⟩ := hM
  refine am_nrq rfl rfl ?_
  refine st_aloadn O dL_law_188 rfl (q := 189) rfl ?_
  refine st_aloadn O dL_law_189 rfl (q := 190) rfl ?_
  refine st_iloadn O dL_law_190 rfl (q := 191) rfl ?_
  refine st_iconst O dL_law_191 am_iconst_1 (q := 192) rfl ?_
  refine st_iadd O dL_law_192 (by first | exact nI_add _ _ | exact rfl) (q := 193) rfl ?_
  refine st_rd O dL_law_193 (by decide) rfl (by omega) (by omega) (q := 194) rfl ?_
  refine st_call O dL_law_194 cs_L_law_194 (q := 197) rfl (am_siq rfl rfl rfl (Nat.le_of_ble_eq_true rfl) rfl ?_)
  refine ⟨ik, σ, _, ⟨_, _, rfl, ht⟩, rfl, fun d hd => ?_⟩
  obtain ⟨z_t0, z_t1, rfl, gt⟩ := hd
  refine am_nrp rfl rfl rfl rfl ?_
  refine st_aloadn O dL_law_197 rfl (q := 198) rfl ?_
  refine st_aloadn O dL_law_198 rfl (q := 199) rfl ?_
  refine st_iloadn O dL_law_199 rfl (q := 200) rfl ?_
  refine st_iconst O dL_law_200 am_iconst_1 (q := 201) rfl ?_
  refine st_iadd O dL_law_201 (by first | exact nI_add _ _ | exact rfl) (q := 202) rfl ?_
  refine st_rd O dL_law_202 (by decide) rfl (by omega) (by omega) (q := 203) rfl ?_
  refine st_call O dL_law_203 cs_L_law_203 (q := 206) rfl (am_siq rfl rfl rfl (Nat.le_of_ble_eq_true rfl) rfl ?_)
  refine ⟨σ, _, ⟨_, _, _, _, _, _, _, _, _, _, _, _, _, _, _, _, _, _, _, _, rfl, mR', mT', mO', mK'⟩, rfl, fun e he => ?_⟩
  have he' := he
  obtain ⟨y1, y2, y3, y4, y5, y6, y7, y8, y9, y10, y11, y12, y13, y14, y15, y16, y17, y18, y19, y20, rfl, -⟩ := he
  refine am_nrp rfl rfl rfl rfl ?_
  refine st_icmp_eq O dL_law_206 (t := 993) rfl (q := 209) rfl (fun c206 => ?_) (fun c206 => ?_)
  · have z := nx (f_letter (xs (i + 1)) σ).2 [.inl [ik, nI (f_letter (xs (i + 1)) σ).2.2.2.2.1.length], n0, n1, n2, n3, n4, n5, k0, k1, k2, k3, k4, k5, z_t0, z_t1, .inr u0, .inr (f_letter (xs (i + 1)) σ).2.2.2.2.2, r0, r1, r2, r3, r4, r5, p0, p1, p2, p3, p4, p5, .inl [], a0, a1, a2, a3, a4, a5, q0, q1, q2, q3, q4, q5, .inl [sd], b0, b1, b2, b3, b4, b5, s0, s1, s2, s3, s4, s5, .inr w1, .inr w2] _ ⟨_, _, _, _, _, _, _, _, _, _, _, _, _, _, _, _, _, _, _, _, _, _, _, _, _, _, _, _, _, _, _, _, _, _, _, _, _, _, _, _, _, _, _, _, _, _, _, _, _, _, _, _, _, _, _, rfl, (by rw [(fr_letter (xs (i + 1)) σ).1]; exact hR), (by rw [(fr_letter (xs (i + 1)) σ).2.1]; exact hk), gt, (by rw [(fr_letter (xs (i + 1)) σ).2.2]; exact hu), hr, hp, ha, hq, hb, hs⟩ he'
    exact z
  exact absurd rfl c206
