/-! the law's calls, one by one (2) -/
theorem lo_over {X : am_X} {L i : Nat} {xs : Nat → Int32} {K : List Int32 → am_D → Prop} (O : ok_L_law X L xs K) {σ : Sg} {D E : am_D} (hI : IX σ D) (hM : IM σ E) (hi : i + 4 ≤ L) (hL : L ≤ 2048) (nx : ∀ σ' D' E', IX σ' D' → IM σ' E' → am_aw X 4 sh_Law 993 [some (.inr 999), some (.inr 0), some (.inr 57), some (.inl (nI i))] [] (D' ++ E')) : am_aw X 4 sh_Law 494 [some (.inr 999), some (.inr 0), some (.inr 57), some (.inl (nI i))] [] (D ++ E) := by
  obtain ⟨ik, n0, n1, n2, n3, n4, n5, k0, k1, k2, k3, k4, k5, t0, t1, u0, r0, r1, r2, r3, r4, r5, p0, p1, p2, p3, p4, p5, a0, a1, a2, a3, a4, a5, q0, q1, q2, q3, q4, q5, sd, b0, b1, b2, b3, b4, b5, s0, s1, s2, s3, s4, s5, w1, w2, rfl, hR, hk, ht, hu, hr, hp, ha, hq, hb, hs⟩ := hI
  obtain ⟨aT, iM, tU, aS, cH, lO, kA, fA, hA, lA, pA, tA, vA, oA, eA, xA, nA, gA, wA, uA, rfl, mR', mT', mO', mK'⟩ := hM
  refine am_nrq rfl rfl ?_
  refine st_aloadn O dL_law_494 rfl (q := 495) rfl ?_
  refine st_aloadn O dL_law_495 rfl (q := 496) rfl ?_
  refine st_iloadn O dL_law_496 rfl (q := 497) rfl ?_
  refine st_iconst O dL_law_497 am_iconst_1 (q := 498) rfl ?_
  refine st_iadd O dL_law_498 (by first | exact nI_add _ _ | exact rfl) (q := 499) rfl ?_
  refine st_rd O dL_law_499 (by decide) rfl (by omega) (by omega) (q := 500) rfl ?_
  refine st_call O dL_law_500 cs_L_law_500 (q := 503) rfl (am_siq rfl rfl rfl (Nat.le_of_ble_eq_true rfl) rfl ?_)
  refine ⟨ik, σ, _, ⟨_, _, _, _, _, _, _, _, _, _, _, _, _, _, _, _, _, _, rfl, hR, ha, hq⟩, rfl, fun d hd => ?_⟩
  obtain ⟨z_n0, z_n1, z_n2, z_n3, z_n4, z_n5, z_a0, z_a1, z_a2, z_a3, z_a4, z_a5, z_q0, z_q1, z_q2, z_q3, z_q4, z_q5, rfl, gR, ga, gq⟩ := hd
  refine am_nrp rfl rfl rfl rfl ?_
  refine st_aloadn O dL_law_503 rfl (q := 504) rfl ?_
  refine st_aloadn O dL_law_504 rfl (q := 505) rfl ?_
  refine st_iloadn O dL_law_505 rfl (q := 506) rfl ?_
  refine st_iconst O dL_law_506 am_iconst_1 (q := 507) rfl ?_
  refine st_iadd O dL_law_507 (by first | exact nI_add _ _ | exact rfl) (q := 508) rfl ?_
  refine st_rd O dL_law_508 (by decide) rfl (by omega) (by omega) (q := 509) rfl ?_
  refine st_call O dL_law_509 cs_L_law_509 (q := 512) rfl (am_siq rfl rfl rfl (Nat.le_of_ble_eq_true rfl) rfl ?_)
  refine ⟨σ, _, ⟨_, _, _, _, _, _, _, _, _, _, _, _, _, _, _, _, _, _, _, _, rfl, mR', mT', mO', mK'⟩, rfl, fun e he => ?_⟩
  have he' := he
  obtain ⟨y1, y2, y3, y4, y5, y6, y7, y8, y9, y10, y11, y12, y13, y14, y15, y16, y17, y18, y19, y20, rfl, -⟩ := he
  refine am_nrp rfl rfl rfl rfl ?_
  refine st_icmp_eq O dL_law_512 (t := 993) rfl (q := 515) rfl (fun c512 => ?_) (fun c512 => ?_)
  · have z := nx (f_mv false (xs (i + 1)) σ).2 [.inl [ik, nI (f_mv false (xs (i + 1)) σ).2.2.2.2.1.length], z_n0, z_n1, z_n2, z_n3, z_n4, z_n5, k0, k1, k2, k3, k4, k5, t0, t1, .inr u0, .inr (f_mv false (xs (i + 1)) σ).2.2.2.2.2, r0, r1, r2, r3, r4, r5, p0, p1, p2, p3, p4, p5, .inl [], z_a0, z_a1, z_a2, z_a3, z_a4, z_a5, z_q0, z_q1, z_q2, z_q3, z_q4, z_q5, .inl [sd], b0, b1, b2, b3, b4, b5, s0, s1, s2, s3, s4, s5, .inr w1, .inr w2] _ ⟨_, _, _, _, _, _, _, _, _, _, _, _, _, _, _, _, _, _, _, _, _, _, _, _, _, _, _, _, _, _, _, _, _, _, _, _, _, _, _, _, _, _, _, _, _, _, _, _, _, _, _, _, _, _, _, rfl, gR, (by rw [(fr_mv false (xs (i + 1)) σ).1]; exact hk), (by rw [(fr_mv false (xs (i + 1)) σ).2.1]; exact ht), (by rw [(fr_mv false (xs (i + 1)) σ).2.2]; exact hu), hr, hp, ga, gq, hb, hs⟩ he'
    exact z
  exact absurd rfl c512
theorem lo_first {X : am_X} {L i : Nat} {xs : Nat → Int32} {K : List Int32 → am_D → Prop} (O : ok_L_law X L xs K) {σ : Sg} {D E : am_D} (hI : IX σ D) (hM : IM σ E) (hi : i + 4 ≤ L) (hL : L ≤ 2048) (nx : ∀ σ' D' E', IX σ' D' → IM σ' E' → am_aw X 4 sh_Law 993 [some (.inr 999), some (.inr 0), some (.inr 57), some (.inl (nI i))] [] (D' ++ E')) : am_aw X 4 sh_Law 517 [some (.inr 999), some (.inr 0), some (.inr 57), some (.inl (nI i))] [] (D ++ E) := by
  obtain ⟨ik, n0, n1, n2, n3, n4, n5, k0, k1, k2, k3, k4, k5, t0, t1, u0, r0, r1, r2, r3, r4, r5, p0, p1, p2, p3, p4, p5, a0, a1, a2, a3, a4, a5, q0, q1, q2, q3, q4, q5, sd, b0, b1, b2, b3, b4, b5, s0, s1, s2, s3, s4, s5, w1, w2, rfl, hR, hk, ht, hu, hr, hp, ha, hq, hb, hs⟩ := hI
  obtain ⟨aT, iM, tU, aS, cH, lO, kA, fA, hA, lA, pA, tA, vA, oA, eA, xA, nA, gA, wA, uA, rfl, mR', mT', mO', mK'⟩ := hM
  refine am_nrq rfl rfl ?_
  refine st_aloadn O dL_law_517 rfl (q := 518) rfl ?_
  refine st_aloadn O dL_law_518 rfl (q := 519) rfl ?_
  refine st_iloadn O dL_law_519 rfl (q := 520) rfl ?_
  refine st_iconst O dL_law_520 am_iconst_1 (q := 521) rfl ?_
  refine st_iadd O dL_law_521 (by first | exact nI_add _ _ | exact rfl) (q := 522) rfl ?_
  refine st_rd O dL_law_522 (by decide) rfl (by omega) (by omega) (q := 523) rfl ?_
  refine st_call O dL_law_523 cs_L_law_523 (q := 526) rfl (am_siq rfl rfl rfl (Nat.le_of_ble_eq_true rfl) rfl ?_)
  refine ⟨ik, σ, _, ⟨_, _, _, _, _, _, _, _, _, _, _, _, _, _, _, _, _, _, rfl, hR, ha, hq⟩, rfl, fun d hd => ?_⟩
  obtain ⟨z_n0, z_n1, z_n2, z_n3, z_n4, z_n5, z_a0, z_a1, z_a2, z_a3, z_a4, z_a5, z_q0, z_q1, z_q2, z_q3, z_q4, z_q5, rfl, gR, ga, gq⟩ := hd
  refine am_nrp rfl rfl rfl rfl ?_
  refine st_aloadn O dL_law_526 rfl (q := 527) rfl ?_
  refine st_aloadn O dL_law_527 rfl (q := 528) rfl ?_
  refine st_iloadn O dL_law_528 rfl (q := 529) rfl ?_
  refine st_iconst O dL_law_529 am_iconst_1 (q := 530) rfl ?_
  refine st_iadd O dL_law_530 (by first | exact nI_add _ _ | exact rfl) (q := 531) rfl ?_
  refine st_rd O dL_law_531 (by decide) rfl (by omega) (by omega) (q := 532) rfl ?_
  refine st_call O dL_law_532 cs_L_law_532 (q := 535) rfl (am_siq rfl rfl rfl (Nat.le_of_ble_eq_true rfl) rfl ?_)
  refine ⟨σ, _, ⟨_, _, _, _, _, _, _, _, _, _, _, _, _, _, _, _, _, _, _, _, rfl, mR', mT', mO', mK'⟩, rfl, fun e he => ?_⟩
  have he' := he
  obtain ⟨y1, y2, y3, y4, y5, y6, y7, y8, y9, y10, y11, y12, y13, y14, y15, y16, y17, y18, y19, y20, rfl, -⟩ := he
  refine am_nrp rfl rfl rfl rfl ?_
  refine st_icmp_eq O dL_law_535 (t := 993) rfl (q := 538) rfl (fun c535 => ?_) (fun c535 => ?_)
  · have z := nx (f_mv true (xs (i + 1)) σ).2 [.inl [ik, nI (f_mv true (xs (i + 1)) σ).2.2.2.2.1.length], z_n0, z_n1, z_n2, z_n3, z_n4, z_n5, k0, k1, k2, k3, k4, k5, t0, t1, .inr u0, .inr (f_mv true (xs (i + 1)) σ).2.2.2.2.2, r0, r1, r2, r3, r4, r5, p0, p1, p2, p3, p4, p5, .inl [], z_a0, z_a1, z_a2, z_a3, z_a4, z_a5, z_q0, z_q1, z_q2, z_q3, z_q4, z_q5, .inl [sd], b0, b1, b2, b3, b4, b5, s0, s1, s2, s3, s4, s5, .inr w1, .inr w2] _ ⟨_, _, _, _, _, _, _, _, _, _, _, _, _, _, _, _, _, _, _, _, _, _, _, _, _, _, _, _, _, _, _, _, _, _, _, _, _, _, _, _, _, _, _, _, _, _, _, _, _, _, _, _, _, _, _, rfl, gR, (by rw [(fr_mv true (xs (i + 1)) σ).1]; exact hk), (by rw [(fr_mv true (xs (i + 1)) σ).2.1]; exact ht), (by rw [(fr_mv true (xs (i + 1)) σ).2.2]; exact hu), hr, hp, ga, gq, hb, hs⟩ he'
    exact z
  exact absurd rfl c535
theorem lo_lets {X : am_X} {L i : Nat} {xs : Nat → Int32} {K : List Int32 → am_D → Prop} (O : ok_L_law X L xs K) {σ : Sg} {D E : am_D} (hI : IX σ D) (hM : IM σ E) (hi : i + 4 ≤ L) (hL : L ≤ 2048) (nx : ∀ σ' D' E', IX σ' D' → IM σ' E' → am_aw X 4 sh_Law 993 [some (.inr 999), some (.inr 0), some (.inr 57), some (.inl (nI i))] [] (D' ++ E')) : am_aw X 4 sh_Law 540 [some (.inr 999), some (.inr 0), some (.inr 57), some (.inl (nI i))] [] (D ++ E) := by
  obtain ⟨ik, n0, n1, n2, n3, n4, n5, k0, k1, k2, k3, k4, k5, t0, t1, u0, r0, r1, r2, r3, r4, r5, p0, p1, p2, p3, p4, p5, a0, a1, a2, a3, a4, a5, q0, q1, q2, q3, q4, q5, sd, b0, b1, b2, b3, b4, b5, s0, s1, s2, s3, s4, s5, w1, w2, rfl, hR, hk, ht, hu, hr, hp, ha, hq, hb, hs⟩ := hI
  obtain ⟨aT, iM, tU, aS, cH, lO, kA, fA, hA, lA, pA, tA, vA, oA, eA, xA, nA, gA, wA, uA, rfl, mR', mT', mO', mK'⟩ := hM
  refine am_nrq rfl rfl ?_
  refine st_aloadn O dL_law_540 rfl (q := 541) rfl ?_
  refine st_call O dL_law_541 cs_L_law_541 (q := 544) rfl (am_siq rfl rfl rfl (Nat.le_of_ble_eq_true rfl) rfl ?_)
  refine ⟨ik, σ, ⟨_, _, _, _, _, _, _, _, _, _, _, _, _, _, _, _, _, _, rfl, hR, ha, hq⟩, rfl, fun d hd => ?_⟩
  obtain ⟨z_n0, z_n1, z_n2, z_n3, z_n4, z_n5, z_a0, z_a1, z_a2, z_a3, z_a4, z_a5, z_q0, z_q1, z_q2, z_q3, z_q4, z_q5, rfl, gR, ga, gq⟩ := hd
  refine am_nrp rfl rfl rfl rfl ?_
  refine st_aloadn O dL_law_544 rfl (q := 545) rfl ?_
  refine st_call O dL_law_545 cs_L_law_545 (q := 548) rfl (am_siq rfl rfl rfl (Nat.le_of_ble_eq_true rfl) rfl ?_)
  refine ⟨σ, ⟨_, _, _, _, _, _, _, _, _, _, _, _, _, _, _, _, _, _, _, _, rfl, mR', mT', mO', mK'⟩, rfl, fun e he => ?_⟩
  have he' := he
  obtain ⟨y1, y2, y3, y4, y5, y6, y7, y8, y9, y10, y11, y12, y13, y14, y15, y16, y17, y18, y19, y20, rfl, -⟩ := he
  refine am_nrp rfl rfl rfl rfl ?_
  refine st_icmp_eq O dL_law_548 (t := 993) rfl (q := 551) rfl (fun c548 => ?_) (fun c548 => ?_)
  · have z := nx (f_lets σ).2 [.inl [ik, nI (f_lets σ).2.2.2.2.1.length], z_n0, z_n1, z_n2, z_n3, z_n4, z_n5, k0, k1, k2, k3, k4, k5, t0, t1, .inr u0, .inr (f_lets σ).2.2.2.2.2, r0, r1, r2, r3, r4, r5, p0, p1, p2, p3, p4, p5, .inl [], z_a0, z_a1, z_a2, z_a3, z_a4, z_a5, z_q0, z_q1, z_q2, z_q3, z_q4, z_q5, .inl [sd], b0, b1, b2, b3, b4, b5, s0, s1, s2, s3, s4, s5, .inr w1, .inr w2] _ ⟨_, _, _, _, _, _, _, _, _, _, _, _, _, _, _, _, _, _, _, _, _, _, _, _, _, _, _, _, _, _, _, _, _, _, _, _, _, _, _, _, _, _, _, _, _, _, _, _, _, _, _, _, _, _, _, rfl, gR, (by rw [(fr_lets σ).1]; exact hk), (by rw [(fr_lets σ).2.1]; exact ht), (by rw [(fr_lets σ).2.2]; exact hu), hr, hp, ga, gq, hb, hs⟩ he'
    exact z
  exact absurd rfl c548
theorem lo_spoil {X : am_X} {L i : Nat} {xs : Nat → Int32} {K : List Int32 → am_D → Prop} (O : ok_L_law X L xs K) {σ : Sg} {D E : am_D} (hI : IX σ D) (hM : IM σ E) (hi : i + 4 ≤ L) (hL : L ≤ 2048) (nx : ∀ σ' D' E', IX σ' D' → IM σ' E' → am_aw X 4 sh_Law 993 [some (.inr 999), some (.inr 0), some (.inr 57), some (.inl (nI i))] [] (D' ++ E')) : am_aw X 4 sh_Law 553 [some (.inr 999), some (.inr 0), some (.inr 57), some (.inl (nI i))] [] (D ++ E) := by
  obtain ⟨ik, n0, n1, n2, n3, n4, n5, k0, k1, k2, k3, k4, k5, t0, t1, u0, r0, r1, r2, r3, r4, r5, p0, p1, p2, p3, p4, p5, a0, a1, a2, a3, a4, a5, q0, q1, q2, q3, q4, q5, sd, b0, b1, b2, b3, b4, b5, s0, s1, s2, s3, s4, s5, w1, w2, rfl, hR, hk, ht, hu, hr, hp, ha, hq, hb, hs⟩ := hI
  obtain ⟨aT, iM, tU, aS, cH, lO, kA, fA, hA, lA, pA, tA, vA, oA, eA, xA, nA, gA, wA, uA, rfl, mR', mT', mO', mK'⟩ := hM
  refine am_nrq rfl rfl ?_
  refine st_aloadn O dL_law_553 rfl (q := 554) rfl ?_
  refine st_aloadn O dL_law_554 rfl (q := 555) rfl ?_
  refine st_iloadn O dL_law_555 rfl (q := 556) rfl ?_
  refine st_iconst O dL_law_556 am_iconst_1 (q := 557) rfl ?_
  refine st_iadd O dL_law_557 (by first | exact nI_add _ _ | exact rfl) (q := 558) rfl ?_
  refine st_rd O dL_law_558 (by decide) rfl (by omega) (by omega) (q := 559) rfl ?_
  refine st_call O dL_law_559 cs_L_law_559 (q := 562) rfl (am_siq rfl rfl rfl (Nat.le_of_ble_eq_true rfl) rfl ?_)
  refine ⟨ik, σ, _, ⟨_, _, _, _, _, _, _, _, _, _, _, _, _, _, _, _, _, _, rfl, hR, ha, hq⟩, rfl, fun d hd => ?_⟩
  obtain ⟨z_n0, z_n1, z_n2, z_n3, z_n4, z_n5, z_a0, z_a1, z_a2, z_a3, z_a4, z_a5, z_q0, z_q1, z_q2, z_q3, z_q4, z_q5, rfl, gR, ga, gq⟩ := hd
  refine am_nrp rfl rfl rfl rfl ?_
  refine st_aloadn O dL_law_562 rfl (q := 563) rfl ?_
  refine st_aloadn O dL_law_563 rfl (q := 564) rfl ?_
  refine st_iloadn O dL_law_564 rfl (q := 565) rfl ?_
  refine st_iconst O dL_law_565 am_iconst_1 (q := 566) rfl ?_
  refine st_iadd O dL_law_566 (by first | exact nI_add _ _ | exact rfl) (q := 567) rfl ?_
  refine st_rd O dL_law_567 (by decide) rfl (by omega) (by omega) (q := 568) rfl ?_
  refine st_call O dL_law_568 cs_L_law_568 (q := 571) rfl (am_siq rfl rfl rfl (Nat.le_of_ble_eq_true rfl) rfl ?_)
  refine ⟨σ, _, ⟨_, _, _, _, _, _, _, _, _, _, _, _, _, _, _, _, _, _, _, _, rfl, mR', mT', mO', mK'⟩, rfl, fun e he => ?_⟩
  have he' := he
  obtain ⟨y1, y2, y3, y4, y5, y6, y7, y8, y9, y10, y11, y12, y13, y14, y15, y16, y17, y18, y19, y20, rfl, -⟩ := he
  refine am_nrp rfl rfl rfl rfl ?_
  refine st_icmp_eq O dL_law_571 (t := 993) rfl (q := 574) rfl (fun c571 => ?_) (fun c571 => ?_)
  · have z := nx (f_few false (xs (i + 1)) σ).2 [.inl [ik, nI (f_few false (xs (i + 1)) σ).2.2.2.2.1.length], z_n0, z_n1, z_n2, z_n3, z_n4, z_n5, k0, k1, k2, k3, k4, k5, t0, t1, .inr u0, .inr (f_few false (xs (i + 1)) σ).2.2.2.2.2, r0, r1, r2, r3, r4, r5, p0, p1, p2, p3, p4, p5, .inl [], z_a0, z_a1, z_a2, z_a3, z_a4, z_a5, z_q0, z_q1, z_q2, z_q3, z_q4, z_q5, .inl [sd], b0, b1, b2, b3, b4, b5, s0, s1, s2, s3, s4, s5, .inr w1, .inr w2] _ ⟨_, _, _, _, _, _, _, _, _, _, _, _, _, _, _, _, _, _, _, _, _, _, _, _, _, _, _, _, _, _, _, _, _, _, _, _, _, _, _, _, _, _, _, _, _, _, _, _, _, _, _, _, _, _, _, rfl, gR, (by rw [(fr_few false (xs (i + 1)) σ).1]; exact hk), (by rw [(fr_few false (xs (i + 1)) σ).2.1]; exact ht), (by rw [(fr_few false (xs (i + 1)) σ).2.2]; exact hu), hr, hp, ga, gq, hb, hs⟩ he'
    exact z
  exact absurd rfl c571
theorem lo_mend {X : am_X} {L i : Nat} {xs : Nat → Int32} {K : List Int32 → am_D → Prop} (O : ok_L_law X L xs K) {σ : Sg} {D E : am_D} (hI : IX σ D) (hM : IM σ E) (hi : i + 4 ≤ L) (hL : L ≤ 2048) (nx : ∀ σ' D' E', IX σ' D' → IM σ' E' → am_aw X 4 sh_Law 993 [some (.inr 999), some (.inr 0), some (.inr 57), some (.inl (nI i))] [] (D' ++ E')) : am_aw X 4 sh_Law 576 [some (.inr 999), some (.inr 0), some (.inr 57), some (.inl (nI i))] [] (D ++ E) := by
  obtain ⟨ik, n0, n1, n2, n3, n4, n5, k0, k1, k2, k3, k4, k5, t0, t1, u0, r0, r1, r2, r3, r4, r5, p0, p1, p2, p3, p4, p5, a0, a1, a2, a3, a4, a5, q0, q1, q2, q3, q4, q5, sd, b0, b1, b2, b3, b4, b5, s0, s1, s2, s3, s4, s5, w1, w2, rfl, hR, hk, ht, hu, hr, hp, ha, hq, hb, hs⟩ := hI
  obtain ⟨aT, iM, tU, aS, cH, lO, kA, fA, hA, lA, pA, tA, vA, oA, eA, xA, nA, gA, wA, uA, rfl, mR', mT', mO', mK'⟩ := hM
  refine am_nrq rfl rfl ?_
  refine st_aloadn O dL_law_576 rfl (q := 577) rfl ?_
  refine st_aloadn O dL_law_577 rfl (q := 578) rfl ?_
  refine st_iloadn O dL_law_578 rfl (q := 579) rfl ?_
  refine st_iconst O dL_law_579 am_iconst_1 (q := 580) rfl ?_
  refine st_iadd O dL_law_580 (by first | exact nI_add _ _ | exact rfl) (q := 581) rfl ?_
  refine st_rd O dL_law_581 (by decide) rfl (by omega) (by omega) (q := 582) rfl ?_
  refine st_call O dL_law_582 cs_L_law_582 (q := 585) rfl (am_siq rfl rfl rfl (Nat.le_of_ble_eq_true rfl) rfl ?_)
  refine ⟨ik, σ, _, ⟨_, _, _, _, _, _, _, _, _, _, _, _, _, _, _, _, _, _, rfl, hR, ha, hq⟩, rfl, fun d hd => ?_⟩
  obtain ⟨z_n0, z_n1, z_n2, z_n3, z_n4, z_n5, z_a0, z_a1, z_a2, z_a3, z_a4, z_a5, z_q0, z_q1, z_q2, z_q3, z_q4, z_q5, rfl, gR, ga, gq⟩ := hd
  refine am_nrp rfl rfl rfl rfl ?_
  refine st_aloadn O dL_law_585 rfl (q := 586) rfl ?_
  refine st_aloadn O dL_law_586 rfl (q := 587) rfl ?_
  refine st_iloadn O dL_law_587 rfl (q := 588) rfl ?_
  refine st_iconst O dL_law_588 am_iconst_1 (q := 589) rfl ?_
  refine st_iadd O dL_law_589 (by first | exact nI_add _ _ | exact rfl) (q := 590) rfl ?_
  refine st_rd O dL_law_590 (by decide) rfl (by omega) (by omega) (q := 591) rfl ?_
  refine st_call O dL_law_591 cs_L_law_591 (q := 594) rfl (am_siq rfl rfl rfl (Nat.le_of_ble_eq_true rfl) rfl ?_)
  refine ⟨σ, _, ⟨_, _, _, _, _, _, _, _, _, _, _, _, _, _, _, _, _, _, _, _, rfl, mR', mT', mO', mK'⟩, rfl, fun e he => ?_⟩
  have he' := he
  obtain ⟨y1, y2, y3, y4, y5, y6, y7, y8, y9, y10, y11, y12, y13, y14, y15, y16, y17, y18, y19, y20, rfl, -⟩ := he
  refine am_nrp rfl rfl rfl rfl ?_
  refine st_icmp_eq O dL_law_594 (t := 993) rfl (q := 597) rfl (fun c594 => ?_) (fun c594 => ?_)
  · have z := nx (f_few true (xs (i + 1)) σ).2 [.inl [ik, nI (f_few true (xs (i + 1)) σ).2.2.2.2.1.length], z_n0, z_n1, z_n2, z_n3, z_n4, z_n5, k0, k1, k2, k3, k4, k5, t0, t1, .inr u0, .inr (f_few true (xs (i + 1)) σ).2.2.2.2.2, r0, r1, r2, r3, r4, r5, p0, p1, p2, p3, p4, p5, .inl [], z_a0, z_a1, z_a2, z_a3, z_a4, z_a5, z_q0, z_q1, z_q2, z_q3, z_q4, z_q5, .inl [sd], b0, b1, b2, b3, b4, b5, s0, s1, s2, s3, s4, s5, .inr w1, .inr w2] _ ⟨_, _, _, _, _, _, _, _, _, _, _, _, _, _, _, _, _, _, _, _, _, _, _, _, _, _, _, _, _, _, _, _, _, _, _, _, _, _, _, _, _, _, _, _, _, _, _, _, _, _, _, _, _, _, _, rfl, gR, (by rw [(fr_few true (xs (i + 1)) σ).1]; exact hk), (by rw [(fr_few true (xs (i + 1)) σ).2.1]; exact ht), (by rw [(fr_few true (xs (i + 1)) σ).2.2]; exact hu), hr, hp, ga, gq, hb, hs⟩ he'
    exact z
  exact absurd rfl c594
theorem lo_loses {X : am_X} {L i : Nat} {xs : Nat → Int32} {K : List Int32 → am_D → Prop} (O : ok_L_law X L xs K) {σ : Sg} {D E : am_D} (hI : IX σ D) (hM : IM σ E) (hi : i + 4 ≤ L) (hL : L ≤ 2048) (nx : ∀ σ' D' E', IX σ' D' → IM σ' E' → am_aw X 4 sh_Law 993 [some (.inr 999), some (.inr 0), some (.inr 57), some (.inl (nI i))] [] (D' ++ E')) : am_aw X 4 sh_Law 599 [some (.inr 999), some (.inr 0), some (.inr 57), some (.inl (nI i))] [] (D ++ E) := by
  obtain ⟨ik, n0, n1, n2, n3, n4, n5, k0, k1, k2, k3, k4, k5, t0, t1, u0, r0, r1, r2, r3, r4, r5, p0, p1, p2, p3, p4, p5, a0, a1, a2, a3, a4, a5, q0, q1, q2, q3, q4, q5, sd, b0, b1, b2, b3, b4, b5, s0, s1, s2, s3, s4, s5, w1, w2, rfl, hR, hk, ht, hu, hr, hp, ha, hq, hb, hs⟩ := hI
  obtain ⟨aT, iM, tU, aS, cH, lO, kA, fA, hA, lA, pA, tA, vA, oA, eA, xA, nA, gA, wA, uA, rfl, mR', mT', mO', mK'⟩ := hM
  refine am_nrq rfl rfl ?_
  refine st_aloadn O dL_law_599 rfl (q := 600) rfl ?_
  refine st_aloadn O dL_law_600 rfl (q := 601) rfl ?_
  refine st_iloadn O dL_law_601 rfl (q := 602) rfl ?_
  refine st_iconst O dL_law_602 am_iconst_1 (q := 603) rfl ?_
  refine st_iadd O dL_law_603 (by first | exact nI_add _ _ | exact rfl) (q := 604) rfl ?_
  refine st_rd O dL_law_604 (by decide) rfl (by omega) (by omega) (q := 605) rfl ?_
  refine st_aloadn O dL_law_605 rfl (q := 606) rfl ?_
  refine st_iloadn O dL_law_606 rfl (q := 607) rfl ?_
  refine st_iconst O dL_law_607 am_iconst_2 (q := 608) rfl ?_
  refine st_iadd O dL_law_608 (by first | exact nI_add _ _ | exact rfl) (q := 609) rfl ?_
  refine st_rd O dL_law_609 (by decide) rfl (by omega) (by omega) (q := 610) rfl ?_
  refine st_call O dL_law_610 cs_L_law_610 (q := 613) rfl (am_siq rfl rfl rfl (Nat.le_of_ble_eq_true rfl) rfl ?_)
  refine ⟨ik, σ, _, _, ⟨_, _, _, _, _, _, _, _, _, _, _, _, _, _, _, _, _, _, _, _, _, rfl, hR, hb, hs⟩, rfl, fun d hd => ?_⟩
  obtain ⟨z_n0, z_n1, z_n2, z_n3, z_n4, z_n5, z_sd, z_b0, z_b1, z_b2, z_b3, z_b4, z_b5, z_s0, z_s1, z_s2, z_s3, z_s4, z_s5, z_w1, z_w2, rfl, gR, gb, gs⟩ := hd
  refine am_nrp rfl rfl rfl rfl ?_
  refine st_aloadn O dL_law_613 rfl (q := 614) rfl ?_
  refine st_aloadn O dL_law_614 rfl (q := 615) rfl ?_
  refine st_iloadn O dL_law_615 rfl (q := 616) rfl ?_
  refine st_iconst O dL_law_616 am_iconst_1 (q := 617) rfl ?_
  refine st_iadd O dL_law_617 (by first | exact nI_add _ _ | exact rfl) (q := 618) rfl ?_
  refine st_rd O dL_law_618 (by decide) rfl (by omega) (by omega) (q := 619) rfl ?_
  refine st_aloadn O dL_law_619 rfl (q := 620) rfl ?_
  refine st_iloadn O dL_law_620 rfl (q := 621) rfl ?_
  refine st_iconst O dL_law_621 am_iconst_2 (q := 622) rfl ?_
  refine st_iadd O dL_law_622 (by first | exact nI_add _ _ | exact rfl) (q := 623) rfl ?_
  refine st_rd O dL_law_623 (by decide) rfl (by omega) (by omega) (q := 624) rfl ?_
  refine st_call O dL_law_624 cs_L_law_624 (q := 627) rfl (am_siq rfl rfl rfl (Nat.le_of_ble_eq_true rfl) rfl ?_)
  refine ⟨σ, _, _, ⟨_, _, _, _, _, _, _, _, _, _, _, _, _, _, _, _, _, _, _, _, rfl, mR', mT', mO', mK'⟩, rfl, fun e he => ?_⟩
  have he' := he
  obtain ⟨y1, y2, y3, y4, y5, y6, y7, y8, y9, y10, y11, y12, y13, y14, y15, y16, y17, y18, y19, y20, rfl, -⟩ := he
  refine am_nrp rfl rfl rfl rfl ?_
  refine st_icmp_eq O dL_law_627 (t := 993) rfl (q := 630) rfl (fun c627 => ?_) (fun c627 => ?_)
  · have z := nx (f_loses (xs (i + 1)) (xs (i + 2)) σ).2 [.inl [ik, nI (f_loses (xs (i + 1)) (xs (i + 2)) σ).2.2.2.2.1.length], z_n0, z_n1, z_n2, z_n3, z_n4, z_n5, k0, k1, k2, k3, k4, k5, t0, t1, .inr u0, .inr (f_loses (xs (i + 1)) (xs (i + 2)) σ).2.2.2.2.2, r0, r1, r2, r3, r4, r5, p0, p1, p2, p3, p4, p5, .inl [], a0, a1, a2, a3, a4, a5, q0, q1, q2, q3, q4, q5, .inl [z_sd], z_b0, z_b1, z_b2, z_b3, z_b4, z_b5, z_s0, z_s1, z_s2, z_s3, z_s4, z_s5, .inr z_w1, .inr z_w2] _ ⟨_, _, _, _, _, _, _, _, _, _, _, _, _, _, _, _, _, _, _, _, _, _, _, _, _, _, _, _, _, _, _, _, _, _, _, _, _, _, _, _, _, _, _, _, _, _, _, _, _, _, _, _, _, _, _, rfl, gR, (by rw [(fr_loses (xs (i + 1)) (xs (i + 2)) σ).1]; exact hk), (by rw [(fr_loses (xs (i + 1)) (xs (i + 2)) σ).2.1]; exact ht), (by rw [(fr_loses (xs (i + 1)) (xs (i + 2)) σ).2.2]; exact hu), hr, hp, ha, hq, gb, gs⟩ he'
    exact z
  exact absurd rfl c627
theorem lo_byWhom {X : am_X} {L i : Nat} {xs : Nat → Int32} {K : List Int32 → am_D → Prop} (O : ok_L_law X L xs K) {σ : Sg} {D E : am_D} (hI : IX σ D) (hM : IM σ E) (hi : i + 4 ≤ L) (hL : L ≤ 2048) (nx : ∀ σ' D' E', IX σ' D' → IM σ' E' → am_aw X 4 sh_Law 993 [some (.inr 999), some (.inr 0), some (.inr 57), some (.inl (nI i))] [] (D' ++ E')) : am_aw X 4 sh_Law 632 [some (.inr 999), some (.inr 0), some (.inr 57), some (.inl (nI i))] [] (D ++ E) := by
  obtain ⟨ik, n0, n1, n2, n3, n4, n5, k0, k1, k2, k3, k4, k5, t0, t1, u0, r0, r1, r2, r3, r4, r5, p0, p1, p2, p3, p4, p5, a0, a1, a2, a3, a4, a5, q0, q1, q2, q3, q4, q5, sd, b0, b1, b2, b3, b4, b5, s0, s1, s2, s3, s4, s5, w1, w2, rfl, hR, hk, ht, hu, hr, hp, ha, hq, hb, hs⟩ := hI
  obtain ⟨aT, iM, tU, aS, cH, lO, kA, fA, hA, lA, pA, tA, vA, oA, eA, xA, nA, gA, wA, uA, rfl, mR', mT', mO', mK'⟩ := hM
  refine am_nrq rfl rfl ?_
  refine st_aloadn O dL_law_632 rfl (q := 633) rfl ?_
  refine st_aloadn O dL_law_633 rfl (q := 634) rfl ?_
  refine st_iloadn O dL_law_634 rfl (q := 635) rfl ?_
  refine st_iconst O dL_law_635 am_iconst_1 (q := 636) rfl ?_
  refine st_iadd O dL_law_636 (by first | exact nI_add _ _ | exact rfl) (q := 637) rfl ?_
  refine st_rd O dL_law_637 (by decide) rfl (by omega) (by omega) (q := 638) rfl ?_
  refine st_call O dL_law_638 cs_L_law_638 (q := 641) rfl (am_siq rfl rfl rfl (Nat.le_of_ble_eq_true rfl) rfl ?_)
  refine ⟨ik, σ, _, ⟨_, _, _, _, _, _, _, _, _, _, _, _, _, _, _, _, _, _, _, _, _, rfl, hR, hb, hs⟩, rfl, fun d hd => ?_⟩
  obtain ⟨z_n0, z_n1, z_n2, z_n3, z_n4, z_n5, z_sd, z_b0, z_b1, z_b2, z_b3, z_b4, z_b5, z_s0, z_s1, z_s2, z_s3, z_s4, z_s5, z_w1, z_w2, rfl, gR, gb, gs⟩ := hd
  refine am_nrp rfl rfl rfl rfl ?_
  refine st_aloadn O dL_law_641 rfl (q := 642) rfl ?_
  refine st_aloadn O dL_law_642 rfl (q := 643) rfl ?_
  refine st_iloadn O dL_law_643 rfl (q := 644) rfl ?_
  refine st_iconst O dL_law_644 am_iconst_1 (q := 645) rfl ?_
  refine st_iadd O dL_law_645 (by first | exact nI_add _ _ | exact rfl) (q := 646) rfl ?_
  refine st_rd O dL_law_646 (by decide) rfl (by omega) (by omega) (q := 647) rfl ?_
  refine st_call O dL_law_647 cs_L_law_647 (q := 650) rfl (am_siq rfl rfl rfl (Nat.le_of_ble_eq_true rfl) rfl ?_)
  refine ⟨σ, _, ⟨_, _, _, _, _, _, _, _, _, _, _, _, _, _, _, _, _, _, _, _, rfl, mR', mT', mO', mK'⟩, rfl, fun e he => ?_⟩
  have he' := he
  obtain ⟨y1, y2, y3, y4, y5, y6, y7, y8, y9, y10, y11, y12, y13, y14, y15, y16, y17, y18, y19, y20, rfl, -⟩ := he
  refine am_nrp rfl rfl rfl rfl ?_
  refine st_icmp_eq O dL_law_650 (t := 993) rfl (q := 653) rfl (fun c650 => ?_) (fun c650 => ?_)
  · have z := nx (f_byWhom (xs (i + 1)) σ).2 [.inl [ik, nI (f_byWhom (xs (i + 1)) σ).2.2.2.2.1.length], z_n0, z_n1, z_n2, z_n3, z_n4, z_n5, k0, k1, k2, k3, k4, k5, t0, t1, .inr u0, .inr (f_byWhom (xs (i + 1)) σ).2.2.2.2.2, r0, r1, r2, r3, r4, r5, p0, p1, p2, p3, p4, p5, .inl [], a0, a1, a2, a3, a4, a5, q0, q1, q2, q3, q4, q5, .inl [z_sd], z_b0, z_b1, z_b2, z_b3, z_b4, z_b5, z_s0, z_s1, z_s2, z_s3, z_s4, z_s5, .inr z_w1, .inr z_w2] _ ⟨_, _, _, _, _, _, _, _, _, _, _, _, _, _, _, _, _, _, _, _, _, _, _, _, _, _, _, _, _, _, _, _, _, _, _, _, _, _, _, _, _, _, _, _, _, _, _, _, _, _, _, _, _, _, _, rfl, gR, (by rw [(fr_byWhom (xs (i + 1)) σ).1]; exact hk), (by rw [(fr_byWhom (xs (i + 1)) σ).2.1]; exact ht), (by rw [(fr_byWhom (xs (i + 1)) σ).2.2]; exact hu), hr, hp, ha, hq, gb, gs⟩ he'
    exact z
  exact absurd rfl c650
theorem lo_two {X : am_X} {L i : Nat} {xs : Nat → Int32} {K : List Int32 → am_D → Prop} (O : ok_L_law X L xs K) {σ : Sg} {D E : am_D} (hI : IX σ D) (hM : IM σ E) (hi : i + 4 ≤ L) (hL : L ≤ 2048) (nx : ∀ σ' D' E', IX σ' D' → IM σ' E' → am_aw X 4 sh_Law 993 [some (.inr 999), some (.inr 0), some (.inr 57), some (.inl (nI i))] [] (D' ++ E')) : am_aw X 4 sh_Law 655 [some (.inr 999), some (.inr 0), some (.inr 57), some (.inl (nI i))] [] (D ++ E) := by
  obtain ⟨ik, n0, n1, n2, n3, n4, n5, k0, k1, k2, k3, k4, k5, t0, t1, u0, r0, r1, r2, r3, r4, r5, p0, p1, p2, p3, p4, p5, a0, a1, a2, a3, a4, a5, q0, q1, q2, q3, q4, q5, sd, b0, b1, b2, b3, b4, b5, s0, s1, s2, s3, s4, s5, w1, w2, rfl, hR, hk, ht, hu, hr, hp, ha, hq, hb, hs⟩ := hI
  obtain ⟨aT, iM, tU, aS, cH, lO, kA, fA, hA, lA, pA, tA, vA, oA, eA, xA, nA, gA, wA, uA, rfl, mR', mT', mO', mK'⟩ := hM
  refine am_nrq rfl rfl ?_
  refine st_aloadn O dL_law_655 rfl (q := 656) rfl ?_
  refine st_aloadn O dL_law_656 rfl (q := 657) rfl ?_
  refine st_iloadn O dL_law_657 rfl (q := 658) rfl ?_
  refine st_iconst O dL_law_658 am_iconst_1 (q := 659) rfl ?_
  refine st_iadd O dL_law_659 (by first | exact nI_add _ _ | exact rfl) (q := 660) rfl ?_
  refine st_rd O dL_law_660 (by decide) rfl (by omega) (by omega) (q := 661) rfl ?_
  refine st_aloadn O dL_law_661 rfl (q := 662) rfl ?_
  refine st_iloadn O dL_law_662 rfl (q := 663) rfl ?_
  refine st_iconst O dL_law_663 am_iconst_2 (q := 664) rfl ?_
  refine st_iadd O dL_law_664 (by first | exact nI_add _ _ | exact rfl) (q := 665) rfl ?_
  refine st_rd O dL_law_665 (by decide) rfl (by omega) (by omega) (q := 666) rfl ?_
  refine st_call O dL_law_666 cs_L_law_666 (q := 669) rfl (am_siq rfl rfl rfl (Nat.le_of_ble_eq_true rfl) rfl ?_)
  refine ⟨ik, σ, _, _, ⟨_, _, _, _, _, _, _, _, _, _, _, _, _, _, _, _, _, _, _, _, _, rfl, hR, hb, hs⟩, rfl, fun d hd => ?_⟩
  obtain ⟨z_n0, z_n1, z_n2, z_n3, z_n4, z_n5, z_sd, z_b0, z_b1, z_b2, z_b3, z_b4, z_b5, z_s0, z_s1, z_s2, z_s3, z_s4, z_s5, z_w1, z_w2, rfl, gR, gb, gs⟩ := hd
  refine am_nrp rfl rfl rfl rfl ?_
  refine st_aloadn O dL_law_669 rfl (q := 670) rfl ?_
  refine st_aloadn O dL_law_670 rfl (q := 671) rfl ?_
  refine st_iloadn O dL_law_671 rfl (q := 672) rfl ?_
  refine st_iconst O dL_law_672 am_iconst_1 (q := 673) rfl ?_
  refine st_iadd O dL_law_673 (by first | exact nI_add _ _ | exact rfl) (q := 674) rfl ?_
  refine st_rd O dL_law_674 (by decide) rfl (by omega) (by omega) (q := 675) rfl ?_
  refine st_aloadn O dL_law_675 rfl (q := 676) rfl ?_
  refine st_iloadn O dL_law_676 rfl (q := 677) rfl ?_
  refine st_iconst O dL_law_677 am_iconst_2 (q := 678) rfl ?_
  refine st_iadd O dL_law_678 (by first | exact nI_add _ _ | exact rfl) (q := 679) rfl ?_
  refine st_rd O dL_law_679 (by decide) rfl (by omega) (by omega) (q := 680) rfl ?_
  refine st_call O dL_law_680 cs_L_law_680 (q := 683) rfl (am_siq rfl rfl rfl (Nat.le_of_ble_eq_true rfl) rfl ?_)
  refine ⟨σ, _, _, ⟨_, _, _, _, _, _, _, _, _, _, _, _, _, _, _, _, _, _, _, _, rfl, mR', mT', mO', mK'⟩, rfl, fun e he => ?_⟩
  have he' := he
  obtain ⟨y1, y2, y3, y4, y5, y6, y7, y8, y9, y10, y11, y12, y13, y14, y15, y16, y17, y18, y19, y20, rfl, -⟩ := he
  refine am_nrp rfl rfl rfl rfl ?_
  refine st_icmp_eq O dL_law_683 (t := 993) rfl (q := 686) rfl (fun c683 => ?_) (fun c683 => ?_)
  · have z := nx (f_two (xs (i + 1)) (xs (i + 2)) σ).2 [.inl [ik, nI (f_two (xs (i + 1)) (xs (i + 2)) σ).2.2.2.2.1.length], z_n0, z_n1, z_n2, z_n3, z_n4, z_n5, k0, k1, k2, k3, k4, k5, t0, t1, .inr u0, .inr (f_two (xs (i + 1)) (xs (i + 2)) σ).2.2.2.2.2, r0, r1, r2, r3, r4, r5, p0, p1, p2, p3, p4, p5, .inl [], a0, a1, a2, a3, a4, a5, q0, q1, q2, q3, q4, q5, .inl [z_sd], z_b0, z_b1, z_b2, z_b3, z_b4, z_b5, z_s0, z_s1, z_s2, z_s3, z_s4, z_s5, .inr z_w1, .inr z_w2] _ ⟨_, _, _, _, _, _, _, _, _, _, _, _, _, _, _, _, _, _, _, _, _, _, _, _, _, _, _, _, _, _, _, _, _, _, _, _, _, _, _, _, _, _, _, _, _, _, _, _, _, _, _, _, _, _, _, rfl, gR, (by rw [(fr_two (xs (i + 1)) (xs (i + 2)) σ).1]; exact hk), (by rw [(fr_two (xs (i + 1)) (xs (i + 2)) σ).2.1]; exact ht), (by rw [(fr_two (xs (i + 1)) (xs (i + 2)) σ).2.2]; exact hu), hr, hp, ha, hq, gb, gs⟩ he'
    exact z
  exact absurd rfl c683
theorem lo_fair {X : am_X} {L i : Nat} {xs : Nat → Int32} {K : List Int32 → am_D → Prop} (O : ok_L_law X L xs K) {σ : Sg} {D E : am_D} (hI : IX σ D) (hM : IM σ E) (hi : i + 4 ≤ L) (hL : L ≤ 2048) (nx : ∀ σ' D' E', IX σ' D' → IM σ' E' → am_aw X 4 sh_Law 993 [some (.inr 999), some (.inr 0), some (.inr 57), some (.inl (nI i))] [] (D' ++ E')) : am_aw X 4 sh_Law 688 [some (.inr 999), some (.inr 0), some (.inr 57), some (.inl (nI i))] [] (D ++ E) := by
  obtain ⟨ik, n0, n1, n2, n3, n4, n5, k0, k1, k2, k3, k4, k5, t0, t1, u0, r0, r1, r2, r3, r4, r5, p0, p1, p2, p3, p4, p5, a0, a1, a2, a3, a4, a5, q0, q1, q2, q3, q4, q5, sd, b0, b1, b2, b3, b4, b5, s0, s1, s2, s3, s4, s5, w1, w2, rfl, hR, hk, ht, hu, hr, hp, ha, hq, hb, hs⟩ := hI
  obtain ⟨aT, iM, tU, aS, cH, lO, kA, fA, hA, lA, pA, tA, vA, oA, eA, xA, nA, gA, wA, uA, rfl, mR', mT', mO', mK'⟩ := hM
  refine am_nrq rfl rfl ?_
  refine st_aloadn O dL_law_688 rfl (q := 689) rfl ?_
  refine st_call O dL_law_689 cs_L_law_689 (q := 692) rfl (am_siq rfl rfl rfl (Nat.le_of_ble_eq_true rfl) rfl ?_)
  refine ⟨ik, σ, ⟨_, _, _, _, _, _, _, _, _, _, _, _, rfl, hR, hp⟩, rfl, fun d hd => ?_⟩
  obtain ⟨z_n0, z_n1, z_n2, z_n3, z_n4, z_n5, z_p0, z_p1, z_p2, z_p3, z_p4, z_p5, rfl, gR, gp⟩ := hd
  refine am_nrp rfl rfl rfl rfl ?_
  refine st_aloadn O dL_law_692 rfl (q := 693) rfl ?_
  refine st_call O dL_law_693 cs_L_law_693 (q := 696) rfl (am_siq rfl rfl rfl (Nat.le_of_ble_eq_true rfl) rfl ?_)
  refine ⟨σ, ⟨_, _, _, _, _, _, _, _, _, _, _, _, _, _, _, _, _, _, _, _, rfl, mR', mT', mO', mK'⟩, rfl, fun e he => ?_⟩
  have he' := he
  obtain ⟨y1, y2, y3, y4, y5, y6, y7, y8, y9, y10, y11, y12, y13, y14, y15, y16, y17, y18, y19, y20, rfl, -⟩ := he
  refine am_nrp rfl rfl rfl rfl ?_
  refine st_icmp_eq O dL_law_696 (t := 993) rfl (q := 699) rfl (fun c696 => ?_) (fun c696 => ?_)
  · have z := nx (f_fair σ).2 [.inl [ik, nI (f_fair σ).2.2.2.2.1.length], z_n0, z_n1, z_n2, z_n3, z_n4, z_n5, k0, k1, k2, k3, k4, k5, t0, t1, .inr u0, .inr (f_fair σ).2.2.2.2.2, r0, r1, r2, r3, r4, r5, z_p0, z_p1, z_p2, z_p3, z_p4, z_p5, .inl [], a0, a1, a2, a3, a4, a5, q0, q1, q2, q3, q4, q5, .inl [sd], b0, b1, b2, b3, b4, b5, s0, s1, s2, s3, s4, s5, .inr w1, .inr w2] _ ⟨_, _, _, _, _, _, _, _, _, _, _, _, _, _, _, _, _, _, _, _, _, _, _, _, _, _, _, _, _, _, _, _, _, _, _, _, _, _, _, _, _, _, _, _, _, _, _, _, _, _, _, _, _, _, _, rfl, gR, (by rw [(fr_fair σ).1]; exact hk), (by rw [(fr_fair σ).2.1]; exact ht), (by rw [(fr_fair σ).2.2]; exact hu), hr, gp, ha, hq, hb, hs⟩ he'
    exact z
  exact absurd rfl c696
theorem lo_lucky {X : am_X} {L i : Nat} {xs : Nat → Int32} {K : List Int32 → am_D → Prop} (O : ok_L_law X L xs K) {σ : Sg} {D E : am_D} (hI : IX σ D) (hM : IM σ E) (hi : i + 4 ≤ L) (hL : L ≤ 2048) (nx : ∀ σ' D' E', IX σ' D' → IM σ' E' → am_aw X 4 sh_Law 993 [some (.inr 999), some (.inr 0), some (.inr 57), some (.inl (nI i))] [] (D' ++ E')) : am_aw X 4 sh_Law 701 [some (.inr 999), some (.inr 0), some (.inr 57), some (.inl (nI i))] [] (D ++ E) := by
  obtain ⟨ik, n0, n1, n2, n3, n4, n5, k0, k1, k2, k3, k4, k5, t0, t1, u0, r0, r1, r2, r3, r4, r5, p0, p1, p2, p3, p4, p5, a0, a1, a2, a3, a4, a5, q0, q1, q2, q3, q4, q5, sd, b0, b1, b2, b3, b4, b5, s0, s1, s2, s3, s4, s5, w1, w2, rfl, hR, hk, ht, hu, hr, hp, ha, hq, hb, hs⟩ := hI
  obtain ⟨aT, iM, tU, aS, cH, lO, kA, fA, hA, lA, pA, tA, vA, oA, eA, xA, nA, gA, wA, uA, rfl, mR', mT', mO', mK'⟩ := hM
  refine am_nrq rfl rfl ?_
  refine st_aloadn O dL_law_701 rfl (q := 702) rfl ?_
  refine st_call O dL_law_702 cs_L_law_702 (q := 705) rfl (am_siq rfl rfl rfl (Nat.le_of_ble_eq_true rfl) rfl ?_)
  refine ⟨ik, σ, ⟨_, _, _, _, _, _, _, _, _, _, _, _, rfl, hR, hp⟩, rfl, fun d hd => ?_⟩
  obtain ⟨z_n0, z_n1, z_n2, z_n3, z_n4, z_n5, z_p0, z_p1, z_p2, z_p3, z_p4, z_p5, rfl, gR, gp⟩ := hd
  refine am_nrp rfl rfl rfl rfl ?_
  refine st_aloadn O dL_law_705 rfl (q := 706) rfl ?_
  refine st_call O dL_law_706 cs_L_law_706 (q := 709) rfl (am_siq rfl rfl rfl (Nat.le_of_ble_eq_true rfl) rfl ?_)
  refine ⟨σ, ⟨_, _, _, _, _, _, _, _, _, _, _, _, _, _, _, _, _, _, _, _, rfl, mR', mT', mO', mK'⟩, rfl, fun e he => ?_⟩
  have he' := he
  obtain ⟨y1, y2, y3, y4, y5, y6, y7, y8, y9, y10, y11, y12, y13, y14, y15, y16, y17, y18, y19, y20, rfl, -⟩ := he
  refine am_nrp rfl rfl rfl rfl ?_
  refine st_icmp_eq O dL_law_709 (t := 993) rfl (q := 712) rfl (fun c709 => ?_) (fun c709 => ?_)
  · have z := nx (f_lucky σ).2 [.inl [ik, nI (f_lucky σ).2.2.2.2.1.length], z_n0, z_n1, z_n2, z_n3, z_n4, z_n5, k0, k1, k2, k3, k4, k5, t0, t1, .inr u0, .inr (f_lucky σ).2.2.2.2.2, r0, r1, r2, r3, r4, r5, z_p0, z_p1, z_p2, z_p3, z_p4, z_p5, .inl [], a0, a1, a2, a3, a4, a5, q0, q1, q2, q3, q4, q5, .inl [sd], b0, b1, b2, b3, b4, b5, s0, s1, s2, s3, s4, s5, .inr w1, .inr w2] _ ⟨_, _, _, _, _, _, _, _, _, _, _, _, _, _, _, _, _, _, _, _, _, _, _, _, _, _, _, _, _, _, _, _, _, _, _, _, _, _, _, _, _, _, _, _, _, _, _, _, _, _, _, _, _, _, _, rfl, gR, (by rw [(fr_lucky σ).1]; exact hk), (by rw [(fr_lucky σ).2.1]; exact ht), (by rw [(fr_lucky σ).2.2]; exact hu), hr, gp, ha, hq, hb, hs⟩ he'
    exact z
  exact absurd rfl c709
theorem lo_away {X : am_X} {L i : Nat} {xs : Nat → Int32} {K : List Int32 → am_D → Prop} (O : ok_L_law X L xs K) {σ : Sg} {D E : am_D} (hI : IX σ D) (hM : IM σ E) (hi : i + 4 ≤ L) (hL : L ≤ 2048) (nx : ∀ σ' D' E', IX σ' D' → IM σ' E' → am_aw X 4 sh_Law 993 [some (.inr 999), some (.inr 0), some (.inr 57), some (.inl (nI i))] [] (D' ++ E')) : am_aw X 4 sh_Law 714 [some (.inr 999), some (.inr 0), some (.inr 57), some (.inl (nI i))] [] (D ++ E) := by
  obtain ⟨ik, n0, n1, n2, n3, n4, n5, k0, k1, k2, k3, k4, k5, t0, t1, u0, r0, r1, r2, r3, r4, r5, p0, p1, p2, p3, p4, p5, a0, a1, a2, a3, a4, a5, q0, q1, q2, q3, q4, q5, sd, b0, b1, b2, b3, b4, b5, s0, s1, s2, s3, s4, s5, w1, w2, rfl, hR, hk, ht, hu, hr, hp, ha, hq, hb, hs⟩ := hI
  obtain ⟨aT, iM, tU, aS, cH, lO, kA, fA, hA, lA, pA, tA, vA, oA, eA, xA, nA, gA, wA, uA, rfl, mR', mT', mO', mK'⟩ := hM
  refine am_nrq rfl rfl ?_
  refine st_aloadn O dL_law_714 rfl (q := 715) rfl ?_
  refine st_call O dL_law_715 cs_L_law_715 (q := 718) rfl (am_siq rfl rfl rfl (Nat.le_of_ble_eq_true rfl) rfl ?_)
  refine ⟨ik, σ, ⟨_, _, _, _, _, _, _, _, _, _, _, _, _, _, _, _, _, _, rfl, hR, ha, hq⟩, rfl, fun d hd => ?_⟩
  obtain ⟨z_n0, z_n1, z_n2, z_n3, z_n4, z_n5, z_a0, z_a1, z_a2, z_a3, z_a4, z_a5, z_q0, z_q1, z_q2, z_q3, z_q4, z_q5, rfl, gR, ga, gq⟩ := hd
  refine am_nrp rfl rfl rfl rfl ?_
  refine st_aloadn O dL_law_718 rfl (q := 719) rfl ?_
  refine st_call O dL_law_719 cs_L_law_719 (q := 722) rfl (am_siq rfl rfl rfl (Nat.le_of_ble_eq_true rfl) rfl ?_)
  refine ⟨σ, ⟨_, _, _, _, _, _, _, _, _, _, _, _, _, _, _, _, _, _, _, _, rfl, mR', mT', mO', mK'⟩, rfl, fun e he => ?_⟩
  have he' := he
  obtain ⟨y1, y2, y3, y4, y5, y6, y7, y8, y9, y10, y11, y12, y13, y14, y15, y16, y17, y18, y19, y20, rfl, -⟩ := he
  refine am_nrp rfl rfl rfl rfl ?_
  refine st_icmp_eq O dL_law_722 (t := 993) rfl (q := 725) rfl (fun c722 => ?_) (fun c722 => ?_)
  · have z := nx (f_away σ).2 [.inl [ik, nI (f_away σ).2.2.2.2.1.length], z_n0, z_n1, z_n2, z_n3, z_n4, z_n5, k0, k1, k2, k3, k4, k5, t0, t1, .inr u0, .inr (f_away σ).2.2.2.2.2, r0, r1, r2, r3, r4, r5, p0, p1, p2, p3, p4, p5, .inl [], z_a0, z_a1, z_a2, z_a3, z_a4, z_a5, z_q0, z_q1, z_q2, z_q3, z_q4, z_q5, .inl [sd], b0, b1, b2, b3, b4, b5, s0, s1, s2, s3, s4, s5, .inr w1, .inr w2] _ ⟨_, _, _, _, _, _, _, _, _, _, _, _, _, _, _, _, _, _, _, _, _, _, _, _, _, _, _, _, _, _, _, _, _, _, _, _, _, _, _, _, _, _, _, _, _, _, _, _, _, _, _, _, _, _, _, rfl, gR, (by rw [(fr_away σ).1]; exact hk), (by rw [(fr_away σ).2.1]; exact ht), (by rw [(fr_away σ).2.2]; exact hu), hr, hp, ga, gq, hb, hs⟩ he'
    exact z
  exact absurd rfl c722
theorem lo_wider {X : am_X} {L i : Nat} {xs : Nat → Int32} {K : List Int32 → am_D → Prop} (O : ok_L_law X L xs K) {σ : Sg} {D E : am_D} (hI : IX σ D) (hM : IM σ E) (hi : i + 4 ≤ L) (hL : L ≤ 2048) (nx : ∀ σ' D' E', IX σ' D' → IM σ' E' → am_aw X 4 sh_Law 993 [some (.inr 999), some (.inr 0), some (.inr 57), some (.inl (nI i))] [] (D' ++ E')) : am_aw X 4 sh_Law 727 [some (.inr 999), some (.inr 0), some (.inr 57), some (.inl (nI i))] [] (D ++ E) := by
  obtain ⟨ik, n0, n1, n2, n3, n4, n5, k0, k1, k2, k3, k4, k5, t0, t1, u0, r0, r1, r2, r3, r4, r5, p0, p1, p2, p3, p4, p5, a0, a1, a2, a3, a4, a5, q0, q1, q2, q3, q4, q5, sd, b0, b1, b2, b3, b4, b5, s0, s1, s2, s3, s4, s5, w1, w2, rfl, hR, hk, ht, hu, hr, hp, ha, hq, hb, hs⟩ := hI
  obtain ⟨aT, iM, tU, aS, cH, lO, kA, fA, hA, lA, pA, tA, vA, oA, eA, xA, nA, gA, wA, uA, rfl, mR', mT', mO', mK'⟩ := hM
  refine am_nrq rfl rfl ?_
  refine st_aloadn O dL_law_727 rfl (q := 728) rfl ?_
  refine st_call O dL_law_728 cs_L_law_728 (q := 731) rfl (am_siq rfl rfl rfl (Nat.le_of_ble_eq_true rfl) rfl ?_)
  refine ⟨ik, σ, ⟨_, _, _, _, _, _, rfl, hR⟩, rfl, fun d hd => ?_⟩
  obtain ⟨z_n0, z_n1, z_n2, z_n3, z_n4, z_n5, rfl, gR⟩ := hd
  refine am_nrp rfl rfl rfl rfl ?_
  refine st_aloadn O dL_law_731 rfl (q := 732) rfl ?_
  refine st_call O dL_law_732 cs_L_law_732 (q := 735) rfl (am_siq rfl rfl rfl (Nat.le_of_ble_eq_true rfl) rfl ?_)
  refine ⟨σ, ⟨_, _, _, _, _, _, _, _, _, _, _, _, _, _, _, _, _, _, _, _, rfl, mR', mT', mO', mK'⟩, rfl, fun e he => ?_⟩
  have he' := he
  obtain ⟨y1, y2, y3, y4, y5, y6, y7, y8, y9, y10, y11, y12, y13, y14, y15, y16, y17, y18, y19, y20, rfl, -⟩ := he
  refine am_nrp rfl rfl rfl rfl ?_
  refine st_icmp_eq O dL_law_735 (t := 993) rfl (q := 738) rfl (fun c735 => ?_) (fun c735 => ?_)
  · have z := nx (f_wider σ).2 [.inl [ik, nI (f_wider σ).2.2.2.2.1.length], z_n0, z_n1, z_n2, z_n3, z_n4, z_n5, k0, k1, k2, k3, k4, k5, t0, t1, .inr u0, .inr (f_wider σ).2.2.2.2.2, r0, r1, r2, r3, r4, r5, p0, p1, p2, p3, p4, p5, .inl [], a0, a1, a2, a3, a4, a5, q0, q1, q2, q3, q4, q5, .inl [sd], b0, b1, b2, b3, b4, b5, s0, s1, s2, s3, s4, s5, .inr w1, .inr w2] _ ⟨_, _, _, _, _, _, _, _, _, _, _, _, _, _, _, _, _, _, _, _, _, _, _, _, _, _, _, _, _, _, _, _, _, _, _, _, _, _, _, _, _, _, _, _, _, _, _, _, _, _, _, _, _, _, _, rfl, gR, (by rw [(fr_wider σ).1]; exact hk), (by rw [(fr_wider σ).2.1]; exact ht), (by rw [(fr_wider σ).2.2]; exact hu), hr, hp, ha, hq, hb, hs⟩ he'
    exact z
  exact absurd rfl c735
