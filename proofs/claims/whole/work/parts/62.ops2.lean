/-! the law's calls, one by one (3) -/
theorem lo_gap {X : am_X} {L i : Nat} {xs : Nat → Int32} {K : List Int32 → am_D → Prop} (O : ok_L_law X L xs K) {σ : Sg} {D E : am_D} (hI : IX σ D) (hM : IM σ E) (hi : i + 4 ≤ L) (hL : L ≤ 2048) (nx : ∀ σ' D' E', IX σ' D' → IM σ' E' → am_aw X 4 sh_Law 993 [some (.inr 999), some (.inr 0), some (.inr 57), some (.inl (nI i))] [] (D' ++ E')) : am_aw X 4 sh_Law 740 [some (.inr 999), some (.inr 0), some (.inr 57), some (.inl (nI i))] [] (D ++ E) := by
  obtain ⟨ik, n0, n1, n2, n3, n4, n5, k0, k1, k2, k3, k4, k5, t0, t1, u0, r0, r1, r2, r3, r4, r5, p0, p1, p2, p3, p4, p5, a0, a1, a2, a3, a4, a5, q0, q1, q2, q3, q4, q5, sd, b0, b1, b2, b3, b4, b5, s0, s1, s2, s3, s4, s5, w1, w2, rfl, hR, hk, ht, hu, hr, hp, ha, hq, hb, hs⟩ := hI
  obtain ⟨aT, iM, tU, aS, cH, lO, kA, fA, hA, lA, pA, tA, vA, oA, eA, xA, nA, gA, wA, uA, rfl, mR', mT', mO', mK'⟩ := hM
  refine am_nrq rfl rfl ?_
  refine st_aloadn O dL_law_740 rfl (q := 741) rfl ?_
  refine st_aloadn O dL_law_741 rfl (q := 742) rfl ?_
  refine st_iloadn O dL_law_742 rfl (q := 743) rfl ?_
  refine st_iconst O dL_law_743 am_iconst_1 (q := 744) rfl ?_
  refine st_iadd O dL_law_744 (by first | exact nI_add _ _ | exact rfl) (q := 745) rfl ?_
  refine st_rd O dL_law_745 (by decide) rfl (by omega) (by omega) (q := 746) rfl ?_
  refine st_call O dL_law_746 cs_L_law_746 (q := 749) rfl (am_siq rfl rfl rfl (Nat.le_of_ble_eq_true rfl) rfl ?_)
  refine ⟨ik, σ, _, ⟨_, _, _, _, _, _, _, _, _, _, _, _, rfl, hR, hp⟩, rfl, fun d hd => ?_⟩
  obtain ⟨z_n0, z_n1, z_n2, z_n3, z_n4, z_n5, z_p0, z_p1, z_p2, z_p3, z_p4, z_p5, rfl, gR, gp⟩ := hd
  refine am_nrp rfl rfl rfl rfl ?_
  refine st_aloadn O dL_law_749 rfl (q := 750) rfl ?_
  refine st_aloadn O dL_law_750 rfl (q := 751) rfl ?_
  refine st_iloadn O dL_law_751 rfl (q := 752) rfl ?_
  refine st_iconst O dL_law_752 am_iconst_1 (q := 753) rfl ?_
  refine st_iadd O dL_law_753 (by first | exact nI_add _ _ | exact rfl) (q := 754) rfl ?_
  refine st_rd O dL_law_754 (by decide) rfl (by omega) (by omega) (q := 755) rfl ?_
  refine st_call O dL_law_755 cs_L_law_755 (q := 758) rfl (am_siq rfl rfl rfl (Nat.le_of_ble_eq_true rfl) rfl ?_)
  refine ⟨σ, _, ⟨_, _, _, _, _, _, _, _, _, _, _, _, _, _, _, _, _, _, _, _, rfl, mR', mT', mO', mK'⟩, rfl, fun e he => ?_⟩
  have he' := he
  obtain ⟨y1, y2, y3, y4, y5, y6, y7, y8, y9, y10, y11, y12, y13, y14, y15, y16, y17, y18, y19, y20, rfl, -⟩ := he
  refine am_nrp rfl rfl rfl rfl ?_
  refine st_icmp_eq O dL_law_758 (t := 993) rfl (q := 761) rfl (fun c758 => ?_) (fun c758 => ?_)
  · have z := nx (f_gap (xs (i + 1)) σ).2 [.inl [ik, nI (f_gap (xs (i + 1)) σ).2.2.2.2.1.length], z_n0, z_n1, z_n2, z_n3, z_n4, z_n5, k0, k1, k2, k3, k4, k5, t0, t1, .inr u0, .inr (f_gap (xs (i + 1)) σ).2.2.2.2.2, r0, r1, r2, r3, r4, r5, z_p0, z_p1, z_p2, z_p3, z_p4, z_p5, .inl [], a0, a1, a2, a3, a4, a5, q0, q1, q2, q3, q4, q5, .inl [sd], b0, b1, b2, b3, b4, b5, s0, s1, s2, s3, s4, s5, .inr w1, .inr w2] _ ⟨_, _, _, _, _, _, _, _, _, _, _, _, _, _, _, _, _, _, _, _, _, _, _, _, _, _, _, _, _, _, _, _, _, _, _, _, _, _, _, _, _, _, _, _, _, _, _, _, _, _, _, _, _, _, _, rfl, gR, (by rw [(fr_gap (xs (i + 1)) σ).1]; exact hk), (by rw [(fr_gap (xs (i + 1)) σ).2.1]; exact ht), (by rw [(fr_gap (xs (i + 1)) σ).2.2]; exact hu), hr, gp, ha, hq, hb, hs⟩ he'
    exact z
  exact absurd rfl c758
theorem lo_even {X : am_X} {L i : Nat} {xs : Nat → Int32} {K : List Int32 → am_D → Prop} (O : ok_L_law X L xs K) {σ : Sg} {D E : am_D} (hI : IX σ D) (hM : IM σ E) (hi : i + 4 ≤ L) (hL : L ≤ 2048) (nx : ∀ σ' D' E', IX σ' D' → IM σ' E' → am_aw X 4 sh_Law 993 [some (.inr 999), some (.inr 0), some (.inr 57), some (.inl (nI i))] [] (D' ++ E')) : am_aw X 4 sh_Law 763 [some (.inr 999), some (.inr 0), some (.inr 57), some (.inl (nI i))] [] (D ++ E) := by
  obtain ⟨ik, n0, n1, n2, n3, n4, n5, k0, k1, k2, k3, k4, k5, t0, t1, u0, r0, r1, r2, r3, r4, r5, p0, p1, p2, p3, p4, p5, a0, a1, a2, a3, a4, a5, q0, q1, q2, q3, q4, q5, sd, b0, b1, b2, b3, b4, b5, s0, s1, s2, s3, s4, s5, w1, w2, rfl, hR, hk, ht, hu, hr, hp, ha, hq, hb, hs⟩ := hI
  obtain ⟨aT, iM, tU, aS, cH, lO, kA, fA, hA, lA, pA, tA, vA, oA, eA, xA, nA, gA, wA, uA, rfl, mR', mT', mO', mK'⟩ := hM
  refine am_nrq rfl rfl ?_
  refine st_aloadn O dL_law_763 rfl (q := 764) rfl ?_
  refine st_aloadn O dL_law_764 rfl (q := 765) rfl ?_
  refine st_iloadn O dL_law_765 rfl (q := 766) rfl ?_
  refine st_iconst O dL_law_766 am_iconst_1 (q := 767) rfl ?_
  refine st_iadd O dL_law_767 (by first | exact nI_add _ _ | exact rfl) (q := 768) rfl ?_
  refine st_rd O dL_law_768 (by decide) rfl (by omega) (by omega) (q := 769) rfl ?_
  refine st_call O dL_law_769 cs_L_law_769 (q := 772) rfl (am_siq rfl rfl rfl (Nat.le_of_ble_eq_true rfl) rfl ?_)
  refine ⟨ik, σ, _, ⟨_, _, _, _, _, _, _, _, _, _, _, _, _, _, _, _, _, _, rfl, hR, ha, hq⟩, rfl, fun d hd => ?_⟩
  obtain ⟨z_n0, z_n1, z_n2, z_n3, z_n4, z_n5, z_a0, z_a1, z_a2, z_a3, z_a4, z_a5, z_q0, z_q1, z_q2, z_q3, z_q4, z_q5, rfl, gR, ga, gq⟩ := hd
  refine am_nrp rfl rfl rfl rfl ?_
  refine st_aloadn O dL_law_772 rfl (q := 773) rfl ?_
  refine st_aloadn O dL_law_773 rfl (q := 774) rfl ?_
  refine st_iloadn O dL_law_774 rfl (q := 775) rfl ?_
  refine st_iconst O dL_law_775 am_iconst_1 (q := 776) rfl ?_
  refine st_iadd O dL_law_776 (by first | exact nI_add _ _ | exact rfl) (q := 777) rfl ?_
  refine st_rd O dL_law_777 (by decide) rfl (by omega) (by omega) (q := 778) rfl ?_
  refine st_call O dL_law_778 cs_L_law_778 (q := 781) rfl (am_siq rfl rfl rfl (Nat.le_of_ble_eq_true rfl) rfl ?_)
  refine ⟨σ, _, ⟨_, _, _, _, _, _, _, _, _, _, _, _, _, _, _, _, _, _, _, _, rfl, mR', mT', mO', mK'⟩, rfl, fun e he => ?_⟩
  have he' := he
  obtain ⟨y1, y2, y3, y4, y5, y6, y7, y8, y9, y10, y11, y12, y13, y14, y15, y16, y17, y18, y19, y20, rfl, -⟩ := he
  refine am_nrp rfl rfl rfl rfl ?_
  refine st_icmp_eq O dL_law_781 (t := 993) rfl (q := 784) rfl (fun c781 => ?_) (fun c781 => ?_)
  · have z := nx (f_even (xs (i + 1)) σ).2 [.inl [ik, nI (f_even (xs (i + 1)) σ).2.2.2.2.1.length], z_n0, z_n1, z_n2, z_n3, z_n4, z_n5, k0, k1, k2, k3, k4, k5, t0, t1, .inr u0, .inr (f_even (xs (i + 1)) σ).2.2.2.2.2, r0, r1, r2, r3, r4, r5, p0, p1, p2, p3, p4, p5, .inl [], z_a0, z_a1, z_a2, z_a3, z_a4, z_a5, z_q0, z_q1, z_q2, z_q3, z_q4, z_q5, .inl [sd], b0, b1, b2, b3, b4, b5, s0, s1, s2, s3, s4, s5, .inr w1, .inr w2] _ ⟨_, _, _, _, _, _, _, _, _, _, _, _, _, _, _, _, _, _, _, _, _, _, _, _, _, _, _, _, _, _, _, _, _, _, _, _, _, _, _, _, _, _, _, _, _, _, _, _, _, _, _, _, _, _, _, rfl, gR, (by rw [(fr_even (xs (i + 1)) σ).1]; exact hk), (by rw [(fr_even (xs (i + 1)) σ).2.1]; exact ht), (by rw [(fr_even (xs (i + 1)) σ).2.2]; exact hu), hr, hp, ga, gq, hb, hs⟩ he'
    exact z
  exact absurd rfl c781
theorem lo_keep {X : am_X} {L i : Nat} {xs : Nat → Int32} {K : List Int32 → am_D → Prop} (O : ok_L_law X L xs K) {σ : Sg} {D E : am_D} (hI : IX σ D) (hM : IM σ E) (hi : i + 4 ≤ L) (hL : L ≤ 2048) (nx : ∀ σ' D' E', IX σ' D' → IM σ' E' → am_aw X 4 sh_Law 993 [some (.inr 999), some (.inr 0), some (.inr 57), some (.inl (nI i))] [] (D' ++ E')) : am_aw X 4 sh_Law 786 [some (.inr 999), some (.inr 0), some (.inr 57), some (.inl (nI i))] [] (D ++ E) := by
  obtain ⟨ik, n0, n1, n2, n3, n4, n5, k0, k1, k2, k3, k4, k5, t0, t1, u0, r0, r1, r2, r3, r4, r5, p0, p1, p2, p3, p4, p5, a0, a1, a2, a3, a4, a5, q0, q1, q2, q3, q4, q5, sd, b0, b1, b2, b3, b4, b5, s0, s1, s2, s3, s4, s5, w1, w2, rfl, hR, hk, ht, hu, hr, hp, ha, hq, hb, hs⟩ := hI
  obtain ⟨aT, iM, tU, aS, cH, lO, kA, fA, hA, lA, pA, tA, vA, oA, eA, xA, nA, gA, wA, uA, rfl, mR', mT', mO', mK'⟩ := hM
  refine am_nrq rfl rfl ?_
  refine st_aloadn O dL_law_786 rfl (q := 787) rfl ?_
  refine st_aloadn O dL_law_787 rfl (q := 788) rfl ?_
  refine st_iloadn O dL_law_788 rfl (q := 789) rfl ?_
  refine st_iconst O dL_law_789 am_iconst_1 (q := 790) rfl ?_
  refine st_iadd O dL_law_790 (by first | exact nI_add _ _ | exact rfl) (q := 791) rfl ?_
  refine st_rd O dL_law_791 (by decide) rfl (by omega) (by omega) (q := 792) rfl ?_
  refine st_aloadn O dL_law_792 rfl (q := 793) rfl ?_
  refine st_iloadn O dL_law_793 rfl (q := 794) rfl ?_
  refine st_iconst O dL_law_794 am_iconst_2 (q := 795) rfl ?_
  refine st_iadd O dL_law_795 (by first | exact nI_add _ _ | exact rfl) (q := 796) rfl ?_
  refine st_rd O dL_law_796 (by decide) rfl (by omega) (by omega) (q := 797) rfl ?_
  refine st_call O dL_law_797 cs_L_law_797 (q := 800) rfl (am_siq rfl rfl rfl (Nat.le_of_ble_eq_true rfl) rfl ?_)
  refine ⟨ik, σ, _, _, ⟨_, _, _, _, _, _, _, _, _, _, _, _, _, _, _, _, _, _, rfl, hR, ha, hq⟩, rfl, fun d hd => ?_⟩
  obtain ⟨z_n0, z_n1, z_n2, z_n3, z_n4, z_n5, z_a0, z_a1, z_a2, z_a3, z_a4, z_a5, z_q0, z_q1, z_q2, z_q3, z_q4, z_q5, rfl, gR, ga, gq⟩ := hd
  refine am_nrp rfl rfl rfl rfl ?_
  refine st_aloadn O dL_law_800 rfl (q := 801) rfl ?_
  refine st_aloadn O dL_law_801 rfl (q := 802) rfl ?_
  refine st_iloadn O dL_law_802 rfl (q := 803) rfl ?_
  refine st_iconst O dL_law_803 am_iconst_1 (q := 804) rfl ?_
  refine st_iadd O dL_law_804 (by first | exact nI_add _ _ | exact rfl) (q := 805) rfl ?_
  refine st_rd O dL_law_805 (by decide) rfl (by omega) (by omega) (q := 806) rfl ?_
  refine st_aloadn O dL_law_806 rfl (q := 807) rfl ?_
  refine st_iloadn O dL_law_807 rfl (q := 808) rfl ?_
  refine st_iconst O dL_law_808 am_iconst_2 (q := 809) rfl ?_
  refine st_iadd O dL_law_809 (by first | exact nI_add _ _ | exact rfl) (q := 810) rfl ?_
  refine st_rd O dL_law_810 (by decide) rfl (by omega) (by omega) (q := 811) rfl ?_
  refine st_call O dL_law_811 cs_L_law_811 (q := 814) rfl (am_siq rfl rfl rfl (Nat.le_of_ble_eq_true rfl) rfl ?_)
  refine ⟨σ, _, _, ⟨_, _, _, _, _, _, _, _, _, _, _, _, _, _, _, _, _, _, _, _, rfl, mR', mT', mO', mK'⟩, rfl, fun e he => ?_⟩
  have he' := he
  obtain ⟨y1, y2, y3, y4, y5, y6, y7, y8, y9, y10, y11, y12, y13, y14, y15, y16, y17, y18, y19, y20, rfl, -⟩ := he
  refine am_nrp rfl rfl rfl rfl ?_
  refine st_icmp_eq O dL_law_814 (t := 993) rfl (q := 817) rfl (fun c814 => ?_) (fun c814 => ?_)
  · have z := nx (f_keep (xs (i + 1)) (xs (i + 2)) σ).2 [.inl [ik, nI (f_keep (xs (i + 1)) (xs (i + 2)) σ).2.2.2.2.1.length], z_n0, z_n1, z_n2, z_n3, z_n4, z_n5, k0, k1, k2, k3, k4, k5, t0, t1, .inr u0, .inr (f_keep (xs (i + 1)) (xs (i + 2)) σ).2.2.2.2.2, r0, r1, r2, r3, r4, r5, p0, p1, p2, p3, p4, p5, .inl [], z_a0, z_a1, z_a2, z_a3, z_a4, z_a5, z_q0, z_q1, z_q2, z_q3, z_q4, z_q5, .inl [sd], b0, b1, b2, b3, b4, b5, s0, s1, s2, s3, s4, s5, .inr w1, .inr w2] _ ⟨_, _, _, _, _, _, _, _, _, _, _, _, _, _, _, _, _, _, _, _, _, _, _, _, _, _, _, _, _, _, _, _, _, _, _, _, _, _, _, _, _, _, _, _, _, _, _, _, _, _, _, _, _, _, _, rfl, gR, (by rw [(fr_keep (xs (i + 1)) (xs (i + 2)) σ).1]; exact hk), (by rw [(fr_keep (xs (i + 1)) (xs (i + 2)) σ).2.1]; exact ht), (by rw [(fr_keep (xs (i + 1)) (xs (i + 2)) σ).2.2]; exact hu), hr, hp, ga, gq, hb, hs⟩ he'
    exact z
  exact absurd rfl c814
theorem lo_who {X : am_X} {L i : Nat} {xs : Nat → Int32} {K : List Int32 → am_D → Prop} (O : ok_L_law X L xs K) {σ : Sg} {D E : am_D} (hI : IX σ D) (hM : IM σ E) (hi : i + 4 ≤ L) (hL : L ≤ 2048) (nx : ∀ σ' D' E', IX σ' D' → IM σ' E' → am_aw X 4 sh_Law 993 [some (.inr 999), some (.inr 0), some (.inr 57), some (.inl (nI i))] [] (D' ++ E')) : am_aw X 4 sh_Law 819 [some (.inr 999), some (.inr 0), some (.inr 57), some (.inl (nI i))] [] (D ++ E) := by
  obtain ⟨ik, n0, n1, n2, n3, n4, n5, k0, k1, k2, k3, k4, k5, t0, t1, u0, r0, r1, r2, r3, r4, r5, p0, p1, p2, p3, p4, p5, a0, a1, a2, a3, a4, a5, q0, q1, q2, q3, q4, q5, sd, b0, b1, b2, b3, b4, b5, s0, s1, s2, s3, s4, s5, w1, w2, rfl, hR, hk, ht, hu, hr, hp, ha, hq, hb, hs⟩ := hI
  obtain ⟨aT, iM, tU, aS, cH, lO, kA, fA, hA, lA, pA, tA, vA, oA, eA, xA, nA, gA, wA, uA, rfl, mR', mT', mO', mK'⟩ := hM
  refine am_nrq rfl rfl ?_
  refine st_aloadn O dL_law_819 rfl (q := 820) rfl ?_
  refine st_aloadn O dL_law_820 rfl (q := 821) rfl ?_
  refine st_iloadn O dL_law_821 rfl (q := 822) rfl ?_
  refine st_iconst O dL_law_822 am_iconst_1 (q := 823) rfl ?_
  refine st_iadd O dL_law_823 (by first | exact nI_add _ _ | exact rfl) (q := 824) rfl ?_
  refine st_rd O dL_law_824 (by decide) rfl (by omega) (by omega) (q := 825) rfl ?_
  refine st_aloadn O dL_law_825 rfl (q := 826) rfl ?_
  refine st_iloadn O dL_law_826 rfl (q := 827) rfl ?_
  refine st_iconst O dL_law_827 am_iconst_2 (q := 828) rfl ?_
  refine st_iadd O dL_law_828 (by first | exact nI_add _ _ | exact rfl) (q := 829) rfl ?_
  refine st_rd O dL_law_829 (by decide) rfl (by omega) (by omega) (q := 830) rfl ?_
  refine st_call O dL_law_830 cs_L_law_830 (q := 833) rfl (am_siq rfl rfl rfl (Nat.le_of_ble_eq_true rfl) rfl ?_)
  refine ⟨ik, σ, _, _, ⟨_, _, _, _, _, _, _, _, _, _, _, _, _, _, _, _, _, _, _, rfl, hR, hu, hr, hp⟩, rfl, fun d hd => ?_⟩
  obtain ⟨z_n0, z_n1, z_n2, z_n3, z_n4, z_n5, z_u0, z_r0, z_r1, z_r2, z_r3, z_r4, z_r5, z_p0, z_p1, z_p2, z_p3, z_p4, z_p5, rfl, gR, gu, gr, gp⟩ := hd
  refine am_nrp rfl rfl rfl rfl ?_
  refine st_aloadn O dL_law_833 rfl (q := 834) rfl ?_
  refine st_aloadn O dL_law_834 rfl (q := 835) rfl ?_
  refine st_iloadn O dL_law_835 rfl (q := 836) rfl ?_
  refine st_iconst O dL_law_836 am_iconst_1 (q := 837) rfl ?_
  refine st_iadd O dL_law_837 (by first | exact nI_add _ _ | exact rfl) (q := 838) rfl ?_
  refine st_rd O dL_law_838 (by decide) rfl (by omega) (by omega) (q := 839) rfl ?_
  refine st_aloadn O dL_law_839 rfl (q := 840) rfl ?_
  refine st_iloadn O dL_law_840 rfl (q := 841) rfl ?_
  refine st_iconst O dL_law_841 am_iconst_2 (q := 842) rfl ?_
  refine st_iadd O dL_law_842 (by first | exact nI_add _ _ | exact rfl) (q := 843) rfl ?_
  refine st_rd O dL_law_843 (by decide) rfl (by omega) (by omega) (q := 844) rfl ?_
  refine st_call O dL_law_844 cs_L_law_844 (q := 847) rfl (am_siq rfl rfl rfl (Nat.le_of_ble_eq_true rfl) rfl ?_)
  refine ⟨σ, _, _, ⟨_, _, _, _, _, _, _, _, _, _, _, _, _, _, _, _, _, _, _, _, rfl, mR', mT', mO', mK'⟩, rfl, fun e he => ?_⟩
  have he' := he
  obtain ⟨y1, y2, y3, y4, y5, y6, y7, y8, y9, y10, y11, y12, y13, y14, y15, y16, y17, y18, y19, y20, rfl, -⟩ := he
  refine am_nrp rfl rfl rfl rfl ?_
  refine st_icmp_eq O dL_law_847 (t := 993) rfl (q := 850) rfl (fun c847 => ?_) (fun c847 => ?_)
  · have z := nx (f_who (xs (i + 1)) (xs (i + 2)) σ).2 [.inl [ik, nI (f_who (xs (i + 1)) (xs (i + 2)) σ).2.2.2.2.1.length], z_n0, z_n1, z_n2, z_n3, z_n4, z_n5, k0, k1, k2, k3, k4, k5, t0, t1, .inr z_u0, .inr (f_who (xs (i + 1)) (xs (i + 2)) σ).2.2.2.2.2, z_r0, z_r1, z_r2, z_r3, z_r4, z_r5, z_p0, z_p1, z_p2, z_p3, z_p4, z_p5, .inl [], a0, a1, a2, a3, a4, a5, q0, q1, q2, q3, q4, q5, .inl [sd], b0, b1, b2, b3, b4, b5, s0, s1, s2, s3, s4, s5, .inr w1, .inr w2] _ ⟨_, _, _, _, _, _, _, _, _, _, _, _, _, _, _, _, _, _, _, _, _, _, _, _, _, _, _, _, _, _, _, _, _, _, _, _, _, _, _, _, _, _, _, _, _, _, _, _, _, _, _, _, _, _, _, rfl, gR, (by rw [(fr_who (xs (i + 1)) (xs (i + 2)) σ).1]; exact hk), (by rw [(fr_who (xs (i + 1)) (xs (i + 2)) σ).2.1]; exact ht), gu, gr, gp, ha, hq, hb, hs⟩ he'
    exact z
  exact absurd rfl c847
theorem lo_row {X : am_X} {L i : Nat} {xs : Nat → Int32} {K : List Int32 → am_D → Prop} (O : ok_L_law X L xs K) {σ : Sg} {D E : am_D} (hI : IX σ D) (hM : IM σ E) (hi : i + 4 ≤ L) (hL : L ≤ 2048) (nx : ∀ σ' D' E', IX σ' D' → IM σ' E' → am_aw X 4 sh_Law 993 [some (.inr 999), some (.inr 0), some (.inr 57), some (.inl (nI i))] [] (D' ++ E')) : am_aw X 4 sh_Law 852 [some (.inr 999), some (.inr 0), some (.inr 57), some (.inl (nI i))] [] (D ++ E) := by
  obtain ⟨ik, n0, n1, n2, n3, n4, n5, k0, k1, k2, k3, k4, k5, t0, t1, u0, r0, r1, r2, r3, r4, r5, p0, p1, p2, p3, p4, p5, a0, a1, a2, a3, a4, a5, q0, q1, q2, q3, q4, q5, sd, b0, b1, b2, b3, b4, b5, s0, s1, s2, s3, s4, s5, w1, w2, rfl, hR, hk, ht, hu, hr, hp, ha, hq, hb, hs⟩ := hI
  obtain ⟨aT, iM, tU, aS, cH, lO, kA, fA, hA, lA, pA, tA, vA, oA, eA, xA, nA, gA, wA, uA, rfl, mR', mT', mO', mK'⟩ := hM
  refine am_nrq rfl rfl ?_
  refine st_aloadn O dL_law_852 rfl (q := 853) rfl ?_
  refine st_aloadn O dL_law_853 rfl (q := 854) rfl ?_
  refine st_iloadn O dL_law_854 rfl (q := 855) rfl ?_
  refine st_iconst O dL_law_855 am_iconst_1 (q := 856) rfl ?_
  refine st_iadd O dL_law_856 (by first | exact nI_add _ _ | exact rfl) (q := 857) rfl ?_
  refine st_rd O dL_law_857 (by decide) rfl (by omega) (by omega) (q := 858) rfl ?_
  refine st_call O dL_law_858 cs_L_law_858 (q := 861) rfl (am_siq rfl rfl rfl (Nat.le_of_ble_eq_true rfl) rfl ?_)
  refine ⟨(σ.1, σ.2.1, σ.2.2.1, ik), σ, _, ⟨_, rfl, rfl, rfl, rfl, hu⟩, rfl, fun d hd => ?_⟩
  obtain ⟨z_u0, rfl, g1, g2, g3, gu⟩ := hd
  refine am_nrp rfl rfl rfl rfl ?_
  refine st_aloadn O dL_law_861 rfl (q := 862) rfl ?_
  refine st_aloadn O dL_law_862 rfl (q := 863) rfl ?_
  refine st_iloadn O dL_law_863 rfl (q := 864) rfl ?_
  refine st_iconst O dL_law_864 am_iconst_1 (q := 865) rfl ?_
  refine st_iadd O dL_law_865 (by first | exact nI_add _ _ | exact rfl) (q := 866) rfl ?_
  refine st_rd O dL_law_866 (by decide) rfl (by omega) (by omega) (q := 867) rfl ?_
  refine st_call O dL_law_867 cs_L_law_867 (q := 870) rfl (am_siq rfl rfl rfl (Nat.le_of_ble_eq_true rfl) rfl ?_)
  refine ⟨σ, _, ⟨_, _, _, _, _, _, _, _, _, _, _, _, _, _, _, _, _, _, _, _, rfl, mR', mT', mO', mK'⟩, rfl, fun e he => ?_⟩
  have he' := he
  obtain ⟨y1, y2, y3, y4, y5, y6, y7, y8, y9, y10, y11, y12, y13, y14, y15, y16, y17, y18, y19, y20, rfl, -⟩ := he
  refine am_nrp rfl rfl rfl rfl ?_
  refine st_icmp_eq O dL_law_870 (t := 993) rfl (q := 873) rfl (fun c870 => ?_) (fun c870 => ?_)
  · have z := nx (f_row (xs (i + 1)) σ).2 [.inl [ik, nI (f_row (xs (i + 1)) σ).2.2.2.2.1.length], n0, n1, n2, n3, n4, n5, k0, k1, k2, k3, k4, k5, t0, t1, .inr z_u0, .inr (f_row (xs (i + 1)) σ).2.2.2.2.2, r0, r1, r2, r3, r4, r5, p0, p1, p2, p3, p4, p5, .inl [], a0, a1, a2, a3, a4, a5, q0, q1, q2, q3, q4, q5, .inl [sd], b0, b1, b2, b3, b4, b5, s0, s1, s2, s3, s4, s5, .inr w1, .inr w2] _ ⟨_, _, _, _, _, _, _, _, _, _, _, _, _, _, _, _, _, _, _, _, _, _, _, _, _, _, _, _, _, _, _, _, _, _, _, _, _, _, _, _, _, _, _, _, _, _, _, _, _, _, _, _, _, _, _, rfl, (by rw [g1]; exact hR), (by rw [g2]; exact hk), (by rw [g3]; exact ht), gu, hr, hp, ha, hq, hb, hs⟩ he'
    exact z
  exact absurd rfl c870
theorem lo_judge {X : am_X} {L i : Nat} {xs : Nat → Int32} {K : List Int32 → am_D → Prop} (O : ok_L_law X L xs K) {σ : Sg} {D E : am_D} (hI : IX σ D) (hM : IM σ E) (hi : i + 4 ≤ L) (hL : L ≤ 2048) (nx : ∀ σ' D' E', IX σ' D' → IM σ' E' → am_aw X 4 sh_Law 993 [some (.inr 999), some (.inr 0), some (.inr 57), some (.inl (nI i))] [] (D' ++ E')) : am_aw X 4 sh_Law 875 [some (.inr 999), some (.inr 0), some (.inr 57), some (.inl (nI i))] [] (D ++ E) := by
  obtain ⟨ik, n0, n1, n2, n3, n4, n5, k0, k1, k2, k3, k4, k5, t0, t1, u0, r0, r1, r2, r3, r4, r5, p0, p1, p2, p3, p4, p5, a0, a1, a2, a3, a4, a5, q0, q1, q2, q3, q4, q5, sd, b0, b1, b2, b3, b4, b5, s0, s1, s2, s3, s4, s5, w1, w2, rfl, hR, hk, ht, hu, hr, hp, ha, hq, hb, hs⟩ := hI
  obtain ⟨aT, iM, tU, aS, cH, lO, kA, fA, hA, lA, pA, tA, vA, oA, eA, xA, nA, gA, wA, uA, rfl, mR', mT', mO', mK'⟩ := hM
  refine am_nrq rfl rfl ?_
  refine st_aloadn O dL_law_875 rfl (q := 876) rfl ?_
  refine st_call O dL_law_876 cs_L_law_876 (q := 879) rfl (am_siq rfl rfl rfl (Nat.le_of_ble_eq_true rfl) rfl ?_)
  refine ⟨(σ.2.2.2.2, ik), σ, ⟨_, _, _, _, _, _, _, _, _, _, _, _, _, rfl, rfl, hR, hu, hp⟩, rfl, fun d hd => ?_⟩
  obtain ⟨z_n0, z_n1, z_n2, z_n3, z_n4, z_n5, z_u0, z_p0, z_p1, z_p2, z_p3, z_p4, z_p5, rfl, grf, gR, gu, gp⟩ := hd
  refine am_nrp rfl rfl rfl rfl ?_
  refine st_aloadn O dL_law_879 rfl (q := 880) rfl ?_
  refine st_call O dL_law_880 cs_L_law_880 (q := 883) rfl (am_siq rfl rfl rfl (Nat.le_of_ble_eq_true rfl) rfl ?_)
  refine ⟨σ, ⟨_, _, _, _, _, _, _, _, _, _, _, _, _, _, _, _, _, _, _, _, rfl, mR', mT', mO', mK'⟩, rfl, fun e he => ?_⟩
  have he' := he
  obtain ⟨y1, y2, y3, y4, y5, y6, y7, y8, y9, y10, y11, y12, y13, y14, y15, y16, y17, y18, y19, y20, rfl, -⟩ := he
  refine am_nrp rfl rfl rfl rfl ?_
  refine st_icmp_eq O dL_law_883 (t := 993) rfl (q := 886) rfl (fun c883 => ?_) (fun c883 => ?_)
  · have z := nx (f_judge σ).2 [.inl [ik, nI (f_judge σ).2.2.2.2.1.length], z_n0, z_n1, z_n2, z_n3, z_n4, z_n5, k0, k1, k2, k3, k4, k5, t0, t1, .inr z_u0, .inr (f_judge σ).2.2.2.2.2, r0, r1, r2, r3, r4, r5, z_p0, z_p1, z_p2, z_p3, z_p4, z_p5, .inl [], a0, a1, a2, a3, a4, a5, q0, q1, q2, q3, q4, q5, .inl [sd], b0, b1, b2, b3, b4, b5, s0, s1, s2, s3, s4, s5, .inr w1, .inr w2] _ ⟨_, _, _, _, _, _, _, _, _, _, _, _, _, _, _, _, _, _, _, _, _, _, _, _, _, _, _, _, _, _, _, _, _, _, _, _, _, _, _, _, _, _, _, _, _, _, _, _, _, _, _, _, _, _, _, rfl, gR, hk, ht, gu, hr, gp, ha, hq, hb, hs⟩ he'
    exact z
  exact absurd rfl c883
theorem lo_clear {X : am_X} {L i : Nat} {xs : Nat → Int32} {K : List Int32 → am_D → Prop} (O : ok_L_law X L xs K) {σ : Sg} {D E : am_D} (hI : IX σ D) (hM : IM σ E) (hi : i + 4 ≤ L) (hL : L ≤ 2048) (nx : ∀ σ' D' E', IX σ' D' → IM σ' E' → am_aw X 4 sh_Law 993 [some (.inr 999), some (.inr 0), some (.inr 57), some (.inl (nI i))] [] (D' ++ E')) : am_aw X 4 sh_Law 888 [some (.inr 999), some (.inr 0), some (.inr 57), some (.inl (nI i))] [] (D ++ E) := by
  obtain ⟨ik, n0, n1, n2, n3, n4, n5, k0, k1, k2, k3, k4, k5, t0, t1, u0, r0, r1, r2, r3, r4, r5, p0, p1, p2, p3, p4, p5, a0, a1, a2, a3, a4, a5, q0, q1, q2, q3, q4, q5, sd, b0, b1, b2, b3, b4, b5, s0, s1, s2, s3, s4, s5, w1, w2, rfl, hR, hk, ht, hu, hr, hp, ha, hq, hb, hs⟩ := hI
  obtain ⟨aT, iM, tU, aS, cH, lO, kA, fA, hA, lA, pA, tA, vA, oA, eA, xA, nA, gA, wA, uA, rfl, mR', mT', mO', mK'⟩ := hM
  refine am_nrq rfl rfl ?_
  refine st_aloadn O dL_law_888 rfl (q := 889) rfl ?_
  refine st_call O dL_law_889 cs_L_law_889 (q := 892) rfl (am_siq rfl rfl rfl (Nat.le_of_ble_eq_true rfl) rfl ?_)
  refine ⟨(σ.1, σ.2.1, σ.2.2.1, ik), σ, ⟨_, rfl, rfl, rfl, rfl, hu⟩, rfl, fun d hd => ?_⟩
  obtain ⟨z_u0, rfl, g1, g2, g3, gu⟩ := hd
  refine am_nrp rfl rfl rfl rfl ?_
  refine st_aloadn O dL_law_892 rfl (q := 893) rfl ?_
  refine st_call O dL_law_893 cs_L_law_893 (q := 896) rfl (am_siq rfl rfl rfl (Nat.le_of_ble_eq_true rfl) rfl ?_)
  refine ⟨σ, ⟨_, _, _, _, _, _, _, _, _, _, _, _, _, _, _, _, _, _, _, _, rfl, mR', mT', mO', mK'⟩, rfl, fun e he => ?_⟩
  have he' := he
  obtain ⟨y1, y2, y3, y4, y5, y6, y7, y8, y9, y10, y11, y12, y13, y14, y15, y16, y17, y18, y19, y20, rfl, -⟩ := he
  refine am_nrp rfl rfl rfl rfl ?_
  refine st_icmp_eq O dL_law_896 (t := 993) rfl (q := 899) rfl (fun c896 => ?_) (fun c896 => ?_)
  · have z := nx (f_clear σ).2 [.inl [ik, nI (f_clear σ).2.2.2.2.1.length], n0, n1, n2, n3, n4, n5, k0, k1, k2, k3, k4, k5, t0, t1, .inr z_u0, .inr (f_clear σ).2.2.2.2.2, r0, r1, r2, r3, r4, r5, p0, p1, p2, p3, p4, p5, .inl [], a0, a1, a2, a3, a4, a5, q0, q1, q2, q3, q4, q5, .inl [sd], b0, b1, b2, b3, b4, b5, s0, s1, s2, s3, s4, s5, .inr w1, .inr w2] _ ⟨_, _, _, _, _, _, _, _, _, _, _, _, _, _, _, _, _, _, _, _, _, _, _, _, _, _, _, _, _, _, _, _, _, _, _, _, _, _, _, _, _, _, _, _, _, _, _, _, _, _, _, _, _, _, _, rfl, (by rw [g1]; exact hR), (by rw [g2]; exact hk), (by rw [g3]; exact ht), gu, hr, hp, ha, hq, hb, hs⟩ he'
    exact z
  exact absurd rfl c896
theorem lo_lots {X : am_X} {L i : Nat} {xs : Nat → Int32} {K : List Int32 → am_D → Prop} (O : ok_L_law X L xs K) {σ : Sg} {D E : am_D} (hI : IX σ D) (hM : IM σ E) (hi : i + 4 ≤ L) (hL : L ≤ 2048) (nx : ∀ σ' D' E', IX σ' D' → IM σ' E' → am_aw X 4 sh_Law 993 [some (.inr 999), some (.inr 0), some (.inr 57), some (.inl (nI i))] [] (D' ++ E')) : am_aw X 4 sh_Law 901 [some (.inr 999), some (.inr 0), some (.inr 57), some (.inl (nI i))] [] (D ++ E) := by
  obtain ⟨ik, n0, n1, n2, n3, n4, n5, k0, k1, k2, k3, k4, k5, t0, t1, u0, r0, r1, r2, r3, r4, r5, p0, p1, p2, p3, p4, p5, a0, a1, a2, a3, a4, a5, q0, q1, q2, q3, q4, q5, sd, b0, b1, b2, b3, b4, b5, s0, s1, s2, s3, s4, s5, w1, w2, rfl, hR, hk, ht, hu, hr, hp, ha, hq, hb, hs⟩ := hI
  obtain ⟨aT, iM, tU, aS, cH, lO, kA, fA, hA, lA, pA, tA, vA, oA, eA, xA, nA, gA, wA, uA, rfl, mR', mT', mO', mK'⟩ := hM
  refine am_nrq rfl rfl ?_
  refine st_aloadn O dL_law_901 rfl (q := 902) rfl ?_
  refine st_aloadn O dL_law_902 rfl (q := 903) rfl ?_
  refine st_iloadn O dL_law_903 rfl (q := 904) rfl ?_
  refine st_iconst O dL_law_904 am_iconst_1 (q := 905) rfl ?_
  refine st_iadd O dL_law_905 (by first | exact nI_add _ _ | exact rfl) (q := 906) rfl ?_
  refine st_rd O dL_law_906 (by decide) rfl (by omega) (by omega) (q := 907) rfl ?_
  refine st_aloadn O dL_law_907 rfl (q := 908) rfl ?_
  refine st_iloadn O dL_law_908 rfl (q := 909) rfl ?_
  refine st_iconst O dL_law_909 am_iconst_2 (q := 910) rfl ?_
  refine st_iadd O dL_law_910 (by first | exact nI_add _ _ | exact rfl) (q := 911) rfl ?_
  refine st_rd O dL_law_911 (by decide) rfl (by omega) (by omega) (q := 912) rfl ?_
  refine st_aloadn O dL_law_912 rfl (q := 913) rfl ?_
  refine st_iloadn O dL_law_913 rfl (q := 914) rfl ?_
  refine st_iconst O dL_law_914 am_iconst_3 (q := 915) rfl ?_
  refine st_iadd O dL_law_915 (by first | exact nI_add _ _ | exact rfl) (q := 916) rfl ?_
  refine st_rd O dL_law_916 (by decide) rfl (by omega) (by omega) (q := 917) rfl ?_
  refine st_call O dL_law_917 cs_L_law_917 (q := 920) rfl (am_siq rfl rfl rfl (Nat.le_of_ble_eq_true rfl) rfl ?_)
  refine ⟨ik, σ, _, _, _, ⟨_, _, _, _, _, _, _, _, _, _, _, _, _, _, _, _, _, _, _, _, _, rfl, hR, hb, hs⟩, rfl, fun d hd => ?_⟩
  obtain ⟨z_n0, z_n1, z_n2, z_n3, z_n4, z_n5, z_sd, z_b0, z_b1, z_b2, z_b3, z_b4, z_b5, z_s0, z_s1, z_s2, z_s3, z_s4, z_s5, z_w1, z_w2, rfl, gR, gb, gs⟩ := hd
  refine am_nrp rfl rfl rfl rfl ?_
  refine st_aloadn O dL_law_920 rfl (q := 921) rfl ?_
  refine st_aloadn O dL_law_921 rfl (q := 922) rfl ?_
  refine st_iloadn O dL_law_922 rfl (q := 923) rfl ?_
  refine st_iconst O dL_law_923 am_iconst_1 (q := 924) rfl ?_
  refine st_iadd O dL_law_924 (by first | exact nI_add _ _ | exact rfl) (q := 925) rfl ?_
  refine st_rd O dL_law_925 (by decide) rfl (by omega) (by omega) (q := 926) rfl ?_
  refine st_aloadn O dL_law_926 rfl (q := 927) rfl ?_
  refine st_iloadn O dL_law_927 rfl (q := 928) rfl ?_
  refine st_iconst O dL_law_928 am_iconst_2 (q := 929) rfl ?_
  refine st_iadd O dL_law_929 (by first | exact nI_add _ _ | exact rfl) (q := 930) rfl ?_
  refine st_rd O dL_law_930 (by decide) rfl (by omega) (by omega) (q := 931) rfl ?_
  refine st_aloadn O dL_law_931 rfl (q := 932) rfl ?_
  refine st_iloadn O dL_law_932 rfl (q := 933) rfl ?_
  refine st_iconst O dL_law_933 am_iconst_3 (q := 934) rfl ?_
  refine st_iadd O dL_law_934 (by first | exact nI_add _ _ | exact rfl) (q := 935) rfl ?_
  refine st_rd O dL_law_935 (by decide) rfl (by omega) (by omega) (q := 936) rfl ?_
  refine st_call O dL_law_936 cs_L_law_936 (q := 939) rfl (am_siq rfl rfl rfl (Nat.le_of_ble_eq_true rfl) rfl ?_)
  refine ⟨σ, _, _, _, ⟨_, _, _, _, _, _, _, _, _, _, _, _, _, _, _, _, _, _, _, _, rfl, mR', mT', mO', mK'⟩, rfl, fun e he => ?_⟩
  have he' := he
  obtain ⟨y1, y2, y3, y4, y5, y6, y7, y8, y9, y10, y11, y12, y13, y14, y15, y16, y17, y18, y19, y20, rfl, -⟩ := he
  refine am_nrp rfl rfl rfl rfl ?_
  refine st_icmp_eq O dL_law_939 (t := 993) rfl (q := 942) rfl (fun c939 => ?_) (fun c939 => ?_)
  · have z := nx (f_lots (xs (i + 1)) (xs (i + 2)) (xs (i + 3)) σ).2 [.inl [ik, nI (f_lots (xs (i + 1)) (xs (i + 2)) (xs (i + 3)) σ).2.2.2.2.1.length], z_n0, z_n1, z_n2, z_n3, z_n4, z_n5, k0, k1, k2, k3, k4, k5, t0, t1, .inr u0, .inr (f_lots (xs (i + 1)) (xs (i + 2)) (xs (i + 3)) σ).2.2.2.2.2, r0, r1, r2, r3, r4, r5, p0, p1, p2, p3, p4, p5, .inl [], a0, a1, a2, a3, a4, a5, q0, q1, q2, q3, q4, q5, .inl [z_sd], z_b0, z_b1, z_b2, z_b3, z_b4, z_b5, z_s0, z_s1, z_s2, z_s3, z_s4, z_s5, .inr z_w1, .inr z_w2] _ ⟨_, _, _, _, _, _, _, _, _, _, _, _, _, _, _, _, _, _, _, _, _, _, _, _, _, _, _, _, _, _, _, _, _, _, _, _, _, _, _, _, _, _, _, _, _, _, _, _, _, _, _, _, _, _, _, rfl, gR, (by rw [(fr_lots (xs (i + 1)) (xs (i + 2)) (xs (i + 3)) σ).1]; exact hk), (by rw [(fr_lots (xs (i + 1)) (xs (i + 2)) (xs (i + 3)) σ).2.1]; exact ht), (by rw [(fr_lots (xs (i + 1)) (xs (i + 2)) (xs (i + 3)) σ).2.2]; exact hu), hr, hp, ha, hq, gb, gs⟩ he'
    exact z
  exact absurd rfl c939
theorem lo_image {X : am_X} {L i : Nat} {xs : Nat → Int32} {K : List Int32 → am_D → Prop} (O : ok_L_law X L xs K) {σ : Sg} {D E : am_D} (hI : IX σ D) (hM : IM σ E) (hi : i + 4 ≤ L) (hL : L ≤ 2048) (nx : ∀ σ' D' E', IX σ' D' → IM σ' E' → am_aw X 4 sh_Law 993 [some (.inr 999), some (.inr 0), some (.inr 57), some (.inl (nI i))] [] (D' ++ E')) : am_aw X 4 sh_Law 944 [some (.inr 999), some (.inr 0), some (.inr 57), some (.inl (nI i))] [] (D ++ E) := by
  obtain ⟨ik, n0, n1, n2, n3, n4, n5, k0, k1, k2, k3, k4, k5, t0, t1, u0, r0, r1, r2, r3, r4, r5, p0, p1, p2, p3, p4, p5, a0, a1, a2, a3, a4, a5, q0, q1, q2, q3, q4, q5, sd, b0, b1, b2, b3, b4, b5, s0, s1, s2, s3, s4, s5, w1, w2, rfl, hR, hk, ht, hu, hr, hp, ha, hq, hb, hs⟩ := hI
  obtain ⟨aT, iM, tU, aS, cH, lO, kA, fA, hA, lA, pA, tA, vA, oA, eA, xA, nA, gA, wA, uA, rfl, mR', mT', mO', mK'⟩ := hM
  refine am_nrq rfl rfl ?_
  refine st_aloadn O dL_law_944 rfl (q := 945) rfl ?_
  refine st_call O dL_law_945 cs_L_law_945 (q := 948) rfl (am_siq rfl rfl rfl (Nat.le_of_ble_eq_true rfl) rfl ?_)
  refine ⟨(σ.2.2.1, σ.2.2.2.1, σ.2.2.2.2), σ, ⟨_, _, _, _, _, _, _, _, _, _, _, _, _, rfl, hR, hk⟩, rfl, fun d hd => ?_⟩
  obtain ⟨z_ik, z_n0, z_n1, z_n2, z_n3, z_n4, z_n5, z_k0, z_k1, z_k2, z_k3, z_k4, z_k5, rfl, gR, gk⟩ := hd
  refine am_nrp rfl rfl rfl rfl ?_
  refine st_aloadn O dL_law_948 rfl (q := 949) rfl ?_
  refine st_call O dL_law_949 cs_L_law_949 (q := 952) rfl (am_siq rfl rfl rfl (Nat.le_of_ble_eq_true rfl) rfl ?_)
  refine ⟨σ, ⟨_, _, _, _, _, _, _, _, _, _, _, _, _, _, _, _, _, _, _, _, rfl, mR', mT', mO', mK'⟩, rfl, fun e he => ?_⟩
  have he' := he
  obtain ⟨y1, y2, y3, y4, y5, y6, y7, y8, y9, y10, y11, y12, y13, y14, y15, y16, y17, y18, y19, y20, rfl, -⟩ := he
  refine am_nrp rfl rfl rfl rfl ?_
  refine st_icmp_eq O dL_law_952 (t := 993) rfl (q := 955) rfl (fun c952 => ?_) (fun c952 => ?_)
  · have z := nx (f_image σ).2 [.inl [z_ik, nI (f_image σ).2.2.2.2.1.length], z_n0, z_n1, z_n2, z_n3, z_n4, z_n5, z_k0, z_k1, z_k2, z_k3, z_k4, z_k5, t0, t1, .inr u0, .inr (f_image σ).2.2.2.2.2, r0, r1, r2, r3, r4, r5, p0, p1, p2, p3, p4, p5, .inl [], a0, a1, a2, a3, a4, a5, q0, q1, q2, q3, q4, q5, .inl [sd], b0, b1, b2, b3, b4, b5, s0, s1, s2, s3, s4, s5, .inr w1, .inr w2] _ ⟨_, _, _, _, _, _, _, _, _, _, _, _, _, _, _, _, _, _, _, _, _, _, _, _, _, _, _, _, _, _, _, _, _, _, _, _, _, _, _, _, _, _, _, _, _, _, _, _, _, _, _, _, _, _, _, rfl, gR, gk, (by rw [(fr_image σ).1]; exact ht), (by rw [(fr_image σ).2]; exact hu), hr, hp, ha, hq, hb, hs⟩ he'
    exact z
  exact absurd rfl c952
theorem lo_on {X : am_X} {L i : Nat} {xs : Nat → Int32} {K : List Int32 → am_D → Prop} (O : ok_L_law X L xs K) {σ : Sg} {D E : am_D} (hI : IX σ D) (hM : IM σ E) (hi : i + 4 ≤ L) (hL : L ≤ 2048) (nx : ∀ σ' D' E', IX σ' D' → IM σ' E' → am_aw X 4 sh_Law 993 [some (.inr 999), some (.inr 0), some (.inr 57), some (.inl (nI i))] [] (D' ++ E')) : am_aw X 4 sh_Law 957 [some (.inr 999), some (.inr 0), some (.inr 57), some (.inl (nI i))] [] (D ++ E) := by
  obtain ⟨ik, n0, n1, n2, n3, n4, n5, k0, k1, k2, k3, k4, k5, t0, t1, u0, r0, r1, r2, r3, r4, r5, p0, p1, p2, p3, p4, p5, a0, a1, a2, a3, a4, a5, q0, q1, q2, q3, q4, q5, sd, b0, b1, b2, b3, b4, b5, s0, s1, s2, s3, s4, s5, w1, w2, rfl, hR, hk, ht, hu, hr, hp, ha, hq, hb, hs⟩ := hI
  obtain ⟨aT, iM, tU, aS, cH, lO, kA, fA, hA, lA, pA, tA, vA, oA, eA, xA, nA, gA, wA, uA, rfl, mR', mT', mO', mK'⟩ := hM
  refine am_nrq rfl rfl ?_
  refine st_aloadn O dL_law_957 rfl (q := 958) rfl ?_
  refine st_call O dL_law_958 cs_L_law_958 (q := 961) rfl (am_siq rfl rfl rfl (Nat.le_of_ble_eq_true rfl) rfl ?_)
  refine ⟨(σ.2.2.1, σ.2.2.2.1, σ.2.2.2.2), σ, ⟨_, _, _, _, _, _, _, _, _, _, _, _, _, rfl, hR, hk⟩, rfl, fun d hd => ?_⟩
  obtain ⟨z_ik, z_n0, z_n1, z_n2, z_n3, z_n4, z_n5, z_k0, z_k1, z_k2, z_k3, z_k4, z_k5, rfl, gR, gk⟩ := hd
  refine am_nrp rfl rfl rfl rfl ?_
  refine st_aloadn O dL_law_961 rfl (q := 962) rfl ?_
  refine st_call O dL_law_962 cs_L_law_962 (q := 965) rfl (am_siq rfl rfl rfl (Nat.le_of_ble_eq_true rfl) rfl ?_)
  refine ⟨σ, ⟨_, _, _, _, _, _, _, _, _, _, _, _, _, _, _, _, _, _, _, _, rfl, mR', mT', mO', mK'⟩, rfl, fun e he => ?_⟩
  have he' := he
  obtain ⟨y1, y2, y3, y4, y5, y6, y7, y8, y9, y10, y11, y12, y13, y14, y15, y16, y17, y18, y19, y20, rfl, -⟩ := he
  refine am_nrp rfl rfl rfl rfl ?_
  refine st_icmp_eq O dL_law_965 (t := 993) rfl (q := 968) rfl (fun c965 => ?_) (fun c965 => ?_)
  · have z := nx (f_on σ).2 [.inl [z_ik, nI (f_on σ).2.2.2.2.1.length], z_n0, z_n1, z_n2, z_n3, z_n4, z_n5, z_k0, z_k1, z_k2, z_k3, z_k4, z_k5, t0, t1, .inr u0, .inr (f_on σ).2.2.2.2.2, r0, r1, r2, r3, r4, r5, p0, p1, p2, p3, p4, p5, .inl [], a0, a1, a2, a3, a4, a5, q0, q1, q2, q3, q4, q5, .inl [sd], b0, b1, b2, b3, b4, b5, s0, s1, s2, s3, s4, s5, .inr w1, .inr w2] _ ⟨_, _, _, _, _, _, _, _, _, _, _, _, _, _, _, _, _, _, _, _, _, _, _, _, _, _, _, _, _, _, _, _, _, _, _, _, _, _, _, _, _, _, _, _, _, _, _, _, _, _, _, _, _, _, _, rfl, gR, gk, (by rw [(fr_on σ).1]; exact ht), (by rw [(fr_on σ).2]; exact hu), hr, hp, ha, hq, hb, hs⟩ he'
    exact z
  exact absurd rfl c965
theorem lo_count {X : am_X} {L i : Nat} {xs : Nat → Int32} {K : List Int32 → am_D → Prop} (O : ok_L_law X L xs K) {σ : Sg} {D E : am_D} (hI : IX σ D) (hM : IM σ E) (hi : i + 4 ≤ L) (hL : L ≤ 2048) (nx : ∀ σ' D' E', IX σ' D' → IM σ' E' → am_aw X 4 sh_Law 993 [some (.inr 999), some (.inr 0), some (.inr 57), some (.inl (nI i))] [] (D' ++ E')) : am_aw X 4 sh_Law 970 [some (.inr 999), some (.inr 0), some (.inr 57), some (.inl (nI i))] [] (D ++ E) := by
  obtain ⟨ik, n0, n1, n2, n3, n4, n5, k0, k1, k2, k3, k4, k5, t0, t1, u0, r0, r1, r2, r3, r4, r5, p0, p1, p2, p3, p4, p5, a0, a1, a2, a3, a4, a5, q0, q1, q2, q3, q4, q5, sd, b0, b1, b2, b3, b4, b5, s0, s1, s2, s3, s4, s5, w1, w2, rfl, hR, hk, ht, hu, hr, hp, ha, hq, hb, hs⟩ := hI
  obtain ⟨aT, iM, tU, aS, cH, lO, kA, fA, hA, lA, pA, tA, vA, oA, eA, xA, nA, gA, wA, uA, rfl, mR', mT', mO', mK'⟩ := hM
  refine am_nrq rfl rfl ?_
  refine st_aloadn O dL_law_970 rfl (q := 971) rfl ?_
  refine st_aloadn O dL_law_971 rfl (q := 972) rfl ?_
  refine st_iloadn O dL_law_972 rfl (q := 973) rfl ?_
  refine st_iconst O dL_law_973 am_iconst_1 (q := 974) rfl ?_
  refine st_iadd O dL_law_974 (by first | exact nI_add _ _ | exact rfl) (q := 975) rfl ?_
  refine st_rd O dL_law_975 (by decide) rfl (by omega) (by omega) (q := 976) rfl ?_
  refine st_call O dL_law_976 cs_L_law_976 (q := 979) rfl (am_siq rfl rfl rfl (Nat.le_of_ble_eq_true rfl) rfl ?_)
  refine ⟨ik, σ, _, ⟨_, _, _, _, _, _, _, _, rfl, hR, ht⟩, rfl, fun d hd => ?_⟩
  obtain ⟨z_n0, z_n1, z_n2, z_n3, z_n4, z_n5, z_t0, z_t1, rfl, gR, gt⟩ := hd
  refine am_nrp rfl rfl rfl rfl ?_
  refine st_aloadn O dL_law_979 rfl (q := 980) rfl ?_
  refine st_aloadn O dL_law_980 rfl (q := 981) rfl ?_
  refine st_iloadn O dL_law_981 rfl (q := 982) rfl ?_
  refine st_iconst O dL_law_982 am_iconst_1 (q := 983) rfl ?_
  refine st_iadd O dL_law_983 (by first | exact nI_add _ _ | exact rfl) (q := 984) rfl ?_
  refine st_rd O dL_law_984 (by decide) rfl (by omega) (by omega) (q := 985) rfl ?_
  refine st_call O dL_law_985 cs_L_law_985 (q := 988) rfl (am_siq rfl rfl rfl (Nat.le_of_ble_eq_true rfl) rfl ?_)
  refine ⟨σ, _, ⟨_, _, _, _, _, _, _, _, _, _, _, _, _, _, _, _, _, _, _, _, rfl, mR', mT', mO', mK'⟩, rfl, fun e he => ?_⟩
  have he' := he
  obtain ⟨y1, y2, y3, y4, y5, y6, y7, y8, y9, y10, y11, y12, y13, y14, y15, y16, y17, y18, y19, y20, rfl, -⟩ := he
  refine am_nrp rfl rfl rfl rfl ?_
  refine st_icmp_eq O dL_law_988 (t := 993) rfl (q := 991) rfl (fun c988 => ?_) (fun c988 => ?_)
  · have z := nx (f_count (xs (i + 1)) σ).2 [.inl [ik, nI (f_count (xs (i + 1)) σ).2.2.2.2.1.length], z_n0, z_n1, z_n2, z_n3, z_n4, z_n5, k0, k1, k2, k3, k4, k5, z_t0, z_t1, .inr u0, .inr (f_count (xs (i + 1)) σ).2.2.2.2.2, r0, r1, r2, r3, r4, r5, p0, p1, p2, p3, p4, p5, .inl [], a0, a1, a2, a3, a4, a5, q0, q1, q2, q3, q4, q5, .inl [sd], b0, b1, b2, b3, b4, b5, s0, s1, s2, s3, s4, s5, .inr w1, .inr w2] _ ⟨_, _, _, _, _, _, _, _, _, _, _, _, _, _, _, _, _, _, _, _, _, _, _, _, _, _, _, _, _, _, _, _, _, _, _, _, _, _, _, _, _, _, _, _, _, _, _, _, _, _, _, _, _, _, _, rfl, gR, (by rw [(fr_count (xs (i + 1)) σ).1]; exact hk), gt, (by rw [(fr_count (xs (i + 1)) σ).2.2]; exact hu), hr, hp, ha, hq, hb, hs⟩ he'
    exact z
  exact absurd rfl c988
