/-! the law's loop -/
theorem lw_gt {L i : Nat} (hL : L ≤ 2048) (hi : i ≤ 4096) : (nI L - nI 4 < nI i) ↔ L < i + 4 := by
  rw [Int32.lt_iff_toInt_lt, Int32.toInt_sub, show (nI L).toInt = (L : Int) by exact Int32.toInt_ofNat_of_lt (by omega), show (nI i).toInt = (i : Int) by exact Int32.toInt_ofNat_of_lt (by omega), show (nI 4).toInt = 4 by decide]
  rw [show ((L : Int) - 4).bmod (2 ^ 32) = (L : Int) - 4 from Int.bmod_eq_of_le_mul_two (by omega) (by omega)]
  omega
theorem law_loop {X : am_X} {L : Nat} {xs : Nat → Int32} {K : List Int32 → am_D → Prop} (O : ok_L_law X L xs K) (hL : L ≤ 2048) (hK : ∀ D, K [1] D) : ∀ d i (σ : Sg) (D E : am_D), L - i = d → i ≤ L → IX σ D → IM σ E → am_aw X 4 sh_Law 18 [some (.inr 999), some (.inr 0), some (.inr 57), some (.inl (nI i))] [] (D ++ E) := by
  intro d
  induction d using Nat.strongRecOn with
  | ind d ih =>
  intro i σ D E hd hi hI hM
  by_cases h4 : L < i + 4
  · refine st_iloadn O dL_law_18 rfl (q := 19) rfl ?_
    refine st_aloadn O dL_law_19 rfl (q := 20) rfl ?_
    refine st_len O dL_law_20 (q := 21) rfl ?_
    refine st_iconst O dL_law_21 am_iconst_4 (q := 22) rfl ?_
    refine st_isub O dL_law_22 rfl (q := 23) rfl ?_
    refine st_icmp_gt O dL_law_23 (t := 999) rfl (q := 26) rfl (fun c23 => ?_) (fun c23 => ?_)
    · refine st_iconst O dL_law_999 am_iconst_1 (q := 1000) rfl ?_
      refine st_zreturn O dL_law_1000 (by first | exact Or.inl rfl | exact Or.inr rfl | assumption) ?_
      exact hK _
    exact absurd ((lw_gt hL (by omega)).mpr h4) c23
  · have nx : ∀ σ' D' E', IX σ' D' → IM σ' E' → am_aw X 4 sh_Law 993 [some (.inr 999), some (.inr 0), some (.inr 57), some (.inl (nI i))] [] (D' ++ E') := by
      intro σ' D' E' hI' hM'
      refine st_iinc O dL_law_993 rfl (show nI i + Int32.ofInt 4 = nI (i + 4) by rw [show Int32.ofInt 4 = nI 4 by decide]; exact nI_add _ _) rfl (q := 996) rfl ?_
      refine st_goto O dL_law_996 (t := 18) rfl ?_
      exact ih (L - (i + 4)) (by omega) (i + 4) σ' D' E' rfl (by omega) hI' hM'
    refine st_iloadn O dL_law_18 rfl (q := 19) rfl ?_
    refine st_aloadn O dL_law_19 rfl (q := 20) rfl ?_
    refine st_len O dL_law_20 (q := 21) rfl ?_
    refine st_iconst O dL_law_21 am_iconst_4 (q := 22) rfl ?_
    refine st_isub O dL_law_22 rfl (q := 23) rfl ?_
    refine st_icmp_gt O dL_law_23 (t := 999) rfl (q := 26) rfl (fun c23 => ?_) (fun c23 => ?_)
    · exact absurd ((lw_gt hL (by omega)).mp c23) h4
    refine st_aloadn O dL_law_26 rfl (q := 27) rfl ?_
    refine st_iloadn O dL_law_27 rfl (q := 28) rfl ?_
    refine st_rd O dL_law_28 (by decide) rfl (by omega) (by omega) (q := 29) rfl ?_
    refine st_bipush O dL_law_29 am_bipush_63 (q := 31) rfl ?_
    refine st_iand O dL_law_31 rfl (q := 32) rfl ?_
    refine st_table O dL_law_32 (os := [156, 179, 192, 225, 258, 281, 304, 337, 360, 393, 416, 449, 462, 485, 508, 521, 544, 567, 600, 623, 656, 669, 682, 695, 708, 731, 754, 787, 820, 843, 856, 869, 912, 925, 938]) rfl rfl ?_
    refine sw_consT (v := 0) (by decide) (t := 188) rfl (lo' := 1) rfl (fun c32_0 => ?_) (fun c32_0 => ?_)
    · exact lo_letter O hI hM (by omega) hL nx
    refine sw_consT (v := 1) (by decide) (t := 211) rfl (lo' := 2) rfl (fun c32_1 => ?_) (fun c32_1 => ?_)
    · exact lo_road O hI hM (by omega) hL nx
    refine sw_consT (v := 2) (by decide) (t := 224) rfl (lo' := 3) rfl (fun c32_2 => ?_) (fun c32_2 => ?_)
    · exact lo_car O hI hM (by omega) hL nx
    refine sw_consT (v := 3) (by decide) (t := 257) rfl (lo' := 4) rfl (fun c32_3 => ?_) (fun c32_3 => ?_)
    · exact lo_hurry O hI hM (by omega) hL nx
    refine sw_consT (v := 4) (by decide) (t := 290) rfl (lo' := 5) rfl (fun c32_4 => ?_) (fun c32_4 => ?_)
    · exact lo_goOver O hI hM (by omega) hL nx
    refine sw_consT (v := 5) (by decide) (t := 313) rfl (lo' := 6) rfl (fun c32_5 => ?_) (fun c32_5 => ?_)
    · exact lo_standFirst O hI hM (by omega) hL nx
    refine sw_consT (v := 6) (by decide) (t := 336) rfl (lo' := 7) rfl (fun c32_6 => ?_) (fun c32_6 => ?_)
    · exact lo_set O hI hM (by omega) hL nx
    refine sw_consT (v := 7) (by decide) (t := 369) rfl (lo' := 8) rfl (fun c32_7 => ?_) (fun c32_7 => ?_)
    · exact lo_order O hI hM (by omega) hL nx
    refine sw_consT (v := 8) (by decide) (t := 392) rfl (lo' := 9) rfl (fun c32_8 => ?_) (fun c32_8 => ?_)
    · exact lo_of O hI hM (by omega) hL nx
    refine sw_consT (v := 9) (by decide) (t := 425) rfl (lo' := 10) rfl (fun c32_9 => ?_) (fun c32_9 => ?_)
    · exact lo_sums O hI hM (by omega) hL nx
    refine sw_consT (v := 10) (by decide) (t := 448) rfl (lo' := 11) rfl (fun c32_10 => ?_) (fun c32_10 => ?_)
    · exact lo_queue O hI hM (by omega) hL nx
    refine sw_consT (v := 11) (by decide) (t := 481) rfl (lo' := 12) rfl (fun c32_11 => ?_) (fun c32_11 => ?_)
    · exact lo_bestBoard O hI hM (by omega) hL nx
    refine sw_consT (v := 12) (by decide) (t := 494) rfl (lo' := 13) rfl (fun c32_12 => ?_) (fun c32_12 => ?_)
    · exact lo_over O hI hM (by omega) hL nx
    refine sw_consT (v := 13) (by decide) (t := 517) rfl (lo' := 14) rfl (fun c32_13 => ?_) (fun c32_13 => ?_)
    · exact lo_first O hI hM (by omega) hL nx
    refine sw_consT (v := 14) (by decide) (t := 540) rfl (lo' := 15) rfl (fun c32_14 => ?_) (fun c32_14 => ?_)
    · exact lo_lets O hI hM (by omega) hL nx
    refine sw_consT (v := 15) (by decide) (t := 553) rfl (lo' := 16) rfl (fun c32_15 => ?_) (fun c32_15 => ?_)
    · exact lo_spoil O hI hM (by omega) hL nx
    refine sw_consT (v := 16) (by decide) (t := 576) rfl (lo' := 17) rfl (fun c32_16 => ?_) (fun c32_16 => ?_)
    · exact lo_mend O hI hM (by omega) hL nx
    refine sw_consT (v := 17) (by decide) (t := 599) rfl (lo' := 18) rfl (fun c32_17 => ?_) (fun c32_17 => ?_)
    · exact lo_loses O hI hM (by omega) hL nx
    refine sw_consT (v := 18) (by decide) (t := 632) rfl (lo' := 19) rfl (fun c32_18 => ?_) (fun c32_18 => ?_)
    · exact lo_byWhom O hI hM (by omega) hL nx
    refine sw_consT (v := 19) (by decide) (t := 655) rfl (lo' := 20) rfl (fun c32_19 => ?_) (fun c32_19 => ?_)
    · exact lo_two O hI hM (by omega) hL nx
    refine sw_consT (v := 20) (by decide) (t := 688) rfl (lo' := 21) rfl (fun c32_20 => ?_) (fun c32_20 => ?_)
    · exact lo_fair O hI hM (by omega) hL nx
    refine sw_consT (v := 21) (by decide) (t := 701) rfl (lo' := 22) rfl (fun c32_21 => ?_) (fun c32_21 => ?_)
    · exact lo_lucky O hI hM (by omega) hL nx
    refine sw_consT (v := 22) (by decide) (t := 714) rfl (lo' := 23) rfl (fun c32_22 => ?_) (fun c32_22 => ?_)
    · exact lo_away O hI hM (by omega) hL nx
    refine sw_consT (v := 23) (by decide) (t := 727) rfl (lo' := 24) rfl (fun c32_23 => ?_) (fun c32_23 => ?_)
    · exact lo_wider O hI hM (by omega) hL nx
    refine sw_consT (v := 24) (by decide) (t := 740) rfl (lo' := 25) rfl (fun c32_24 => ?_) (fun c32_24 => ?_)
    · exact lo_gap O hI hM (by omega) hL nx
    refine sw_consT (v := 25) (by decide) (t := 763) rfl (lo' := 26) rfl (fun c32_25 => ?_) (fun c32_25 => ?_)
    · exact lo_even O hI hM (by omega) hL nx
    refine sw_consT (v := 26) (by decide) (t := 786) rfl (lo' := 27) rfl (fun c32_26 => ?_) (fun c32_26 => ?_)
    · exact lo_keep O hI hM (by omega) hL nx
    refine sw_consT (v := 27) (by decide) (t := 819) rfl (lo' := 28) rfl (fun c32_27 => ?_) (fun c32_27 => ?_)
    · exact lo_who O hI hM (by omega) hL nx
    refine sw_consT (v := 28) (by decide) (t := 852) rfl (lo' := 29) rfl (fun c32_28 => ?_) (fun c32_28 => ?_)
    · exact lo_row O hI hM (by omega) hL nx
    refine sw_consT (v := 29) (by decide) (t := 875) rfl (lo' := 30) rfl (fun c32_29 => ?_) (fun c32_29 => ?_)
    · exact lo_judge O hI hM (by omega) hL nx
    refine sw_consT (v := 30) (by decide) (t := 888) rfl (lo' := 31) rfl (fun c32_30 => ?_) (fun c32_30 => ?_)
    · exact lo_clear O hI hM (by omega) hL nx
    refine sw_consT (v := 31) (by decide) (t := 901) rfl (lo' := 32) rfl (fun c32_31 => ?_) (fun c32_31 => ?_)
    · exact lo_lots O hI hM (by omega) hL nx
    refine sw_consT (v := 32) (by decide) (t := 944) rfl (lo' := 33) rfl (fun c32_32 => ?_) (fun c32_32 => ?_)
    · exact lo_image O hI hM (by omega) hL nx
    refine sw_consT (v := 33) (by decide) (t := 957) rfl (lo' := 34) rfl (fun c32_33 => ?_) (fun c32_33 => ?_)
    · exact lo_on O hI hM (by omega) hL nx
    refine sw_consT (v := 34) (by decide) (t := 970) rfl (lo' := 35) rfl (fun c32_34 => ?_) (fun c32_34 => ?_)
    · exact lo_count O hI hM (by omega) hL nx
    refine sw_nilT (t := 993) rfl ?_
    exact nx σ D E hI hM
