/-! the reference's calls: the turns -/
theorem ln_lane {n : Nat} {la : Nat → Nat} {L : List (Nat × Nat × Nat)} (h : okL n la L) {i : Nat} (hi : i < L.length) : cr_ L i < n ∧ ln_ L i = la (cr_ L i) ∧ ln_ L i < 2 := h.2.2 _ (L_mem hi)
theorem sub_dec (x : Int32) (b : Nat) : x - nI b + Int32.ofInt (-1) = x - nI (b + 1) := by
  rw [← nI_add b 1, Int32.sub_eq_add_neg, Int32.sub_eq_add_neg, Int32.neg_add, Int32.sub_eq_add_neg, Int32.add_assoc]
  rfl
def cs_X7_order : Nat → List am_V → am_D → am_K → Prop := am_cs [(1, am_site 1 [some 0] T_X7_run [0, 1, 2, 4, 5, 13, 14, 15] [0, 1, 2, 4, 5, 13, 14, 15, 3, 6, 7, 8, 9, 10, 11, 12]), (12, am_site 3 [none, none, none] T_X7_within [] []), (29, am_site 2 [some 0, none] T_X7_no [0, 9] [0, 9, 1, 2, 3, 4, 5, 6, 7, 8, 10, 11, 12, 13, 14, 15])]
theorem cs_X7_order_1 : cs_X7_order 1 = am_site 1 [some 0] T_X7_run [0, 1, 2, 4, 5, 13, 14, 15] [0, 1, 2, 4, 5, 13, 14, 15, 3, 6, 7, 8, 9, 10, 11, 12] := rfl
theorem cs_X7_order_12 : cs_X7_order 12 = am_site 3 [none, none, none] T_X7_within [] [] := rfl
theorem cs_X7_order_29 : cs_X7_order 29 = am_site 2 [some 0, none] T_X7_no [0, 9] [0, 9, 1, 2, 3, 4, 5, 6, 7, 8, 10, 11, 12, 13, 14, 15] := rfl
theorem ck_X7_order : ∀ X : am_X, am_cx X RX7 cX7_order 2 3 75 → ∀ pc, am_csok X 2 sh_Mod pc (cs_X7_order pc) := fun X hX => am_cs_ok (List.forall_mem_cons.mpr ⟨am_callV hX C_X7_run mo_X7_run rfl lk_X7_161 dX7_order_1 rfl rfl rfl (by decide), List.forall_mem_cons.mpr ⟨am_callS hX C_X7_within mo_X7_within rfl lk_X7_62 dX7_order_12 rfl (by decide), List.forall_mem_cons.mpr ⟨am_callV hX C_X7_no mo_X7_no rfl lk_X7_66 dX7_order_29 rfl rfl rfl (by decide), fun _ h => absurd h List.not_mem_nil⟩⟩⟩)
abbrev ok_X7_order (X : am_X) (K : List Int32 → am_D → Prop) : Prop := am_ok X RX7 cX7_order 2 sh_Mod fl_X7 kc_X7 none 1 cs_X7_order K
abbrev aw_X7_order (X : am_X) (pc : Nat) (ls : am_L) (st : List am_V) (D : am_D) : Prop := am_aw X 2 sh_Mod pc ls st D
abbrev T_X7_order : am_TT := am_s1 IM f_order
set_option maxHeartbeats 200000 in
theorem B_X7_order : ∀ (X : am_X) (is : List Int32) (D : am_D) (K : List Int32 → am_D → Prop), ok_X7_order X K → T_X7_order is D K → is.length = (List.filter Option.isNone ([some 0, none] : List (Option Nat))).length → D.length = sh_Mod.length → am_aw X 2 sh_Mod 0 (am_l0 2 [some 0, none] is) [] D := by
  intro X is D K O hT _ _
  obtain ⟨σ, a, ⟨aT, iM, tU, aS, cH, lO, kA, fA, hA, lA, pA, tA, vA, oA, eA, xA, nA, gA, wA, uA, rfl, hR, ht, ho, hk⟩, rfl, hK⟩ := hT
  obtain ⟨hb, hw, hp, hj, hL⟩ := id hR
  have hn : gN σ ≤ 9 := hL.1
  have eN : gN σ = σ.1.1 := rfl
  obtain ⟨g1, g2, g3⟩ := gL_ok hn hp (fun j h => (hj j h).2.2.2)
  cases hx : xi (gN σ) a with
  | none =>
    refine am_begin rfl ?_
    refine st_aloadn O dX7_order_0 rfl (q := 1) rfl ?_
    refine st_call O dX7_order_1 cs_X7_order_1 (q := 4) rfl (am_siq rfl rfl rfl (Nat.le_of_ble_eq_true rfl) rfl ?_)
    refine ⟨gN σ, gb σ, gw σ, _, _, _, _, _, _, _, _, false, gk σ, gf σ, (fun z => qu (gl σ) (gq σ) z 0), _, _, _, _, _, _, _, rfl, rfl, hb, hR.k2, hL, fun gA' wA' uA' hO => ?_⟩
    refine am_nrp rfl rfl rfl rfl ?_
    rw [gL_smw σ, g3]
    refine st_iloadn O dX7_order_4 rfl (q := 5) rfl ?_
    refine st_iconst O dX7_order_5 am_iconst_0 (q := 6) rfl ?_
    refine st_aloadn O dX7_order_6 rfl (q := 7) rfl ?_
    refine st_geti O dX7_order_7 fl_X7_146 rfl rfl rfl rfl (q := 10) rfl ?_
    refine st_iconst O dX7_order_10 am_iconst_1 (q := 11) rfl ?_
    refine st_isub O dX7_order_11 rfl (q := 12) rfl ?_
    refine st_callS O dX7_order_12 cs_X7_order_12 (q := 15) rfl (am_sipq rfl rfl rfl (Nat.le_of_ble_eq_true rfl) rfl (r := 0) ⟨_, _, _, rfl, by rw [ic_iff hn, hx]; rfl⟩ ?_)
    refine st_if_eq O dX7_order_15 (t := 27) rfl (q := 18) rfl (fun c15 => ?_) (fun c15 => ?_)
    · refine st_aloadn O dX7_order_27 rfl (q := 28) rfl ?_
      refine st_iconst O dX7_order_28 am_iconst_m1 (q := 29) rfl ?_
      refine st_call O dX7_order_29 cs_X7_order_29 (q := 32) rfl (am_siq rfl rfl rfl (Nat.le_of_ble_eq_true rfl) rfl ?_)
      refine ⟨_, _, 1, by decide, by decide, rfl, rfl, ?_⟩
      refine am_nrq rfl rfl ?_
      rw [show f_order a σ = rfs 1 σ from by unfold f_order; rw [hx]] at hK
      exact st_ireturn O dX7_order_32 (hK _ ⟨_, _, _, _, _, _, _, _, _, _, _, _, _, _, _, _, _, _, _, _, rfl, hR, ht, ho, hk⟩)
    exact absurd c15 (by decide)
  | some j =>
    obtain ⟨hj9, rfl⟩ := xi_some hn hx
    rw [show f_order (nI j) σ = (nI (cr_ (gL σ) j), σ) by unfold f_order; rw [hx]] at hK
    refine am_begin rfl ?_
    refine st_aloadn O dX7_order_0 rfl (q := 1) rfl ?_
    refine st_call O dX7_order_1 cs_X7_order_1 (q := 4) rfl (am_siq rfl rfl rfl (Nat.le_of_ble_eq_true rfl) rfl ?_)
    refine ⟨gN σ, gb σ, gw σ, _, _, _, _, _, _, _, _, false, gk σ, gf σ, (fun z => qu (gl σ) (gq σ) z 0), _, _, _, _, _, _, _, rfl, rfl, hb, hR.k2, hL, fun gA' wA' uA' hO => ?_⟩
    refine am_nrp rfl rfl rfl rfl ?_
    rw [gL_smw σ] at hO ⊢
    rw [g3]
    refine st_iloadn O dX7_order_4 rfl (q := 5) rfl ?_
    refine st_iconst O dX7_order_5 am_iconst_0 (q := 6) rfl ?_
    refine st_aloadn O dX7_order_6 rfl (q := 7) rfl ?_
    refine st_geti O dX7_order_7 fl_X7_146 rfl rfl rfl rfl (q := 10) rfl ?_
    refine st_iconst O dX7_order_10 am_iconst_1 (q := 11) rfl ?_
    refine st_isub O dX7_order_11 rfl (q := 12) rfl ?_
    refine st_callS O dX7_order_12 cs_X7_order_12 (q := 15) rfl (am_sipq rfl rfl rfl (Nat.le_of_ble_eq_true rfl) rfl (r := 1) ⟨_, _, _, rfl, by rw [ic_iff hn, hx]; rfl⟩ ?_)
    refine st_if_eq O dX7_order_15 (t := 27) rfl (q := 18) rfl (fun c15 => ?_) (fun c15 => ?_)
    · exact absurd c15 (by decide)
    refine st_aloadn O dX7_order_18 rfl (q := 19) rfl ?_
    refine st_getr O dX7_order_19 fl_X7_46 rfl rfl rfl (q := 22) rfl ?_
    refine st_iloadn O dX7_order_22 rfl (q := 23) rfl ?_
    refine sn_ald O dX7_order_23 rfl rfl rfl ⟨by omega, by decide⟩ (pO_o (L := gL σ) hO (by omega)) (q := 24) rfl ?_
    refine st_goto O dX7_order_24 (t := 32) rfl ?_
    refine st_ireturn O dX7_order_32 ?_
    exact hK _ ⟨_, _, _, _, _, _, _, _, _, _, _, _, _, _, _, _, _, _, _, _, rfl, hR, ht, ho, hk⟩
theorem C_X7_order : am_ctr yX7_order cX7_order 2 (some .int) 3 75 sh_Mod [some 0, none] T_X7_order := am_mk (by decide) (Or.inr (Or.inl ⟨rfl, rfl⟩)) (by decide) (by decide) (by decide) fl_X7_ok kc_X7_ok ck_X7_order B_X7_order
def cs_X7_of : Nat → List am_V → am_D → am_K → Prop := am_cs [(2, am_site 2 [some 0, none] T_X7_isCar [0] [0, 1, 2, 3, 4, 5, 6, 7, 8, 9, 10, 11, 12, 13, 14, 15]), (10, am_site 2 [some 0, none] T_X7_no [0, 9] [0, 9, 1, 2, 3, 4, 5, 6, 7, 8, 10, 11, 12, 13, 14, 15]), (17, am_site 3 [none, none, none] T_X7_within [] []), (26, am_site 2 [some 0, none] T_X7_no [0, 9] [0, 9, 1, 2, 3, 4, 5, 6, 7, 8, 10, 11, 12, 13, 14, 15]), (31, am_site 1 [some 0] T_X7_run [0, 1, 2, 4, 5, 13, 14, 15] [0, 1, 2, 4, 5, 13, 14, 15, 3, 6, 7, 8, 9, 10, 11, 12])]
theorem cs_X7_of_2 : cs_X7_of 2 = am_site 2 [some 0, none] T_X7_isCar [0] [0, 1, 2, 3, 4, 5, 6, 7, 8, 9, 10, 11, 12, 13, 14, 15] := rfl
theorem cs_X7_of_10 : cs_X7_of 10 = am_site 2 [some 0, none] T_X7_no [0, 9] [0, 9, 1, 2, 3, 4, 5, 6, 7, 8, 10, 11, 12, 13, 14, 15] := rfl
theorem cs_X7_of_17 : cs_X7_of 17 = am_site 3 [none, none, none] T_X7_within [] [] := rfl
theorem cs_X7_of_26 : cs_X7_of 26 = am_site 2 [some 0, none] T_X7_no [0, 9] [0, 9, 1, 2, 3, 4, 5, 6, 7, 8, 10, 11, 12, 13, 14, 15] := rfl
theorem cs_X7_of_31 : cs_X7_of 31 = am_site 1 [some 0] T_X7_run [0, 1, 2, 4, 5, 13, 14, 15] [0, 1, 2, 4, 5, 13, 14, 15, 3, 6, 7, 8, 9, 10, 11, 12] := rfl
theorem ck_X7_of : ∀ X : am_X, am_cx X RX7 cX7_of 3 3 75 → ∀ pc, am_csok X 3 sh_Mod pc (cs_X7_of pc) := fun X hX => am_cs_ok (List.forall_mem_cons.mpr ⟨am_callV hX C_X7_isCar mo_X7_isCar rfl lk_X7_96 dX7_of_2 rfl rfl rfl (by decide), List.forall_mem_cons.mpr ⟨am_callV hX C_X7_no mo_X7_no rfl lk_X7_66 dX7_of_10 rfl rfl rfl (by decide), List.forall_mem_cons.mpr ⟨am_callS hX C_X7_within mo_X7_within rfl lk_X7_62 dX7_of_17 rfl (by decide), List.forall_mem_cons.mpr ⟨am_callV hX C_X7_no mo_X7_no rfl lk_X7_66 dX7_of_26 rfl rfl rfl (by decide), List.forall_mem_cons.mpr ⟨am_callV hX C_X7_run mo_X7_run rfl lk_X7_161 dX7_of_31 rfl rfl rfl (by decide), fun _ h => absurd h List.not_mem_nil⟩⟩⟩⟩⟩)
abbrev ok_X7_of (X : am_X) (K : List Int32 → am_D → Prop) : Prop := am_ok X RX7 cX7_of 3 sh_Mod fl_X7 kc_X7 none 1 cs_X7_of K
abbrev aw_X7_of (X : am_X) (pc : Nat) (ls : am_L) (st : List am_V) (D : am_D) : Prop := am_aw X 3 sh_Mod pc ls st D
abbrev T_X7_of : am_TT := am_s2 IM f_of
set_option maxHeartbeats 200000 in
theorem B_X7_of : ∀ (X : am_X) (is : List Int32) (D : am_D) (K : List Int32 → am_D → Prop), ok_X7_of X K → T_X7_of is D K → is.length = (List.filter Option.isNone ([some 0, none, none] : List (Option Nat))).length → D.length = sh_Mod.length → am_aw X 3 sh_Mod 0 (am_l0 3 [some 0, none, none] is) [] D := by
  intro X is D K O hT _ _
  obtain ⟨σ, a, b, ⟨aT, iM, tU, aS, cH, lO, kA, fA, hA, lA, pA, tA, vA, oA, eA, xA, nA, gA, wA, uA, rfl, hR, ht, ho, hk⟩, rfl, hK⟩ := hT
  obtain ⟨hb, hw, hp, hj, hL⟩ := id hR
  have hn : gN σ ≤ 9 := hL.1
  have eN : gN σ = σ.1.1 := rfl
  obtain ⟨g1, g2, g3⟩ := gL_ok hn hp (fun j h => (hj j h).2.2.2)
  cases hx : xi (gN σ) a with
  | none =>
    refine am_begin rfl ?_
    refine st_aloadn O dX7_of_0 rfl (q := 1) rfl ?_
    refine st_iloadn O dX7_of_1 rfl (q := 2) rfl ?_
    refine st_call O dX7_of_2 cs_X7_of_2 (q := 5) rfl (am_sipq rfl rfl rfl (Nat.le_of_ble_eq_true rfl) rfl (r := 0) ⟨a, gN σ, _, hn, rfl, rfl, by rw [hx]; rfl⟩ ?_)
    refine st_if_ne O dX7_of_5 (t := 14) rfl (q := 8) rfl (fun c5 => ?_) (fun c5 => ?_)
    · exact absurd c5 (by decide)
    refine st_aloadn O dX7_of_8 rfl (q := 9) rfl ?_
    refine st_iconst O dX7_of_9 am_iconst_m1 (q := 10) rfl ?_
    refine st_call O dX7_of_10 cs_X7_of_10 (q := 13) rfl (am_siq rfl rfl rfl (Nat.le_of_ble_eq_true rfl) rfl ?_)
    refine ⟨_, _, 1, by decide, by decide, rfl, rfl, ?_⟩
    refine am_nrq rfl rfl ?_
    rw [show f_of a b σ = rfs 1 σ from by unfold f_of; rw [hx]] at hK
    exact st_ireturn O dX7_of_13 (hK _ ⟨_, _, _, _, _, _, _, _, _, _, _, _, _, _, _, _, _, _, _, _, rfl, hR, ht, ho, hk⟩)
  | some j =>
    obtain ⟨hj9, rfl⟩ := xi_some hn hx
    by_cases h01 : b = 0 ∨ b = 1
    · have hfo : f_of (nI j) b σ = if b = 0 then (nI (wtc (gL σ) j), σ) else (nI (tu_ (gL σ) j), σ) := by unfold f_of; rw [hx]; exact if_pos h01
      rw [hfo] at hK
      refine am_begin rfl ?_
      refine st_aloadn O dX7_of_0 rfl (q := 1) rfl ?_
      refine st_iloadn O dX7_of_1 rfl (q := 2) rfl ?_
      refine st_call O dX7_of_2 cs_X7_of_2 (q := 5) rfl (am_sipq rfl rfl rfl (Nat.le_of_ble_eq_true rfl) rfl (r := 1) ⟨_, gN σ, _, hn, rfl, rfl, by rw [hx]; rfl⟩ ?_)
      refine st_if_ne O dX7_of_5 (t := 14) rfl (q := 8) rfl (fun c5 => ?_) (fun c5 => ?_)
      · refine st_iloadn O dX7_of_14 rfl (q := 15) rfl ?_
        refine st_iconst O dX7_of_15 am_iconst_0 (q := 16) rfl ?_
        refine st_iconst O dX7_of_16 am_iconst_1 (q := 17) rfl ?_
        refine st_callS O dX7_of_17 cs_X7_of_17 (q := 20) rfl (am_sipq rfl rfl rfl (Nat.le_of_ble_eq_true rfl) rfl (r := 1) ⟨_, _, _, rfl, wiT h01⟩ ?_)
        refine st_if_ne O dX7_of_20 (t := 30) rfl (q := 23) rfl (fun c20 => ?_) (fun c20 => ?_)
        · refine st_aloadn O dX7_of_30 rfl (q := 31) rfl ?_
          refine st_call O dX7_of_31 cs_X7_of_31 (q := 34) rfl (am_siq rfl rfl rfl (Nat.le_of_ble_eq_true rfl) rfl ?_)
          refine ⟨gN σ, gb σ, gw σ, _, _, _, _, _, _, _, _, false, gk σ, gf σ, (fun z => qu (gl σ) (gq σ) z 0), _, _, _, _, _, _, _, rfl, rfl, hb, hR.k2, hL, fun gA' wA' uA' hO => ?_⟩
          refine am_nrp rfl rfl rfl rfl ?_
          rw [gL_smw σ] at hO ⊢
          refine st_iloadn O dX7_of_34 rfl (q := 35) rfl ?_
          refine st_if_ne O dX7_of_35 (t := 47) rfl (q := 38) rfl (fun c35 => ?_) (fun c35 => ?_)
          · refine st_aloadn O dX7_of_47 rfl (q := 48) rfl ?_
            refine st_getr O dX7_of_48 fl_X7_52 rfl rfl rfl (q := 51) rfl ?_
            refine st_iloadn O dX7_of_51 rfl (q := 52) rfl ?_
            refine sn_ald O dX7_of_52 rfl rfl rfl ⟨by omega, by decide⟩ (tu_tn (L := gL σ) hO (g2 j hj9)) (q := 53) rfl ?_
            refine st_ireturn O dX7_of_53 ?_
            first | (rw [if_pos (by first | exact c35 | exact Decidable.of_not_not c35)] at hK; exact hK _ ⟨_, _, _, _, _, _, _, _, _, _, _, _, _, _, _, _, _, _, _, _, rfl, hR, ht, ho, hk⟩) | (rw [if_neg c35] at hK; exact hK _ ⟨_, _, _, _, _, _, _, _, _, _, _, _, _, _, _, _, _, _, _, _, rfl, hR, ht, ho, hk⟩)
          refine st_aloadn O dX7_of_38 rfl (q := 39) rfl ?_
          refine st_getr O dX7_of_39 fl_X7_49 rfl rfl rfl (q := 42) rfl ?_
          refine st_iloadn O dX7_of_42 rfl (q := 43) rfl ?_
          refine sn_ald O dX7_of_43 rfl rfl rfl ⟨by omega, by decide⟩ (tu_wt (L := gL σ) hO (g2 j hj9)) (q := 44) rfl ?_
          refine st_goto O dX7_of_44 (t := 53) rfl ?_
          refine st_ireturn O dX7_of_53 ?_
          first | (rw [if_pos (by first | exact c35 | exact Decidable.of_not_not c35)] at hK; exact hK _ ⟨_, _, _, _, _, _, _, _, _, _, _, _, _, _, _, _, _, _, _, _, rfl, hR, ht, ho, hk⟩) | (rw [if_neg c35] at hK; exact hK _ ⟨_, _, _, _, _, _, _, _, _, _, _, _, _, _, _, _, _, _, _, _, rfl, hR, ht, ho, hk⟩)
        exact absurd c20 (by decide)
      exact absurd c5 (by decide)
    · refine am_begin rfl ?_
      refine st_aloadn O dX7_of_0 rfl (q := 1) rfl ?_
      refine st_iloadn O dX7_of_1 rfl (q := 2) rfl ?_
      refine st_call O dX7_of_2 cs_X7_of_2 (q := 5) rfl (am_sipq rfl rfl rfl (Nat.le_of_ble_eq_true rfl) rfl (r := 1) ⟨_, gN σ, _, hn, rfl, rfl, by rw [hx]; rfl⟩ ?_)
      refine st_if_ne O dX7_of_5 (t := 14) rfl (q := 8) rfl (fun c5 => ?_) (fun c5 => ?_)
      · refine st_iloadn O dX7_of_14 rfl (q := 15) rfl ?_
        refine st_iconst O dX7_of_15 am_iconst_0 (q := 16) rfl ?_
        refine st_iconst O dX7_of_16 am_iconst_1 (q := 17) rfl ?_
        refine st_callS O dX7_of_17 cs_X7_of_17 (q := 20) rfl (am_sipq rfl rfl rfl (Nat.le_of_ble_eq_true rfl) rfl (r := 0) ⟨_, _, _, rfl, wiF h01⟩ ?_)
        refine st_if_ne O dX7_of_20 (t := 30) rfl (q := 23) rfl (fun c20 => ?_) (fun c20 => ?_)
        · exact absurd c20 (by decide)
        refine st_aloadn O dX7_of_23 rfl (q := 24) rfl ?_
        refine st_bipush O dX7_of_24 am_bipush_m2 (q := 26) rfl ?_
        refine st_call O dX7_of_26 cs_X7_of_26 (q := 29) rfl (am_siq rfl rfl rfl (Nat.le_of_ble_eq_true rfl) rfl ?_)
        refine ⟨_, _, 2, by decide, by decide, rfl, rfl, ?_⟩
        refine am_nrq rfl rfl ?_
        rw [show f_of (nI j) b σ = rfs 2 σ from by unfold f_of; rw [hx]; exact if_neg h01] at hK
        exact st_ireturn O dX7_of_29 (hK _ ⟨_, _, _, _, _, _, _, _, _, _, _, _, _, _, _, _, _, _, _, _, rfl, hR, ht, ho, hk⟩)
      exact absurd c5 (by decide)
theorem C_X7_of : am_ctr yX7_of cX7_of 3 (some .int) 3 75 sh_Mod [some 0, none, none] T_X7_of := am_mk (by decide) (Or.inr (Or.inl ⟨rfl, rfl⟩)) (by decide) (by decide) (by decide) fl_X7_ok kc_X7_ok ck_X7_of B_X7_of
def cs_X7_sums : Nat → List am_V → am_D → am_K → Prop := am_cs [(37, am_site 1 [some 0] T_X7_seconds [0, 1, 2, 4, 5, 13, 14, 15] [0, 1, 2, 4, 5, 13, 14, 15, 3, 6, 7, 8, 9, 10, 11, 12]), (42, am_site 1 [some 0] T_X7_run [0, 1, 2, 4, 5, 13, 14, 15] [0, 1, 2, 4, 5, 13, 14, 15, 3, 6, 7, 8, 9, 10, 11, 12]), (78, am_site 1 [some 0] T_X7_cost [0, 1, 2, 3, 4, 5, 13, 14, 15] [0, 1, 2, 3, 4, 5, 13, 14, 15, 6, 7, 8, 9, 10, 11, 12]), (83, am_site 1 [some 0] T_X7_run [0, 1, 2, 4, 5, 13, 14, 15] [0, 1, 2, 4, 5, 13, 14, 15, 3, 6, 7, 8, 9, 10, 11, 12]), (92, am_site 1 [some 0] T_X7_run [0, 1, 2, 4, 5, 13, 14, 15] [0, 1, 2, 4, 5, 13, 14, 15, 3, 6, 7, 8, 9, 10, 11, 12]), (103, am_site 2 [some 0, none] T_X7_no [0, 9] [0, 9, 1, 2, 3, 4, 5, 6, 7, 8, 10, 11, 12, 13, 14, 15])]
theorem cs_X7_sums_37 : cs_X7_sums 37 = am_site 1 [some 0] T_X7_seconds [0, 1, 2, 4, 5, 13, 14, 15] [0, 1, 2, 4, 5, 13, 14, 15, 3, 6, 7, 8, 9, 10, 11, 12] := rfl
theorem cs_X7_sums_42 : cs_X7_sums 42 = am_site 1 [some 0] T_X7_run [0, 1, 2, 4, 5, 13, 14, 15] [0, 1, 2, 4, 5, 13, 14, 15, 3, 6, 7, 8, 9, 10, 11, 12] := rfl
theorem cs_X7_sums_78 : cs_X7_sums 78 = am_site 1 [some 0] T_X7_cost [0, 1, 2, 3, 4, 5, 13, 14, 15] [0, 1, 2, 3, 4, 5, 13, 14, 15, 6, 7, 8, 9, 10, 11, 12] := rfl
theorem cs_X7_sums_83 : cs_X7_sums 83 = am_site 1 [some 0] T_X7_run [0, 1, 2, 4, 5, 13, 14, 15] [0, 1, 2, 4, 5, 13, 14, 15, 3, 6, 7, 8, 9, 10, 11, 12] := rfl
theorem cs_X7_sums_92 : cs_X7_sums 92 = am_site 1 [some 0] T_X7_run [0, 1, 2, 4, 5, 13, 14, 15] [0, 1, 2, 4, 5, 13, 14, 15, 3, 6, 7, 8, 9, 10, 11, 12] := rfl
theorem cs_X7_sums_103 : cs_X7_sums 103 = am_site 2 [some 0, none] T_X7_no [0, 9] [0, 9, 1, 2, 3, 4, 5, 6, 7, 8, 10, 11, 12, 13, 14, 15] := rfl
theorem ck_X7_sums : ∀ X : am_X, am_cx X RX7 cX7_sums 4 4 97 → ∀ pc, am_csok X 4 sh_Mod pc (cs_X7_sums pc) := fun X hX => am_cs_ok (List.forall_mem_cons.mpr ⟨am_callV hX C_X7_seconds mo_X7_seconds rfl lk_X7_164 dX7_sums_37 rfl rfl rfl (by decide), List.forall_mem_cons.mpr ⟨am_callV hX C_X7_run mo_X7_run rfl lk_X7_161 dX7_sums_42 rfl rfl rfl (by decide), List.forall_mem_cons.mpr ⟨am_callV hX C_X7_cost mo_X7_cost rfl lk_X7_168 dX7_sums_78 rfl rfl rfl (by decide), List.forall_mem_cons.mpr ⟨am_callV hX C_X7_run mo_X7_run rfl lk_X7_161 dX7_sums_83 rfl rfl rfl (by decide), List.forall_mem_cons.mpr ⟨am_callV hX C_X7_run mo_X7_run rfl lk_X7_161 dX7_sums_92 rfl rfl rfl (by decide), List.forall_mem_cons.mpr ⟨am_callV hX C_X7_no mo_X7_no rfl lk_X7_66 dX7_sums_103 rfl rfl rfl (by decide), fun _ h => absurd h List.not_mem_nil⟩⟩⟩⟩⟩⟩)
abbrev ok_X7_sums (X : am_X) (K : List Int32 → am_D → Prop) : Prop := am_ok X RX7 cX7_sums 4 sh_Mod fl_X7 kc_X7 none 1 cs_X7_sums K
abbrev aw_X7_sums (X : am_X) (pc : Nat) (ls : am_L) (st : List am_V) (D : am_D) : Prop := am_aw X 4 sh_Mod pc ls st D
abbrev T_X7_sums : am_TT := am_s1 IM f_sums
set_option maxHeartbeats 200000 in
theorem B_X7_sums : ∀ (X : am_X) (is : List Int32) (D : am_D) (K : List Int32 → am_D → Prop), ok_X7_sums X K → T_X7_sums is D K → is.length = (List.filter Option.isNone ([some 0, none] : List (Option Nat))).length → D.length = sh_Mod.length → am_aw X 4 sh_Mod 0 (am_l0 4 [some 0, none] is) [] D := by
  intro X is D K O hT _ _
  obtain ⟨σ, a, ⟨aT, iM, tU, aS, cH, lO, kA, fA, hA, lA, pA, tA, vA, oA, eA, xA, nA, gA, wA, uA, rfl, hR, ht, ho, hk⟩, rfl, hK⟩ := hT
  obtain ⟨hb, hw, hp, hj, hL⟩ := id hR
  have hn : gN σ ≤ 9 := hL.1
  have eN : gN σ = σ.1.1 := rfl
  obtain ⟨g1, g2, g3⟩ := gL_ok hn hp (fun j h => (hj j h).2.2.2)
  have loop : (∀ D', IM σ D' → K [nI (wts (gL σ))] D') → ∀ aS' cH' lO' gA' wA' uA', pO (gL σ) gA' wA' uA' → ∀ d m, (gL σ).length - m = d → m ≤ (gL σ).length → am_aw X 4 sh_Mod 47 [some (.inr 0), some (.inl a), some (.inl (nI (sm (fun i => ((gL σ).getD i (0, 0, 0)).2.2) m))), some (.inl (nI m))] [] [.inl [nI (gN σ), nI (gb σ), nI (gw σ), nI σ.2.2.1.length, aT, nI σ.2.2.2.1.length, iM, nI (gL σ).length, aS', cH', lO', bI false], .inr kA, .inr fA, .inr hA, .inr lA, .inr pA, .inr tA, .inr vA, .inr oA, .inr σ.2.2.2.2, .inr eA, .inr xA, .inr nA, .inr gA', .inr wA', .inr uA'] := by
    intro hK aS' cH' lO' gA' wA' uA' hO d
    induction d with
    | zero =>
      intro m hd hm
      have e : m = (gL σ).length := by omega
      subst e
      refine st_iloadn O dX7_sums_47 rfl (q := 48) rfl ?_
      refine st_aloadn O dX7_sums_48 rfl (q := 49) rfl ?_
      refine st_geti O dX7_sums_49 fl_X7_146 rfl rfl rfl rfl (q := 52) rfl ?_
      refine sn_icmp_ge O dX7_sums_52 (t := 75) rfl (q := 55) rfl (show (gL σ).length < 2 ^ 31 by omega) (show (gL σ).length < 2 ^ 31 by omega) (fun c52 => ?_) (fun c52 => ?_)
      · refine st_iloadn O dX7_sums_75 rfl (q := 76) rfl ?_
        refine st_ireturn O dX7_sums_76 ?_
        exact hK _ ⟨_, _, _, _, _, _, _, _, _, _, _, _, _, _, _, _, _, _, _, _, rfl, hR, ht, ho, hk⟩
      exact absurd c52 (Nat.lt_irrefl _)
    | succ d ih =>
      intro m hd hm
      have hml : m < (gL σ).length := by omega
      have h9 := (ln_lane g1 hml).1
      have ih := ih (m + 1) (by omega) (by omega)
      refine st_iloadn O dX7_sums_47 rfl (q := 48) rfl ?_
      refine st_aloadn O dX7_sums_48 rfl (q := 49) rfl ?_
      refine st_geti O dX7_sums_49 fl_X7_146 rfl rfl rfl rfl (q := 52) rfl ?_
      refine sn_icmp_ge O dX7_sums_52 (t := 75) rfl (q := 55) rfl (by omega) (show (gL σ).length < 2 ^ 31 by omega) (fun c52 => ?_) (fun c52 => ?_)
      · exact absurd hml (Nat.not_lt.mpr c52)
      refine st_iloadn O dX7_sums_55 rfl (q := 56) rfl ?_
      refine st_aloadn O dX7_sums_56 rfl (q := 57) rfl ?_
      refine st_getr O dX7_sums_57 fl_X7_49 rfl rfl rfl (q := 60) rfl ?_
      refine st_aloadn O dX7_sums_60 rfl (q := 61) rfl ?_
      refine st_getr O dX7_sums_61 fl_X7_46 rfl rfl rfl (q := 64) rfl ?_
      refine st_iloadn O dX7_sums_64 rfl (q := 65) rfl ?_
      refine sn_ald O dX7_sums_65 rfl rfl rfl ⟨by omega, by decide⟩ (pO_o (L := gL σ) hO hml) (q := 66) rfl ?_
      refine sn_ald O dX7_sums_66 rfl rfl rfl ⟨(show cr_ (gL σ) m < 9 by omega), by decide⟩ (pO_w (L := gL σ) hO hml) (q := 67) rfl ?_
      refine st_iadd O dX7_sums_67 (by first | exact nI_add _ _ | exact rfl) (q := 68) rfl ?_
      refine st_istoren O dX7_sums_68 rfl (q := 69) rfl ?_
      refine st_iinc O dX7_sums_69 rfl (by first | exact am_ii1 _ | exact rfl) rfl (q := 72) rfl ?_
      refine st_goto O dX7_sums_72 (t := 47) rfl ?_
      exact ih
  refine am_begin rfl ?_
  refine st_iconst O dX7_sums_0 am_iconst_0 (q := 1) rfl ?_
  refine st_istoren O dX7_sums_1 rfl (q := 2) rfl ?_
  refine st_iloadn O dX7_sums_2 rfl (q := 3) rfl ?_
  refine st_table O dX7_sums_3 (os := [33, 38, 74, 79, 88]) rfl rfl ?_
  refine sw_consT (v := 0) (by decide) (t := 36) rfl (lo' := 1) rfl (fun c3_0 => ?_) (fun c3_0 => ?_)
  · refine st_aloadn O dX7_sums_36 rfl (q := 37) rfl ?_
    refine st_call O dX7_sums_37 cs_X7_sums_37 (q := 40) rfl (am_siq rfl rfl rfl (Nat.le_of_ble_eq_true rfl) rfl ?_)
    refine ⟨gN σ, gb σ, gw σ, _, _, _, _, _, _, _, _, false, gk σ, gf σ, (fun z => qu (gl σ) (gq σ) z 0), _, _, _, _, _, _, _, rfl, rfl, hb, hR.k2, hL, fun t1 t2 t3 t4 gA' wA' uA' => ?_⟩
    refine am_nrp rfl rfl rfl rfl ?_
    rw [gL_smw σ]
    refine st_ireturn O dX7_sums_40 ?_
    rw [show f_sums a σ = (nI (tot (gL σ)), σ) from if_pos c3_0] at hK; exact hK _ ⟨_, _, _, _, _, _, _, _, _, _, _, _, _, _, _, _, _, _, _, _, rfl, hR, ht, ho, hk⟩
  refine sw_consT (v := 1) (by decide) (t := 41) rfl (lo' := 2) rfl (fun c3_1 => ?_) (fun c3_1 => ?_)
  · refine st_aloadn O dX7_sums_41 rfl (q := 42) rfl ?_
    refine st_call O dX7_sums_42 cs_X7_sums_42 (q := 45) rfl (am_siq rfl rfl rfl (Nat.le_of_ble_eq_true rfl) rfl ?_)
    refine ⟨gN σ, gb σ, gw σ, _, _, _, _, _, _, _, _, false, gk σ, gf σ, (fun z => qu (gl σ) (gq σ) z 0), _, _, _, _, _, _, _, rfl, rfl, hb, hR.k2, hL, fun gA' wA' uA' hO => ?_⟩
    refine am_nrp rfl rfl rfl rfl ?_
    rw [gL_smw σ] at hO ⊢
    refine st_iconst O dX7_sums_45 am_iconst_0 (q := 46) rfl ?_
    refine st_istoren O dX7_sums_46 rfl (q := 47) rfl ?_
    rw [show f_sums a σ = (nI (wts (gL σ)), σ) from (if_neg c3_0).trans (if_pos c3_1)] at hK; exact loop hK _ _ _ _ _ _ hO _ 0 rfl (Nat.zero_le _)
  refine sw_consT (v := 2) (by decide) (t := 77) rfl (lo' := 3) rfl (fun c3_2 => ?_) (fun c3_2 => ?_)
  · refine st_aloadn O dX7_sums_77 rfl (q := 78) rfl ?_
    refine st_call O dX7_sums_78 cs_X7_sums_78 (q := 81) rfl (am_siq rfl rfl rfl (Nat.le_of_ble_eq_true rfl) rfl ?_)
    refine ⟨gN σ, gb σ, gw σ, _, _, _, _, _, _, _, _, false, gk σ, gf σ, gh σ, (fun z => qu (gl σ) (gq σ) z 0), _, _, _, _, _, _, _, _, rfl, rfl, hb, hR.k2, hR.h2, hL, fun t1 t2 t3 t4 gA' wA' uA' => ?_⟩
    refine am_nrp rfl rfl rfl rfl ?_
    rw [gL_smw σ]
    refine st_ireturn O dX7_sums_81 ?_
    rw [show f_sums a σ = (nI (gC σ), σ) from (if_neg c3_0).trans ((if_neg c3_1).trans (if_pos c3_2))] at hK; exact hK _ ⟨_, _, _, _, _, _, _, _, _, _, _, _, _, _, _, _, _, _, _, _, rfl, hR, ht, ho, hk⟩
  refine sw_consT (v := 3) (by decide) (t := 82) rfl (lo' := 4) rfl (fun c3_3 => ?_) (fun c3_3 => ?_)
  · refine st_aloadn O dX7_sums_82 rfl (q := 83) rfl ?_
    refine st_call O dX7_sums_83 cs_X7_sums_83 (q := 86) rfl (am_siq rfl rfl rfl (Nat.le_of_ble_eq_true rfl) rfl ?_)
    refine ⟨gN σ, gb σ, gw σ, _, _, _, _, _, _, _, _, false, gk σ, gf σ, (fun z => qu (gl σ) (gq σ) z 0), _, _, _, _, _, _, _, rfl, rfl, hb, hR.k2, hL, fun gA' wA' uA' hO => ?_⟩
    refine am_nrp rfl rfl rfl rfl ?_
    rw [gL_smw σ]
    refine st_aloadn O dX7_sums_86 rfl (q := 87) rfl ?_
    refine st_geti O dX7_sums_87 fl_X7_152 rfl rfl rfl rfl (q := 90) rfl ?_
    refine st_ireturn O dX7_sums_90 ?_
    rw [show f_sums a σ = (nI (stt (gL σ)).2.1, σ) from (if_neg c3_0).trans ((if_neg c3_1).trans ((if_neg c3_2).trans (if_pos c3_3)))] at hK; exact hK _ ⟨_, _, _, _, _, _, _, _, _, _, _, _, _, _, _, _, _, _, _, _, rfl, hR, ht, ho, hk⟩
  refine sw_consT (v := 4) (by decide) (t := 91) rfl (lo' := 5) rfl (fun c3_4 => ?_) (fun c3_4 => ?_)
  · refine st_aloadn O dX7_sums_91 rfl (q := 92) rfl ?_
    refine st_call O dX7_sums_92 cs_X7_sums_92 (q := 95) rfl (am_siq rfl rfl rfl (Nat.le_of_ble_eq_true rfl) rfl ?_)
    refine ⟨gN σ, gb σ, gw σ, _, _, _, _, _, _, _, _, false, gk σ, gf σ, (fun z => qu (gl σ) (gq σ) z 0), _, _, _, _, _, _, _, rfl, rfl, hb, hR.k2, hL, fun gA' wA' uA' hO => ?_⟩
    refine am_nrp rfl rfl rfl rfl ?_
    rw [gL_smw σ]
    refine st_aloadn O dX7_sums_95 rfl (q := 96) rfl ?_
    refine st_geti O dX7_sums_96 fl_X7_155 rfl rfl rfl rfl (q := 99) rfl ?_
    refine st_ireturn O dX7_sums_99 ?_
    rw [show f_sums a σ = (nI (stt (gL σ)).2.2.2, σ) from (if_neg c3_0).trans ((if_neg c3_1).trans ((if_neg c3_2).trans ((if_neg c3_3).trans (if_pos c3_4))))] at hK; exact hK _ ⟨_, _, _, _, _, _, _, _, _, _, _, _, _, _, _, _, _, _, _, _, rfl, hR, ht, ho, hk⟩
  refine sw_nilT (t := 100) rfl ?_
  refine st_aloadn O dX7_sums_100 rfl (q := 101) rfl ?_
  refine st_bipush O dX7_sums_101 am_bipush_m2 (q := 103) rfl ?_
  refine st_call O dX7_sums_103 cs_X7_sums_103 (q := 106) rfl (am_siq rfl rfl rfl (Nat.le_of_ble_eq_true rfl) rfl ?_)
  refine ⟨_, _, 2, by decide, by decide, rfl, rfl, ?_⟩
  refine am_nrq rfl rfl ?_
  rw [show f_sums a σ = rfs 2 σ from (if_neg c3_0).trans ((if_neg c3_1).trans ((if_neg c3_2).trans ((if_neg c3_3).trans (if_neg c3_4))))] at hK
  exact st_ireturn O dX7_sums_106 (hK _ ⟨_, _, _, _, _, _, _, _, _, _, _, _, _, _, _, _, _, _, _, _, rfl, hR, ht, ho, hk⟩)
theorem C_X7_sums : am_ctr yX7_sums cX7_sums 4 (some .int) 4 97 sh_Mod [some 0, none] T_X7_sums := am_mk (by decide) (Or.inr (Or.inl ⟨rfl, rfl⟩)) (by decide) (by decide) (by decide) fl_X7_ok kc_X7_ok ck_X7_sums B_X7_sums
def cs_X7_queue : Nat → List am_V → am_D → am_K → Prop := am_cs [(3, am_site 3 [none, none, none] T_X7_within [] []), (11, am_site 2 [some 0, none] T_X7_no [0, 9] [0, 9, 1, 2, 3, 4, 5, 6, 7, 8, 10, 11, 12, 13, 14, 15]), (22, am_site 2 [some 0, none] T_X7_no [0, 9] [0, 9, 1, 2, 3, 4, 5, 6, 7, 8, 10, 11, 12, 13, 14, 15]), (37, am_site 2 [some 0, none] T_X7_no [0, 9] [0, 9, 1, 2, 3, 4, 5, 6, 7, 8, 10, 11, 12, 13, 14, 15]), (42, am_site 1 [some 0] T_X7_run [0, 1, 2, 4, 5, 13, 14, 15] [0, 1, 2, 4, 5, 13, 14, 15, 3, 6, 7, 8, 9, 10, 11, 12]), (47, am_site 2 [some 0, none] T_X7_inLane [0, 4, 5] [0, 4, 5, 1, 2, 3, 6, 7, 8, 9, 10, 11, 12, 13, 14, 15])]
theorem cs_X7_queue_3 : cs_X7_queue 3 = am_site 3 [none, none, none] T_X7_within [] [] := rfl
theorem cs_X7_queue_11 : cs_X7_queue 11 = am_site 2 [some 0, none] T_X7_no [0, 9] [0, 9, 1, 2, 3, 4, 5, 6, 7, 8, 10, 11, 12, 13, 14, 15] := rfl
theorem cs_X7_queue_22 : cs_X7_queue 22 = am_site 2 [some 0, none] T_X7_no [0, 9] [0, 9, 1, 2, 3, 4, 5, 6, 7, 8, 10, 11, 12, 13, 14, 15] := rfl
theorem cs_X7_queue_37 : cs_X7_queue 37 = am_site 2 [some 0, none] T_X7_no [0, 9] [0, 9, 1, 2, 3, 4, 5, 6, 7, 8, 10, 11, 12, 13, 14, 15] := rfl
theorem cs_X7_queue_42 : cs_X7_queue 42 = am_site 1 [some 0] T_X7_run [0, 1, 2, 4, 5, 13, 14, 15] [0, 1, 2, 4, 5, 13, 14, 15, 3, 6, 7, 8, 9, 10, 11, 12] := rfl
theorem cs_X7_queue_47 : cs_X7_queue 47 = am_site 2 [some 0, none] T_X7_inLane [0, 4, 5] [0, 4, 5, 1, 2, 3, 6, 7, 8, 9, 10, 11, 12, 13, 14, 15] := rfl
theorem ck_X7_queue : ∀ X : am_X, am_cx X RX7 cX7_queue 5 3 75 → ∀ pc, am_csok X 5 sh_Mod pc (cs_X7_queue pc) := fun X hX => am_cs_ok (List.forall_mem_cons.mpr ⟨am_callS hX C_X7_within mo_X7_within rfl lk_X7_62 dX7_queue_3 rfl (by decide), List.forall_mem_cons.mpr ⟨am_callV hX C_X7_no mo_X7_no rfl lk_X7_66 dX7_queue_11 rfl rfl rfl (by decide), List.forall_mem_cons.mpr ⟨am_callV hX C_X7_no mo_X7_no rfl lk_X7_66 dX7_queue_22 rfl rfl rfl (by decide), List.forall_mem_cons.mpr ⟨am_callV hX C_X7_no mo_X7_no rfl lk_X7_66 dX7_queue_37 rfl rfl rfl (by decide), List.forall_mem_cons.mpr ⟨am_callV hX C_X7_run mo_X7_run rfl lk_X7_161 dX7_queue_42 rfl rfl rfl (by decide), List.forall_mem_cons.mpr ⟨am_callV hX C_X7_inLane mo_X7_inLane rfl lk_X7_93 dX7_queue_47 rfl rfl rfl (by decide), fun _ h => absurd h List.not_mem_nil⟩⟩⟩⟩⟩⟩)
abbrev ok_X7_queue (X : am_X) (K : List Int32 → am_D → Prop) : Prop := am_ok X RX7 cX7_queue 5 sh_Mod fl_X7 kc_X7 none 1 cs_X7_queue K
abbrev aw_X7_queue (X : am_X) (pc : Nat) (ls : am_L) (st : List am_V) (D : am_D) : Prop := am_aw X 5 sh_Mod pc ls st D
abbrev T_X7_queue : am_TT := am_s2 IM f_queue
set_option maxHeartbeats 200000 in
theorem B_X7_queue : ∀ (X : am_X) (is : List Int32) (D : am_D) (K : List Int32 → am_D → Prop), ok_X7_queue X K → T_X7_queue is D K → is.length = (List.filter Option.isNone ([some 0, none, none] : List (Option Nat))).length → D.length = sh_Mod.length → am_aw X 5 sh_Mod 0 (am_l0 5 [some 0, none, none] is) [] D := by
  intro X is D K O hT _ _
  obtain ⟨σ, a, b, ⟨aT, iM, tU, aS, cH, lO, kA, fA, hA, lA, pA, tA, vA, oA, eA, xA, nA, gA, wA, uA, rfl, hR, ht, ho, hk⟩, rfl, hK⟩ := hT
  obtain ⟨hb, hw, hp, hj, hL⟩ := id hR
  have hn : gN σ ≤ 9 := hL.1
  have eN : gN σ = σ.1.1 := rfl
  obtain ⟨g1, g2, g3⟩ := gL_ok hn hp (fun j h => (hj j h).2.2.2)
  by_cases hor : a = 0 ∨ a = 1
  · have main : ∀ z v, z < 2 → a = nI z → b = nI v → v ≤ gN σ → (∀ D', IM σ D' → K [nI (((gq σ).filter (fun c => decide (gl σ c = z))).length) - nI (gnZ (gL σ) z v)] D') → am_aw X 5 sh_Mod 41 [some (.inr 0), some (.inl a), some (.inl b), none, none] [] [.inl [nI (gN σ), nI (gb σ), nI (gw σ), nI σ.2.2.1.length, aT, nI σ.2.2.2.1.length, iM, tU, aS, cH, lO, bI false], .inr kA, .inr fA, .inr hA, .inr lA, .inr pA, .inr tA, .inr vA, .inr oA, .inr σ.2.2.2.2, .inr eA, .inr xA, .inr nA, .inr gA, .inr wA, .inr uA] := by
      intro z v hz ha hbv hv hK2
      subst ha
      subst hbv
      have loop : ∀ tU' aS' cH' lO' gA' wA' uA', pO (gL σ) gA' wA' uA' → ∀ d m, v - m = d → m ≤ v → am_aw X 5 sh_Mod 54 [some (.inr 0), some (.inl (nI z)), some (.inl (nI v)), some (.inl (nI (((gq σ).filter (fun c => decide (gl σ c = z))).length) - nI (gn (gL σ) z m))), some (.inl (nI m))] [] [.inl [nI (gN σ), nI (gb σ), nI (gw σ), nI σ.2.2.1.length, aT, nI σ.2.2.2.1.length, iM, tU', aS', cH', lO', bI false], .inr kA, .inr fA, .inr hA, .inr lA, .inr pA, .inr tA, .inr vA, .inr oA, .inr σ.2.2.2.2, .inr eA, .inr xA, .inr nA, .inr gA', .inr wA', .inr uA'] := by
        intro tU' aS' cH' lO' gA' wA' uA' hO d
        induction d with
        | zero =>
          intro m hd hm
          have e : m = v := by omega
          subst e
          refine st_iload O dX7_queue_54 rfl (q := 56) rfl ?_
          refine st_iloadn O dX7_queue_56 rfl (q := 57) rfl ?_
          refine sn_icmp_ge O dX7_queue_57 (t := 85) rfl (q := 60) rfl (by omega) (by omega) (fun c57 => ?_) (fun c57 => ?_)
          · refine st_iloadn O dX7_queue_85 rfl (q := 86) rfl ?_
            refine st_ireturn O dX7_queue_86 ?_
            exact hK2 _ ⟨_, _, _, _, _, _, _, _, _, _, _, _, _, _, _, _, _, _, _, _, rfl, hR, ht, ho, hk⟩
          omega
        | succ d ih =>
          intro m hd hm
          have hml : m < (gL σ).length := by omega
          obtain ⟨e1, e2, e3⟩ := ln_lane g1 hml
          have hla : lA (cr_ (gL σ) m) = nI (ln_ (gL σ) m) := by rw [e2]; exact ((hL.2.1 _ (hj _ e1).2.2.2).2 _ (qu_mem hp e1)).2.1
          have ih := ih (m + 1) (by omega) (by omega)
          have e9 : cr_ (gL σ) m < 9 := by omega
          by_cases hc : ln_ (gL σ) m = z
          · rw [show gn (gL σ) z (m + 1) = gn (gL σ) z m + 1 from congrArg (gn (gL σ) z m + ·) (if_pos hc), ← sub_dec] at ih
            refine st_iload O dX7_queue_54 rfl (q := 56) rfl ?_
            refine st_iloadn O dX7_queue_56 rfl (q := 57) rfl ?_
            refine sn_icmp_ge O dX7_queue_57 (t := 85) rfl (q := 60) rfl (by omega) (by omega) (fun c57 => ?_) (fun c57 => ?_)
            · omega
            refine st_aloadn O dX7_queue_60 rfl (q := 61) rfl ?_
            refine st_getr O dX7_queue_61 fl_X7_19 rfl rfl rfl (q := 64) rfl ?_
            refine st_aloadn O dX7_queue_64 rfl (q := 65) rfl ?_
            refine st_getr O dX7_queue_65 fl_X7_46 rfl rfl rfl (q := 68) rfl ?_
            refine st_iload O dX7_queue_68 rfl (q := 70) rfl ?_
            refine sn_ald O dX7_queue_70 rfl rfl rfl ⟨by omega, by decide⟩ (pO_o (L := gL σ) hO hml) (q := 71) rfl ?_
            refine sn_ald O dX7_queue_71 rfl rfl rfl ⟨by omega, by decide⟩ hla (q := 72) rfl ?_
            refine st_iloadn O dX7_queue_72 rfl (q := 73) rfl ?_
            refine sn_icmp_ne O dX7_queue_73 (t := 79) rfl (q := 76) rfl (Nat.lt_trans e3 (by decide)) (by omega) (fun c73 => ?_) (fun c73 => ?_)
            · exact absurd hc c73
            refine st_iinc O dX7_queue_76 rfl rfl rfl (q := 79) rfl ?_
            refine st_iinc O dX7_queue_79 rfl (by first | exact am_ii1 _ | exact rfl) rfl (q := 82) rfl ?_
            refine st_goto O dX7_queue_82 (t := 54) rfl ?_
            exact ih
          · rw [show gn (gL σ) z (m + 1) = gn (gL σ) z m from congrArg (gn (gL σ) z m + ·) (if_neg hc)] at ih
            refine st_iload O dX7_queue_54 rfl (q := 56) rfl ?_
            refine st_iloadn O dX7_queue_56 rfl (q := 57) rfl ?_
            refine sn_icmp_ge O dX7_queue_57 (t := 85) rfl (q := 60) rfl (by omega) (by omega) (fun c57 => ?_) (fun c57 => ?_)
            · omega
            refine st_aloadn O dX7_queue_60 rfl (q := 61) rfl ?_
            refine st_getr O dX7_queue_61 fl_X7_19 rfl rfl rfl (q := 64) rfl ?_
            refine st_aloadn O dX7_queue_64 rfl (q := 65) rfl ?_
            refine st_getr O dX7_queue_65 fl_X7_46 rfl rfl rfl (q := 68) rfl ?_
            refine st_iload O dX7_queue_68 rfl (q := 70) rfl ?_
            refine sn_ald O dX7_queue_70 rfl rfl rfl ⟨by omega, by decide⟩ (pO_o (L := gL σ) hO hml) (q := 71) rfl ?_
            refine sn_ald O dX7_queue_71 rfl rfl rfl ⟨by omega, by decide⟩ hla (q := 72) rfl ?_
            refine st_iloadn O dX7_queue_72 rfl (q := 73) rfl ?_
            refine sn_icmp_ne O dX7_queue_73 (t := 79) rfl (q := 76) rfl (Nat.lt_trans e3 (by decide)) (by omega) (fun c73 => ?_) (fun c73 => ?_)
            · refine st_iinc O dX7_queue_79 rfl (by first | exact am_ii1 _ | exact rfl) rfl (q := 82) rfl ?_
              refine st_goto O dX7_queue_82 (t := 54) rfl ?_
              exact ih
            exact absurd c73 hc
      refine st_aloadn O dX7_queue_41 rfl (q := 42) rfl ?_
      refine st_call O dX7_queue_42 cs_X7_queue_42 (q := 45) rfl (am_siq rfl rfl rfl (Nat.le_of_ble_eq_true rfl) rfl ?_)
      refine ⟨gN σ, gb σ, gw σ, _, _, _, _, _, _, _, _, false, gk σ, gf σ, (fun z => qu (gl σ) (gq σ) z 0), _, _, _, _, _, _, _, rfl, rfl, hb, hR.k2, hL, fun gA' wA' uA' hO => ?_⟩
      refine am_nrp rfl rfl rfl rfl ?_
      rw [gL_smw σ] at hO
      refine st_aloadn O dX7_queue_45 rfl (q := 46) rfl ?_
      refine st_iloadn O dX7_queue_46 rfl (q := 47) rfl ?_
      refine st_call O dX7_queue_47 cs_X7_queue_47 (q := 50) rfl (am_sipq rfl rfl rfl (Nat.le_of_ble_eq_true rfl) rfl (r := nI (((gq σ).filter (fun c => decide (gl σ c = z))).length) - nI (gn (gL σ) z 0)) ⟨z, gN σ, _, (fun z => qu (gl σ) (gq σ) z 0), _, _, rfl, hL, hz, rfl, by rw [← qu_0]; exact pk_sub (Nat.zero_le _)⟩ ?_)
      refine st_istoren O dX7_queue_50 rfl (q := 51) rfl ?_
      refine st_iconst O dX7_queue_51 am_iconst_0 (q := 52) rfl ?_
      refine st_istore O dX7_queue_52 rfl (q := 54) rfl ?_
      exact loop _ _ _ _ _ _ _ hO v 0 rfl (Nat.zero_le _)
    refine am_begin rfl ?_
    refine st_iloadn O dX7_queue_0 rfl (q := 1) rfl ?_
    refine st_iconst O dX7_queue_1 am_iconst_0 (q := 2) rfl ?_
    refine st_iconst O dX7_queue_2 am_iconst_1 (q := 3) rfl ?_
    refine st_callS O dX7_queue_3 cs_X7_queue_3 (q := 6) rfl (am_sipq rfl rfl rfl (Nat.le_of_ble_eq_true rfl) rfl (r := 1) ⟨_, _, _, rfl, wiT hor⟩ ?_)
    refine st_if_ne O dX7_queue_6 (t := 15) rfl (q := 9) rfl (fun c6 => ?_) (fun c6 => ?_)
    · refine st_iloadn O dX7_queue_15 rfl (q := 16) rfl ?_
      refine st_if_ge O dX7_queue_16 (t := 26) rfl (q := 19) rfl (fun c16 => ?_) (fun c16 => ?_)
      · refine st_iloadn O dX7_queue_26 rfl (q := 27) rfl ?_
        refine st_aloadn O dX7_queue_27 rfl (q := 28) rfl ?_
        refine st_geti O dX7_queue_28 fl_X7_59 rfl rfl rfl rfl (q := 31) rfl ?_
        refine st_icmp_le O dX7_queue_31 (t := 41) rfl (q := 34) rfl (fun c31 => ?_) (fun c31 => ?_)
        · obtain ⟨v, hv, e⟩ := (le_iff (gN σ) (by omega)).mp ⟨c16, c31⟩
          obtain ⟨z, hz, ha⟩ : ∃ z, z < 2 ∧ a = nI z := by
            rcases hor with h | h
            · exact ⟨0, by decide, h⟩
            · exact ⟨1, by decide, h⟩
          rw [show f_queue a b σ = (nI (((gq σ).filter (fun c => gl σ c = a.toNatClampNeg)).length) - nI (gnZ (gL σ) a.toNatClampNeg b.toNatClampNeg), σ) from (if_pos hor).trans ((if_pos c16).trans (if_pos c31)), ha, e, nI_clamp (by omega), nI_clamp (by omega)] at hK
          exact main z v hz ha e hv hK
        refine st_aloadn O dX7_queue_34 rfl (q := 35) rfl ?_
        refine st_bipush O dX7_queue_35 am_bipush_m6 (q := 37) rfl ?_
        refine st_call O dX7_queue_37 cs_X7_queue_37 (q := 40) rfl (am_siq rfl rfl rfl (Nat.le_of_ble_eq_true rfl) rfl ?_)
        refine ⟨_, _, 6, by decide, by decide, rfl, rfl, ?_⟩
        refine am_nrq rfl rfl ?_
        rw [show f_queue a b σ = rfs 6 σ from (if_pos hor).trans ((if_pos c16).trans (if_neg c31))] at hK
        exact st_ireturn O dX7_queue_40 (hK _ ⟨_, _, _, _, _, _, _, _, _, _, _, _, _, _, _, _, _, _, _, _, rfl, hR, ht, ho, hk⟩)
      refine st_aloadn O dX7_queue_19 rfl (q := 20) rfl ?_
      refine st_bipush O dX7_queue_20 am_bipush_m4 (q := 22) rfl ?_
      refine st_call O dX7_queue_22 cs_X7_queue_22 (q := 25) rfl (am_siq rfl rfl rfl (Nat.le_of_ble_eq_true rfl) rfl ?_)
      refine ⟨_, _, 4, by decide, by decide, rfl, rfl, ?_⟩
      refine am_nrq rfl rfl ?_
      rw [show f_queue a b σ = rfs 4 σ from (if_pos hor).trans (if_neg c16)] at hK
      exact st_ireturn O dX7_queue_25 (hK _ ⟨_, _, _, _, _, _, _, _, _, _, _, _, _, _, _, _, _, _, _, _, rfl, hR, ht, ho, hk⟩)
    exact absurd c6 (by decide)
  · refine am_begin rfl ?_
    refine st_iloadn O dX7_queue_0 rfl (q := 1) rfl ?_
    refine st_iconst O dX7_queue_1 am_iconst_0 (q := 2) rfl ?_
    refine st_iconst O dX7_queue_2 am_iconst_1 (q := 3) rfl ?_
    refine st_callS O dX7_queue_3 cs_X7_queue_3 (q := 6) rfl (am_sipq rfl rfl rfl (Nat.le_of_ble_eq_true rfl) rfl (r := 0) ⟨_, _, _, rfl, wiF hor⟩ ?_)
    refine st_if_ne O dX7_queue_6 (t := 15) rfl (q := 9) rfl (fun c6 => ?_) (fun c6 => ?_)
    · exact absurd c6 (by decide)
    refine st_aloadn O dX7_queue_9 rfl (q := 10) rfl ?_
    refine st_iconst O dX7_queue_10 am_iconst_m1 (q := 11) rfl ?_
    refine st_call O dX7_queue_11 cs_X7_queue_11 (q := 14) rfl (am_siq rfl rfl rfl (Nat.le_of_ble_eq_true rfl) rfl ?_)
    refine ⟨_, _, 1, by decide, by decide, rfl, rfl, ?_⟩
    refine am_nrq rfl rfl ?_
    rw [show f_queue a b σ = rfs 1 σ from if_neg hor] at hK
    exact st_ireturn O dX7_queue_14 (hK _ ⟨_, _, _, _, _, _, _, _, _, _, _, _, _, _, _, _, _, _, _, _, rfl, hR, ht, ho, hk⟩)
theorem C_X7_queue : am_ctr yX7_queue cX7_queue 5 (some .int) 3 75 sh_Mod [some 0, none, none] T_X7_queue := am_mk (by decide) (Or.inr (Or.inl ⟨rfl, rfl⟩)) (by decide) (by decide) (by decide) fl_X7_ok kc_X7_ok ck_X7_queue B_X7_queue
