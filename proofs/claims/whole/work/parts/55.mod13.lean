/-! the reference's calls: letter, numbers told, images, counts -/
abbrev sh_MWR : am_S := [.inr (6, [.inl 0, .inr 1, .inr 2, .inr 9, .inr 3, .inr 4, .inl 1, .inl 2, .inl 3, .inr 10, .inl 4, .inr 11, .inl 5, .inr 5, .inr 12, .inl 6, .inr 13, .inr 14, .inr 15, .inl 7, .inr 6, .inr 7, .inr 8, .inl 8, .inl 9, .inl 10, .inl 11]), .inl 9, .inl 9, .inl 9, .inl 9, .inl 12, .inl 9, .inl 9, .inl 9]
def cs_X7_letter : Nat → List am_V → am_D → am_K → Prop := am_cs [(7, am_site 2 [some 0, none] T_X7_no [0, 9] [0, 9, 1, 2, 3, 4, 5, 6, 7, 8, 10, 11, 12, 13, 14, 15]), (30, am_site 2 [some 0, none] T_X7_no [0, 9] [0, 9, 1, 2, 3, 4, 5, 6, 7, 8, 10, 11, 12, 13, 14, 15])]
theorem cs_X7_letter_7 : cs_X7_letter 7 = am_site 2 [some 0, none] T_X7_no [0, 9] [0, 9, 1, 2, 3, 4, 5, 6, 7, 8, 10, 11, 12, 13, 14, 15] := rfl
theorem cs_X7_letter_30 : cs_X7_letter 30 = am_site 2 [some 0, none] T_X7_no [0, 9] [0, 9, 1, 2, 3, 4, 5, 6, 7, 8, 10, 11, 12, 13, 14, 15] := rfl
theorem ck_X7_letter : ∀ X : am_X, am_cx X RX7 cX7_letter 2 1 21 → ∀ pc, am_csok X 2 sh_Mod pc (cs_X7_letter pc) := fun X hX => am_cs_ok (List.forall_mem_cons.mpr ⟨am_callV hX C_X7_no mo_X7_no rfl lk_X7_66 dX7_letter_7 rfl rfl rfl (by decide), List.forall_mem_cons.mpr ⟨am_callV hX C_X7_no mo_X7_no rfl lk_X7_66 dX7_letter_30 rfl rfl rfl (by decide), fun _ h => absurd h List.not_mem_nil⟩⟩)
abbrev ok_X7_letter (X : am_X) (K : List Int32 → am_D → Prop) : Prop := am_ok X RX7 cX7_letter 2 sh_Mod fl_X7 kc_X7 none 1 cs_X7_letter K
abbrev aw_X7_letter (X : am_X) (pc : Nat) (ls : am_L) (st : List am_V) (D : am_D) : Prop := am_aw X 2 sh_Mod pc ls st D
abbrev T_X7_letter : am_TT := am_s1 IM f_letter
set_option maxHeartbeats 200000 in
theorem B_X7_letter : ∀ (X : am_X) (is : List Int32) (D : am_D) (K : List Int32 → am_D → Prop), ok_X7_letter X K → T_X7_letter is D K → is.length = (List.filter Option.isNone ([some 0, none] : List (Option Nat))).length → D.length = sh_Mod.length → am_aw X 2 sh_Mod 0 (am_l0 2 [some 0, none] is) [] D := by
  intro X is D K O hT _ _
  obtain ⟨σ, a, ⟨aT, iM, tU, aS, cH, lO, kA, fA, hA, lA, pA, tA, vA, oA, eA, xA, nA, gA, wA, uA, rfl, hR, ht, ho, hk⟩, rfl, hK⟩ := hT
  obtain ⟨hb, hw, hp, hj, hL⟩ := id hR
  have hn : gN σ ≤ 9 := hL.1
  have eN : gN σ = σ.1.1 := rfl
  obtain ⟨t1, t2, t3⟩ := id ht
  refine am_begin rfl ?_
  refine st_iloadn O dX7_letter_0 rfl (q := 1) rfl ?_
  refine st_if_ge O dX7_letter_1 (t := 11) rfl (q := 4) rfl (fun c1 => ?_) (fun c1 => ?_)
  · refine st_iloadn O dX7_letter_11 rfl (q := 12) rfl ?_
    refine st_sipush O dX7_letter_12 am_sipush_255 (q := 15) rfl ?_
    refine st_icmp_gt O dX7_letter_15 (t := 27) rfl (q := 18) rfl (fun c15 => ?_) (fun c15 => ?_)
    · refine st_aloadn O dX7_letter_27 rfl (q := 28) rfl ?_
      refine st_bipush O dX7_letter_28 am_bipush_m6 (q := 30) rfl ?_
      refine st_call O dX7_letter_30 cs_X7_letter_30 (q := 33) rfl (am_siq rfl rfl rfl (Nat.le_of_ble_eq_true rfl) rfl ?_)
      refine ⟨_, _, 6, by decide, by decide, rfl, rfl, ?_⟩
      refine am_nrq rfl rfl ?_
      rw [show f_letter a σ = rfs 6 σ from (if_pos c1).trans (by first | exact if_pos c15 | exact (if_neg c15).trans (if_pos (by omega)))] at hK
      exact st_ireturn O dX7_letter_33 (hK _ ⟨_, _, _, _, _, _, _, _, _, _, _, _, _, _, _, _, _, _, _, _, rfl, hR, ht, ho, hk⟩)
    refine st_aloadn O dX7_letter_18 rfl (q := 19) rfl ?_
    refine st_geti O dX7_letter_19 fl_X7_70 rfl rfl rfl rfl (q := 22) rfl ?_
    refine st_bipush O dX7_letter_22 am_bipush_96 (q := 24) rfl ?_
    refine sn_icmp_ne O dX7_letter_24 (t := 34) rfl (q := 27) rfl (by omega) (by omega) (fun c24 => ?_) (fun c24 => ?_)
    · refine st_aloadn O dX7_letter_34 rfl (q := 35) rfl ?_
      refine st_getr O dX7_letter_35 fl_X7_25 rfl rfl rfl (q := 38) rfl ?_
      refine st_aloadn O dX7_letter_38 rfl (q := 39) rfl ?_
      refine st_dup O dX7_letter_39 (q := 40) rfl ?_
      refine st_geti O dX7_letter_40 fl_X7_70 rfl rfl rfl rfl (q := 43) rfl ?_
      refine st_dup_x1 O dX7_letter_43 (q := 44) rfl ?_
      refine st_iconst O dX7_letter_44 am_iconst_1 (q := 45) rfl ?_
      refine st_iadd O dX7_letter_45 (by first | exact nI_add _ _ | exact rfl) (q := 46) rfl ?_
      refine st_puti O dX7_letter_46 fl_X7_70 rfl rfl rfl rfl rfl (q := 49) rfl ?_
      refine st_iloadn O dX7_letter_49 rfl (q := 50) rfl ?_
      refine sn_ast O dX7_letter_50 rfl rfl rfl ⟨by omega, by decide⟩ rfl rfl (q := 51) rfl ?_
      refine st_aloadn O dX7_letter_51 rfl (q := 52) rfl ?_
      refine st_geti O dX7_letter_52 fl_X7_70 rfl rfl rfl rfl (q := 55) rfl ?_
      refine st_ireturn O dX7_letter_55 ?_
      obtain ⟨j, hjj, rfl⟩ := nI_of (Int32.not_lt.mpr c1)
      have h255 : ¬ 255 < j := fun z => c15 ((nI_ltI (by decide) hjj).mpr z)
      rw [show f_letter (nI j) σ = (nI (σ.2.2.1.length + 1), (σ.1, σ.2.1, σ.2.2.1 ++ [(nI j).toNatClampNeg], σ.2.2.2)) from (if_pos c1).trans ((if_neg c15).trans (if_neg (by omega))), nI_clamp hjj] at hK
      refine hK _ ⟨_, _, _, _, _, _, _, _, _, _, _, _, _, _, _, _, _, _, _, _, by rw [List.length_append]; rfl, hR, ⟨by rw [List.length_append]; simp only [List.length_cons, List.length_nil]; omega, fun i hi => ?_, fun z hz => ?_⟩, ho, hk⟩
      · rw [List.length_append] at hi
        by_cases e : i = σ.2.2.1.length
        · rw [e, pk_us, ga_last rfl]
        · have : i < σ.2.2.1.length := by simp only [List.length_cons, List.length_nil] at hi; omega
          rw [pk_un e, t2 i this, ga_left this]
      · rcases List.mem_append.mp hz with q | q
        · exact t3 z q
        · rw [List.mem_singleton.mp q]; omega
    refine st_aloadn O dX7_letter_27 rfl (q := 28) rfl ?_
    refine st_bipush O dX7_letter_28 am_bipush_m6 (q := 30) rfl ?_
    refine st_call O dX7_letter_30 cs_X7_letter_30 (q := 33) rfl (am_siq rfl rfl rfl (Nat.le_of_ble_eq_true rfl) rfl ?_)
    refine ⟨_, _, 6, by decide, by decide, rfl, rfl, ?_⟩
    refine am_nrq rfl rfl ?_
    rw [show f_letter a σ = rfs 6 σ from (if_pos c1).trans (by first | exact if_pos c15 | exact (if_neg c15).trans (if_pos (by omega)))] at hK
    exact st_ireturn O dX7_letter_33 (hK _ ⟨_, _, _, _, _, _, _, _, _, _, _, _, _, _, _, _, _, _, _, _, rfl, hR, ht, ho, hk⟩)
  refine st_aloadn O dX7_letter_4 rfl (q := 5) rfl ?_
  refine st_bipush O dX7_letter_5 am_bipush_m4 (q := 7) rfl ?_
  refine st_call O dX7_letter_7 cs_X7_letter_7 (q := 10) rfl (am_siq rfl rfl rfl (Nat.le_of_ble_eq_true rfl) rfl ?_)
  refine ⟨_, _, 4, by decide, by decide, rfl, rfl, ?_⟩
  refine am_nrq rfl rfl ?_
  rw [show f_letter a σ = rfs 4 σ from if_neg c1] at hK
  exact st_ireturn O dX7_letter_10 (hK _ ⟨_, _, _, _, _, _, _, _, _, _, _, _, _, _, _, _, _, _, _, _, rfl, hR, ht, ho, hk⟩)
theorem C_X7_letter : am_ctr yX7_letter cX7_letter 2 (some .int) 1 21 sh_Mod [some 0, none] T_X7_letter := am_mk (by decide) (Or.inr (Or.inl ⟨rfl, rfl⟩)) (by decide) (by decide) (by decide) fl_X7_ok kc_X7_ok ck_X7_letter B_X7_letter
def cs_X7_wrong : Nat → List am_V → am_D → am_K → Prop := am_cs [(1, am_site 1 [some 0] T_X7_run [0, 1, 2, 3, 4, 6, 7, 8] [0, 1, 2, 3, 4, 6, 7, 8, 9, 10, 11, 5, 12, 13, 14, 15])]
theorem cs_X7_wrong_1 : cs_X7_wrong 1 = am_site 1 [some 0] T_X7_run [0, 1, 2, 3, 4, 6, 7, 8] [0, 1, 2, 3, 4, 6, 7, 8, 9, 10, 11, 5, 12, 13, 14, 15] := rfl
theorem ck_X7_wrong : ∀ X : am_X, am_cx X RX7 cX7_wrong 2 3 75 → ∀ pc, am_csok X 2 sh_MWR pc (cs_X7_wrong pc) := fun X hX => am_cs_ok (List.forall_mem_cons.mpr ⟨am_callV hX C_X7_run mo_X7_run rfl lk_X7_161 dX7_wrong_1 rfl rfl rfl (by decide), fun _ h => absurd h List.not_mem_nil⟩)
abbrev ok_X7_wrong (X : am_X) (K : List Int32 → am_D → Prop) : Prop := am_ok X RX7 cX7_wrong 2 sh_MWR fl_X7 kc_X7 none 1 cs_X7_wrong K
abbrev aw_X7_wrong (X : am_X) (pc : Nat) (ls : am_L) (st : List am_V) (D : am_D) : Prop := am_aw X 2 sh_MWR pc ls st D
abbrev T_X7_wrong : am_TT := fun is D K => ∃ n b w x3 x4 x6 x7 x8 x9 x10 to kd fg Q kA fA lA pA oA gA wA uA, is = [] ∧ D = [.inl [nI n, nI b, nI w, x3, x4, nI (List.length to), x6, x7, x8, x9, x10, bI false], .inr kA, .inr fA, .inr lA, .inr pA, .inr oA, .inr gA, .inr wA, .inr uA] ∧ b ≤ 2 ∧ mK2 n kd fg kA fA ∧ mL n Q lA pA ∧ tdX to oA ∧ ∀ x7 x8 x9 x10 gA' wA' uA', K [oI (fns to (smw false b w kd fg Q))] [.inl [nI n, nI b, nI w, x3, x4, nI to.length, x6, x7, x8, x9, x10, bI false], .inr kA, .inr fA, .inr lA, .inr pA, .inr oA, .inr gA', .inr wA', .inr uA']
set_option maxHeartbeats 200000 in
theorem B_X7_wrong : ∀ (X : am_X) (is : List Int32) (D : am_D) (K : List Int32 → am_D → Prop), ok_X7_wrong X K → T_X7_wrong is D K → is.length = (List.filter Option.isNone ([some 0] : List (Option Nat))).length → D.length = sh_MWR.length → am_aw X 2 sh_MWR 0 (am_l0 2 [some 0] is) [] D := by
  intro X is D K O hT _ _
  obtain ⟨n, b, w, x3, x4, x6, x7, x8, x9, x10, to, kd, fg, Q, kA, fA, lA, pA, oA, gA, wA, uA, rfl, rfl, hb, hk, hL, ⟨hu1, hu2, hu3⟩, hK⟩ := hT
  have hn := hL.1
  obtain ⟨hl, hcr⟩ := smw_ok (wd := false) (b := b) (w := w) (kd := kd) (fg := fg) hL
  generalize hLs : smw false b w kd fg Q = L at hl hcr hK
  unfold fns at hK
  have loop : ∀ gA wA uA x8 x9 x10, pO L gA wA uA → ∀ d m, to.length - m = d → m ≤ to.length → ffU (fun i => decide (L.length ≤ i ∨ ¬ cr_ L i = to.getD i 0)) m d = ffU (fun i => decide (L.length ≤ i ∨ ¬ cr_ L i = to.getD i 0)) 0 to.length → am_aw X 2 sh_MWR 6 [some (.inr 0), some (.inl (nI m))] [] [.inl [nI n, nI b, nI w, x3, x4, nI to.length, x6, nI L.length, x8, x9, x10, bI false], .inr kA, .inr fA, .inr lA, .inr pA, .inr oA, .inr gA, .inr wA, .inr uA] := by
    intro gA wA uA x8 x9 x10 hO d
    induction d with
    | zero =>
      intro m hdm hm hR
      rw [← hR] at hK
      refine st_iloadn O dX7_wrong_6 rfl (q := 7) rfl ?_
      refine st_aloadn O dX7_wrong_7 rfl (q := 8) rfl ?_
      refine st_geti O dX7_wrong_8 fl_X7_198 rfl rfl rfl rfl (q := 11) rfl ?_
      refine sn_icmp_ge O dX7_wrong_11 (t := 45) rfl (q := 14) rfl (by omega) (by omega) (fun c11 => ?_) (fun c11 => ?_)
      · refine st_bipush O dX7_wrong_45 am_bipush_m9 (q := 47) rfl ?_
        refine st_ireturn O dX7_wrong_47 ?_
        exact hK _ _ _ _ _ _ _
      omega
    | succ d ih =>
      intro m hdm hm hR
      have hum := hu2 m (by omega)
      have hu99 : to.getD m 0 ≤ 99 := hu3 _ (pl_gm (by omega))
      rw [ffU_s] at hR
      by_cases hc : L.length ≤ m ∨ ¬ cr_ L m = to.getD m 0
      · rw [if_pos (decide_eq_true hc)] at hR
        rw [← hR] at hK
        rcases Nat.lt_or_ge m L.length with hml | hml
        · have h9 := hcr m hml
          refine st_iloadn O dX7_wrong_6 rfl (q := 7) rfl ?_
          refine st_aloadn O dX7_wrong_7 rfl (q := 8) rfl ?_
          refine st_geti O dX7_wrong_8 fl_X7_198 rfl rfl rfl rfl (q := 11) rfl ?_
          refine sn_icmp_ge O dX7_wrong_11 (t := 45) rfl (q := 14) rfl (by omega) (by omega) (fun c11 => ?_) (fun c11 => ?_)
          · omega
          refine st_iloadn O dX7_wrong_14 rfl (q := 15) rfl ?_
          refine st_aloadn O dX7_wrong_15 rfl (q := 16) rfl ?_
          refine st_geti O dX7_wrong_16 fl_X7_146 rfl rfl rfl rfl (q := 19) rfl ?_
          refine sn_icmp_ge O dX7_wrong_19 (t := 37) rfl (q := 22) rfl (by omega) (by omega) (fun c19 => ?_) (fun c19 => ?_)
          · omega
          refine st_aloadn O dX7_wrong_22 rfl (q := 23) rfl ?_
          refine st_getr O dX7_wrong_23 fl_X7_31 rfl rfl rfl (q := 26) rfl ?_
          refine st_iloadn O dX7_wrong_26 rfl (q := 27) rfl ?_
          refine sn_ald O dX7_wrong_27 rfl rfl rfl ⟨by omega, by decide⟩ hum (q := 28) rfl ?_
          refine st_aloadn O dX7_wrong_28 rfl (q := 29) rfl ?_
          refine st_getr O dX7_wrong_29 fl_X7_46 rfl rfl rfl (q := 32) rfl ?_
          refine st_iloadn O dX7_wrong_32 rfl (q := 33) rfl ?_
          refine sn_ald O dX7_wrong_33 rfl rfl rfl ⟨by omega, by decide⟩ (pO_o hO hml) (q := 34) rfl ?_
          refine sn_icmp_eq O dX7_wrong_34 (t := 39) rfl (q := 37) rfl (by omega) (by omega) (fun c34 => ?_) (fun c34 => ?_)
          · exact absurd c34.symm (hc.resolve_left (by omega))
          refine st_iloadn O dX7_wrong_37 rfl (q := 38) rfl ?_
          refine st_ireturn O dX7_wrong_38 ?_
          exact hK _ _ _ _ _ _ _
        · refine st_iloadn O dX7_wrong_6 rfl (q := 7) rfl ?_
          refine st_aloadn O dX7_wrong_7 rfl (q := 8) rfl ?_
          refine st_geti O dX7_wrong_8 fl_X7_198 rfl rfl rfl rfl (q := 11) rfl ?_
          refine sn_icmp_ge O dX7_wrong_11 (t := 45) rfl (q := 14) rfl (by omega) (by omega) (fun c11 => ?_) (fun c11 => ?_)
          · omega
          refine st_iloadn O dX7_wrong_14 rfl (q := 15) rfl ?_
          refine st_aloadn O dX7_wrong_15 rfl (q := 16) rfl ?_
          refine st_geti O dX7_wrong_16 fl_X7_146 rfl rfl rfl rfl (q := 19) rfl ?_
          refine sn_icmp_ge O dX7_wrong_19 (t := 37) rfl (q := 22) rfl (by omega) (by omega) (fun c19 => ?_) (fun c19 => ?_)
          · refine st_iloadn O dX7_wrong_37 rfl (q := 38) rfl ?_
            refine st_ireturn O dX7_wrong_38 ?_
            exact hK _ _ _ _ _ _ _
          omega
      · rw [if_neg (by rw [decide_eq_false hc]; decide)] at hR
        have hml : m < L.length := Nat.lt_of_not_le (fun z => hc (Or.inl z))
        have h9 := hcr m hml
        refine st_iloadn O dX7_wrong_6 rfl (q := 7) rfl ?_
        refine st_aloadn O dX7_wrong_7 rfl (q := 8) rfl ?_
        refine st_geti O dX7_wrong_8 fl_X7_198 rfl rfl rfl rfl (q := 11) rfl ?_
        refine sn_icmp_ge O dX7_wrong_11 (t := 45) rfl (q := 14) rfl (by omega) (by omega) (fun c11 => ?_) (fun c11 => ?_)
        · omega
        refine st_iloadn O dX7_wrong_14 rfl (q := 15) rfl ?_
        refine st_aloadn O dX7_wrong_15 rfl (q := 16) rfl ?_
        refine st_geti O dX7_wrong_16 fl_X7_146 rfl rfl rfl rfl (q := 19) rfl ?_
        refine sn_icmp_ge O dX7_wrong_19 (t := 37) rfl (q := 22) rfl (by omega) (by omega) (fun c19 => ?_) (fun c19 => ?_)
        · omega
        refine st_aloadn O dX7_wrong_22 rfl (q := 23) rfl ?_
        refine st_getr O dX7_wrong_23 fl_X7_31 rfl rfl rfl (q := 26) rfl ?_
        refine st_iloadn O dX7_wrong_26 rfl (q := 27) rfl ?_
        refine sn_ald O dX7_wrong_27 rfl rfl rfl ⟨by omega, by decide⟩ hum (q := 28) rfl ?_
        refine st_aloadn O dX7_wrong_28 rfl (q := 29) rfl ?_
        refine st_getr O dX7_wrong_29 fl_X7_46 rfl rfl rfl (q := 32) rfl ?_
        refine st_iloadn O dX7_wrong_32 rfl (q := 33) rfl ?_
        refine sn_ald O dX7_wrong_33 rfl rfl rfl ⟨by omega, by decide⟩ (pO_o hO hml) (q := 34) rfl ?_
        refine sn_icmp_eq O dX7_wrong_34 (t := 39) rfl (q := 37) rfl (by omega) (by omega) (fun c34 => ?_) (fun c34 => ?_)
        · refine st_iinc O dX7_wrong_39 rfl (by first | exact am_ii1 _ | exact rfl) rfl (q := 42) rfl ?_
          refine st_goto O dX7_wrong_42 (t := 6) rfl ?_
          exact ih (m + 1) (by omega) (by omega) hR
        exact absurd (Or.inr (fun e => c34 e.symm)) hc
  refine am_begin rfl ?_
  refine st_aloadn O dX7_wrong_0 rfl (q := 1) rfl ?_
  refine st_call O dX7_wrong_1 cs_X7_wrong_1 (q := 4) rfl (am_siq rfl rfl rfl (Nat.le_of_ble_eq_true rfl) rfl ?_)
  refine ⟨n, b, w, _, _, _, _, _, _, _, _, false, kd, fg, Q, _, _, _, _, _, _, _, rfl, rfl, hb, hk, hL, fun gA' wA' uA' hO => ?_⟩
  refine am_nrp rfl rfl rfl rfl ?_
  rw [hLs] at hO ⊢
  refine st_iconst O dX7_wrong_4 am_iconst_0 (q := 5) rfl ?_
  refine st_istoren O dX7_wrong_5 rfl (q := 6) rfl ?_
  exact loop _ _ _ _ _ _ hO to.length 0 rfl (Nat.zero_le _) rfl
theorem C_X7_wrong : am_ctr yX7_wrong cX7_wrong 2 (some .int) 3 75 sh_MWR [some 0] T_X7_wrong := am_mk (by decide) (Or.inr (Or.inl ⟨rfl, rfl⟩)) (by decide) (by decide) (by decide) fl_X7_ok kc_X7_ok ck_X7_wrong B_X7_wrong
def cs_X7_judge : Nat → List am_V → am_D → am_K → Prop := am_cs [(1, am_site 1 [some 0] T_X7_wrong [0, 1, 2, 4, 5, 8, 13, 14, 15] [0, 1, 2, 4, 5, 8, 13, 14, 15, 3, 6, 7, 9, 10, 11, 12])]
theorem cs_X7_judge_1 : cs_X7_judge 1 = am_site 1 [some 0] T_X7_wrong [0, 1, 2, 4, 5, 8, 13, 14, 15] [0, 1, 2, 4, 5, 8, 13, 14, 15, 3, 6, 7, 9, 10, 11, 12] := rfl
theorem ck_X7_judge : ∀ X : am_X, am_cx X RX7 cX7_judge 2 4 96 → ∀ pc, am_csok X 2 sh_Mod pc (cs_X7_judge pc) := fun X hX => am_cs_ok (List.forall_mem_cons.mpr ⟨am_callV hX C_X7_wrong mo_X7_wrong rfl lk_X7_201 dX7_judge_1 rfl rfl rfl (by decide), fun _ h => absurd h List.not_mem_nil⟩)
abbrev ok_X7_judge (X : am_X) (K : List Int32 → am_D → Prop) : Prop := am_ok X RX7 cX7_judge 2 sh_Mod fl_X7 kc_X7 none 1 cs_X7_judge K
abbrev aw_X7_judge (X : am_X) (pc : Nat) (ls : am_L) (st : List am_V) (D : am_D) : Prop := am_aw X 2 sh_Mod pc ls st D
abbrev T_X7_judge : am_TT := am_s0 IM f_judge
set_option maxHeartbeats 200000 in
theorem B_X7_judge : ∀ (X : am_X) (is : List Int32) (D : am_D) (K : List Int32 → am_D → Prop), ok_X7_judge X K → T_X7_judge is D K → is.length = (List.filter Option.isNone ([some 0] : List (Option Nat))).length → D.length = sh_Mod.length → am_aw X 2 sh_Mod 0 (am_l0 2 [some 0] is) [] D := by
  intro X is D K O hT _ _
  obtain ⟨σ, ⟨aT, iM, tU, aS, cH, lO, kA, fA, hA, lA, pA, tA, vA, oA, eA, xA, nA, gA, wA, uA, rfl, hR, ht, ho, hk⟩, rfl, hK⟩ := hT
  obtain ⟨hb, hw, hp, hj, hL⟩ := id hR
  have hn : gN σ ≤ 9 := hL.1
  have eN : gN σ = σ.1.1 := rfl
  have hK : ∀ D', IM (σ.1, σ.2.1, σ.2.2.1, [], σ.2.2.2.2) D' → K [oI (fns σ.2.2.2.1 (gL σ))] D' := hK
  refine am_begin rfl ?_
  refine st_aloadn O dX7_judge_0 rfl (q := 1) rfl ?_
  refine st_call O dX7_judge_1 cs_X7_judge_1 (q := 4) rfl (am_siq rfl rfl rfl (Nat.le_of_ble_eq_true rfl) rfl ?_)
  refine ⟨gN σ, gb σ, gw σ, _, _, _, _, _, _, _, σ.2.2.2.1, gk σ, gf σ, (fun z => qu (gl σ) (gq σ) z 0), _, _, _, _, _, _, _, _, rfl, rfl, hb, hR.k2, hL, ho, fun t1 t2 t3 t4 g1 g2 g3 => ?_⟩
  refine am_nrp rfl rfl rfl rfl ?_
  rw [gL_smw σ]
  refine st_istoren O dX7_judge_4 rfl (q := 5) rfl ?_
  refine st_aloadn O dX7_judge_5 rfl (q := 6) rfl ?_
  refine st_iconst O dX7_judge_6 am_iconst_0 (q := 7) rfl ?_
  refine st_puti O dX7_judge_7 fl_X7_198 rfl rfl rfl rfl rfl (q := 10) rfl ?_
  refine st_iloadn O dX7_judge_10 rfl (q := 11) rfl ?_
  refine st_ireturn O dX7_judge_11 ?_
  exact hK _ ⟨_, _, _, _, _, _, _, _, _, _, _, _, _, _, _, _, _, _, _, _, rfl, hR, ht, ⟨Nat.zero_le _, fun j hj => absurd hj (Nat.not_lt_zero j), fun v hv => by cases hv⟩, hk⟩
theorem C_X7_judge : am_ctr yX7_judge cX7_judge 2 (some .int) 4 96 sh_Mod [some 0] T_X7_judge := am_mk (by decide) (Or.inr (Or.inl ⟨rfl, rfl⟩)) (by decide) (by decide) (by decide) fl_X7_ok kc_X7_ok ck_X7_judge B_X7_judge
def cs_X7_clear : Nat → List am_V → am_D → am_K → Prop := am_cs []
theorem ck_X7_clear : ∀ X : am_X, am_cx X RX7 cX7_clear 2 0 0 → ∀ pc, am_csok X 2 sh_Mod pc (cs_X7_clear pc) := fun X hX => am_cs_ok (fun _ h => absurd h List.not_mem_nil)
abbrev ok_X7_clear (X : am_X) (K : List Int32 → am_D → Prop) : Prop := am_ok X RX7 cX7_clear 2 sh_Mod fl_X7 kc_X7 none 1 cs_X7_clear K
abbrev aw_X7_clear (X : am_X) (pc : Nat) (ls : am_L) (st : List am_V) (D : am_D) : Prop := am_aw X 2 sh_Mod pc ls st D
abbrev T_X7_clear : am_TT := am_s0 IM f_clear
set_option maxHeartbeats 200000 in
theorem B_X7_clear : ∀ (X : am_X) (is : List Int32) (D : am_D) (K : List Int32 → am_D → Prop), ok_X7_clear X K → T_X7_clear is D K → is.length = (List.filter Option.isNone ([some 0] : List (Option Nat))).length → D.length = sh_Mod.length → am_aw X 2 sh_Mod 0 (am_l0 2 [some 0] is) [] D := by
  intro X is D K O hT _ _
  obtain ⟨σ, ⟨aT, iM, tU, aS, cH, lO, kA, fA, hA, lA, pA, tA, vA, oA, eA, xA, nA, gA, wA, uA, rfl, hR, ht, ho, hk⟩, rfl, hK⟩ := hT
  obtain ⟨hb, hw, hp, hj, hL⟩ := id hR
  have hn : gN σ ≤ 9 := hL.1
  have eN : gN σ = σ.1.1 := rfl
  refine am_begin rfl ?_
  refine st_aloadn O dX7_clear_0 rfl (q := 1) rfl ?_
  refine st_geti O dX7_clear_1 fl_X7_198 rfl rfl rfl rfl (q := 4) rfl ?_
  refine st_istoren O dX7_clear_4 rfl (q := 5) rfl ?_
  refine st_aloadn O dX7_clear_5 rfl (q := 6) rfl ?_
  refine st_iconst O dX7_clear_6 am_iconst_0 (q := 7) rfl ?_
  refine st_puti O dX7_clear_7 fl_X7_198 rfl rfl rfl rfl rfl (q := 10) rfl ?_
  refine st_iloadn O dX7_clear_10 rfl (q := 11) rfl ?_
  refine st_ireturn O dX7_clear_11 ?_
  exact hK _ ⟨_, _, _, _, _, _, _, _, _, _, _, _, _, _, _, _, _, _, _, _, rfl, hR, ht, ⟨Nat.zero_le _, fun j hj => absurd hj (Nat.not_lt_zero j), fun v hv => by cases hv⟩, hk⟩
theorem C_X7_clear : am_ctr yX7_clear cX7_clear 2 (some .int) 0 0 sh_Mod [some 0] T_X7_clear := am_mk (by decide) (Or.inr (Or.inl ⟨rfl, rfl⟩)) (by decide) (by decide) (by decide) fl_X7_ok kc_X7_ok ck_X7_clear B_X7_clear
def cs_X7_row : Nat → List am_V → am_D → am_K → Prop := am_cs [(7, am_site 2 [some 0, none] T_X7_no [0, 9] [0, 9, 1, 2, 3, 4, 5, 6, 7, 8, 10, 11, 12, 13, 14, 15]), (29, am_site 2 [some 0, none] T_X7_no [0, 9] [0, 9, 1, 2, 3, 4, 5, 6, 7, 8, 10, 11, 12, 13, 14, 15])]
theorem cs_X7_row_7 : cs_X7_row 7 = am_site 2 [some 0, none] T_X7_no [0, 9] [0, 9, 1, 2, 3, 4, 5, 6, 7, 8, 10, 11, 12, 13, 14, 15] := rfl
theorem cs_X7_row_29 : cs_X7_row 29 = am_site 2 [some 0, none] T_X7_no [0, 9] [0, 9, 1, 2, 3, 4, 5, 6, 7, 8, 10, 11, 12, 13, 14, 15] := rfl
theorem ck_X7_row : ∀ X : am_X, am_cx X RX7 cX7_row 2 1 21 → ∀ pc, am_csok X 2 sh_Mod pc (cs_X7_row pc) := fun X hX => am_cs_ok (List.forall_mem_cons.mpr ⟨am_callV hX C_X7_no mo_X7_no rfl lk_X7_66 dX7_row_7 rfl rfl rfl (by decide), List.forall_mem_cons.mpr ⟨am_callV hX C_X7_no mo_X7_no rfl lk_X7_66 dX7_row_29 rfl rfl rfl (by decide), fun _ h => absurd h List.not_mem_nil⟩⟩)
abbrev ok_X7_row (X : am_X) (K : List Int32 → am_D → Prop) : Prop := am_ok X RX7 cX7_row 2 sh_Mod fl_X7 kc_X7 none 1 cs_X7_row K
abbrev aw_X7_row (X : am_X) (pc : Nat) (ls : am_L) (st : List am_V) (D : am_D) : Prop := am_aw X 2 sh_Mod pc ls st D
abbrev T_X7_row : am_TT := am_s1 IM f_row
set_option maxHeartbeats 200000 in
theorem B_X7_row : ∀ (X : am_X) (is : List Int32) (D : am_D) (K : List Int32 → am_D → Prop), ok_X7_row X K → T_X7_row is D K → is.length = (List.filter Option.isNone ([some 0, none] : List (Option Nat))).length → D.length = sh_Mod.length → am_aw X 2 sh_Mod 0 (am_l0 2 [some 0, none] is) [] D := by
  intro X is D K O hT _ _
  obtain ⟨σ, a, ⟨aT, iM, tU, aS, cH, lO, kA, fA, hA, lA, pA, tA, vA, oA, eA, xA, nA, gA, wA, uA, rfl, hR, ht, ho, hk⟩, rfl, hK⟩ := hT
  obtain ⟨hb, hw, hp, hj, hL⟩ := id hR
  have hn : gN σ ≤ 9 := hL.1
  have eN : gN σ = σ.1.1 := rfl
  obtain ⟨t1, t2, t3⟩ := id ho
  refine am_begin rfl ?_
  refine st_iloadn O dX7_row_0 rfl (q := 1) rfl ?_
  refine st_if_ge O dX7_row_1 (t := 11) rfl (q := 4) rfl (fun c1 => ?_) (fun c1 => ?_)
  · refine st_iloadn O dX7_row_11 rfl (q := 12) rfl ?_
    refine st_bipush O dX7_row_12 am_bipush_99 (q := 14) rfl ?_
    refine st_icmp_gt O dX7_row_14 (t := 26) rfl (q := 17) rfl (fun c14 => ?_) (fun c14 => ?_)
    · refine st_aloadn O dX7_row_26 rfl (q := 27) rfl ?_
      refine st_bipush O dX7_row_27 am_bipush_m6 (q := 29) rfl ?_
      refine st_call O dX7_row_29 cs_X7_row_29 (q := 32) rfl (am_siq rfl rfl rfl (Nat.le_of_ble_eq_true rfl) rfl ?_)
      refine ⟨_, _, 6, by decide, by decide, rfl, rfl, ?_⟩
      refine am_nrq rfl rfl ?_
      rw [show f_row a σ = rfs 6 σ from (if_pos c1).trans (by first | exact if_pos c14 | exact (if_neg c14).trans (if_pos (by omega)))] at hK
      exact st_ireturn O dX7_row_32 (hK _ ⟨_, _, _, _, _, _, _, _, _, _, _, _, _, _, _, _, _, _, _, _, rfl, hR, ht, ho, hk⟩)
    refine st_aloadn O dX7_row_17 rfl (q := 18) rfl ?_
    refine st_geti O dX7_row_18 fl_X7_198 rfl rfl rfl rfl (q := 21) rfl ?_
    refine st_bipush O dX7_row_21 am_bipush_12 (q := 23) rfl ?_
    refine sn_icmp_ne O dX7_row_23 (t := 33) rfl (q := 26) rfl (by omega) (by omega) (fun c23 => ?_) (fun c23 => ?_)
    · refine st_aloadn O dX7_row_33 rfl (q := 34) rfl ?_
      refine st_getr O dX7_row_34 fl_X7_31 rfl rfl rfl (q := 37) rfl ?_
      refine st_aloadn O dX7_row_37 rfl (q := 38) rfl ?_
      refine st_dup O dX7_row_38 (q := 39) rfl ?_
      refine st_geti O dX7_row_39 fl_X7_198 rfl rfl rfl rfl (q := 42) rfl ?_
      refine st_dup_x1 O dX7_row_42 (q := 43) rfl ?_
      refine st_iconst O dX7_row_43 am_iconst_1 (q := 44) rfl ?_
      refine st_iadd O dX7_row_44 (by first | exact nI_add _ _ | exact rfl) (q := 45) rfl ?_
      refine st_puti O dX7_row_45 fl_X7_198 rfl rfl rfl rfl rfl (q := 48) rfl ?_
      refine st_iloadn O dX7_row_48 rfl (q := 49) rfl ?_
      refine sn_ast O dX7_row_49 rfl rfl rfl ⟨by omega, by decide⟩ rfl rfl (q := 50) rfl ?_
      refine st_aloadn O dX7_row_50 rfl (q := 51) rfl ?_
      refine st_geti O dX7_row_51 fl_X7_198 rfl rfl rfl rfl (q := 54) rfl ?_
      refine st_ireturn O dX7_row_54 ?_
      obtain ⟨j, hjj, rfl⟩ := nI_of (Int32.not_lt.mpr c1)
      have h99 : ¬ 99 < j := fun z => c14 ((nI_ltI (by decide) hjj).mpr z)
      rw [show f_row (nI j) σ = (nI (σ.2.2.2.1.length + 1), (σ.1, σ.2.1, σ.2.2.1, σ.2.2.2.1 ++ [(nI j).toNatClampNeg], σ.2.2.2.2)) from (if_pos c1).trans ((if_neg c14).trans (if_neg (by omega))), nI_clamp hjj] at hK
      refine hK _ ⟨_, _, _, _, _, _, _, _, _, _, _, _, _, _, _, _, _, _, _, _, by rw [List.length_append]; rfl, hR, ht, ⟨by rw [List.length_append]; simp only [List.length_cons, List.length_nil]; omega, fun i hi => ?_, fun v hv => ?_⟩, hk⟩
      · rw [List.length_append] at hi
        by_cases e : i = σ.2.2.2.1.length
        · rw [e, pk_us, ga_last rfl]
        · have : i < σ.2.2.2.1.length := by simp only [List.length_cons, List.length_nil] at hi; omega
          rw [pk_un e, t2 i this, ga_left this]
      · rcases List.mem_append.mp hv with q | q
        · exact t3 v q
        · rw [List.mem_singleton.mp q]; omega
    refine st_aloadn O dX7_row_26 rfl (q := 27) rfl ?_
    refine st_bipush O dX7_row_27 am_bipush_m6 (q := 29) rfl ?_
    refine st_call O dX7_row_29 cs_X7_row_29 (q := 32) rfl (am_siq rfl rfl rfl (Nat.le_of_ble_eq_true rfl) rfl ?_)
    refine ⟨_, _, 6, by decide, by decide, rfl, rfl, ?_⟩
    refine am_nrq rfl rfl ?_
    rw [show f_row a σ = rfs 6 σ from (if_pos c1).trans (by first | exact if_pos c14 | exact (if_neg c14).trans (if_pos (by omega)))] at hK
    exact st_ireturn O dX7_row_32 (hK _ ⟨_, _, _, _, _, _, _, _, _, _, _, _, _, _, _, _, _, _, _, _, rfl, hR, ht, ho, hk⟩)
  refine st_aloadn O dX7_row_4 rfl (q := 5) rfl ?_
  refine st_bipush O dX7_row_5 am_bipush_m4 (q := 7) rfl ?_
  refine st_call O dX7_row_7 cs_X7_row_7 (q := 10) rfl (am_siq rfl rfl rfl (Nat.le_of_ble_eq_true rfl) rfl ?_)
  refine ⟨_, _, 4, by decide, by decide, rfl, rfl, ?_⟩
  refine am_nrq rfl rfl ?_
  rw [show f_row a σ = rfs 4 σ from if_neg c1] at hK
  exact st_ireturn O dX7_row_10 (hK _ ⟨_, _, _, _, _, _, _, _, _, _, _, _, _, _, _, _, _, _, _, _, rfl, hR, ht, ho, hk⟩)
theorem C_X7_row : am_ctr yX7_row cX7_row 2 (some .int) 1 21 sh_Mod [some 0, none] T_X7_row := am_mk (by decide) (Or.inr (Or.inl ⟨rfl, rfl⟩)) (by decide) (by decide) (by decide) fl_X7_ok kc_X7_ok ck_X7_row B_X7_row
def cs_X7_image : Nat → List am_V → am_D → am_K → Prop := am_cs [(10, am_site 2 [some 0, some 6] T_X7_keep_ [0, 1, 2, 3, 4, 5, 10] [0, 1, 2, 3, 4, 5, 10, 6, 7, 8, 9, 10, 11, 12, 13, 14, 15])]
theorem cs_X7_image_10 : cs_X7_image 10 = am_site 2 [some 0, some 6] T_X7_keep_ [0, 1, 2, 3, 4, 5, 10] [0, 1, 2, 3, 4, 5, 10, 6, 7, 8, 9, 10, 11, 12, 13, 14, 15] := rfl
theorem ck_X7_image : ∀ X : am_X, am_cx X RX7 cX7_image 1 1 22 → ∀ pc, am_csok X 1 sh_Mod pc (cs_X7_image pc) := fun X hX => am_cs_ok (List.forall_mem_cons.mpr ⟨am_callV hX C_X7_keep_ mo_X7_keep_ rfl lk_X7_116 dX7_image_10 rfl rfl rfl (by decide), fun _ h => absurd h List.not_mem_nil⟩)
abbrev ok_X7_image (X : am_X) (K : List Int32 → am_D → Prop) : Prop := am_ok X RX7 cX7_image 1 sh_Mod fl_X7 kc_X7 none 1 cs_X7_image K
abbrev aw_X7_image (X : am_X) (pc : Nat) (ls : am_L) (st : List am_V) (D : am_D) : Prop := am_aw X 1 sh_Mod pc ls st D
abbrev T_X7_image : am_TT := am_s0 IM f_image
set_option maxHeartbeats 200000 in
theorem B_X7_image : ∀ (X : am_X) (is : List Int32) (D : am_D) (K : List Int32 → am_D → Prop), ok_X7_image X K → T_X7_image is D K → is.length = (List.filter Option.isNone ([some 0] : List (Option Nat))).length → D.length = sh_Mod.length → am_aw X 1 sh_Mod 0 (am_l0 1 [some 0] is) [] D := by
  intro X is D K O hT _ _
  obtain ⟨σ, ⟨aT, iM, tU, aS, cH, lO, kA, fA, hA, lA, pA, tA, vA, oA, eA, xA, nA, gA, wA, uA, rfl, hR, ht, ho, hk⟩, rfl, hK⟩ := hT
  obtain ⟨hb, hw, hp, hj, hL⟩ := id hR
  have hn : gN σ ≤ 9 := hL.1
  have eN : gN σ = σ.1.1 := rfl
  refine am_begin rfl ?_
  refine st_aloadn O dX7_image_0 rfl (q := 1) rfl ?_
  refine st_iconst O dX7_image_1 am_iconst_1 (q := 2) rfl ?_
  refine st_putz O dX7_image_2 fl_X7_207 rfl rfl rfl rfl rfl (by first | exact Or.inl rfl | exact Or.inr rfl | assumption) (q := 5) rfl ?_
  refine st_aloadn O dX7_image_5 rfl (q := 6) rfl ?_
  refine st_aloadn O dX7_image_6 rfl (q := 7) rfl ?_
  refine st_getr O dX7_image_7 fl_X7_37 rfl rfl rfl (q := 10) rfl ?_
  refine st_call O dX7_image_10 cs_X7_image_10 (q := 13) rfl (am_siq rfl rfl rfl (Nat.le_of_ble_eq_true rfl) rfl ?_)
  refine ⟨gN σ, gb σ, gw σ, _, kA, fA, hA, lA, pA, _, rfl, rfl, fun e he => ?_⟩
  refine am_nrp rfl rfl rfl rfl ?_
  refine st_aloadn O dX7_image_13 rfl (q := 14) rfl ?_
  refine st_geti O dX7_image_14 fl_X7_59 rfl rfl rfl rfl (q := 17) rfl ?_
  refine st_ireturn O dX7_image_17 ?_
  exact hK _ ⟨_, _, _, _, _, _, _, _, _, _, _, _, _, _, _, _, _, _, _, _, rfl, hR, ht, ho, ⟨rfl, kA, fA, hA, lA, pA, hR, he⟩⟩
theorem C_X7_image : am_ctr yX7_image cX7_image 1 (some .int) 1 22 sh_Mod [some 0] T_X7_image := am_mk (by decide) (Or.inr (Or.inl ⟨rfl, rfl⟩)) (by decide) (by decide) (by decide) fl_X7_ok kc_X7_ok ck_X7_image B_X7_image
def cs_X7_on : Nat → List am_V → am_D → am_K → Prop := am_cs [(10, am_site 2 [some 0, none] T_X7_no [0, 9] [0, 9, 1, 2, 3, 4, 5, 6, 7, 8, 10, 11, 12, 13, 14, 15]), (19, am_site 2 [some 0, some 6] T_X7_again [0, 1, 2, 3, 4, 5, 10] [0, 1, 2, 3, 4, 5, 10, 6, 7, 8, 9, 10, 11, 12, 13, 14, 15])]
theorem cs_X7_on_10 : cs_X7_on 10 = am_site 2 [some 0, none] T_X7_no [0, 9] [0, 9, 1, 2, 3, 4, 5, 6, 7, 8, 10, 11, 12, 13, 14, 15] := rfl
theorem cs_X7_on_19 : cs_X7_on 19 = am_site 2 [some 0, some 6] T_X7_again [0, 1, 2, 3, 4, 5, 10] [0, 1, 2, 3, 4, 5, 10, 6, 7, 8, 9, 10, 11, 12, 13, 14, 15] := rfl
theorem ck_X7_on : ∀ X : am_X, am_cx X RX7 cX7_on 1 1 22 → ∀ pc, am_csok X 1 sh_Mod pc (cs_X7_on pc) := fun X hX => am_cs_ok (List.forall_mem_cons.mpr ⟨am_callV hX C_X7_no mo_X7_no rfl lk_X7_66 dX7_on_10 rfl rfl rfl (by decide), List.forall_mem_cons.mpr ⟨am_callV hX C_X7_again mo_X7_again rfl lk_X7_120 dX7_on_19 rfl rfl rfl (by decide), fun _ h => absurd h List.not_mem_nil⟩⟩)
abbrev ok_X7_on (X : am_X) (K : List Int32 → am_D → Prop) : Prop := am_ok X RX7 cX7_on 1 sh_Mod fl_X7 kc_X7 none 1 cs_X7_on K
abbrev aw_X7_on (X : am_X) (pc : Nat) (ls : am_L) (st : List am_V) (D : am_D) : Prop := am_aw X 1 sh_Mod pc ls st D
abbrev T_X7_on : am_TT := am_s0 IM f_on
set_option maxHeartbeats 200000 in
theorem B_X7_on : ∀ (X : am_X) (is : List Int32) (D : am_D) (K : List Int32 → am_D → Prop), ok_X7_on X K → T_X7_on is D K → is.length = (List.filter Option.isNone ([some 0] : List (Option Nat))).length → D.length = sh_Mod.length → am_aw X 1 sh_Mod 0 (am_l0 1 [some 0] is) [] D := by
  intro X is D K O hT _ _
  obtain ⟨⟨x, kp, lt, to, rf⟩, ⟨aT, iM, tU, aS, cH, lO, kA, fA, hA, lA, pA, tA, vA, oA, eA, xA, nA, gA, wA, uA, rfl, hR, ht, ho, hk⟩, rfl, hK⟩ := hT
  cases kp with
  | none =>
    have e : iM = 0 := hk
    subst e
    refine am_begin rfl ?_
    refine st_aloadn O dX7_on_0 rfl (q := 1) rfl ?_
    refine st_geti O dX7_on_1 fl_X7_207 rfl rfl rfl rfl (q := 4) rfl ?_
    refine st_if_ne O dX7_on_4 (t := 14) rfl (q := 7) rfl (fun c4 => ?_) (fun c4 => ?_)
    · exact absurd c4 (by decide)
    refine st_aloadn O dX7_on_7 rfl (q := 8) rfl ?_
    refine st_bipush O dX7_on_8 am_bipush_m3 (q := 10) rfl ?_
    refine st_call O dX7_on_10 cs_X7_on_10 (q := 13) rfl (am_siq rfl rfl rfl (Nat.le_of_ble_eq_true rfl) rfl ?_)
    refine ⟨_, _, 3, by decide, by decide, rfl, rfl, ?_⟩
    refine am_nrp rfl rfl rfl rfl ?_
    refine st_ireturn O dX7_on_13 ?_
    exact hK _ ⟨_, _, _, _, _, _, _, _, _, _, _, _, _, _, _, _, _, _, _, _, rfl, hR, ht, ho, hk⟩
  | some y =>
    obtain ⟨e, k0, f0, h0, l0, p0, hy, hc⟩ := id hk
    subst e
    refine am_begin rfl ?_
    refine st_aloadn O dX7_on_0 rfl (q := 1) rfl ?_
    refine st_geti O dX7_on_1 fl_X7_207 rfl rfl rfl rfl (q := 4) rfl ?_
    refine st_if_ne O dX7_on_4 (t := 14) rfl (q := 7) rfl (fun c4 => ?_) (fun c4 => ?_)
    · refine st_aloadn O dX7_on_14 rfl (q := 15) rfl ?_
      refine st_aloadn O dX7_on_15 rfl (q := 16) rfl ?_
      refine st_getr O dX7_on_16 fl_X7_37 rfl rfl rfl (q := 19) rfl ?_
      refine st_call O dX7_on_19 cs_X7_on_19 (q := 22) rfl (am_siq rfl rfl rfl (Nat.le_of_ble_eq_true rfl) rfl ?_)
      refine ⟨y.1, y.2.1, y.2.2.1, _, _, _, _, k0, f0, h0, l0, p0, _, _, _, _, _, _, rfl, rfl, hc, fun kC fC hC lC pC hcc => ?_⟩
      refine am_nrp rfl rfl rfl rfl ?_
      refine st_aloadn O dX7_on_22 rfl (q := 23) rfl ?_
      refine st_geti O dX7_on_23 fl_X7_59 rfl rfl rfl rfl (q := 26) rfl ?_
      refine st_ireturn O dX7_on_26 ?_
      exact hK _ ⟨_, _, _, _, _, _, _, _, _, _, _, _, _, _, _, _, _, _, _, _, rfl, mR_congr hy hcc, ht, ho, ⟨rfl, k0, f0, h0, l0, p0, hy, hc⟩⟩
    exact absurd c4 (by decide)
theorem C_X7_on : am_ctr yX7_on cX7_on 1 (some .int) 1 22 sh_Mod [some 0] T_X7_on := am_mk (by decide) (Or.inr (Or.inl ⟨rfl, rfl⟩)) (by decide) (by decide) (by decide) fl_X7_ok kc_X7_ok ck_X7_on B_X7_on
def cs_X7_count : Nat → List am_V → am_D → am_K → Prop := am_cs [(59, am_site 2 [some 0, none] T_X7_inLane [0, 4, 5] [0, 4, 5, 1, 2, 3, 6, 7, 8, 9, 10, 11, 12, 13, 14, 15]), (65, am_site 2 [some 0, none] T_X7_inLane [0, 4, 5] [0, 4, 5, 1, 2, 3, 6, 7, 8, 9, 10, 11, 12, 13, 14, 15]), (119, am_site 2 [some 0, none] T_X7_secondsOf [0, 1] [0, 1, 2, 3, 4, 5, 6, 7, 8, 9, 10, 11, 12, 13, 14, 15]), (147, am_site 3 [none, none, none] T_X7_within [] [])]
theorem cs_X7_count_59 : cs_X7_count 59 = am_site 2 [some 0, none] T_X7_inLane [0, 4, 5] [0, 4, 5, 1, 2, 3, 6, 7, 8, 9, 10, 11, 12, 13, 14, 15] := rfl
theorem cs_X7_count_65 : cs_X7_count 65 = am_site 2 [some 0, none] T_X7_inLane [0, 4, 5] [0, 4, 5, 1, 2, 3, 6, 7, 8, 9, 10, 11, 12, 13, 14, 15] := rfl
theorem cs_X7_count_119 : cs_X7_count 119 = am_site 2 [some 0, none] T_X7_secondsOf [0, 1] [0, 1, 2, 3, 4, 5, 6, 7, 8, 9, 10, 11, 12, 13, 14, 15] := rfl
theorem cs_X7_count_147 : cs_X7_count 147 = am_site 3 [none, none, none] T_X7_within [] [] := rfl
theorem ck_X7_count : ∀ X : am_X, am_cx X RX7 cX7_count 4 2 43 → ∀ pc, am_csok X 4 sh_Mod pc (cs_X7_count pc) := fun X hX => am_cs_ok (List.forall_mem_cons.mpr ⟨am_callV hX C_X7_inLane mo_X7_inLane rfl lk_X7_93 dX7_count_59 rfl rfl rfl (by decide), List.forall_mem_cons.mpr ⟨am_callV hX C_X7_inLane mo_X7_inLane rfl lk_X7_93 dX7_count_65 rfl rfl rfl (by decide), List.forall_mem_cons.mpr ⟨am_callV hX C_X7_secondsOf mo_X7_secondsOf rfl lk_X7_143 dX7_count_119 rfl rfl rfl (by decide), List.forall_mem_cons.mpr ⟨am_callS hX C_X7_within mo_X7_within rfl lk_X7_62 dX7_count_147 rfl (by decide), fun _ h => absurd h List.not_mem_nil⟩⟩⟩⟩)
abbrev ok_X7_count (X : am_X) (K : List Int32 → am_D → Prop) : Prop := am_ok X RX7 cX7_count 4 sh_Mod fl_X7 kc_X7 none 1 cs_X7_count K
abbrev aw_X7_count (X : am_X) (pc : Nat) (ls : am_L) (st : List am_V) (D : am_D) : Prop := am_aw X 4 sh_Mod pc ls st D
abbrev T_X7_count : am_TT := am_s1 IM f_count
theorem ct_in {w : Int32} (h : 11 ≤ w ∧ w ≤ 16) : ∃ k, w = nI k ∧ 11 ≤ k ∧ k ≤ 16 := by
  obtain ⟨k, hk, rfl⟩ := (le_iff 16 (by decide)).mp ⟨Int32.le_trans (by decide) h.1, h.2⟩
  exact ⟨k, rfl, (nI_leI (a := 11) (by decide) (by omega)).mp h.1, hk⟩
set_option maxHeartbeats 200000 in
theorem B_X7_count : ∀ (X : am_X) (is : List Int32) (D : am_D) (K : List Int32 → am_D → Prop), ok_X7_count X K → T_X7_count is D K → is.length = (List.filter Option.isNone ([some 0, none] : List (Option Nat))).length → D.length = sh_Mod.length → am_aw X 4 sh_Mod 0 (am_l0 4 [some 0, none] is) [] D := by
  intro X is D K O hT _ _
  obtain ⟨σ, a, ⟨aT, iM, tU, aS, cH, lO, kA, fA, hA, lA, pA, tA, vA, oA, eA, xA, nA, gA, wA, uA, rfl, hR, ht, ho, hk⟩, rfl, hK⟩ := hT
  obtain ⟨hb, hw, hp, hj, hL⟩ := id hR
  have hn : gN σ ≤ 9 := hL.1
  have eN : gN σ = σ.1.1 := rfl
  have l1 : (∀ D', IM σ D' → K [nI (sm (gh σ) (gN σ))] D') → ∀ d m, gN σ - m = d → m ≤ gN σ → am_aw X 4 sh_Mod 81 [some (.inr 0), some (.inl a), some (.inl (nI (sm (gh σ) m))), some (.inl (nI m))] [] [.inl [nI (gN σ), nI (gb σ), nI (gw σ), nI σ.2.2.1.length, aT, nI σ.2.2.2.1.length, iM, tU, aS, cH, lO, bI false], .inr kA, .inr fA, .inr hA, .inr lA, .inr pA, .inr tA, .inr vA, .inr oA, .inr σ.2.2.2.2, .inr eA, .inr xA, .inr nA, .inr gA, .inr wA, .inr uA] := by
    intro hK2 d
    induction d with
    | zero =>
      intro m hd hm
      have e : m = gN σ := by omega
      subst e
      refine st_iloadn O dX7_count_81 rfl (q := 82) rfl ?_
      refine st_aloadn O dX7_count_82 rfl (q := 83) rfl ?_
      refine st_geti O dX7_count_83 fl_X7_59 rfl rfl rfl rfl (q := 86) rfl ?_
      refine sn_icmp_ge O dX7_count_86 (t := 104) rfl (q := 89) rfl (by omega) (by omega) (fun c86 => ?_) (fun c86 => ?_)
      · refine st_iloadn O dX7_count_104 rfl (q := 105) rfl ?_
        refine st_ireturn O dX7_count_105 ?_
        exact hK2 _ ⟨_, _, _, _, _, _, _, _, _, _, _, _, _, _, _, _, _, _, _, _, rfl, hR, ht, ho, hk⟩
      omega
    | succ d ih =>
      intro m hd hm
      have h3 := (hj m (by omega)).2.2.1.1
      refine st_iloadn O dX7_count_81 rfl (q := 82) rfl ?_
      refine st_aloadn O dX7_count_82 rfl (q := 83) rfl ?_
      refine st_geti O dX7_count_83 fl_X7_59 rfl rfl rfl rfl (q := 86) rfl ?_
      refine sn_icmp_ge O dX7_count_86 (t := 104) rfl (q := 89) rfl (by omega) (by omega) (fun c86 => ?_) (fun c86 => ?_)
      · omega
      refine st_iloadn O dX7_count_89 rfl (q := 90) rfl ?_
      refine st_aloadn O dX7_count_90 rfl (q := 91) rfl ?_
      refine st_getr O dX7_count_91 fl_X7_16 rfl rfl rfl (q := 94) rfl ?_
      refine st_iloadn O dX7_count_94 rfl (q := 95) rfl ?_
      refine sn_ald O dX7_count_95 rfl rfl rfl ⟨by omega, by decide⟩ h3 (q := 96) rfl ?_
      refine st_iadd O dX7_count_96 (by first | exact nI_add _ _ | exact rfl) (q := 97) rfl ?_
      refine st_istoren O dX7_count_97 rfl (q := 98) rfl ?_
      refine st_iinc O dX7_count_98 rfl (by first | exact am_ii1 _ | exact rfl) rfl (q := 101) rfl ?_
      refine st_goto O dX7_count_101 (t := 81) rfl ?_
      exact ih (m + 1) (by omega) (by omega)
  have l2 : (∀ D', IM σ D' → K [nI (sm (fun c => sc (gk σ c)) (gN σ))] D') → ∀ d m, gN σ - m = d → m ≤ gN σ → am_aw X 4 sh_Mod 108 [some (.inr 0), some (.inl a), some (.inl (nI (sm (fun c => sc (gk σ c)) m))), some (.inl (nI m))] [] [.inl [nI (gN σ), nI (gb σ), nI (gw σ), nI σ.2.2.1.length, aT, nI σ.2.2.2.1.length, iM, tU, aS, cH, lO, bI false], .inr kA, .inr fA, .inr hA, .inr lA, .inr pA, .inr tA, .inr vA, .inr oA, .inr σ.2.2.2.2, .inr eA, .inr xA, .inr nA, .inr gA, .inr wA, .inr uA] := by
    intro hK2 d
    induction d with
    | zero =>
      intro m hd hm
      have e : m = gN σ := by omega
      subst e
      refine st_iloadn O dX7_count_108 rfl (q := 109) rfl ?_
      refine st_aloadn O dX7_count_109 rfl (q := 110) rfl ?_
      refine st_geti O dX7_count_110 fl_X7_59 rfl rfl rfl rfl (q := 113) rfl ?_
      refine sn_icmp_ge O dX7_count_113 (t := 130) rfl (q := 116) rfl (by omega) (by omega) (fun c113 => ?_) (fun c113 => ?_)
      · refine st_iloadn O dX7_count_130 rfl (q := 131) rfl ?_
        refine st_ireturn O dX7_count_131 ?_
        exact hK2 _ ⟨_, _, _, _, _, _, _, _, _, _, _, _, _, _, _, _, _, _, _, _, rfl, hR, ht, ho, hk⟩
      omega
    | succ d ih =>
      intro m hd hm
      have h3 := (hj m (by omega)).1
      refine st_iloadn O dX7_count_108 rfl (q := 109) rfl ?_
      refine st_aloadn O dX7_count_109 rfl (q := 110) rfl ?_
      refine st_geti O dX7_count_110 fl_X7_59 rfl rfl rfl rfl (q := 113) rfl ?_
      refine sn_icmp_ge O dX7_count_113 (t := 130) rfl (q := 116) rfl (by omega) (by omega) (fun c113 => ?_) (fun c113 => ?_)
      · omega
      refine st_iloadn O dX7_count_116 rfl (q := 117) rfl ?_
      refine st_aloadn O dX7_count_117 rfl (q := 118) rfl ?_
      refine st_iloadn O dX7_count_118 rfl (q := 119) rfl ?_
      refine st_call O dX7_count_119 cs_X7_count_119 (q := 122) rfl (am_sipq rfl rfl rfl (Nat.le_of_ble_eq_true rfl) rfl (r := nI (sc (gk σ m))) ⟨m, _, _, _, _, _, _, _, _, _, _, _, false, _, gk σ m, rfl, by omega, h3.1, h3.2, rfl, rfl⟩ ?_)
      refine st_iadd O dX7_count_122 (by first | exact nI_add _ _ | exact rfl) (q := 123) rfl ?_
      refine st_istoren O dX7_count_123 rfl (q := 124) rfl ?_
      refine st_iinc O dX7_count_124 rfl (by first | exact am_ii1 _ | exact rfl) rfl (q := 127) rfl ?_
      refine st_goto O dX7_count_127 (t := 108) rfl ?_
      exact ih (m + 1) (by omega) (by omega)
  have last : (∀ D', IM σ D' → K [if 11 ≤ a ∧ a ≤ 16 then σ.2.2.2.2 (a.toNatClampNeg - 10) else -9] D') → am_aw X 4 sh_Mod 142 [some (.inr 0), some (.inl a), some (.inl (nI 0)), none] [] [.inl [nI (gN σ), nI (gb σ), nI (gw σ), nI σ.2.2.1.length, aT, nI σ.2.2.2.1.length, iM, tU, aS, cH, lO, bI false], .inr kA, .inr fA, .inr hA, .inr lA, .inr pA, .inr tA, .inr vA, .inr oA, .inr σ.2.2.2.2, .inr eA, .inr xA, .inr nA, .inr gA, .inr wA, .inr uA] := by
    intro hK2
    by_cases h : 11 ≤ a ∧ a ≤ 16
    · rw [if_pos h] at hK2
      obtain ⟨k, e, k1, k2⟩ := ct_in h
      subst e
      rw [nI_clamp (by omega)] at hK2
      refine st_iloadn O dX7_count_142 rfl (q := 143) rfl ?_
      refine st_bipush O dX7_count_143 am_bipush_11 (q := 145) rfl ?_
      refine st_bipush O dX7_count_145 am_bipush_16 (q := 147) rfl ?_
      refine st_callS O dX7_count_147 cs_X7_count_147 (q := 150) rfl (am_sipq rfl rfl rfl (Nat.le_of_ble_eq_true rfl) rfl (r := 1) ⟨_, _, _, rfl, by rw [decide_eq_true (show nI 11 ≤ nI k ∧ nI k ≤ nI 16 from h)]; rfl⟩ ?_)
      refine st_if_eq O dX7_count_150 (t := 165) rfl (q := 153) rfl (fun c150 => ?_) (fun c150 => ?_)
      · exact absurd c150 (by decide)
      refine st_aloadn O dX7_count_153 rfl (q := 154) rfl ?_
      refine st_getr O dX7_count_154 fl_X7_34 rfl rfl rfl (q := 157) rfl ?_
      refine st_iloadn O dX7_count_157 rfl (q := 158) rfl ?_
      refine st_bipush O dX7_count_158 am_bipush_10 (q := 160) rfl ?_
      refine st_isub O dX7_count_160 (pk_sub (by omega)) (q := 161) rfl ?_
      refine sn_ald O dX7_count_161 rfl rfl rfl ⟨by omega, by decide⟩ rfl (q := 162) rfl ?_
      refine st_goto O dX7_count_162 (t := 167) rfl ?_
      refine st_ireturn O dX7_count_167 ?_
      exact hK2 _ ⟨_, _, _, _, _, _, _, _, _, _, _, _, _, _, _, _, _, _, _, _, rfl, hR, ht, ho, hk⟩
    · rw [if_neg h] at hK2
      refine st_iloadn O dX7_count_142 rfl (q := 143) rfl ?_
      refine st_bipush O dX7_count_143 am_bipush_11 (q := 145) rfl ?_
      refine st_bipush O dX7_count_145 am_bipush_16 (q := 147) rfl ?_
      refine st_callS O dX7_count_147 cs_X7_count_147 (q := 150) rfl (am_sipq rfl rfl rfl (Nat.le_of_ble_eq_true rfl) rfl (r := 0) ⟨_, _, _, rfl, by rw [decide_eq_false (show ¬ (nI 11 ≤ a ∧ a ≤ nI 16) from h)]; rfl⟩ ?_)
      refine st_if_eq O dX7_count_150 (t := 165) rfl (q := 153) rfl (fun c150 => ?_) (fun c150 => ?_)
      · refine st_bipush O dX7_count_165 am_bipush_m9 (q := 167) rfl ?_
        refine st_ireturn O dX7_count_167 ?_
        exact hK2 _ ⟨_, _, _, _, _, _, _, _, _, _, _, _, _, _, _, _, _, _, _, _, rfl, hR, ht, ho, hk⟩
      exact absurd c150 (by decide)
  refine am_begin rfl ?_
  refine st_iconst O dX7_count_0 am_iconst_0 (q := 1) rfl ?_
  refine st_istoren O dX7_count_1 rfl (q := 2) rfl ?_
  refine st_iloadn O dX7_count_2 rfl (q := 3) rfl ?_
  refine st_table O dX7_count_3 (os := [49, 54, 60, 66, 71, 76, 103, 129, 134]) rfl rfl ?_
  refine sw_consT (v := 0) (by decide) (t := 52) rfl (lo' := 1) rfl (fun c3_0 => ?_) (fun c3_0 => ?_)
  · refine st_aloadn O dX7_count_52 rfl (q := 53) rfl ?_
    refine st_geti O dX7_count_53 fl_X7_59 rfl rfl rfl rfl (q := 56) rfl ?_
    refine st_ireturn O dX7_count_56 ?_
    rw [show f_count a σ = (nI (gN σ), σ) from if_pos c3_0] at hK; exact hK _ ⟨_, _, _, _, _, _, _, _, _, _, _, _, _, _, _, _, _, _, _, _, rfl, hR, ht, ho, hk⟩
  refine sw_consT (v := 1) (by decide) (t := 57) rfl (lo' := 2) rfl (fun c3_1 => ?_) (fun c3_1 => ?_)
  · refine st_aloadn O dX7_count_57 rfl (q := 58) rfl ?_
    refine st_iconst O dX7_count_58 am_iconst_0 (q := 59) rfl ?_
    refine st_call O dX7_count_59 cs_X7_count_59 (q := 62) rfl (am_sipq rfl rfl rfl (Nat.le_of_ble_eq_true rfl) rfl (r := nI (qu (gl σ) (gq σ) 0 0).length) ⟨0, gN σ, _, (fun z => qu (gl σ) (gq σ) z 0), _, _, rfl, hL, by decide, rfl, rfl⟩ ?_)
    refine st_ireturn O dX7_count_62 ?_
    rw [show f_count a σ = (nI ((gq σ).filter (fun c => gl σ c = 0)).length, σ) from (if_neg c3_0).trans (if_pos c3_1), ← qu_0] at hK; exact hK _ ⟨_, _, _, _, _, _, _, _, _, _, _, _, _, _, _, _, _, _, _, _, rfl, hR, ht, ho, hk⟩
  refine sw_consT (v := 2) (by decide) (t := 63) rfl (lo' := 3) rfl (fun c3_2 => ?_) (fun c3_2 => ?_)
  · refine st_aloadn O dX7_count_63 rfl (q := 64) rfl ?_
    refine st_iconst O dX7_count_64 am_iconst_1 (q := 65) rfl ?_
    refine st_call O dX7_count_65 cs_X7_count_65 (q := 68) rfl (am_sipq rfl rfl rfl (Nat.le_of_ble_eq_true rfl) rfl (r := nI (qu (gl σ) (gq σ) 1 0).length) ⟨1, gN σ, _, (fun z => qu (gl σ) (gq σ) z 0), _, _, rfl, hL, by decide, rfl, rfl⟩ ?_)
    refine st_ireturn O dX7_count_68 ?_
    rw [show f_count a σ = (nI ((gq σ).filter (fun c => gl σ c = 1)).length, σ) from (if_neg c3_0).trans ((if_neg c3_1).trans (if_pos c3_2)), ← qu_0] at hK; exact hK _ ⟨_, _, _, _, _, _, _, _, _, _, _, _, _, _, _, _, _, _, _, _, rfl, hR, ht, ho, hk⟩
  refine sw_consT (v := 3) (by decide) (t := 69) rfl (lo' := 4) rfl (fun c3_3 => ?_) (fun c3_3 => ?_)
  · refine st_aloadn O dX7_count_69 rfl (q := 70) rfl ?_
    refine st_geti O dX7_count_70 fl_X7_103 rfl rfl rfl rfl (q := 73) rfl ?_
    refine st_ireturn O dX7_count_73 ?_
    rw [show f_count a σ = (nI (gb σ), σ) from (if_neg c3_0).trans ((if_neg c3_1).trans ((if_neg c3_2).trans (if_pos c3_3)))] at hK; exact hK _ ⟨_, _, _, _, _, _, _, _, _, _, _, _, _, _, _, _, _, _, _, _, rfl, hR, ht, ho, hk⟩
  refine sw_consT (v := 4) (by decide) (t := 74) rfl (lo' := 5) rfl (fun c3_4 => ?_) (fun c3_4 => ?_)
  · refine st_aloadn O dX7_count_74 rfl (q := 75) rfl ?_
    refine st_geti O dX7_count_75 fl_X7_55 rfl rfl rfl rfl (q := 78) rfl ?_
    refine st_ireturn O dX7_count_78 ?_
    rw [show f_count a σ = (nI (gw σ), σ) from (if_neg c3_0).trans ((if_neg c3_1).trans ((if_neg c3_2).trans ((if_neg c3_3).trans (if_pos c3_4))))] at hK; exact hK _ ⟨_, _, _, _, _, _, _, _, _, _, _, _, _, _, _, _, _, _, _, _, rfl, hR, ht, ho, hk⟩
  refine sw_consT (v := 5) (by decide) (t := 79) rfl (lo' := 6) rfl (fun c3_5 => ?_) (fun c3_5 => ?_)
  · refine st_iconst O dX7_count_79 am_iconst_0 (q := 80) rfl ?_
    refine st_istoren O dX7_count_80 rfl (q := 81) rfl ?_
    rw [show f_count a σ = (nI (sm (gh σ) (gN σ)), σ) from (if_neg c3_0).trans ((if_neg c3_1).trans ((if_neg c3_2).trans ((if_neg c3_3).trans ((if_neg c3_4).trans (if_pos c3_5)))))] at hK; exact l1 hK (gN σ) 0 rfl (Nat.zero_le _)
  refine sw_consT (v := 6) (by decide) (t := 106) rfl (lo' := 7) rfl (fun c3_6 => ?_) (fun c3_6 => ?_)
  · refine st_iconst O dX7_count_106 am_iconst_0 (q := 107) rfl ?_
    refine st_istoren O dX7_count_107 rfl (q := 108) rfl ?_
    rw [show f_count a σ = (nI (sm (fun c => sc (gk σ c)) (gN σ)), σ) from (if_neg c3_0).trans ((if_neg c3_1).trans ((if_neg c3_2).trans ((if_neg c3_3).trans ((if_neg c3_4).trans ((if_neg c3_5).trans (if_pos c3_6))))))] at hK; exact l2 hK (gN σ) 0 rfl (Nat.zero_le _)
  refine sw_consT (v := 7) (by decide) (t := 132) rfl (lo' := 8) rfl (fun c3_7 => ?_) (fun c3_7 => ?_)
  · refine st_aloadn O dX7_count_132 rfl (q := 133) rfl ?_
    refine st_geti O dX7_count_133 fl_X7_198 rfl rfl rfl rfl (q := 136) rfl ?_
    refine st_ireturn O dX7_count_136 ?_
    rw [show f_count a σ = (nI σ.2.2.2.1.length, σ) from (if_neg c3_0).trans ((if_neg c3_1).trans ((if_neg c3_2).trans ((if_neg c3_3).trans ((if_neg c3_4).trans ((if_neg c3_5).trans ((if_neg c3_6).trans (if_pos c3_7)))))))] at hK; exact hK _ ⟨_, _, _, _, _, _, _, _, _, _, _, _, _, _, _, _, _, _, _, _, rfl, hR, ht, ho, hk⟩
  refine sw_consT (v := 8) (by decide) (t := 137) rfl (lo' := 9) rfl (fun c3_8 => ?_) (fun c3_8 => ?_)
  · refine st_aloadn O dX7_count_137 rfl (q := 138) rfl ?_
    refine st_geti O dX7_count_138 fl_X7_70 rfl rfl rfl rfl (q := 141) rfl ?_
    refine st_ireturn O dX7_count_141 ?_
    rw [show f_count a σ = (nI σ.2.2.1.length, σ) from (if_neg c3_0).trans ((if_neg c3_1).trans ((if_neg c3_2).trans ((if_neg c3_3).trans ((if_neg c3_4).trans ((if_neg c3_5).trans ((if_neg c3_6).trans ((if_neg c3_7).trans (if_pos c3_8))))))))] at hK; exact hK _ ⟨_, _, _, _, _, _, _, _, _, _, _, _, _, _, _, _, _, _, _, _, rfl, hR, ht, ho, hk⟩
  refine sw_nilT (t := 142) rfl ?_
  rw [ct_rest c3_0 c3_1 c3_2 c3_3 c3_4 c3_5 c3_6 c3_7 c3_8] at hK
  refine last (fun D' hI' => ?_)
  by_cases h : 11 ≤ a ∧ a ≤ 16
  · rw [if_pos h] at hK ⊢; exact hK D' hI'
  · rw [if_neg h] at hK ⊢; exact hK D' hI'
theorem C_X7_count : am_ctr yX7_count cX7_count 4 (some .int) 2 43 sh_Mod [some 0, none] T_X7_count := am_mk (by decide) (Or.inr (Or.inl ⟨rfl, rfl⟩)) (by decide) (by decide) (by decide) fl_X7_ok kc_X7_ok ck_X7_count B_X7_count
def cs_X7_who : Nat → List am_V → am_D → am_K → Prop := am_cs [(2, am_site 2 [some 0, none] T_X7_isCar [0] [0, 1, 2, 3, 4, 5, 6, 7, 8, 9, 10, 11, 12, 13, 14, 15]), (10, am_site 2 [some 0, none] T_X7_no [0, 9] [0, 9, 1, 2, 3, 4, 5, 6, 7, 8, 10, 11, 12, 13, 14, 15]), (17, am_site 3 [none, none, none] T_X7_within [] []), (26, am_site 2 [some 0, none] T_X7_no [0, 9] [0, 9, 1, 2, 3, 4, 5, 6, 7, 8, 10, 11, 12, 13, 14, 15]), (90, am_site 4 [some 0, none, none, none] T_X7_becomes [0, 1, 2] [0, 1, 2, 3, 4, 5, 6, 7, 8, 9, 10, 11, 12, 13, 14, 15]), (94, am_site 1 [some 0] T_X7_wrong [0, 1, 2, 4, 5, 8, 13, 14, 15] [0, 1, 2, 4, 5, 8, 13, 14, 15, 3, 6, 7, 9, 10, 11, 12]), (122, am_site 4 [some 0, none, none, none] T_X7_becomes [0, 1, 2] [0, 1, 2, 3, 4, 5, 6, 7, 8, 9, 10, 11, 12, 13, 14, 15])]
theorem cs_X7_who_2 : cs_X7_who 2 = am_site 2 [some 0, none] T_X7_isCar [0] [0, 1, 2, 3, 4, 5, 6, 7, 8, 9, 10, 11, 12, 13, 14, 15] := rfl
theorem cs_X7_who_10 : cs_X7_who 10 = am_site 2 [some 0, none] T_X7_no [0, 9] [0, 9, 1, 2, 3, 4, 5, 6, 7, 8, 10, 11, 12, 13, 14, 15] := rfl
theorem cs_X7_who_17 : cs_X7_who 17 = am_site 3 [none, none, none] T_X7_within [] [] := rfl
theorem cs_X7_who_26 : cs_X7_who 26 = am_site 2 [some 0, none] T_X7_no [0, 9] [0, 9, 1, 2, 3, 4, 5, 6, 7, 8, 10, 11, 12, 13, 14, 15] := rfl
theorem cs_X7_who_90 : cs_X7_who 90 = am_site 4 [some 0, none, none, none] T_X7_becomes [0, 1, 2] [0, 1, 2, 3, 4, 5, 6, 7, 8, 9, 10, 11, 12, 13, 14, 15] := rfl
theorem cs_X7_who_94 : cs_X7_who 94 = am_site 1 [some 0] T_X7_wrong [0, 1, 2, 4, 5, 8, 13, 14, 15] [0, 1, 2, 4, 5, 8, 13, 14, 15, 3, 6, 7, 9, 10, 11, 12] := rfl
theorem cs_X7_who_122 : cs_X7_who 122 = am_site 4 [some 0, none, none, none] T_X7_becomes [0, 1, 2] [0, 1, 2, 3, 4, 5, 6, 7, 8, 9, 10, 11, 12, 13, 14, 15] := rfl
theorem ck_X7_who : ∀ X : am_X, am_cx X RX7 cX7_who 7 4 96 → ∀ pc, am_csok X 7 sh_Mod pc (cs_X7_who pc) := fun X hX => am_cs_ok (List.forall_mem_cons.mpr ⟨am_callV hX C_X7_isCar mo_X7_isCar rfl lk_X7_96 dX7_who_2 rfl rfl rfl (by decide), List.forall_mem_cons.mpr ⟨am_callV hX C_X7_no mo_X7_no rfl lk_X7_66 dX7_who_10 rfl rfl rfl (by decide), List.forall_mem_cons.mpr ⟨am_callS hX C_X7_within mo_X7_within rfl lk_X7_62 dX7_who_17 rfl (by decide), List.forall_mem_cons.mpr ⟨am_callV hX C_X7_no mo_X7_no rfl lk_X7_66 dX7_who_26 rfl rfl rfl (by decide), List.forall_mem_cons.mpr ⟨am_callV hX C_X7_becomes mo_X7_becomes rfl lk_X7_99 dX7_who_90 rfl rfl rfl (by decide), List.forall_mem_cons.mpr ⟨am_callV hX C_X7_wrong mo_X7_wrong rfl lk_X7_201 dX7_who_94 rfl rfl rfl (by decide), List.forall_mem_cons.mpr ⟨am_callV hX C_X7_becomes mo_X7_becomes rfl lk_X7_99 dX7_who_122 rfl rfl rfl (by decide), fun _ h => absurd h List.not_mem_nil⟩⟩⟩⟩⟩⟩⟩)
abbrev ok_X7_who (X : am_X) (K : List Int32 → am_D → Prop) : Prop := am_ok X RX7 cX7_who 7 sh_Mod fl_X7 kc_X7 none 1 cs_X7_who K
abbrev aw_X7_who (X : am_X) (pc : Nat) (ls : am_L) (st : List am_V) (D : am_D) : Prop := am_aw X 7 sh_Mod pc ls st D
abbrev T_X7_who : am_TT := am_s2 IM f_who
set_option maxHeartbeats 200000 in
theorem B_X7_who : ∀ (X : am_X) (is : List Int32) (D : am_D) (K : List Int32 → am_D → Prop), ok_X7_who X K → T_X7_who is D K → is.length = (List.filter Option.isNone ([some 0, none, none] : List (Option Nat))).length → D.length = sh_Mod.length → am_aw X 7 sh_Mod 0 (am_l0 7 [some 0, none, none] is) [] D := by
  intro X is D K O hT _ _
  obtain ⟨σ, a, w, ⟨aT, iM, tU, aS, cH, lO, kA, fA, hA, lA, pA, tA, vA, oA, eA, xA, nA, gA, wA, uA, rfl, hR, ht, ho, hk⟩, rfl, hK⟩ := hT
  obtain ⟨hb, hw, hp, hj, hL⟩ := id hR
  have hn : gN σ ≤ 9 := hL.1
  have eN : gN σ = σ.1.1 := rfl
  cases hx : xi (gN σ) a with
  | none =>
    refine am_begin rfl ?_
    refine st_aloadn O dX7_who_0 rfl (q := 1) rfl ?_
    refine st_iloadn O dX7_who_1 rfl (q := 2) rfl ?_
    refine st_call O dX7_who_2 cs_X7_who_2 (q := 5) rfl (am_sipq rfl rfl rfl (Nat.le_of_ble_eq_true rfl) rfl (r := 0) ⟨_, gN σ, _, hn, rfl, rfl, by rw [hx]; rfl⟩ ?_)
    refine st_if_ne O dX7_who_5 (t := 14) rfl (q := 8) rfl (fun c5 => ?_) (fun c5 => ?_)
    · exact absurd c5 (by decide)
    refine st_aloadn O dX7_who_8 rfl (q := 9) rfl ?_
    refine st_iconst O dX7_who_9 am_iconst_m1 (q := 10) rfl ?_
    refine st_call O dX7_who_10 cs_X7_who_10 (q := 13) rfl (am_siq rfl rfl rfl (Nat.le_of_ble_eq_true rfl) rfl ?_)
    refine ⟨_, _, 1, by decide, by decide, rfl, rfl, ?_⟩
    refine am_nrq rfl rfl ?_
    rw [show f_who a w σ = rfs 1 σ from by unfold f_who; rw [hx]] at hK
    exact st_ireturn O dX7_who_13 (hK _ ⟨_, _, _, _, _, _, _, _, _, _, _, _, _, _, _, _, _, _, _, _, rfl, hR, ht, ho, hk⟩)
  | some j =>
    obtain ⟨hj9, rfl⟩ := xi_some hn hx
    obtain ⟨q1, q2, -, -⟩ := hj j hj9
    have loop : ∀ M, (w = 0 ∧ M = 6 ∨ w = 1 ∧ M = 10) → f_who (nI j) w σ = (nI (wbt (wfn σ j w) M), σ) → ∀ d m tU aS cH lO kB fB gA wA uA, (∀ x, x ≠ j → kB x = kA x ∧ fB x = fA x) → M - m = d → m ≤ M → am_aw X 7 sh_Mod 51 [some (.inr 0), some (.inl (nI j)), some (.inl w), some (.inl (kA j)), some (.inl (fA j)), some (.inl (nI (wbt (wfn σ j w) m))), some (.inl (nI m))] [] [.inl [nI (gN σ), nI (gb σ), nI (gw σ), nI σ.2.2.1.length, aT, nI σ.2.2.2.1.length, iM, tU, aS, cH, lO, bI false], .inr kB, .inr fB, .inr hA, .inr lA, .inr pA, .inr tA, .inr vA, .inr oA, .inr σ.2.2.2.2, .inr eA, .inr xA, .inr nA, .inr gA, .inr wA, .inr uA] := by
      intro M hM hfw d
      rw [hfw] at hK
      induction d with
      | zero =>
        intro m tU aS cH lO kB fB gA wA uA heq hdm hm
        have e : m = M := by omega
        subst e
        have hRr : mR σ.1 (upd kB j (kA j)) (upd fB j (fA j)) hA lA pA := mR_congr hR (fun x _ => ⟨by by_cases e : x = j; rw [e, pk_us]; rw [pk_un e]; exact (heq x e).1, by by_cases e : x = j; rw [e, pk_us]; rw [pk_un e]; exact (heq x e).2, rfl, rfl, rfl⟩)
        rcases hM with ⟨rfl, rfl⟩ | ⟨rfl, rfl⟩
        · refine st_iload O dX7_who_51 rfl (q := 53) rfl ?_
          refine st_iloadn O dX7_who_53 rfl (q := 54) rfl ?_
          refine st_if_ne O dX7_who_54 (t := 62) rfl (q := 57) rfl (fun c54 => ?_) (fun c54 => ?_)
          · exact absurd c54 (by decide)
          refine st_bipush O dX7_who_57 am_bipush_6 (q := 59) rfl ?_
          refine st_goto O dX7_who_59 (t := 64) rfl ?_
          refine sn_icmp_ge O dX7_who_64 (t := 117) rfl (q := 67) rfl (by omega) (by omega) (fun c64 => ?_) (fun c64 => ?_)
          · refine st_aloadn O dX7_who_117 rfl (q := 118) rfl ?_
            refine st_iloadn O dX7_who_118 rfl (q := 119) rfl ?_
            refine st_iloadn O dX7_who_119 rfl (q := 120) rfl ?_
            refine st_iload O dX7_who_120 rfl (q := 122) rfl ?_
            refine st_call O dX7_who_122 cs_X7_who_122 (q := 125) rfl (am_siq rfl rfl rfl (Nat.le_of_ble_eq_true rfl) rfl ?_)
            refine ⟨_, _, _, j, _, _, by omega, rfl, rfl, ?_⟩
            refine am_nrp rfl rfl rfl rfl ?_
            refine st_iload O dX7_who_125 rfl (q := 127) rfl ?_
            refine st_ireturn O dX7_who_127 ?_
            exact hK _ ⟨_, _, _, _, _, _, _, _, _, _, _, _, _, _, _, _, _, _, _, _, rfl, hRr, ht, ho, hk⟩
          omega
        · refine st_iload O dX7_who_51 rfl (q := 53) rfl ?_
          refine st_iloadn O dX7_who_53 rfl (q := 54) rfl ?_
          refine st_if_ne O dX7_who_54 (t := 62) rfl (q := 57) rfl (fun c54 => ?_) (fun c54 => ?_)
          · refine st_bipush O dX7_who_62 am_bipush_10 (q := 64) rfl ?_
            refine sn_icmp_ge O dX7_who_64 (t := 117) rfl (q := 67) rfl (by omega) (by omega) (fun c64 => ?_) (fun c64 => ?_)
            · refine st_aloadn O dX7_who_117 rfl (q := 118) rfl ?_
              refine st_iloadn O dX7_who_118 rfl (q := 119) rfl ?_
              refine st_iloadn O dX7_who_119 rfl (q := 120) rfl ?_
              refine st_iload O dX7_who_120 rfl (q := 122) rfl ?_
              refine st_call O dX7_who_122 cs_X7_who_122 (q := 125) rfl (am_siq rfl rfl rfl (Nat.le_of_ble_eq_true rfl) rfl ?_)
              refine ⟨_, _, _, j, _, _, by omega, rfl, rfl, ?_⟩
              refine am_nrp rfl rfl rfl rfl ?_
              refine st_iload O dX7_who_125 rfl (q := 127) rfl ?_
              refine st_ireturn O dX7_who_127 ?_
              exact hK _ ⟨_, _, _, _, _, _, _, _, _, _, _, _, _, _, _, _, _, _, _, _, rfl, hRr, ht, ho, hk⟩
            omega
          exact absurd c54 (by decide)
      | succ d ih =>
        intro m tU aS cH lO kB fB gA wA uA heq hdm hm
        have hm9 : m < 10 := by omega
        have hsh := sh_tab2 m hm9
        have hor := or_tab m hm9 (wbt (wfn σ j w) m) (wbt_lt _ _)
        have hfn := fun L => fns_none (to := σ.2.2.2.1) (L := L) ho.1
        have ihh := fun tU aS cH lO kB fB gA wA uA h => ih (m + 1) tU aS cH lO kB fB gA wA uA h (by omega) (by omega)
        rw [show wbt (wfn σ j w) (m + 1) = wbt (wfn σ j w) m + (if wfn σ j w m = true then 2 ^ m else 0) from rfl] at ihh
        rcases hM with ⟨rfl, rfl⟩ | ⟨rfl, rfl⟩
        · have heq2 : ∀ x, x ≠ j → upd kB j (nI m) x = kA x ∧ upd fB j (fA j) x = fA x := fun x hx => by rw [pk_un hx, pk_un hx]; exact heq x hx
          have hk2 : mK2 (gN σ) (va_up (gk σ) j m) (gf σ) (upd kB j (nI m)) (upd fB j (fA j)) := by
            intro x hx2
            by_cases e : x = j
            · subst e; rw [pk_us, pk_us, va_s]; exact ⟨⟨rfl, by omega⟩, q2⟩
            · rw [(heq2 x e).1, (heq2 x e).2, va_o _ _ e]; exact ⟨(hj x hx2).1, (hj x hx2).2.1⟩
          have hwf : wfn σ j 0 m = decide (fns σ.2.2.2.1 (smw false (gb σ) (gw σ) (va_up (gk σ) j m) (gf σ) (fun z => qu (gl σ) (gq σ) z 0)) = none) := by unfold wfn; rw [if_pos rfl, smw_A (fun _ _ => rfl)]
          have hfn1 := hfn (smw false (gb σ) (gw σ) (va_up (gk σ) j m) (gf σ) (fun z => qu (gl σ) (gq σ) z 0))
          refine st_iload O dX7_who_51 rfl (q := 53) rfl ?_
          refine st_iloadn O dX7_who_53 rfl (q := 54) rfl ?_
          refine st_if_ne O dX7_who_54 (t := 62) rfl (q := 57) rfl (fun c54 => ?_) (fun c54 => ?_)
          · exact absurd c54 (by decide)
          refine st_bipush O dX7_who_57 am_bipush_6 (q := 59) rfl ?_
          refine st_goto O dX7_who_59 (t := 64) rfl ?_
          refine sn_icmp_ge O dX7_who_64 (t := 117) rfl (q := 67) rfl (by omega) (by omega) (fun c64 => ?_) (fun c64 => ?_)
          · omega
          refine st_aloadn O dX7_who_67 rfl (q := 68) rfl ?_
          refine st_iloadn O dX7_who_68 rfl (q := 69) rfl ?_
          refine st_iloadn O dX7_who_69 rfl (q := 70) rfl ?_
          refine st_if_ne O dX7_who_70 (t := 78) rfl (q := 73) rfl (fun c70 => ?_) (fun c70 => ?_)
          · exact absurd c70 (by decide)
          refine st_iload O dX7_who_73 rfl (q := 75) rfl ?_
          refine st_goto O dX7_who_75 (t := 79) rfl ?_
          refine st_iloadn O dX7_who_79 rfl (q := 80) rfl ?_
          refine st_if_ne O dX7_who_80 (t := 88) rfl (q := 83) rfl (fun c80 => ?_) (fun c80 => ?_)
          · exact absurd c80 (by decide)
          refine st_iload O dX7_who_83 rfl (q := 85) rfl ?_
          refine st_goto O dX7_who_85 (t := 90) rfl ?_
          refine st_call O dX7_who_90 cs_X7_who_90 (q := 93) rfl (am_siq rfl rfl rfl (Nat.le_of_ble_eq_true rfl) rfl ?_)
          refine ⟨_, _, _, j, _, _, by omega, rfl, rfl, ?_⟩
          refine am_nrp rfl rfl rfl rfl ?_
          refine st_aloadn O dX7_who_93 rfl (q := 94) rfl ?_
          refine st_call O dX7_who_94 cs_X7_who_94 (q := 97) rfl (am_siq rfl rfl rfl (Nat.le_of_ble_eq_true rfl) rfl ?_)
          refine ⟨gN σ, gb σ, gw σ, _, _, _, _, _, _, _, σ.2.2.2.1, va_up (gk σ) j m, gf σ, (fun z => qu (gl σ) (gq σ) z 0), _, _, _, _, _, _, _, _, rfl, rfl, hb, hk2, hL, ho, fun t1 t2 t3 t4 g1 g2 g3 => ?_⟩
          refine am_nrp rfl rfl rfl rfl ?_
          refine st_bipush O dX7_who_97 am_bipush_m9 (q := 99) rfl ?_
          refine st_icmp_ne O dX7_who_99 (t := 111) rfl (q := 102) rfl (fun c99 => ?_) (fun c99 => ?_)
          · refine st_iinc O dX7_who_111 rfl (by first | exact am_ii1 _ | exact rfl) rfl (q := 114) rfl ?_
            refine st_goto O dX7_who_114 (t := 51) rfl ?_
            first | (rw [if_neg (by rw [hwf, decide_eq_false (fun z => c99 (hfn1.mpr z))]; decide)] at ihh; exact ihh _ _ _ _ _ _ _ _ _ heq2) | (rw [if_pos (by rw [hwf]; exact decide_eq_true (hfn1.mp (by first | exact c99 | exact Decidable.of_not_not c99)))] at ihh; exact ihh _ _ _ _ _ _ _ _ _ heq2)
          refine st_iload O dX7_who_102 rfl (q := 104) rfl ?_
          refine st_iconst O dX7_who_104 am_iconst_1 (q := 105) rfl ?_
          refine st_iload O dX7_who_105 rfl (q := 107) rfl ?_
          refine st_ishl O dX7_who_107 hsh (q := 108) rfl ?_
          refine st_ior O dX7_who_108 hor (q := 109) rfl ?_
          refine st_istore O dX7_who_109 rfl (q := 111) rfl ?_
          refine st_iinc O dX7_who_111 rfl (by first | exact am_ii1 _ | exact rfl) rfl (q := 114) rfl ?_
          refine st_goto O dX7_who_114 (t := 51) rfl ?_
          first | (rw [if_neg (by rw [hwf, decide_eq_false (fun z => c99 (hfn1.mpr z))]; decide)] at ihh; exact ihh _ _ _ _ _ _ _ _ _ heq2) | (rw [if_pos (by rw [hwf]; exact decide_eq_true (hfn1.mp (by first | exact c99 | exact Decidable.of_not_not c99)))] at ihh; exact ihh _ _ _ _ _ _ _ _ _ heq2)
        · have heq2 : ∀ x, x ≠ j → upd kB j (kA j) x = kA x ∧ upd fB j (nI m) x = fA x := fun x hx => by rw [pk_un hx, pk_un hx]; exact heq x hx
          have hk2 : mK2 (gN σ) (gk σ) (va_up (gf σ) j m) (upd kB j (kA j)) (upd fB j (nI m)) := by
            intro x hx2
            by_cases e : x = j
            · subst e; rw [pk_us, pk_us, va_s]; exact ⟨q1, ⟨rfl, by omega⟩⟩
            · rw [(heq2 x e).1, (heq2 x e).2, va_o _ _ e]; exact ⟨(hj x hx2).1, (hj x hx2).2.1⟩
          have hwf : wfn σ j 1 m = decide (fns σ.2.2.2.1 (smw false (gb σ) (gw σ) (gk σ) (va_up (gf σ) j m) (fun z => qu (gl σ) (gq σ) z 0)) = none) := by unfold wfn; rw [if_neg (by decide), smw_A (fun _ _ => rfl)]
          have hfn1 := hfn (smw false (gb σ) (gw σ) (gk σ) (va_up (gf σ) j m) (fun z => qu (gl σ) (gq σ) z 0))
          refine st_iload O dX7_who_51 rfl (q := 53) rfl ?_
          refine st_iloadn O dX7_who_53 rfl (q := 54) rfl ?_
          refine st_if_ne O dX7_who_54 (t := 62) rfl (q := 57) rfl (fun c54 => ?_) (fun c54 => ?_)
          · refine st_bipush O dX7_who_62 am_bipush_10 (q := 64) rfl ?_
            refine sn_icmp_ge O dX7_who_64 (t := 117) rfl (q := 67) rfl (by omega) (by omega) (fun c64 => ?_) (fun c64 => ?_)
            · omega
            refine st_aloadn O dX7_who_67 rfl (q := 68) rfl ?_
            refine st_iloadn O dX7_who_68 rfl (q := 69) rfl ?_
            refine st_iloadn O dX7_who_69 rfl (q := 70) rfl ?_
            refine st_if_ne O dX7_who_70 (t := 78) rfl (q := 73) rfl (fun c70 => ?_) (fun c70 => ?_)
            · refine st_iloadn O dX7_who_78 rfl (q := 79) rfl ?_
              refine st_iloadn O dX7_who_79 rfl (q := 80) rfl ?_
              refine st_if_ne O dX7_who_80 (t := 88) rfl (q := 83) rfl (fun c80 => ?_) (fun c80 => ?_)
              · refine st_iload O dX7_who_88 rfl (q := 90) rfl ?_
                refine st_call O dX7_who_90 cs_X7_who_90 (q := 93) rfl (am_siq rfl rfl rfl (Nat.le_of_ble_eq_true rfl) rfl ?_)
                refine ⟨_, _, _, j, _, _, by omega, rfl, rfl, ?_⟩
                refine am_nrp rfl rfl rfl rfl ?_
                refine st_aloadn O dX7_who_93 rfl (q := 94) rfl ?_
                refine st_call O dX7_who_94 cs_X7_who_94 (q := 97) rfl (am_siq rfl rfl rfl (Nat.le_of_ble_eq_true rfl) rfl ?_)
                refine ⟨gN σ, gb σ, gw σ, _, _, _, _, _, _, _, σ.2.2.2.1, gk σ, va_up (gf σ) j m, (fun z => qu (gl σ) (gq σ) z 0), _, _, _, _, _, _, _, _, rfl, rfl, hb, hk2, hL, ho, fun t1 t2 t3 t4 g1 g2 g3 => ?_⟩
                refine am_nrp rfl rfl rfl rfl ?_
                refine st_bipush O dX7_who_97 am_bipush_m9 (q := 99) rfl ?_
                refine st_icmp_ne O dX7_who_99 (t := 111) rfl (q := 102) rfl (fun c99 => ?_) (fun c99 => ?_)
                · refine st_iinc O dX7_who_111 rfl (by first | exact am_ii1 _ | exact rfl) rfl (q := 114) rfl ?_
                  refine st_goto O dX7_who_114 (t := 51) rfl ?_
                  first | (rw [if_neg (by rw [hwf, decide_eq_false (fun z => c99 (hfn1.mpr z))]; decide)] at ihh; exact ihh _ _ _ _ _ _ _ _ _ heq2) | (rw [if_pos (by rw [hwf]; exact decide_eq_true (hfn1.mp (by first | exact c99 | exact Decidable.of_not_not c99)))] at ihh; exact ihh _ _ _ _ _ _ _ _ _ heq2)
                refine st_iload O dX7_who_102 rfl (q := 104) rfl ?_
                refine st_iconst O dX7_who_104 am_iconst_1 (q := 105) rfl ?_
                refine st_iload O dX7_who_105 rfl (q := 107) rfl ?_
                refine st_ishl O dX7_who_107 hsh (q := 108) rfl ?_
                refine st_ior O dX7_who_108 hor (q := 109) rfl ?_
                refine st_istore O dX7_who_109 rfl (q := 111) rfl ?_
                refine st_iinc O dX7_who_111 rfl (by first | exact am_ii1 _ | exact rfl) rfl (q := 114) rfl ?_
                refine st_goto O dX7_who_114 (t := 51) rfl ?_
                first | (rw [if_neg (by rw [hwf, decide_eq_false (fun z => c99 (hfn1.mpr z))]; decide)] at ihh; exact ihh _ _ _ _ _ _ _ _ _ heq2) | (rw [if_pos (by rw [hwf]; exact decide_eq_true (hfn1.mp (by first | exact c99 | exact Decidable.of_not_not c99)))] at ihh; exact ihh _ _ _ _ _ _ _ _ _ heq2)
              exact absurd c80 (by decide)
            exact absurd c70 (by decide)
          exact absurd c54 (by decide)
    by_cases h01 : w = 0 ∨ w = 1
    · obtain ⟨M, hM, hfw⟩ : ∃ M, (w = 0 ∧ M = 6 ∨ w = 1 ∧ M = 10) ∧ f_who (nI j) w σ = (nI (wbt (wfn σ j w) M), σ) := by
        rcases h01 with rfl | rfl
        · exact ⟨6, Or.inl ⟨rfl, rfl⟩, by unfold f_who; rw [hx]; rfl⟩
        · exact ⟨10, Or.inr ⟨rfl, rfl⟩, by unfold f_who; rw [hx]; rfl⟩
      refine am_begin rfl ?_
      refine st_aloadn O dX7_who_0 rfl (q := 1) rfl ?_
      refine st_iloadn O dX7_who_1 rfl (q := 2) rfl ?_
      refine st_call O dX7_who_2 cs_X7_who_2 (q := 5) rfl (am_sipq rfl rfl rfl (Nat.le_of_ble_eq_true rfl) rfl (r := 1) ⟨_, gN σ, _, hn, rfl, rfl, by rw [hx]; rfl⟩ ?_)
      refine st_if_ne O dX7_who_5 (t := 14) rfl (q := 8) rfl (fun c5 => ?_) (fun c5 => ?_)
      · refine st_iloadn O dX7_who_14 rfl (q := 15) rfl ?_
        refine st_iconst O dX7_who_15 am_iconst_0 (q := 16) rfl ?_
        refine st_iconst O dX7_who_16 am_iconst_1 (q := 17) rfl ?_
        refine st_callS O dX7_who_17 cs_X7_who_17 (q := 20) rfl (am_sipq rfl rfl rfl (Nat.le_of_ble_eq_true rfl) rfl (r := 1) ⟨_, _, _, rfl, wiT h01⟩ ?_)
        refine st_if_ne O dX7_who_20 (t := 30) rfl (q := 23) rfl (fun c20 => ?_) (fun c20 => ?_)
        · refine st_aloadn O dX7_who_30 rfl (q := 31) rfl ?_
          refine st_getr O dX7_who_31 fl_X7_7 rfl rfl rfl (q := 34) rfl ?_
          refine st_iloadn O dX7_who_34 rfl (q := 35) rfl ?_
          refine sn_ald O dX7_who_35 rfl rfl rfl ⟨by omega, by decide⟩ rfl (q := 36) rfl ?_
          refine st_istoren O dX7_who_36 rfl (q := 37) rfl ?_
          refine st_aloadn O dX7_who_37 rfl (q := 38) rfl ?_
          refine st_getr O dX7_who_38 fl_X7_13 rfl rfl rfl (q := 41) rfl ?_
          refine st_iloadn O dX7_who_41 rfl (q := 42) rfl ?_
          refine sn_ald O dX7_who_42 rfl rfl rfl ⟨by omega, by decide⟩ rfl (q := 43) rfl ?_
          refine st_istore O dX7_who_43 rfl (q := 45) rfl ?_
          refine st_iconst O dX7_who_45 am_iconst_0 (q := 46) rfl ?_
          refine st_istore O dX7_who_46 rfl (q := 48) rfl ?_
          refine st_iconst O dX7_who_48 am_iconst_0 (q := 49) rfl ?_
          refine st_istore O dX7_who_49 rfl (q := 51) rfl ?_
          exact loop M hM hfw M 0 _ _ _ _ _ _ _ _ _ (fun x _ => ⟨rfl, rfl⟩) rfl (Nat.zero_le _)
        exact absurd c20 (by decide)
      exact absurd c5 (by decide)
    · refine am_begin rfl ?_
      refine st_aloadn O dX7_who_0 rfl (q := 1) rfl ?_
      refine st_iloadn O dX7_who_1 rfl (q := 2) rfl ?_
      refine st_call O dX7_who_2 cs_X7_who_2 (q := 5) rfl (am_sipq rfl rfl rfl (Nat.le_of_ble_eq_true rfl) rfl (r := 1) ⟨_, gN σ, _, hn, rfl, rfl, by rw [hx]; rfl⟩ ?_)
      refine st_if_ne O dX7_who_5 (t := 14) rfl (q := 8) rfl (fun c5 => ?_) (fun c5 => ?_)
      · refine st_iloadn O dX7_who_14 rfl (q := 15) rfl ?_
        refine st_iconst O dX7_who_15 am_iconst_0 (q := 16) rfl ?_
        refine st_iconst O dX7_who_16 am_iconst_1 (q := 17) rfl ?_
        refine st_callS O dX7_who_17 cs_X7_who_17 (q := 20) rfl (am_sipq rfl rfl rfl (Nat.le_of_ble_eq_true rfl) rfl (r := 0) ⟨_, _, _, rfl, wiF h01⟩ ?_)
        refine st_if_ne O dX7_who_20 (t := 30) rfl (q := 23) rfl (fun c20 => ?_) (fun c20 => ?_)
        · exact absurd c20 (by decide)
        refine st_aloadn O dX7_who_23 rfl (q := 24) rfl ?_
        refine st_bipush O dX7_who_24 am_bipush_m2 (q := 26) rfl ?_
        refine st_call O dX7_who_26 cs_X7_who_26 (q := 29) rfl (am_siq rfl rfl rfl (Nat.le_of_ble_eq_true rfl) rfl ?_)
        refine ⟨_, _, 2, by decide, by decide, rfl, rfl, ?_⟩
        refine am_nrq rfl rfl ?_
        rw [show f_who (nI j) w σ = rfs 2 σ from by unfold f_who; rw [hx]; exact if_neg h01] at hK
        exact st_ireturn O dX7_who_29 (hK _ ⟨_, _, _, _, _, _, _, _, _, _, _, _, _, _, _, _, _, _, _, _, rfl, hR, ht, ho, hk⟩)
      exact absurd c5 (by decide)
theorem C_X7_who : am_ctr yX7_who cX7_who 7 (some .int) 4 96 sh_Mod [some 0, none, none] T_X7_who := am_mk (by decide) (Or.inr (Or.inl ⟨rfl, rfl⟩)) (by decide) (by decide) (by decide) fl_X7_ok kc_X7_ok ck_X7_who B_X7_who
