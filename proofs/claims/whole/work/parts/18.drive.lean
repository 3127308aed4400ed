/-! one turn, and all of them -/
def cs_X3_isLeftNext : Nat → List am_V → am_D → am_K → Prop := am_cs [(50, am_site 2 [some 0, none] T_X4_letsIn [6, 7, 8, 9, 10, 11] [6, 7, 8, 9, 10, 11]), (95, am_site 1 [none] T_X2_isPushing [] [])]
theorem cs_X3_isLeftNext_50 : cs_X3_isLeftNext 50 = am_site 2 [some 0, none] T_X4_letsIn [6, 7, 8, 9, 10, 11] [6, 7, 8, 9, 10, 11] := rfl
theorem cs_X3_isLeftNext_95 : cs_X3_isLeftNext 95 = am_site 1 [none] T_X2_isPushing [] [] := rfl
theorem ck_X3_isLeftNext : ∀ X : am_X, am_cx X RX3 cX3_isLeftNext 3 2 43 → ∀ pc, am_csok X 3 sh_PR pc (cs_X3_isLeftNext pc) := fun X hX => am_cs_ok (List.forall_mem_cons.mpr ⟨am_callV hX C_X4_letsIn mo_X4_letsIn rfl lk_X3_78 dX3_isLeftNext_50 rfl rfl rfl (by decide), List.forall_mem_cons.mpr ⟨am_callS hX C_X2_isPushing mo_X2_isPushing rfl lk_X3_85 dX3_isLeftNext_95 rfl (by decide), fun _ h => absurd h List.not_mem_nil⟩⟩)
abbrev ok_X3_isLeftNext (X : am_X) (K : List Int32 → am_D → Prop) : Prop := am_ok X RX3 cX3_isLeftNext 3 sh_PR fl_X3 kc_X3 none 2 cs_X3_isLeftNext K
abbrev aw_X3_isLeftNext (X : am_X) (pc : Nat) (ls : am_L) (st : List am_V) (D : am_D) : Prop := am_aw X 3 sh_PR pc ls st D
abbrev T_X3_isLeftNext : am_TT := fun is D K => ∃ n b w kd fg la hu li d2 tu se o wt tn r l R Lf rg lg k z pd, is = [] ∧ D = [.inl [tu, se, nI (List.length R), nI (List.length Lf), nI rg, nI lg, nI k, laI z, bI pd], .inr o, .inr wt, .inr tn, .inr r, .inr l] ++ d2 ∧ rA n b w kd fg la hu li d2 ∧ aL r R ∧ aL l Lf ∧ R.length ≤ 9 ∧ Lf.length ≤ 9 ∧ (∀ c ∈ R, c < n) ∧ (∀ c ∈ Lf, c < n) ∧ rg ≤ R.length ∧ lg ≤ Lf.length ∧ k ≤ 9 ∧ z ≤ 2 ∧ ∀ bo k' pd', dc (fun c => lt (kd c) (fg c) b) (fun c => decide (kd c = 2)) (R.drop rg) (Lf.drop lg) k z pd = (bo, k', pd') → K [bI bo] ([.inl [tu, se, nI R.length, nI Lf.length, nI rg, nI lg, nI k', laI z, bI pd'], .inr o, .inr wt, .inr tn, .inr r, .inr l] ++ d2)
theorem lt_le {k f b : Nat} (hf : f < 10) (hb : b ≤ 2) : lt k f b ≤ 9 := by
  unfold lt
  split
  · omega
  · split
    · omega
    · split
      · omega
      · split <;> omega
theorem laI_1 {z : Nat} (hz : z ≤ 2) : laI z = nI 1 ↔ z = 1 := by
  rcases (show z = 0 ∨ z = 1 ∨ z = 2 by omega) with rfl | rfl | rfl
  · decide
  · decide
  · decide
theorem B_X3_isLeftNext : ∀ (X : am_X) (is : List Int32) (D : am_D) (K : List Int32 → am_D → Prop), ok_X3_isLeftNext X K → T_X3_isLeftNext is D K → is.length = (List.filter Option.isNone ([some 0, some 6] : List (Option Nat))).length → D.length = sh_PR.length → am_aw X 3 sh_PR 0 (am_l0 3 [some 0, some 6] is) [] D := by
  intro X is D K O hT _ _
  obtain ⟨n, b, w, kd, fg, la, hu, li, d2, tu, se, o, wt, tn, r, l, R, Lf, rg, lg, k, z, pd, rfl, rfl, hR, ar, al, r9, l9, rn, ln, hrg, hlg, hk, hz, hK⟩ := hT
  obtain ⟨kk, f, la', h, i, rfl, hn, hb, hw, hj, hp, hi⟩ := id hR
  rcases Nat.lt_or_ge lg Lf.length with q1 | q1
  · have hcl := ln _ (pl_gm q1)
    have hkl := (hj _ hcl).1
    have hkl2 := hkl.2
    rw [dr_cons q1] at hK
    rcases Nat.lt_or_ge rg R.length with q2 | q2
    · have hcr := rn _ (pl_gm q2)
      have hlt := lt_le (k := kd (R.getD rg 0)) (hj _ hcr).2.1.2 hb
      rw [dr_cons q2] at hK
      simp only [dc] at hK
      by_cases q3 : k < lt (kd (R.getD rg 0)) (fg (R.getD rg 0)) b
      · rw [if_pos q3] at hK
        refine am_begin rfl ?_
        refine st_aloadn O dX3_isLeftNext_0 rfl (q := 1) rfl ?_
        refine st_geti O dX3_isLeftNext_1 fl_X3_52 rfl rfl rfl rfl (q := 4) rfl ?_
        refine st_istoren O dX3_isLeftNext_4 rfl (q := 5) rfl ?_
        refine st_aloadn O dX3_isLeftNext_5 rfl (q := 6) rfl ?_
        refine st_iconst O dX3_isLeftNext_6 am_iconst_0 (q := 7) rfl ?_
        refine st_putz O dX3_isLeftNext_7 fl_X3_52 rfl rfl rfl rfl rfl (by first | exact Or.inl rfl | exact Or.inr rfl | assumption) (q := 10) rfl ?_
        refine st_aloadn O dX3_isLeftNext_10 rfl (q := 11) rfl ?_
        refine st_geti O dX3_isLeftNext_11 fl_X3_43 rfl rfl rfl rfl (q := 14) rfl ?_
        refine st_aloadn O dX3_isLeftNext_14 rfl (q := 15) rfl ?_
        refine st_geti O dX3_isLeftNext_15 fl_X3_37 rfl rfl rfl rfl (q := 18) rfl ?_
        refine sn_icmp_lt O dX3_isLeftNext_18 (t := 23) rfl (q := 21) rfl (by omega) (by omega) (fun c18 => ?_) (fun c18 => ?_)
        · refine st_aloadn O dX3_isLeftNext_23 rfl (q := 24) rfl ?_
          refine st_geti O dX3_isLeftNext_24 fl_X3_40 rfl rfl rfl rfl (q := 27) rfl ?_
          refine st_aloadn O dX3_isLeftNext_27 rfl (q := 28) rfl ?_
          refine st_geti O dX3_isLeftNext_28 fl_X3_34 rfl rfl rfl rfl (q := 31) rfl ?_
          refine sn_icmp_lt O dX3_isLeftNext_31 (t := 36) rfl (q := 34) rfl (by omega) (by omega) (fun c31 => ?_) (fun c31 => ?_)
          · refine st_aloadn O dX3_isLeftNext_36 rfl (q := 37) rfl ?_
            refine st_geti O dX3_isLeftNext_37 fl_X3_46 rfl rfl rfl rfl (q := 40) rfl ?_
            refine st_aloadn O dX3_isLeftNext_40 rfl (q := 41) rfl ?_
            refine st_aloadn O dX3_isLeftNext_41 rfl (q := 42) rfl ?_
            refine st_getr O dX3_isLeftNext_42 fl_X3_28 rfl rfl rfl (q := 45) rfl ?_
            refine st_aloadn O dX3_isLeftNext_45 rfl (q := 46) rfl ?_
            refine st_geti O dX3_isLeftNext_46 fl_X3_40 rfl rfl rfl rfl (q := 49) rfl ?_
            refine sn_ald O dX3_isLeftNext_49 rfl rfl rfl ⟨by omega, by decide⟩ (ar rg q2) (q := 50) rfl ?_
            refine st_call O dX3_isLeftNext_50 cs_X3_isLeftNext_50 (q := 53) rfl (am_sip rfl rfl rfl (Nat.le_of_ble_eq_true rfl) rfl (r := nI (lt (kd (R.getD rg 0)) (fg (R.getD rg 0)) b)) ⟨n, b, w, kd, fg, la, hu, li, _, hR, hcr, rfl, rfl⟩ ?_)
            refine sn_icmp_ge O dX3_isLeftNext_53 (t := 68) rfl (q := 56) rfl (by omega) (by omega) (fun c53 => ?_) (fun c53 => ?_)
            · omega
            refine st_aloadn O dX3_isLeftNext_56 rfl (q := 57) rfl ?_
            refine st_dup O dX3_isLeftNext_57 (q := 58) rfl ?_
            refine st_geti O dX3_isLeftNext_58 fl_X3_46 rfl rfl rfl rfl (q := 61) rfl ?_
            refine st_iconst O dX3_isLeftNext_61 am_iconst_1 (q := 62) rfl ?_
            refine st_iadd O dX3_isLeftNext_62 (by first | exact nI_add _ _ | exact rfl) (q := 63) rfl ?_
            refine st_puti O dX3_isLeftNext_63 fl_X3_46 rfl rfl rfl rfl rfl (q := 66) rfl ?_
            refine st_iconst O dX3_isLeftNext_66 am_iconst_1 (q := 67) rfl ?_
            refine st_zreturn O dX3_isLeftNext_67 (by first | exact Or.inl rfl | exact Or.inr rfl | assumption) ?_
            exact hK true (k + 1) false rfl
          omega
        omega
      · rw [if_neg q3] at hK
        by_cases q4 : z = 1
        · cases pd with
          | true =>
            rw [if_neg (by simp)] at hK
            refine am_begin rfl ?_
            refine st_aloadn O dX3_isLeftNext_0 rfl (q := 1) rfl ?_
            refine st_geti O dX3_isLeftNext_1 fl_X3_52 rfl rfl rfl rfl (q := 4) rfl ?_
            refine st_istoren O dX3_isLeftNext_4 rfl (q := 5) rfl ?_
            refine st_aloadn O dX3_isLeftNext_5 rfl (q := 6) rfl ?_
            refine st_iconst O dX3_isLeftNext_6 am_iconst_0 (q := 7) rfl ?_
            refine st_putz O dX3_isLeftNext_7 fl_X3_52 rfl rfl rfl rfl rfl (by first | exact Or.inl rfl | exact Or.inr rfl | assumption) (q := 10) rfl ?_
            refine st_aloadn O dX3_isLeftNext_10 rfl (q := 11) rfl ?_
            refine st_geti O dX3_isLeftNext_11 fl_X3_43 rfl rfl rfl rfl (q := 14) rfl ?_
            refine st_aloadn O dX3_isLeftNext_14 rfl (q := 15) rfl ?_
            refine st_geti O dX3_isLeftNext_15 fl_X3_37 rfl rfl rfl rfl (q := 18) rfl ?_
            refine sn_icmp_lt O dX3_isLeftNext_18 (t := 23) rfl (q := 21) rfl (by omega) (by omega) (fun c18 => ?_) (fun c18 => ?_)
            · refine st_aloadn O dX3_isLeftNext_23 rfl (q := 24) rfl ?_
              refine st_geti O dX3_isLeftNext_24 fl_X3_40 rfl rfl rfl rfl (q := 27) rfl ?_
              refine st_aloadn O dX3_isLeftNext_27 rfl (q := 28) rfl ?_
              refine st_geti O dX3_isLeftNext_28 fl_X3_34 rfl rfl rfl rfl (q := 31) rfl ?_
              refine sn_icmp_lt O dX3_isLeftNext_31 (t := 36) rfl (q := 34) rfl (by omega) (by omega) (fun c31 => ?_) (fun c31 => ?_)
              · refine st_aloadn O dX3_isLeftNext_36 rfl (q := 37) rfl ?_
                refine st_geti O dX3_isLeftNext_37 fl_X3_46 rfl rfl rfl rfl (q := 40) rfl ?_
                refine st_aloadn O dX3_isLeftNext_40 rfl (q := 41) rfl ?_
                refine st_aloadn O dX3_isLeftNext_41 rfl (q := 42) rfl ?_
                refine st_getr O dX3_isLeftNext_42 fl_X3_28 rfl rfl rfl (q := 45) rfl ?_
                refine st_aloadn O dX3_isLeftNext_45 rfl (q := 46) rfl ?_
                refine st_geti O dX3_isLeftNext_46 fl_X3_40 rfl rfl rfl rfl (q := 49) rfl ?_
                refine sn_ald O dX3_isLeftNext_49 rfl rfl rfl ⟨by omega, by decide⟩ (ar rg q2) (q := 50) rfl ?_
                refine st_call O dX3_isLeftNext_50 cs_X3_isLeftNext_50 (q := 53) rfl (am_sip rfl rfl rfl (Nat.le_of_ble_eq_true rfl) rfl (r := nI (lt (kd (R.getD rg 0)) (fg (R.getD rg 0)) b)) ⟨n, b, w, kd, fg, la, hu, li, _, hR, hcr, rfl, rfl⟩ ?_)
                refine sn_icmp_ge O dX3_isLeftNext_53 (t := 68) rfl (q := 56) rfl (by omega) (by omega) (fun c53 => ?_) (fun c53 => ?_)
                · refine st_aloadn O dX3_isLeftNext_68 rfl (q := 69) rfl ?_
                  refine st_aloadn O dX3_isLeftNext_69 rfl (q := 70) rfl ?_
                  refine st_geti O dX3_isLeftNext_70 fl_X3_49 rfl rfl rfl rfl (q := 73) rfl ?_
                  refine st_iconst O dX3_isLeftNext_73 am_iconst_1 (q := 74) rfl ?_
                  refine st_icmp_ne O dX3_isLeftNext_74 (t := 105) rfl (q := 77) rfl (fun c74 => ?_) (fun c74 => ?_)
                  · exact absurd ((laI_1 hz).mpr q4) c74
                  refine st_iloadn O dX3_isLeftNext_77 rfl (q := 78) rfl ?_
                  refine st_if_ne O dX3_isLeftNext_78 (t := 105) rfl (q := 81) rfl (fun c78 => ?_) (fun c78 => ?_)
                  · refine st_iconst O dX3_isLeftNext_105 am_iconst_0 (q := 106) rfl ?_
                    refine st_putz O dX3_isLeftNext_106 fl_X3_52 rfl rfl rfl rfl rfl (by first | exact Or.inl rfl | exact Or.inr rfl | assumption) (q := 109) rfl ?_
                    refine st_aloadn O dX3_isLeftNext_109 rfl (q := 110) rfl ?_
                    refine st_geti O dX3_isLeftNext_110 fl_X3_52 rfl rfl rfl rfl (q := 113) rfl ?_
                    refine st_zreturn O dX3_isLeftNext_113 (by first | exact Or.inl rfl | exact Or.inr rfl | assumption) ?_
                    exact hK false k false rfl
                  exact absurd c78 (by decide)
                omega
              omega
            omega
          | false =>
            by_cases q5 : kd (Lf.getD lg 0) = 2
            · rw [if_pos ⟨q4, rfl, by simpa using q5⟩] at hK
              refine am_begin rfl ?_
              refine st_aloadn O dX3_isLeftNext_0 rfl (q := 1) rfl ?_
              refine st_geti O dX3_isLeftNext_1 fl_X3_52 rfl rfl rfl rfl (q := 4) rfl ?_
              refine st_istoren O dX3_isLeftNext_4 rfl (q := 5) rfl ?_
              refine st_aloadn O dX3_isLeftNext_5 rfl (q := 6) rfl ?_
              refine st_iconst O dX3_isLeftNext_6 am_iconst_0 (q := 7) rfl ?_
              refine st_putz O dX3_isLeftNext_7 fl_X3_52 rfl rfl rfl rfl rfl (by first | exact Or.inl rfl | exact Or.inr rfl | assumption) (q := 10) rfl ?_
              refine st_aloadn O dX3_isLeftNext_10 rfl (q := 11) rfl ?_
              refine st_geti O dX3_isLeftNext_11 fl_X3_43 rfl rfl rfl rfl (q := 14) rfl ?_
              refine st_aloadn O dX3_isLeftNext_14 rfl (q := 15) rfl ?_
              refine st_geti O dX3_isLeftNext_15 fl_X3_37 rfl rfl rfl rfl (q := 18) rfl ?_
              refine sn_icmp_lt O dX3_isLeftNext_18 (t := 23) rfl (q := 21) rfl (by omega) (by omega) (fun c18 => ?_) (fun c18 => ?_)
              · refine st_aloadn O dX3_isLeftNext_23 rfl (q := 24) rfl ?_
                refine st_geti O dX3_isLeftNext_24 fl_X3_40 rfl rfl rfl rfl (q := 27) rfl ?_
                refine st_aloadn O dX3_isLeftNext_27 rfl (q := 28) rfl ?_
                refine st_geti O dX3_isLeftNext_28 fl_X3_34 rfl rfl rfl rfl (q := 31) rfl ?_
                refine sn_icmp_lt O dX3_isLeftNext_31 (t := 36) rfl (q := 34) rfl (by omega) (by omega) (fun c31 => ?_) (fun c31 => ?_)
                · refine st_aloadn O dX3_isLeftNext_36 rfl (q := 37) rfl ?_
                  refine st_geti O dX3_isLeftNext_37 fl_X3_46 rfl rfl rfl rfl (q := 40) rfl ?_
                  refine st_aloadn O dX3_isLeftNext_40 rfl (q := 41) rfl ?_
                  refine st_aloadn O dX3_isLeftNext_41 rfl (q := 42) rfl ?_
                  refine st_getr O dX3_isLeftNext_42 fl_X3_28 rfl rfl rfl (q := 45) rfl ?_
                  refine st_aloadn O dX3_isLeftNext_45 rfl (q := 46) rfl ?_
                  refine st_geti O dX3_isLeftNext_46 fl_X3_40 rfl rfl rfl rfl (q := 49) rfl ?_
                  refine sn_ald O dX3_isLeftNext_49 rfl rfl rfl ⟨by omega, by decide⟩ (ar rg q2) (q := 50) rfl ?_
                  refine st_call O dX3_isLeftNext_50 cs_X3_isLeftNext_50 (q := 53) rfl (am_sip rfl rfl rfl (Nat.le_of_ble_eq_true rfl) rfl (r := nI (lt (kd (R.getD rg 0)) (fg (R.getD rg 0)) b)) ⟨n, b, w, kd, fg, la, hu, li, _, hR, hcr, rfl, rfl⟩ ?_)
                  refine sn_icmp_ge O dX3_isLeftNext_53 (t := 68) rfl (q := 56) rfl (by omega) (by omega) (fun c53 => ?_) (fun c53 => ?_)
                  · refine st_aloadn O dX3_isLeftNext_68 rfl (q := 69) rfl ?_
                    refine st_aloadn O dX3_isLeftNext_69 rfl (q := 70) rfl ?_
                    refine st_geti O dX3_isLeftNext_70 fl_X3_49 rfl rfl rfl rfl (q := 73) rfl ?_
                    refine st_iconst O dX3_isLeftNext_73 am_iconst_1 (q := 74) rfl ?_
                    refine st_icmp_ne O dX3_isLeftNext_74 (t := 105) rfl (q := 77) rfl (fun c74 => ?_) (fun c74 => ?_)
                    · exact absurd ((laI_1 hz).mpr q4) c74
                    refine st_iloadn O dX3_isLeftNext_77 rfl (q := 78) rfl ?_
                    refine st_if_ne O dX3_isLeftNext_78 (t := 105) rfl (q := 81) rfl (fun c78 => ?_) (fun c78 => ?_)
                    · exact absurd (show bI false = 0 by decide) c78
                    refine st_aloadn O dX3_isLeftNext_81 rfl (q := 82) rfl ?_
                    refine st_getr O dX3_isLeftNext_82 fl_X3_82 rfl rfl rfl (q := 85) rfl ?_
                    refine st_aloadn O dX3_isLeftNext_85 rfl (q := 86) rfl ?_
                    refine st_getr O dX3_isLeftNext_86 fl_X3_31 rfl rfl rfl (q := 89) rfl ?_
                    refine st_aloadn O dX3_isLeftNext_89 rfl (q := 90) rfl ?_
                    refine st_geti O dX3_isLeftNext_90 fl_X3_43 rfl rfl rfl rfl (q := 93) rfl ?_
                    refine sn_ald O dX3_isLeftNext_93 rfl rfl rfl ⟨by omega, by decide⟩ (al lg q1) (q := 94) rfl ?_
                    refine sn_ald O dX3_isLeftNext_94 rfl rfl rfl ⟨by omega, by decide⟩ hkl.1 (q := 95) rfl ?_
                    refine st_callS O dX3_isLeftNext_95 cs_X3_isLeftNext_95 (q := 98) rfl (am_sip rfl rfl rfl (Nat.le_of_ble_eq_true rfl) rfl (r := 1) ⟨_, hkl.2, rfl, by rw [if_pos q5]⟩ ?_)
                    refine st_if_eq O dX3_isLeftNext_98 (t := 105) rfl (q := 101) rfl (fun c98 => ?_) (fun c98 => ?_)
                    · exact absurd c98 (by decide)
                    refine st_iconst O dX3_isLeftNext_101 am_iconst_1 (q := 102) rfl ?_
                    refine st_goto O dX3_isLeftNext_102 (t := 106) rfl ?_
                    refine st_putz O dX3_isLeftNext_106 fl_X3_52 rfl rfl rfl rfl rfl (by first | exact Or.inl rfl | exact Or.inr rfl | assumption) (q := 109) rfl ?_
                    refine st_aloadn O dX3_isLeftNext_109 rfl (q := 110) rfl ?_
                    refine st_geti O dX3_isLeftNext_110 fl_X3_52 rfl rfl rfl rfl (q := 113) rfl ?_
                    refine st_zreturn O dX3_isLeftNext_113 (by first | exact Or.inl rfl | exact Or.inr rfl | assumption) ?_
                    exact hK true k true rfl
                  omega
                omega
              omega
            · rw [if_neg (fun hh => q5 (of_decide_eq_true hh.2.2))] at hK
              refine am_begin rfl ?_
              refine st_aloadn O dX3_isLeftNext_0 rfl (q := 1) rfl ?_
              refine st_geti O dX3_isLeftNext_1 fl_X3_52 rfl rfl rfl rfl (q := 4) rfl ?_
              refine st_istoren O dX3_isLeftNext_4 rfl (q := 5) rfl ?_
              refine st_aloadn O dX3_isLeftNext_5 rfl (q := 6) rfl ?_
              refine st_iconst O dX3_isLeftNext_6 am_iconst_0 (q := 7) rfl ?_
              refine st_putz O dX3_isLeftNext_7 fl_X3_52 rfl rfl rfl rfl rfl (by first | exact Or.inl rfl | exact Or.inr rfl | assumption) (q := 10) rfl ?_
              refine st_aloadn O dX3_isLeftNext_10 rfl (q := 11) rfl ?_
              refine st_geti O dX3_isLeftNext_11 fl_X3_43 rfl rfl rfl rfl (q := 14) rfl ?_
              refine st_aloadn O dX3_isLeftNext_14 rfl (q := 15) rfl ?_
              refine st_geti O dX3_isLeftNext_15 fl_X3_37 rfl rfl rfl rfl (q := 18) rfl ?_
              refine sn_icmp_lt O dX3_isLeftNext_18 (t := 23) rfl (q := 21) rfl (by omega) (by omega) (fun c18 => ?_) (fun c18 => ?_)
              · refine st_aloadn O dX3_isLeftNext_23 rfl (q := 24) rfl ?_
                refine st_geti O dX3_isLeftNext_24 fl_X3_40 rfl rfl rfl rfl (q := 27) rfl ?_
                refine st_aloadn O dX3_isLeftNext_27 rfl (q := 28) rfl ?_
                refine st_geti O dX3_isLeftNext_28 fl_X3_34 rfl rfl rfl rfl (q := 31) rfl ?_
                refine sn_icmp_lt O dX3_isLeftNext_31 (t := 36) rfl (q := 34) rfl (by omega) (by omega) (fun c31 => ?_) (fun c31 => ?_)
                · refine st_aloadn O dX3_isLeftNext_36 rfl (q := 37) rfl ?_
                  refine st_geti O dX3_isLeftNext_37 fl_X3_46 rfl rfl rfl rfl (q := 40) rfl ?_
                  refine st_aloadn O dX3_isLeftNext_40 rfl (q := 41) rfl ?_
                  refine st_aloadn O dX3_isLeftNext_41 rfl (q := 42) rfl ?_
                  refine st_getr O dX3_isLeftNext_42 fl_X3_28 rfl rfl rfl (q := 45) rfl ?_
                  refine st_aloadn O dX3_isLeftNext_45 rfl (q := 46) rfl ?_
                  refine st_geti O dX3_isLeftNext_46 fl_X3_40 rfl rfl rfl rfl (q := 49) rfl ?_
                  refine sn_ald O dX3_isLeftNext_49 rfl rfl rfl ⟨by omega, by decide⟩ (ar rg q2) (q := 50) rfl ?_
                  refine st_call O dX3_isLeftNext_50 cs_X3_isLeftNext_50 (q := 53) rfl (am_sip rfl rfl rfl (Nat.le_of_ble_eq_true rfl) rfl (r := nI (lt (kd (R.getD rg 0)) (fg (R.getD rg 0)) b)) ⟨n, b, w, kd, fg, la, hu, li, _, hR, hcr, rfl, rfl⟩ ?_)
                  refine sn_icmp_ge O dX3_isLeftNext_53 (t := 68) rfl (q := 56) rfl (by omega) (by omega) (fun c53 => ?_) (fun c53 => ?_)
                  · refine st_aloadn O dX3_isLeftNext_68 rfl (q := 69) rfl ?_
                    refine st_aloadn O dX3_isLeftNext_69 rfl (q := 70) rfl ?_
                    refine st_geti O dX3_isLeftNext_70 fl_X3_49 rfl rfl rfl rfl (q := 73) rfl ?_
                    refine st_iconst O dX3_isLeftNext_73 am_iconst_1 (q := 74) rfl ?_
                    refine st_icmp_ne O dX3_isLeftNext_74 (t := 105) rfl (q := 77) rfl (fun c74 => ?_) (fun c74 => ?_)
                    · exact absurd ((laI_1 hz).mpr q4) c74
                    refine st_iloadn O dX3_isLeftNext_77 rfl (q := 78) rfl ?_
                    refine st_if_ne O dX3_isLeftNext_78 (t := 105) rfl (q := 81) rfl (fun c78 => ?_) (fun c78 => ?_)
                    · exact absurd (show bI false = 0 by decide) c78
                    refine st_aloadn O dX3_isLeftNext_81 rfl (q := 82) rfl ?_
                    refine st_getr O dX3_isLeftNext_82 fl_X3_82 rfl rfl rfl (q := 85) rfl ?_
                    refine st_aloadn O dX3_isLeftNext_85 rfl (q := 86) rfl ?_
                    refine st_getr O dX3_isLeftNext_86 fl_X3_31 rfl rfl rfl (q := 89) rfl ?_
                    refine st_aloadn O dX3_isLeftNext_89 rfl (q := 90) rfl ?_
                    refine st_geti O dX3_isLeftNext_90 fl_X3_43 rfl rfl rfl rfl (q := 93) rfl ?_
                    refine sn_ald O dX3_isLeftNext_93 rfl rfl rfl ⟨by omega, by decide⟩ (al lg q1) (q := 94) rfl ?_
                    refine sn_ald O dX3_isLeftNext_94 rfl rfl rfl ⟨by omega, by decide⟩ hkl.1 (q := 95) rfl ?_
                    refine st_callS O dX3_isLeftNext_95 cs_X3_isLeftNext_95 (q := 98) rfl (am_sip rfl rfl rfl (Nat.le_of_ble_eq_true rfl) rfl (r := 0) ⟨_, hkl.2, rfl, by rw [if_neg q5]⟩ ?_)
                    refine st_if_eq O dX3_isLeftNext_98 (t := 105) rfl (q := 101) rfl (fun c98 => ?_) (fun c98 => ?_)
                    · refine st_iconst O dX3_isLeftNext_105 am_iconst_0 (q := 106) rfl ?_
                      refine st_putz O dX3_isLeftNext_106 fl_X3_52 rfl rfl rfl rfl rfl (by first | exact Or.inl rfl | exact Or.inr rfl | assumption) (q := 109) rfl ?_
                      refine st_aloadn O dX3_isLeftNext_109 rfl (q := 110) rfl ?_
                      refine st_geti O dX3_isLeftNext_110 fl_X3_52 rfl rfl rfl rfl (q := 113) rfl ?_
                      refine st_zreturn O dX3_isLeftNext_113 (by first | exact Or.inl rfl | exact Or.inr rfl | assumption) ?_
                      exact hK false k false rfl
                    exact absurd c98 (by decide)
                  omega
                omega
              omega
        · rw [if_neg (by simp [q4])] at hK
          refine am_begin rfl ?_
          refine st_aloadn O dX3_isLeftNext_0 rfl (q := 1) rfl ?_
          refine st_geti O dX3_isLeftNext_1 fl_X3_52 rfl rfl rfl rfl (q := 4) rfl ?_
          refine st_istoren O dX3_isLeftNext_4 rfl (q := 5) rfl ?_
          refine st_aloadn O dX3_isLeftNext_5 rfl (q := 6) rfl ?_
          refine st_iconst O dX3_isLeftNext_6 am_iconst_0 (q := 7) rfl ?_
          refine st_putz O dX3_isLeftNext_7 fl_X3_52 rfl rfl rfl rfl rfl (by first | exact Or.inl rfl | exact Or.inr rfl | assumption) (q := 10) rfl ?_
          refine st_aloadn O dX3_isLeftNext_10 rfl (q := 11) rfl ?_
          refine st_geti O dX3_isLeftNext_11 fl_X3_43 rfl rfl rfl rfl (q := 14) rfl ?_
          refine st_aloadn O dX3_isLeftNext_14 rfl (q := 15) rfl ?_
          refine st_geti O dX3_isLeftNext_15 fl_X3_37 rfl rfl rfl rfl (q := 18) rfl ?_
          refine sn_icmp_lt O dX3_isLeftNext_18 (t := 23) rfl (q := 21) rfl (by omega) (by omega) (fun c18 => ?_) (fun c18 => ?_)
          · refine st_aloadn O dX3_isLeftNext_23 rfl (q := 24) rfl ?_
            refine st_geti O dX3_isLeftNext_24 fl_X3_40 rfl rfl rfl rfl (q := 27) rfl ?_
            refine st_aloadn O dX3_isLeftNext_27 rfl (q := 28) rfl ?_
            refine st_geti O dX3_isLeftNext_28 fl_X3_34 rfl rfl rfl rfl (q := 31) rfl ?_
            refine sn_icmp_lt O dX3_isLeftNext_31 (t := 36) rfl (q := 34) rfl (by omega) (by omega) (fun c31 => ?_) (fun c31 => ?_)
            · refine st_aloadn O dX3_isLeftNext_36 rfl (q := 37) rfl ?_
              refine st_geti O dX3_isLeftNext_37 fl_X3_46 rfl rfl rfl rfl (q := 40) rfl ?_
              refine st_aloadn O dX3_isLeftNext_40 rfl (q := 41) rfl ?_
              refine st_aloadn O dX3_isLeftNext_41 rfl (q := 42) rfl ?_
              refine st_getr O dX3_isLeftNext_42 fl_X3_28 rfl rfl rfl (q := 45) rfl ?_
              refine st_aloadn O dX3_isLeftNext_45 rfl (q := 46) rfl ?_
              refine st_geti O dX3_isLeftNext_46 fl_X3_40 rfl rfl rfl rfl (q := 49) rfl ?_
              refine sn_ald O dX3_isLeftNext_49 rfl rfl rfl ⟨by omega, by decide⟩ (ar rg q2) (q := 50) rfl ?_
              refine st_call O dX3_isLeftNext_50 cs_X3_isLeftNext_50 (q := 53) rfl (am_sip rfl rfl rfl (Nat.le_of_ble_eq_true rfl) rfl (r := nI (lt (kd (R.getD rg 0)) (fg (R.getD rg 0)) b)) ⟨n, b, w, kd, fg, la, hu, li, _, hR, hcr, rfl, rfl⟩ ?_)
              refine sn_icmp_ge O dX3_isLeftNext_53 (t := 68) rfl (q := 56) rfl (by omega) (by omega) (fun c53 => ?_) (fun c53 => ?_)
              · refine st_aloadn O dX3_isLeftNext_68 rfl (q := 69) rfl ?_
                refine st_aloadn O dX3_isLeftNext_69 rfl (q := 70) rfl ?_
                refine st_geti O dX3_isLeftNext_70 fl_X3_49 rfl rfl rfl rfl (q := 73) rfl ?_
                refine st_iconst O dX3_isLeftNext_73 am_iconst_1 (q := 74) rfl ?_
                refine st_icmp_ne O dX3_isLeftNext_74 (t := 105) rfl (q := 77) rfl (fun c74 => ?_) (fun c74 => ?_)
                · refine st_iconst O dX3_isLeftNext_105 am_iconst_0 (q := 106) rfl ?_
                  refine st_putz O dX3_isLeftNext_106 fl_X3_52 rfl rfl rfl rfl rfl (by first | exact Or.inl rfl | exact Or.inr rfl | assumption) (q := 109) rfl ?_
                  refine st_aloadn O dX3_isLeftNext_109 rfl (q := 110) rfl ?_
                  refine st_geti O dX3_isLeftNext_110 fl_X3_52 rfl rfl rfl rfl (q := 113) rfl ?_
                  refine st_zreturn O dX3_isLeftNext_113 (by first | exact Or.inl rfl | exact Or.inr rfl | assumption) ?_
                  exact hK false k false rfl
                exact absurd ((laI_1 hz).mp c74) q4
              omega
            omega
          omega
    · rw [dr_nil q2] at hK
      refine am_begin rfl ?_
      refine st_aloadn O dX3_isLeftNext_0 rfl (q := 1) rfl ?_
      refine st_geti O dX3_isLeftNext_1 fl_X3_52 rfl rfl rfl rfl (q := 4) rfl ?_
      refine st_istoren O dX3_isLeftNext_4 rfl (q := 5) rfl ?_
      refine st_aloadn O dX3_isLeftNext_5 rfl (q := 6) rfl ?_
      refine st_iconst O dX3_isLeftNext_6 am_iconst_0 (q := 7) rfl ?_
      refine st_putz O dX3_isLeftNext_7 fl_X3_52 rfl rfl rfl rfl rfl (by first | exact Or.inl rfl | exact Or.inr rfl | assumption) (q := 10) rfl ?_
      refine st_aloadn O dX3_isLeftNext_10 rfl (q := 11) rfl ?_
      refine st_geti O dX3_isLeftNext_11 fl_X3_43 rfl rfl rfl rfl (q := 14) rfl ?_
      refine st_aloadn O dX3_isLeftNext_14 rfl (q := 15) rfl ?_
      refine st_geti O dX3_isLeftNext_15 fl_X3_37 rfl rfl rfl rfl (q := 18) rfl ?_
      refine sn_icmp_lt O dX3_isLeftNext_18 (t := 23) rfl (q := 21) rfl (by omega) (by omega) (fun c18 => ?_) (fun c18 => ?_)
      · refine st_aloadn O dX3_isLeftNext_23 rfl (q := 24) rfl ?_
        refine st_geti O dX3_isLeftNext_24 fl_X3_40 rfl rfl rfl rfl (q := 27) rfl ?_
        refine st_aloadn O dX3_isLeftNext_27 rfl (q := 28) rfl ?_
        refine st_geti O dX3_isLeftNext_28 fl_X3_34 rfl rfl rfl rfl (q := 31) rfl ?_
        refine sn_icmp_lt O dX3_isLeftNext_31 (t := 36) rfl (q := 34) rfl (by omega) (by omega) (fun c31 => ?_) (fun c31 => ?_)
        · omega
        refine st_iconst O dX3_isLeftNext_34 am_iconst_1 (q := 35) rfl ?_
        refine st_zreturn O dX3_isLeftNext_35 (by first | exact Or.inl rfl | exact Or.inr rfl | assumption) ?_
        exact hK true k false rfl
      omega
  · rw [dr_nil q1] at hK
    refine am_begin rfl ?_
    refine st_aloadn O dX3_isLeftNext_0 rfl (q := 1) rfl ?_
    refine st_geti O dX3_isLeftNext_1 fl_X3_52 rfl rfl rfl rfl (q := 4) rfl ?_
    refine st_istoren O dX3_isLeftNext_4 rfl (q := 5) rfl ?_
    refine st_aloadn O dX3_isLeftNext_5 rfl (q := 6) rfl ?_
    refine st_iconst O dX3_isLeftNext_6 am_iconst_0 (q := 7) rfl ?_
    refine st_putz O dX3_isLeftNext_7 fl_X3_52 rfl rfl rfl rfl rfl (by first | exact Or.inl rfl | exact Or.inr rfl | assumption) (q := 10) rfl ?_
    refine st_aloadn O dX3_isLeftNext_10 rfl (q := 11) rfl ?_
    refine st_geti O dX3_isLeftNext_11 fl_X3_43 rfl rfl rfl rfl (q := 14) rfl ?_
    refine st_aloadn O dX3_isLeftNext_14 rfl (q := 15) rfl ?_
    refine st_geti O dX3_isLeftNext_15 fl_X3_37 rfl rfl rfl rfl (q := 18) rfl ?_
    refine sn_icmp_lt O dX3_isLeftNext_18 (t := 23) rfl (q := 21) rfl (by omega) (by omega) (fun c18 => ?_) (fun c18 => ?_)
    · omega
    refine st_iconst O dX3_isLeftNext_21 am_iconst_0 (q := 22) rfl ?_
    refine st_zreturn O dX3_isLeftNext_22 (by first | exact Or.inl rfl | exact Or.inr rfl | assumption) ?_
    exact hK false k false (by cases R.drop rg <;> rfl)
theorem C_X3_isLeftNext : am_ctr yX3_isLeftNext cX3_isLeftNext 3 (some .boolean) 2 43 sh_PR [some 0, some 6] T_X3_isLeftNext := am_mk (by decide) (Or.inr (Or.inr ⟨rfl, rfl⟩)) (by decide) (by decide) (by decide) fl_X3_ok kc_X3_ok ck_X3_isLeftNext B_X3_isLeftNext
def cs_X3_goThrough : Nat → List am_V → am_D → am_K → Prop := am_cs [(18, am_site 1 [none] T_X2_secondsOf [] [])]
theorem cs_X3_goThrough_18 : cs_X3_goThrough 18 = am_site 1 [none] T_X2_secondsOf [] [] := rfl
theorem ck_X3_goThrough : ∀ X : am_X, am_cx X RX3 cX3_goThrough 4 1 20 → ∀ pc, am_csok X 4 sh_PR pc (cs_X3_goThrough pc) := fun X hX => am_cs_ok (List.forall_mem_cons.mpr ⟨am_callS hX C_X2_secondsOf mo_X2_secondsOf rfl lk_X3_91 dX3_goThrough_18 rfl (by decide), fun _ h => absurd h List.not_mem_nil⟩)
abbrev ok_X3_goThrough (X : am_X) (K : List Int32 → am_D → Prop) : Prop := am_ok X RX3 cX3_goThrough 4 sh_PR fl_X3 kc_X3 none 0 cs_X3_goThrough K
abbrev aw_X3_goThrough (X : am_X) (pc : Nat) (ls : am_L) (st : List am_V) (D : am_D) : Prop := am_aw X 4 sh_PR pc ls st D
abbrev T_X3_goThrough : am_TT := fun is D K => ∃ n b w kd fg la hu li d2 m t c0 d0 e0 f0 g0 z pu o wt tn r l c, is = [nI c] ∧ c < n ∧ D = [.inl [nI m, nI t, c0, d0, e0, f0, g0, laI z, pu], .inr o, .inr wt, .inr tn, .inr r, .inr l] ++ d2 ∧ rA n b w kd fg la hu li d2 ∧ m < 9 ∧ z ≤ 2 ∧ (z = 2 ↔ m = 0) ∧ K [] ([.inl [nI (m + 1), nI (t + sc (kd c) + (if z = 1 - la c then w else 0)), c0, d0, e0, f0, g0, laI (la c), pu], .inr (upd o m (nI c)), .inr (upd wt c (nI (t + sc (kd c) + (if z = 1 - la c then w else 0)))), .inr (upd tn c (nI m)), .inr r, .inr l] ++ d2)
theorem laI_e {z : Nat} (hz : z < 2) : laI z = nI z := by
  unfold laI
  rw [if_neg (by omega)]
theorem B_X3_goThrough : ∀ (X : am_X) (is : List Int32) (D : am_D) (K : List Int32 → am_D → Prop), ok_X3_goThrough X K → T_X3_goThrough is D K → is.length = (List.filter Option.isNone ([some 0, some 6, none] : List (Option Nat))).length → D.length = sh_PR.length → am_aw X 4 sh_PR 0 (am_l0 4 [some 0, some 6, none] is) [] D := by
  intro X is D K O hT _ _
  obtain ⟨n, b, w, kd, fg, la, hu, li, d2, m, t, c0, d0, e0, f0, g0, z, pu, o, wt, tn, r, l, c, rfl, hc, rfl, hR, hm, hz, hzm, hK⟩ := hT
  obtain ⟨kk, f, la', h, i, rfl, hn, hb, hw, hj, hp, hi⟩ := id hR
  have hkc := (hj c hc).1
  have hlc := (hj c hc).2.2.1
  have hl2 := hlc.2
  rw [laI_e hl2] at hK
  rcases Nat.eq_zero_or_pos m with q1 | q1
  · have hz2 := hzm.mpr q1
    rw [if_neg (by omega), Nat.add_zero] at hK
    refine am_begin rfl ?_
    refine st_aloadn O dX3_goThrough_0 rfl (q := 1) rfl ?_
    refine st_getr O dX3_goThrough_1 fl_X3_75 rfl rfl rfl (q := 4) rfl ?_
    refine st_iloadn O dX3_goThrough_4 rfl (q := 5) rfl ?_
    refine sn_ald O dX3_goThrough_5 rfl rfl rfl ⟨by omega, by decide⟩ hlc.1 (q := 6) rfl ?_
    refine st_istoren O dX3_goThrough_6 rfl (q := 7) rfl ?_
    refine st_aloadn O dX3_goThrough_7 rfl (q := 8) rfl ?_
    refine st_dup O dX3_goThrough_8 (q := 9) rfl ?_
    refine st_geti O dX3_goThrough_9 fl_X3_25 rfl rfl rfl rfl (q := 12) rfl ?_
    refine st_aloadn O dX3_goThrough_12 rfl (q := 13) rfl ?_
    refine st_getr O dX3_goThrough_13 fl_X3_82 rfl rfl rfl (q := 16) rfl ?_
    refine st_iloadn O dX3_goThrough_16 rfl (q := 17) rfl ?_
    refine sn_ald O dX3_goThrough_17 rfl rfl rfl ⟨by omega, by decide⟩ hkc.1 (q := 18) rfl ?_
    refine st_callS O dX3_goThrough_18 cs_X3_goThrough_18 (q := 21) rfl (am_sip rfl rfl rfl (Nat.le_of_ble_eq_true rfl) rfl (r := nI (sc (kd c))) ⟨_, hkc.2, rfl, rfl⟩ ?_)
    refine st_iadd O dX3_goThrough_21 (by first | exact nI_add _ _ | exact rfl) (q := 22) rfl ?_
    refine st_puti O dX3_goThrough_22 fl_X3_25 rfl rfl rfl rfl rfl (q := 25) rfl ?_
    refine st_aloadn O dX3_goThrough_25 rfl (q := 26) rfl ?_
    refine st_geti O dX3_goThrough_26 fl_X3_21 rfl rfl rfl rfl (q := 29) rfl ?_
    refine sn_if_le O dX3_goThrough_29 (t := 53) rfl (q := 32) rfl (by omega) (fun c29 => ?_) (fun c29 => ?_)
    · refine st_aloadn O dX3_goThrough_53 rfl (q := 54) rfl ?_
      refine st_iloadn O dX3_goThrough_54 rfl (q := 55) rfl ?_
      refine st_puti O dX3_goThrough_55 fl_X3_49 rfl rfl rfl rfl rfl (q := 58) rfl ?_
      refine st_aloadn O dX3_goThrough_58 rfl (q := 59) rfl ?_
      refine st_getr O dX3_goThrough_59 fl_X3_15 rfl rfl rfl (q := 62) rfl ?_
      refine st_iloadn O dX3_goThrough_62 rfl (q := 63) rfl ?_
      refine st_aloadn O dX3_goThrough_63 rfl (q := 64) rfl ?_
      refine st_geti O dX3_goThrough_64 fl_X3_25 rfl rfl rfl rfl (q := 67) rfl ?_
      refine sn_ast O dX3_goThrough_67 rfl rfl rfl ⟨by omega, by decide⟩ rfl rfl (q := 68) rfl ?_
      refine st_aloadn O dX3_goThrough_68 rfl (q := 69) rfl ?_
      refine st_getr O dX3_goThrough_69 fl_X3_18 rfl rfl rfl (q := 72) rfl ?_
      refine st_iloadn O dX3_goThrough_72 rfl (q := 73) rfl ?_
      refine st_aloadn O dX3_goThrough_73 rfl (q := 74) rfl ?_
      refine st_geti O dX3_goThrough_74 fl_X3_21 rfl rfl rfl rfl (q := 77) rfl ?_
      refine sn_ast O dX3_goThrough_77 rfl rfl rfl ⟨by omega, by decide⟩ rfl rfl (q := 78) rfl ?_
      refine st_aloadn O dX3_goThrough_78 rfl (q := 79) rfl ?_
      refine st_getr O dX3_goThrough_79 fl_X3_9 rfl rfl rfl (q := 82) rfl ?_
      refine st_aloadn O dX3_goThrough_82 rfl (q := 83) rfl ?_
      refine st_geti O dX3_goThrough_83 fl_X3_21 rfl rfl rfl rfl (q := 86) rfl ?_
      refine st_iloadn O dX3_goThrough_86 rfl (q := 87) rfl ?_
      refine sn_ast O dX3_goThrough_87 rfl rfl rfl ⟨by omega, by decide⟩ rfl rfl (q := 88) rfl ?_
      refine st_aloadn O dX3_goThrough_88 rfl (q := 89) rfl ?_
      refine st_dup O dX3_goThrough_89 (q := 90) rfl ?_
      refine st_geti O dX3_goThrough_90 fl_X3_21 rfl rfl rfl rfl (q := 93) rfl ?_
      refine st_iconst O dX3_goThrough_93 am_iconst_1 (q := 94) rfl ?_
      refine st_iadd O dX3_goThrough_94 (by first | exact nI_add _ _ | exact rfl) (q := 95) rfl ?_
      refine st_puti O dX3_goThrough_95 fl_X3_21 rfl rfl rfl rfl rfl (q := 98) rfl ?_
      refine st_vreturn O dX3_goThrough_98 ?_
      exact hK
    omega
  · have hz2 : z < 2 := by omega
    rw [laI_e hz2]
    by_cases q2 : z = 1 - la c
    · rw [if_pos q2] at hK
      refine am_begin rfl ?_
      refine st_aloadn O dX3_goThrough_0 rfl (q := 1) rfl ?_
      refine st_getr O dX3_goThrough_1 fl_X3_75 rfl rfl rfl (q := 4) rfl ?_
      refine st_iloadn O dX3_goThrough_4 rfl (q := 5) rfl ?_
      refine sn_ald O dX3_goThrough_5 rfl rfl rfl ⟨by omega, by decide⟩ hlc.1 (q := 6) rfl ?_
      refine st_istoren O dX3_goThrough_6 rfl (q := 7) rfl ?_
      refine st_aloadn O dX3_goThrough_7 rfl (q := 8) rfl ?_
      refine st_dup O dX3_goThrough_8 (q := 9) rfl ?_
      refine st_geti O dX3_goThrough_9 fl_X3_25 rfl rfl rfl rfl (q := 12) rfl ?_
      refine st_aloadn O dX3_goThrough_12 rfl (q := 13) rfl ?_
      refine st_getr O dX3_goThrough_13 fl_X3_82 rfl rfl rfl (q := 16) rfl ?_
      refine st_iloadn O dX3_goThrough_16 rfl (q := 17) rfl ?_
      refine sn_ald O dX3_goThrough_17 rfl rfl rfl ⟨by omega, by decide⟩ hkc.1 (q := 18) rfl ?_
      refine st_callS O dX3_goThrough_18 cs_X3_goThrough_18 (q := 21) rfl (am_sip rfl rfl rfl (Nat.le_of_ble_eq_true rfl) rfl (r := nI (sc (kd c))) ⟨_, hkc.2, rfl, rfl⟩ ?_)
      refine st_iadd O dX3_goThrough_21 (by first | exact nI_add _ _ | exact rfl) (q := 22) rfl ?_
      refine st_puti O dX3_goThrough_22 fl_X3_25 rfl rfl rfl rfl rfl (q := 25) rfl ?_
      refine st_aloadn O dX3_goThrough_25 rfl (q := 26) rfl ?_
      refine st_geti O dX3_goThrough_26 fl_X3_21 rfl rfl rfl rfl (q := 29) rfl ?_
      refine sn_if_le O dX3_goThrough_29 (t := 53) rfl (q := 32) rfl (by omega) (fun c29 => ?_) (fun c29 => ?_)
      · omega
      refine st_iloadn O dX3_goThrough_32 rfl (q := 33) rfl ?_
      refine st_aloadn O dX3_goThrough_33 rfl (q := 34) rfl ?_
      refine st_geti O dX3_goThrough_34 fl_X3_49 rfl rfl rfl rfl (q := 37) rfl ?_
      refine sn_icmp_eq O dX3_goThrough_37 (t := 53) rfl (q := 40) rfl (by omega) (by omega) (fun c37 => ?_) (fun c37 => ?_)
      · omega
      refine st_aloadn O dX3_goThrough_40 rfl (q := 41) rfl ?_
      refine st_dup O dX3_goThrough_41 (q := 42) rfl ?_
      refine st_geti O dX3_goThrough_42 fl_X3_25 rfl rfl rfl rfl (q := 45) rfl ?_
      refine st_aloadn O dX3_goThrough_45 rfl (q := 46) rfl ?_
      refine st_geti O dX3_goThrough_46 fl_X3_94 rfl rfl rfl rfl (q := 49) rfl ?_
      refine st_iadd O dX3_goThrough_49 (by first | exact nI_add _ _ | exact rfl) (q := 50) rfl ?_
      refine st_puti O dX3_goThrough_50 fl_X3_25 rfl rfl rfl rfl rfl (q := 53) rfl ?_
      refine st_aloadn O dX3_goThrough_53 rfl (q := 54) rfl ?_
      refine st_iloadn O dX3_goThrough_54 rfl (q := 55) rfl ?_
      refine st_puti O dX3_goThrough_55 fl_X3_49 rfl rfl rfl rfl rfl (q := 58) rfl ?_
      refine st_aloadn O dX3_goThrough_58 rfl (q := 59) rfl ?_
      refine st_getr O dX3_goThrough_59 fl_X3_15 rfl rfl rfl (q := 62) rfl ?_
      refine st_iloadn O dX3_goThrough_62 rfl (q := 63) rfl ?_
      refine st_aloadn O dX3_goThrough_63 rfl (q := 64) rfl ?_
      refine st_geti O dX3_goThrough_64 fl_X3_25 rfl rfl rfl rfl (q := 67) rfl ?_
      refine sn_ast O dX3_goThrough_67 rfl rfl rfl ⟨by omega, by decide⟩ rfl rfl (q := 68) rfl ?_
      refine st_aloadn O dX3_goThrough_68 rfl (q := 69) rfl ?_
      refine st_getr O dX3_goThrough_69 fl_X3_18 rfl rfl rfl (q := 72) rfl ?_
      refine st_iloadn O dX3_goThrough_72 rfl (q := 73) rfl ?_
      refine st_aloadn O dX3_goThrough_73 rfl (q := 74) rfl ?_
      refine st_geti O dX3_goThrough_74 fl_X3_21 rfl rfl rfl rfl (q := 77) rfl ?_
      refine sn_ast O dX3_goThrough_77 rfl rfl rfl ⟨by omega, by decide⟩ rfl rfl (q := 78) rfl ?_
      refine st_aloadn O dX3_goThrough_78 rfl (q := 79) rfl ?_
      refine st_getr O dX3_goThrough_79 fl_X3_9 rfl rfl rfl (q := 82) rfl ?_
      refine st_aloadn O dX3_goThrough_82 rfl (q := 83) rfl ?_
      refine st_geti O dX3_goThrough_83 fl_X3_21 rfl rfl rfl rfl (q := 86) rfl ?_
      refine st_iloadn O dX3_goThrough_86 rfl (q := 87) rfl ?_
      refine sn_ast O dX3_goThrough_87 rfl rfl rfl ⟨by omega, by decide⟩ rfl rfl (q := 88) rfl ?_
      refine st_aloadn O dX3_goThrough_88 rfl (q := 89) rfl ?_
      refine st_dup O dX3_goThrough_89 (q := 90) rfl ?_
      refine st_geti O dX3_goThrough_90 fl_X3_21 rfl rfl rfl rfl (q := 93) rfl ?_
      refine st_iconst O dX3_goThrough_93 am_iconst_1 (q := 94) rfl ?_
      refine st_iadd O dX3_goThrough_94 (by first | exact nI_add _ _ | exact rfl) (q := 95) rfl ?_
      refine st_puti O dX3_goThrough_95 fl_X3_21 rfl rfl rfl rfl rfl (q := 98) rfl ?_
      refine st_vreturn O dX3_goThrough_98 ?_
      exact hK
    · rw [if_neg q2, Nat.add_zero] at hK
      refine am_begin rfl ?_
      refine st_aloadn O dX3_goThrough_0 rfl (q := 1) rfl ?_
      refine st_getr O dX3_goThrough_1 fl_X3_75 rfl rfl rfl (q := 4) rfl ?_
      refine st_iloadn O dX3_goThrough_4 rfl (q := 5) rfl ?_
      refine sn_ald O dX3_goThrough_5 rfl rfl rfl ⟨by omega, by decide⟩ hlc.1 (q := 6) rfl ?_
      refine st_istoren O dX3_goThrough_6 rfl (q := 7) rfl ?_
      refine st_aloadn O dX3_goThrough_7 rfl (q := 8) rfl ?_
      refine st_dup O dX3_goThrough_8 (q := 9) rfl ?_
      refine st_geti O dX3_goThrough_9 fl_X3_25 rfl rfl rfl rfl (q := 12) rfl ?_
      refine st_aloadn O dX3_goThrough_12 rfl (q := 13) rfl ?_
      refine st_getr O dX3_goThrough_13 fl_X3_82 rfl rfl rfl (q := 16) rfl ?_
      refine st_iloadn O dX3_goThrough_16 rfl (q := 17) rfl ?_
      refine sn_ald O dX3_goThrough_17 rfl rfl rfl ⟨by omega, by decide⟩ hkc.1 (q := 18) rfl ?_
      refine st_callS O dX3_goThrough_18 cs_X3_goThrough_18 (q := 21) rfl (am_sip rfl rfl rfl (Nat.le_of_ble_eq_true rfl) rfl (r := nI (sc (kd c))) ⟨_, hkc.2, rfl, rfl⟩ ?_)
      refine st_iadd O dX3_goThrough_21 (by first | exact nI_add _ _ | exact rfl) (q := 22) rfl ?_
      refine st_puti O dX3_goThrough_22 fl_X3_25 rfl rfl rfl rfl rfl (q := 25) rfl ?_
      refine st_aloadn O dX3_goThrough_25 rfl (q := 26) rfl ?_
      refine st_geti O dX3_goThrough_26 fl_X3_21 rfl rfl rfl rfl (q := 29) rfl ?_
      refine sn_if_le O dX3_goThrough_29 (t := 53) rfl (q := 32) rfl (by omega) (fun c29 => ?_) (fun c29 => ?_)
      · omega
      refine st_iloadn O dX3_goThrough_32 rfl (q := 33) rfl ?_
      refine st_aloadn O dX3_goThrough_33 rfl (q := 34) rfl ?_
      refine st_geti O dX3_goThrough_34 fl_X3_49 rfl rfl rfl rfl (q := 37) rfl ?_
      refine sn_icmp_eq O dX3_goThrough_37 (t := 53) rfl (q := 40) rfl (by omega) (by omega) (fun c37 => ?_) (fun c37 => ?_)
      · refine st_aloadn O dX3_goThrough_53 rfl (q := 54) rfl ?_
        refine st_iloadn O dX3_goThrough_54 rfl (q := 55) rfl ?_
        refine st_puti O dX3_goThrough_55 fl_X3_49 rfl rfl rfl rfl rfl (q := 58) rfl ?_
        refine st_aloadn O dX3_goThrough_58 rfl (q := 59) rfl ?_
        refine st_getr O dX3_goThrough_59 fl_X3_15 rfl rfl rfl (q := 62) rfl ?_
        refine st_iloadn O dX3_goThrough_62 rfl (q := 63) rfl ?_
        refine st_aloadn O dX3_goThrough_63 rfl (q := 64) rfl ?_
        refine st_geti O dX3_goThrough_64 fl_X3_25 rfl rfl rfl rfl (q := 67) rfl ?_
        refine sn_ast O dX3_goThrough_67 rfl rfl rfl ⟨by omega, by decide⟩ rfl rfl (q := 68) rfl ?_
        refine st_aloadn O dX3_goThrough_68 rfl (q := 69) rfl ?_
        refine st_getr O dX3_goThrough_69 fl_X3_18 rfl rfl rfl (q := 72) rfl ?_
        refine st_iloadn O dX3_goThrough_72 rfl (q := 73) rfl ?_
        refine st_aloadn O dX3_goThrough_73 rfl (q := 74) rfl ?_
        refine st_geti O dX3_goThrough_74 fl_X3_21 rfl rfl rfl rfl (q := 77) rfl ?_
        refine sn_ast O dX3_goThrough_77 rfl rfl rfl ⟨by omega, by decide⟩ rfl rfl (q := 78) rfl ?_
        refine st_aloadn O dX3_goThrough_78 rfl (q := 79) rfl ?_
        refine st_getr O dX3_goThrough_79 fl_X3_9 rfl rfl rfl (q := 82) rfl ?_
        refine st_aloadn O dX3_goThrough_82 rfl (q := 83) rfl ?_
        refine st_geti O dX3_goThrough_83 fl_X3_21 rfl rfl rfl rfl (q := 86) rfl ?_
        refine st_iloadn O dX3_goThrough_86 rfl (q := 87) rfl ?_
        refine sn_ast O dX3_goThrough_87 rfl rfl rfl ⟨by omega, by decide⟩ rfl rfl (q := 88) rfl ?_
        refine st_aloadn O dX3_goThrough_88 rfl (q := 89) rfl ?_
        refine st_dup O dX3_goThrough_89 (q := 90) rfl ?_
        refine st_geti O dX3_goThrough_90 fl_X3_21 rfl rfl rfl rfl (q := 93) rfl ?_
        refine st_iconst O dX3_goThrough_93 am_iconst_1 (q := 94) rfl ?_
        refine st_iadd O dX3_goThrough_94 (by first | exact nI_add _ _ | exact rfl) (q := 95) rfl ?_
        refine st_puti O dX3_goThrough_95 fl_X3_21 rfl rfl rfl rfl rfl (q := 98) rfl ?_
        refine st_vreturn O dX3_goThrough_98 ?_
        exact hK
      omega
theorem C_X3_goThrough : am_ctr yX3_goThrough cX3_goThrough 4 none 1 20 sh_PR [some 0, some 6, none] T_X3_goThrough := am_mk (by decide) (Or.inl ⟨rfl, rfl⟩) (by decide) (by decide) (by decide) fl_X3_ok kc_X3_ok ck_X3_goThrough B_X3_goThrough
def cs_X3_drive : Nat → List am_V → am_D → am_K → Prop := am_cs [(3, am_site 3 [some 0, some 6, none] T_X3_lineUp [0, 1, 2, 3, 4, 5, 6, 7, 8, 9, 10, 11] [0, 1, 2, 3, 4, 5, 6, 7, 8, 9, 10, 11]), (27, am_site 2 [some 0, some 6] T_X3_isLeftNext [0, 1, 2, 3, 4, 5, 6, 7, 8, 9, 10, 11] [0, 1, 2, 3, 4, 5, 6, 7, 8, 9, 10, 11]), (97, am_site 3 [some 0, some 6, none] T_X3_goThrough [0, 1, 2, 3, 4, 5, 6, 7, 8, 9, 10, 11] [0, 1, 2, 3, 4, 5, 6, 7, 8, 9, 10, 11])]
theorem cs_X3_drive_3 : cs_X3_drive 3 = am_site 3 [some 0, some 6, none] T_X3_lineUp [0, 1, 2, 3, 4, 5, 6, 7, 8, 9, 10, 11] [0, 1, 2, 3, 4, 5, 6, 7, 8, 9, 10, 11] := rfl
theorem cs_X3_drive_27 : cs_X3_drive 27 = am_site 2 [some 0, some 6] T_X3_isLeftNext [0, 1, 2, 3, 4, 5, 6, 7, 8, 9, 10, 11] [0, 1, 2, 3, 4, 5, 6, 7, 8, 9, 10, 11] := rfl
theorem cs_X3_drive_97 : cs_X3_drive 97 = am_site 3 [some 0, some 6, none] T_X3_goThrough [0, 1, 2, 3, 4, 5, 6, 7, 8, 9, 10, 11] [0, 1, 2, 3, 4, 5, 6, 7, 8, 9, 10, 11] := rfl
theorem ck_X3_drive : ∀ X : am_X, am_cx X RX3 cX3_drive 7 3 65 → ∀ pc, am_csok X 7 sh_PR pc (cs_X3_drive pc) := fun X hX => am_cs_ok (List.forall_mem_cons.mpr ⟨am_callV hX C_X3_lineUp mo_X3_lineUp rfl lk_X3_56 dX3_drive_3 rfl rfl rfl (by decide), List.forall_mem_cons.mpr ⟨am_callV hX C_X3_isLeftNext mo_X3_isLeftNext rfl lk_X3_60 dX3_drive_27 rfl rfl rfl (by decide), List.forall_mem_cons.mpr ⟨am_callV hX C_X3_goThrough mo_X3_goThrough rfl lk_X3_64 dX3_drive_97 rfl rfl rfl (by decide), fun _ h => absurd h List.not_mem_nil⟩⟩⟩)
abbrev ok_X3_drive (X : am_X) (K : List Int32 → am_D → Prop) : Prop := am_ok X RX3 cX3_drive 7 sh_PR fl_X3 kc_X3 none 0 cs_X3_drive K
abbrev aw_X3_drive (X : am_X) (pc : Nat) (ls : am_L) (st : List am_V) (D : am_D) : Prop := am_aw X 7 sh_PR pc ls st D
/-- the queue of a lane, without those whose bits are set -/
def qu (la : Nat → Nat) (li : List Nat) (z a : Nat) : List Nat := li.filter (fun c => decide (la c = z) && !a.testBit c)
abbrev T_X3_drive : am_TT := fun is D K => ∃ n b w kd fg la hu li d1 d2 a, is = [nI a] ∧ a < 512 ∧ D = d1 ++ d2 ∧ pF d1 ∧ rA n b w kd fg la hu li d2 ∧ ∀ d, pD (sim b w kd fg (qu la li 0 a) (qu la li 1 a)) d → K [] (d ++ d2)
theorem pO_push {P S : List (Nat × Nat × Nat)} {o wt tn : Nat → Int32} {q : Nat × Nat × Nat} (h : pO P o wt tn) (hnd : ((P ++ q :: S).map (fun q => q.1)).Nodup) : pO (P ++ [q]) (upd o P.length (nI q.1)) (upd wt q.1 (nI q.2.2)) (upd tn q.1 (nI P.length)) := by
  intro i x hx
  rcases Nat.lt_or_ge i P.length with hi | hi
  · rw [List.getElem?_append_left hi] at hx
    obtain ⟨h1, h2, h3⟩ := h i x hx
    have hne : ¬ x.1 = q.1 := by
      intro e
      rw [List.map_append, List.map_cons, List.nodup_append] at hnd
      exact hnd.2.2 x.1 (List.mem_map_of_mem (List.mem_of_getElem? hx)) q.1 List.mem_cons_self e
    rw [pk_un (by omega), pk_un hne, pk_un hne]
    exact ⟨h1, h2, h3⟩
  · rw [List.getElem?_append_right hi] at hx
    have hz : i - P.length < 1 := (List.getElem?_eq_some_iff.mp hx).1
    have e : i = P.length := by omega
    subst e
    rw [Nat.sub_self] at hx
    cases hx
    exact ⟨pk_us, pk_us, pk_us⟩
theorem tot_last {P : List (Nat × Nat × Nat)} {q : Nat × Nat × Nat} : tot (P ++ [q]) = q.2.2 := by
  unfold tot
  rw [List.getLast?_append]
  rfl
theorem qu_lt {la : Nat → Nat} {li : List Nat} {n z a : Nat} (hp : li.Perm (List.range n)) : ∀ c ∈ qu la li z a, c < n ∧ la c = z := fun c hc => by
  have h := List.mem_filter.mp hc
  simp only [Bool.and_eq_true, decide_eq_true_eq] at h
  exact ⟨(pl_mem hp).mp h.1, h.2.1⟩
theorem qu_len {la : Nat → Nat} {li : List Nat} {n a : Nat} (hp : li.Perm (List.range n)) : ∀ z, (qu la li z a).length ≤ n := fun z => by
  have := List.length_filter_le (fun c => decide (la c = z) && !a.testBit c) li
  rw [pl_len hp] at this
  exact this
theorem qu_nd {la : Nat → Nat} {li : List Nat} {n a : Nat} (hp : li.Perm (List.range n)) : (qu la li 0 a ++ qu la li 1 a).Nodup := by
  rw [List.nodup_append]
  refine ⟨(pl_nd hp).filter _, (pl_nd hp).filter _, fun x hx y hy e => ?_⟩
  subst e
  have h1 := (qu_lt hp x hx).2
  have h2 := (qu_lt hp x hy).2
  omega
theorem fb_hs : ∀ {n : Nat} {l : List Nat} (_ : l.Nodup) (_ : ∀ c ∈ l, c < n), l.length ≤ n
  | 0, l, _, h => by
    cases l with
    | nil => exact Nat.le_refl _
    | cons a r => exact absurd (h a List.mem_cons_self) (Nat.not_lt_zero a)
  | n + 1, l, hd, h => by
    have ih := fb_hs (n := n) (l := l.erase n) (hd.erase n) (fun c hc => by
      have h1 := (hd.mem_erase_iff).mp hc
      have h2 := h c h1.2
      have h3 := h1.1
      omega)
    by_cases hm : n ∈ l
    · rw [List.length_erase_of_mem hm] at ih
      omega
    · rw [List.erase_of_not_mem hm] at ih
      omega
theorem qu_sum {la : Nat → Nat} {li : List Nat} {n a : Nat} (hp : li.Perm (List.range n)) : (qu la li 0 a).length + (qu la li 1 a).length ≤ n := by
  have h := fb_hs (qu_nd (la := la) (a := a) hp) (fun c hc => by
    rcases List.mem_append.mp hc with h | h
    · exact (qu_lt hp c h).1
    · exact (qu_lt hp c h).1)
  rwa [List.length_append] at h
theorem B_X3_drive : ∀ (X : am_X) (is : List Int32) (D : am_D) (K : List Int32 → am_D → Prop), ok_X3_drive X K → T_X3_drive is D K → is.length = (List.filter Option.isNone ([some 0, some 6, none] : List (Option Nat))).length → D.length = sh_PR.length → am_aw X 7 sh_PR 0 (am_l0 7 [some 0, some 6, none] is) [] D := by
  intro X is D K O hT _ _
  obtain ⟨n, b, w, kd, fg, la, hu, li, d1, d2, a, rfl, ha, rfl, hF, hR, hK⟩ := hT
  obtain ⟨kk, f, la', h, i, rfl, hn, hb, hw, hj, hp, hi⟩ := id hR
  obtain ⟨R, hRe⟩ : ∃ R, R = qu la li 0 a := ⟨_, rfl⟩
  obtain ⟨Lf, hLe⟩ : ∃ R, R = qu la li 1 a := ⟨_, rfl⟩
  have hRn := qu_lt (la := la) (z := 0) (a := a) hp
  have hLn := qu_lt (la := la) (z := 1) (a := a) hp
  have hsum := qu_sum (la := la) (a := a) hp
  have hnd : ((sim b w kd fg (qu la li 0 a) (qu la li 1 a)).map (fun q => q.1)).Nodup := (sim_perm b w kd fg (qu la li 0 a) (qu la li 1 a)).nodup_iff.mpr (qu_nd hp)
  rw [← hRe, ← hLe] at hsum hnd hK
  rw [← hRe] at hRn
  rw [← hLe] at hLn
  have loop : ∀ (r l : Nat → Int32), aL r R → aL l Lf → ∀ d (P : List (Nat × Nat × Nat)) (rg lg k z t : Nat) (pd : Bool) (x5 x6 : Option am_V) (o wt tn : Nat → Int32), (R.length - rg) + (Lf.length - lg) = d → rg ≤ R.length → lg ≤ Lf.length → P.length = rg + lg → k ≤ lg → z ≤ 2 → (z = 2 ↔ P.length = 0) → sim b w kd fg R Lf = P ++ sg (fun c => lt (kd c) (fg c) b) (fun c => sc (kd c)) (fun c => decide (kd c = 2)) w d (R.drop rg) (Lf.drop lg) k z pd t → pO P o wt tn → t = tot P → am_aw X 7 sh_PR 19 [some (.inr 0), some (.inr 6), some (.inl (nI a)), some (.inl (nI (R.length + Lf.length))), some (.inl (nI P.length)), x5, x6] [] [.inl [nI P.length, nI t, nI R.length, nI Lf.length, nI rg, nI lg, nI k, laI z, bI pd], .inr o, .inr wt, .inr tn, .inr r, .inr l, .inl [nI n, nI b, nI w], .inr kk, .inr f, .inr la', .inr h, .inr i] := by
    intro r l ar al d
    induction d with
    | zero =>
      intro P rg lg k z t pd x5 x6 o wt tn g1 g2 g3 g4 g5 g6 g7 g8 g9 g10
      rw [sg, List.append_nil] at g8
      refine st_iload O dX3_drive_19 rfl (q := 21) rfl ?_
      refine st_iloadn O dX3_drive_21 rfl (q := 22) rfl ?_
      refine sn_icmp_ge O dX3_drive_22 (t := 106) rfl (q := 25) rfl (by omega) (by omega) (fun c22 => ?_) (fun c22 => ?_)
      · refine st_vreturn O dX3_drive_106 ?_
        rw [g8] at hK
        subst g10
        exact hK [_, _, _, _, _, _] ⟨_, _, _, _, _, _, _, o, wt, tn, r, l, rfl, g9⟩
      omega
    | succ d ih =>
      intro P rg lg k z t pd x5 x6 o wt tn g1 g2 g3 g4 g5 g6 g7 g8 g9 g10
      refine st_iload O dX3_drive_19 rfl (q := 21) rfl ?_
      refine st_iloadn O dX3_drive_21 rfl (q := 22) rfl ?_
      refine sn_icmp_ge O dX3_drive_22 (t := 106) rfl (q := 25) rfl (by omega) (by omega) (fun c22 => ?_) (fun c22 => ?_)
      · omega
      refine st_aloadn O dX3_drive_25 rfl (q := 26) rfl ?_
      refine st_aloadn O dX3_drive_26 rfl (q := 27) rfl ?_
      refine st_call O dX3_drive_27 cs_X3_drive_27 (q := 30) rfl (am_si rfl rfl rfl (Nat.le_of_ble_eq_true rfl) rfl ?_)
      refine ⟨n, b, w, kd, fg, la, hu, li, _, _, _, o, wt, tn, r, l, R, Lf, rg, lg, k, z, pd, rfl, (by exact rfl), hR, ar, al, by omega, by omega, fun c hc => (hRn c hc).1, fun c hc => (hLn c hc).1, g2, g3, by omega, g6, fun bo k' pd' hdc => ?_⟩
      cases bo with
      | true =>
        obtain ⟨c, l', hl'⟩ := dc_true hdc
        have hlt : lg < Lf.length := by
          rcases Nat.lt_or_ge lg Lf.length with q | q
          · exact q
          · rw [dr_nil q] at hl'; cases hl'
        rw [dr_cons hlt] at hdc g8
        rw [sg_L hdc] at g8
        have hmem := hLn _ (pl_gm hlt)
        have hk2 := (dc_k hdc).1
        refine am_norm rfl rfl ?_
        refine st_istore O dX3_drive_30 rfl (q := 32) rfl ?_
        refine st_iload O dX3_drive_32 rfl (q := 34) rfl ?_
        refine st_if_eq O dX3_drive_34 (t := 49) rfl (q := 37) rfl (fun c34 => ?_) (fun c34 => ?_)
        · exact absurd c34 (by decide)
        refine st_aloadn O dX3_drive_37 rfl (q := 38) rfl ?_
        refine st_getr O dX3_drive_38 fl_X3_31 rfl rfl rfl (q := 41) rfl ?_
        refine st_aloadn O dX3_drive_41 rfl (q := 42) rfl ?_
        refine st_geti O dX3_drive_42 fl_X3_43 rfl rfl rfl rfl (q := 45) rfl ?_
        refine sn_ald O dX3_drive_45 rfl rfl rfl ⟨by omega, by decide⟩ (al lg hlt) (q := 46) rfl ?_
        refine st_goto O dX3_drive_46 (t := 58) rfl ?_
        refine st_istore O dX3_drive_58 rfl (q := 60) rfl ?_
        refine st_iload O dX3_drive_60 rfl (q := 62) rfl ?_
        refine st_if_eq O dX3_drive_62 (t := 78) rfl (q := 65) rfl (fun c62 => ?_) (fun c62 => ?_)
        · exact absurd c62 (by decide)
        refine st_aloadn O dX3_drive_65 rfl (q := 66) rfl ?_
        refine st_dup O dX3_drive_66 (q := 67) rfl ?_
        refine st_geti O dX3_drive_67 fl_X3_43 rfl rfl rfl rfl (q := 70) rfl ?_
        refine st_iconst O dX3_drive_70 am_iconst_1 (q := 71) rfl ?_
        refine st_iadd O dX3_drive_71 (by first | exact nI_add _ _ | exact rfl) (q := 72) rfl ?_
        refine st_puti O dX3_drive_72 fl_X3_43 rfl rfl rfl rfl rfl (q := 75) rfl ?_
        refine st_goto O dX3_drive_75 (t := 93) rfl ?_
        refine st_aloadn O dX3_drive_93 rfl (q := 94) rfl ?_
        refine st_aloadn O dX3_drive_94 rfl (q := 95) rfl ?_
        refine st_iload O dX3_drive_95 rfl (q := 97) rfl ?_
        refine st_call O dX3_drive_97 cs_X3_drive_97 (q := 100) rfl (am_si rfl rfl rfl (Nat.le_of_ble_eq_true rfl) rfl ?_)
        refine ⟨n, b, w, kd, fg, la, hu, li, _, P.length, t, _, _, _, _, _, z, _, o, wt, tn, r, l, Lf.getD lg 0, rfl, hmem.1, (by exact rfl), hR, by omega, g6, g7, ?_⟩
        refine am_norm rfl rfl ?_
        rw [hmem.2]
        refine st_iinc O dX3_drive_100 rfl (by first | exact am_ii1 _ | exact rfl) rfl (q := 103) rfl ?_
        refine st_goto O dX3_drive_103 (t := 19) rfl ?_
        have ih2 := ih (P ++ [(Lf.getD lg 0, 1, t + sc (kd (Lf.getD lg 0)) + (if z = 0 then w else 0))]) rg (lg + 1) k' 1 _ pd' (some (.inl (bI true))) (some (.inl (nI (Lf.getD lg 0)))) _ _ _ (by omega) g2 hlt (by rw [List.length_append]; simp only [List.length_cons, List.length_nil]; omega) (by omega) (by omega) (by rw [List.length_append]; simp) (by rw [g8, List.append_assoc]; rfl) (pO_push g9 (by rw [← g8]; exact hnd)) (by rw [tot_last])
        rw [List.length_append] at ih2
        exact ih2
      | false =>
        obtain ⟨c, r', hr'⟩ := dc_false hdc (by rw [List.length_drop, List.length_drop]; omega)
        have hlt : rg < R.length := by
          rcases Nat.lt_or_ge rg R.length with q | q
          · exact q
          · rw [dr_nil q] at hr'; cases hr'
        rw [dr_cons hlt] at hdc g8
        rw [sg_R hdc] at g8
        have hmem := hRn _ (pl_gm hlt)
        refine am_norm rfl rfl ?_
        refine st_istore O dX3_drive_30 rfl (q := 32) rfl ?_
        refine st_iload O dX3_drive_32 rfl (q := 34) rfl ?_
        refine st_if_eq O dX3_drive_34 (t := 49) rfl (q := 37) rfl (fun c34 => ?_) (fun c34 => ?_)
        · refine st_aloadn O dX3_drive_49 rfl (q := 50) rfl ?_
          refine st_getr O dX3_drive_50 fl_X3_28 rfl rfl rfl (q := 53) rfl ?_
          refine st_aloadn O dX3_drive_53 rfl (q := 54) rfl ?_
          refine st_geti O dX3_drive_54 fl_X3_40 rfl rfl rfl rfl (q := 57) rfl ?_
          refine sn_ald O dX3_drive_57 rfl rfl rfl ⟨by omega, by decide⟩ (ar rg hlt) (q := 58) rfl ?_
          refine st_istore O dX3_drive_58 rfl (q := 60) rfl ?_
          refine st_iload O dX3_drive_60 rfl (q := 62) rfl ?_
          refine st_if_eq O dX3_drive_62 (t := 78) rfl (q := 65) rfl (fun c62 => ?_) (fun c62 => ?_)
          · refine st_aloadn O dX3_drive_78 rfl (q := 79) rfl ?_
            refine st_dup O dX3_drive_79 (q := 80) rfl ?_
            refine st_geti O dX3_drive_80 fl_X3_40 rfl rfl rfl rfl (q := 83) rfl ?_
            refine st_iconst O dX3_drive_83 am_iconst_1 (q := 84) rfl ?_
            refine st_iadd O dX3_drive_84 (by first | exact nI_add _ _ | exact rfl) (q := 85) rfl ?_
            refine st_puti O dX3_drive_85 fl_X3_40 rfl rfl rfl rfl rfl (q := 88) rfl ?_
            refine st_aloadn O dX3_drive_88 rfl (q := 89) rfl ?_
            refine st_iconst O dX3_drive_89 am_iconst_0 (q := 90) rfl ?_
            refine st_puti O dX3_drive_90 fl_X3_46 rfl rfl rfl rfl rfl (q := 93) rfl ?_
            refine st_aloadn O dX3_drive_93 rfl (q := 94) rfl ?_
            refine st_aloadn O dX3_drive_94 rfl (q := 95) rfl ?_
            refine st_iload O dX3_drive_95 rfl (q := 97) rfl ?_
            refine st_call O dX3_drive_97 cs_X3_drive_97 (q := 100) rfl (am_si rfl rfl rfl (Nat.le_of_ble_eq_true rfl) rfl ?_)
            refine ⟨n, b, w, kd, fg, la, hu, li, _, P.length, t, _, _, _, _, _, z, _, o, wt, tn, r, l, R.getD rg 0, rfl, hmem.1, (by exact rfl), hR, by omega, g6, g7, ?_⟩
            refine am_norm rfl rfl ?_
            rw [hmem.2]
            refine st_iinc O dX3_drive_100 rfl (by first | exact am_ii1 _ | exact rfl) rfl (q := 103) rfl ?_
            refine st_goto O dX3_drive_103 (t := 19) rfl ?_
            have ih2 := ih (P ++ [(R.getD rg 0, 0, t + sc (kd (R.getD rg 0)) + (if z = 1 then w else 0))]) (rg + 1) lg 0 0 _ pd' (some (.inl (bI false))) (some (.inl (nI (R.getD rg 0)))) _ _ _ (by omega) hlt g3 (by rw [List.length_append]; simp only [List.length_cons, List.length_nil]; omega) (by omega) (by omega) (by rw [List.length_append]; simp) (by rw [g8, List.append_assoc]; rfl) (pO_push g9 (by rw [← g8]; exact hnd)) (by rw [tot_last])
            rw [List.length_append] at ih2
            exact ih2
          exact absurd c62 (by decide)
        exact absurd c34 (by decide)
  have hF' := hF
  obtain ⟨i0, i1, i2, i3, i4, i5, i6, i7, i8, o, wt, tn, r0, l0, rfl⟩ := hF
  refine am_begin rfl ?_
  refine st_aloadn O dX3_drive_0 rfl (q := 1) rfl ?_
  refine st_aloadn O dX3_drive_1 rfl (q := 2) rfl ?_
  refine st_iloadn O dX3_drive_2 rfl (q := 3) rfl ?_
  refine st_call O dX3_drive_3 cs_X3_drive_3 (q := 6) rfl (am_si rfl rfl rfl (Nat.le_of_ble_eq_true rfl) rfl ?_)
  refine ⟨n, b, w, kd, fg, la, hu, li, _, _, a, rfl, ha, (by exact rfl), hF', hR, fun o wt tn r l ar al => ?_⟩
  have ar : aL r (qu la li 0 a) := ar
  have al : aL l (qu la li 1 a) := al
  rw [← hRe] at ar
  rw [← hLe] at al
  have loop2 := loop r l ar al _ [] 0 0 0 2 0 false none none o wt tn rfl (Nat.zero_le _) (Nat.zero_le _) rfl (Nat.zero_le _) (by omega) (by simp) rfl (fun i q h => by simp at h) rfl
  refine am_norm rfl rfl ?_
  show am_aw X 7 sh_PR 6 _ _ [.inl [nI 0, nI 0, nI (qu la li 0 a).length, nI (qu la li 1 a).length, nI 0, nI 0, nI 0, -1, nI 0], .inr o, .inr wt, .inr tn, .inr r, .inr l, .inl [nI n, nI b, nI w], .inr kk, .inr f, .inr la', .inr h, .inr i]
  rw [← hRe, ← hLe]
  refine st_aloadn O dX3_drive_6 rfl (q := 7) rfl ?_
  refine st_geti O dX3_drive_7 fl_X3_34 rfl rfl rfl rfl (q := 10) rfl ?_
  refine st_aloadn O dX3_drive_10 rfl (q := 11) rfl ?_
  refine st_geti O dX3_drive_11 fl_X3_37 rfl rfl rfl rfl (q := 14) rfl ?_
  refine st_iadd O dX3_drive_14 (by first | exact nI_add _ _ | exact rfl) (q := 15) rfl ?_
  refine st_istoren O dX3_drive_15 rfl (q := 16) rfl ?_
  refine st_iconst O dX3_drive_16 am_iconst_0 (q := 17) rfl ?_
  refine st_istore O dX3_drive_17 rfl (q := 19) rfl ?_
  exact loop2
theorem C_X3_drive : am_ctr yX3_drive cX3_drive 7 none 3 65 sh_PR [some 0, some 6, none] T_X3_drive := am_mk (by decide) (Or.inl ⟨rfl, rfl⟩) (by decide) (by decide) (by decide) fl_X3_ok kc_X3_ok ck_X3_drive B_X3_drive
