/-! the reference reads its road -/
theorem sl3 {h : Nat} (h0 : 0 < slN h) : 3 ≤ slN h := by
  revert h0
  unfold slN
  repeat' split
  all_goals omega
theorem mT_nil (tA : Nat → Int32) : mT [] tA := ⟨by decide, fun j h => absurd h (Nat.not_lt_zero j), fun c h => absurd h (List.not_mem_nil)⟩
def cs_X7_road : Nat → List am_V → am_D → am_K → Prop := am_cs [(13, am_site 2 [some 0, none] T_X7_statement [0, 1, 2, 3, 4, 5, 6, 7, 8, 9, 10, 11, 12, 13, 14, 15] [0, 1, 2, 3, 4, 5, 6, 7, 8, 9, 10, 11, 12, 13, 14, 15]), (23, am_site 2 [some 0, none] T_X7_is [0, 6] [0, 6, 1, 2, 3, 4, 5, 7, 8, 9, 10, 11, 12, 13, 14, 15]), (76, am_site 2 [some 0, some 6] T_X7_keep_ [0, 1, 2, 3, 4, 5, 11] [0, 1, 2, 3, 4, 5, 11, 6, 7, 8, 9, 10, 11, 12, 13, 14, 15]), (104, am_site 2 [some 0, none] T_X7_statement [0, 1, 2, 3, 4, 5, 6, 7, 8, 9, 10, 11, 12, 13, 14, 15] [0, 1, 2, 3, 4, 5, 6, 7, 8, 9, 10, 11, 12, 13, 14, 15]), (115, am_site 2 [some 0, some 6] T_X7_again [0, 1, 2, 3, 4, 5, 11] [0, 1, 2, 3, 4, 5, 11, 6, 7, 8, 9, 10, 11, 12, 13, 14, 15]), (132, am_site 2 [some 0, none] T_X7_is [0, 6] [0, 6, 1, 2, 3, 4, 5, 7, 8, 9, 10, 11, 12, 13, 14, 15])]
theorem cs_X7_road_13 : cs_X7_road 13 = am_site 2 [some 0, none] T_X7_statement [0, 1, 2, 3, 4, 5, 6, 7, 8, 9, 10, 11, 12, 13, 14, 15] [0, 1, 2, 3, 4, 5, 6, 7, 8, 9, 10, 11, 12, 13, 14, 15] := rfl
theorem cs_X7_road_23 : cs_X7_road 23 = am_site 2 [some 0, none] T_X7_is [0, 6] [0, 6, 1, 2, 3, 4, 5, 7, 8, 9, 10, 11, 12, 13, 14, 15] := rfl
theorem cs_X7_road_76 : cs_X7_road 76 = am_site 2 [some 0, some 6] T_X7_keep_ [0, 1, 2, 3, 4, 5, 11] [0, 1, 2, 3, 4, 5, 11, 6, 7, 8, 9, 10, 11, 12, 13, 14, 15] := rfl
theorem cs_X7_road_104 : cs_X7_road 104 = am_site 2 [some 0, none] T_X7_statement [0, 1, 2, 3, 4, 5, 6, 7, 8, 9, 10, 11, 12, 13, 14, 15] [0, 1, 2, 3, 4, 5, 6, 7, 8, 9, 10, 11, 12, 13, 14, 15] := rfl
theorem cs_X7_road_115 : cs_X7_road 115 = am_site 2 [some 0, some 6] T_X7_again [0, 1, 2, 3, 4, 5, 11] [0, 1, 2, 3, 4, 5, 11, 6, 7, 8, 9, 10, 11, 12, 13, 14, 15] := rfl
theorem cs_X7_road_132 : cs_X7_road 132 = am_site 2 [some 0, none] T_X7_is [0, 6] [0, 6, 1, 2, 3, 4, 5, 7, 8, 9, 10, 11, 12, 13, 14, 15] := rfl
theorem ck_X7_road : ∀ X : am_X, am_cx X RX7 cX7_road 4 5 114 → ∀ pc, am_csok X 4 sh_Mod pc (cs_X7_road pc) := fun X hX => am_cs_ok (List.forall_mem_cons.mpr ⟨am_callV hX C_X7_statement mo_X7_statement rfl lk_X7_112 dX7_road_13 rfl rfl rfl (by decide), List.forall_mem_cons.mpr ⟨am_callV hX C_X7_is mo_X7_is rfl lk_X7_76 dX7_road_23 rfl rfl rfl (by decide), List.forall_mem_cons.mpr ⟨am_callV hX C_X7_keep_ mo_X7_keep_ rfl lk_X7_116 dX7_road_76 rfl rfl rfl (by decide), List.forall_mem_cons.mpr ⟨am_callV hX C_X7_statement mo_X7_statement rfl lk_X7_112 dX7_road_104 rfl rfl rfl (by decide), List.forall_mem_cons.mpr ⟨am_callV hX C_X7_again mo_X7_again rfl lk_X7_120 dX7_road_115 rfl rfl rfl (by decide), List.forall_mem_cons.mpr ⟨am_callV hX C_X7_is mo_X7_is rfl lk_X7_76 dX7_road_132 rfl rfl rfl (by decide), fun _ h => absurd h List.not_mem_nil⟩⟩⟩⟩⟩⟩)
abbrev ok_X7_road (X : am_X) (K : List Int32 → am_D → Prop) : Prop := am_ok X RX7 cX7_road 4 sh_Mod fl_X7 kc_X7 none 1 cs_X7_road K
abbrev aw_X7_road (X : am_X) (pc : Nat) (ls : am_L) (st : List am_V) (D : am_D) : Prop := am_aw X 4 sh_Mod pc ls st D
abbrev T_X7_road : am_TT := am_s0 IM f_road
set_option maxHeartbeats 200000 in
theorem B_X7_road : ∀ (X : am_X) (is : List Int32) (D : am_D) (K : List Int32 → am_D → Prop), ok_X7_road X K → T_X7_road is D K → is.length = (List.filter Option.isNone ([some 0] : List (Option Nat))).length → D.length = sh_Mod.length → am_aw X 4 sh_Mod 0 (am_l0 4 [some 0] is) [] D := by
  intro X is D K O hT _ _
  obtain ⟨σ, ⟨aT, iM, tU, aS, cH, lO, kA, fA, hA, lA, pA, tA, vA, oA, eA, xA, nA, gA, wA, uA, rfl, hR, ht, ho, hk⟩, rfl, hK⟩ := hT
  have hK : ∀ D', IM ((rdR σ.2.2.1 σ.1).2, σ.2.1, [], σ.2.2.2) D' → K [(rdR σ.2.2.1 σ.1).1] D' := hK
  obtain ⟨ls, els⟩ : ∃ ls, ls = σ.2.2.1 := ⟨_, rfl⟩
  rw [← els] at hK ht
  rw [show nI σ.2.2.1.length = nI ls.length by rw [els]]
  have eN : gN σ = σ.1.1 := rfl
  have hn : gN σ ≤ 9 := hR.2.2.2.2.1
  have hlen := ht.1
  have bad33 : ∀ q vB, ffl ls = some q → am_aw X 4 sh_Mod 33 [some (.inr 0), some (.inl 1), none, none] [] [.inl [nI (gN σ), nI (gb σ), nI (gw σ), nI ls.length, nI q, nI σ.2.2.2.1.length, iM, tU, aS, cH, lO, bI false], .inr kA, .inr fA, .inr hA, .inr lA, .inr pA, .inr tA, .inr vB, .inr oA, .inr σ.2.2.2.2, .inr eA, .inr xA, .inr nA, .inr gA, .inr wA, .inr uA] := by
    intro q vB hff
    unfold rdR at hK
    rw [hff] at hK
    dsimp only at hK
    refine st_iconst O dX7_road_33 am_iconst_0 (q := 34) rfl ?_
    refine st_istoren O dX7_road_34 rfl (q := 35) rfl ?_
    refine st_iloadn O dX7_road_35 rfl (q := 36) rfl ?_
    refine st_if_eq O dX7_road_36 (t := 7) rfl (q := 39) rfl (fun c36 => ?_) (fun c36 => ?_)
    · refine st_iloadn O dX7_road_7 rfl (q := 8) rfl ?_
      refine st_if_eq O dX7_road_8 (t := 53) rfl (q := 11) rfl (fun c8 => ?_) (fun c8 => ?_)
      · refine st_iloadn O dX7_road_53 rfl (q := 54) rfl ?_
        refine st_if_ne O dX7_road_54 (t := 71) rfl (q := 57) rfl (fun c54 => ?_) (fun c54 => ?_)
        · exact absurd c54 (by decide)
        refine st_aloadn O dX7_road_57 rfl (q := 58) rfl ?_
        refine st_iconst O dX7_road_58 am_iconst_0 (q := 59) rfl ?_
        refine st_puti O dX7_road_59 fl_X7_70 rfl rfl rfl rfl rfl (q := 62) rfl ?_
        refine st_sipush O dX7_road_62 am_sipush_m1000 (q := 65) rfl ?_
        refine st_aloadn O dX7_road_65 rfl (q := 66) rfl ?_
        refine st_geti O dX7_road_66 fl_X7_73 rfl rfl rfl rfl (q := 69) rfl ?_
        refine st_isub O dX7_road_69 (by first | exact pk_sub (by omega) | exact rfl) (q := 70) rfl ?_
        refine st_ireturn O dX7_road_70 ?_
        exact hK _ ⟨_, _, _, _, _, _, _, _, _, _, _, _, _, _, _, _, _, _, _, _, rfl, hR, mT_nil _, ho, hk⟩
      exact absurd c8 (by decide)
    exact absurd c36 (by decide)
  have bad : ∀ q vB, ffl ls = some q → am_aw X 4 sh_Mod 16 [some (.inr 0), some (.inl 1), none, none] [.inl (-1)] [.inl [nI (gN σ), nI (gb σ), nI (gw σ), nI ls.length, nI q, nI σ.2.2.2.1.length, iM, tU, aS, cH, lO, bI false], .inr kA, .inr fA, .inr hA, .inr lA, .inr pA, .inr tA, .inr vB, .inr oA, .inr σ.2.2.2.2, .inr eA, .inr xA, .inr nA, .inr gA, .inr wA, .inr uA] := by
    intro q vB hff
    refine st_iconst O dX7_road_16 am_iconst_1 (q := 17) rfl ?_
    refine st_icmp_ne O dX7_road_17 (t := 33) rfl (q := 20) rfl (fun c17 => ?_) (fun c17 => ?_)
    · exact bad33 q vB hff
    exact absurd c17 (by decide)
  have good : ∀ vB, ffl ls = none → am_aw X 4 sh_Mod 53 [some (.inr 0), some (.inl 1), none, none] [] [.inl [nI (gN σ), nI (gb σ), nI (gw σ), nI ls.length, nI ls.length, nI σ.2.2.2.1.length, iM, tU, aS, cH, lO, bI false], .inr kA, .inr fA, .inr hA, .inr lA, .inr pA, .inr tA, .inr vB, .inr oA, .inr σ.2.2.2.2, .inr eA, .inr xA, .inr nA, .inr gA, .inr wA, .inr uA] := by
    intro vB hff
    unfold rdR at hK
    rw [hff] at hK
    dsimp only at hK
    have loop : ∀ d s kk fu (y : RS) (vB kB fB hB lB pB xB : Nat → Int32), ls.length - s = d → s ≤ ls.length → kk ≤ s → bnd ls s → ls.length ≤ s + fu → tla ls fu s kk y = tla ls ls.length 0 0 σ.1 → mR y kB fB hB lB pB → kpy (gN σ) (gb σ) (gw σ) kA fA hA lA pA xB → ∀ l3, am_aw X 4 sh_Mod 86 [some (.inr 0), some (.inl 1), some (.inl (nI kk)), l3] [] [.inl [nI y.1, nI y.2.1, nI y.2.2.1, nI ls.length, nI s, nI σ.2.2.2.1.length, iM, tU, aS, cH, lO, bI false], .inr kB, .inr fB, .inr hB, .inr lB, .inr pB, .inr tA, .inr vB, .inr oA, .inr σ.2.2.2.2, .inr eA, .inr xB, .inr nA, .inr gA, .inr wA, .inr uA] := by
      intro d
      induction d using Nat.strongRecOn with
      | ind d ih =>
      intro s kk fu y vB kB fB hB lB pB xB hd h1 h2 h4 h5 hR1 hy hx l3
      rcases Nat.lt_or_ge s ls.length with hm | hm
      · obtain ⟨q1, q2, q3⟩ := bnd_go hm h4
        have q4 := slN_le (ls.getD s 0)
        have q5 := sl3 q1.1
        obtain ⟨fu', rfl⟩ : ∃ fu', fu = fu' + 1 := ⟨fu - 1, by omega⟩
        rw [tla_s, if_pos hm] at hR1
        cases hz : tl1 ls s y with
        | none =>
          rw [hz] at hR1
          rw [← hR1] at hK
          refine st_aloadn O dX7_road_86 rfl (q := 87) rfl ?_
          refine st_geti O dX7_road_87 fl_X7_73 rfl rfl rfl rfl (q := 90) rfl ?_
          refine st_aloadn O dX7_road_90 rfl (q := 91) rfl ?_
          refine st_geti O dX7_road_91 fl_X7_70 rfl rfl rfl rfl (q := 94) rfl ?_
          refine sn_icmp_ge O dX7_road_94 (t := 142) rfl (q := 97) rfl (by omega) (by omega) (fun c94 => ?_) (fun c94 => ?_)
          · omega
          refine st_aloadn O dX7_road_97 rfl (q := 98) rfl ?_
          refine st_geti O dX7_road_98 fl_X7_73 rfl rfl rfl rfl (q := 101) rfl ?_
          refine st_istoren O dX7_road_101 rfl (q := 102) rfl ?_
          refine st_aloadn O dX7_road_102 rfl (q := 103) rfl ?_
          refine st_iconst O dX7_road_103 am_iconst_1 (q := 104) rfl ?_
          refine st_call O dX7_road_104 cs_X7_road_104 (q := 107) rfl (am_siq rfl rfl rfl (Nat.le_of_ble_eq_true rfl) rfl ?_)
          refine ⟨y, ls, s, _, _, _, _, _, _, _, _, _, _, _, _, _, _, _, _, _, _, _, _, _, _, rfl, hy, ht, Or.inr ⟨rfl, hm, q1, fun _ aT' vC => ?_, fun z h => (by rw [hz] at h; cases h)⟩⟩
          refine am_nrp rfl rfl rfl rfl ?_
          refine st_if_ne O dX7_road_107 (t := 129) rfl (q := 110) rfl (fun c107 => ?_) (fun c107 => ?_)
          · exact absurd c107 (by decide)
          refine st_aloadn O dX7_road_110 rfl (q := 111) rfl ?_
          refine st_aloadn O dX7_road_111 rfl (q := 112) rfl ?_
          refine st_getr O dX7_road_112 fl_X7_40 rfl rfl rfl (q := 115) rfl ?_
          refine st_call O dX7_road_115 cs_X7_road_115 (q := 118) rfl (am_siq rfl rfl rfl (Nat.le_of_ble_eq_true rfl) rfl ?_)
          refine ⟨gN σ, gb σ, gw σ, _, _, _, _, kA, fA, hA, lA, pA, _, _, _, _, _, _, rfl, rfl, hx, fun kC fC hC lC pC hc => ?_⟩
          refine am_nrp rfl rfl rfl rfl ?_
          refine st_aloadn O dX7_road_118 rfl (q := 119) rfl ?_
          refine st_iconst O dX7_road_119 am_iconst_0 (q := 120) rfl ?_
          refine st_puti O dX7_road_120 fl_X7_70 rfl rfl rfl rfl rfl (q := 123) rfl ?_
          refine st_sipush O dX7_road_123 am_sipush_m2000 (q := 126) rfl ?_
          refine st_iloadn O dX7_road_126 rfl (q := 127) rfl ?_
          refine st_isub O dX7_road_127 (by first | exact pk_sub (by omega) | exact rfl) (q := 128) rfl ?_
          refine st_ireturn O dX7_road_128 ?_
          exact hK _ ⟨_, _, _, _, _, _, _, _, _, _, _, _, _, _, _, _, _, _, _, _, rfl, mR_congr hR hc, mT_nil _, ho, hk⟩
        | some z =>
          rw [hz] at hR1
          have hp : s + slN (ls.getD s 0) - 1 < ls.length := by omega
          have h59 : ls.getD (s + slN (ls.getD s 0) - 1) 0 = 59 := by
            have := (q1.2 (s + slN (ls.getD s 0) - 1) (by omega) (by omega)).2
            rw [inF_end (by omega) (by omega)] at this
            exact of_decide_eq_true this
          have e1 : s + slN (ls.getD s 0) - 1 + 1 = s + slN (ls.getD s 0) := by omega
          have ihh := ih (ls.length - (s + slN (ls.getD s 0))) (by omega) (s + slN (ls.getD s 0)) (kk + 1) fu' z
          refine st_aloadn O dX7_road_86 rfl (q := 87) rfl ?_
          refine st_geti O dX7_road_87 fl_X7_73 rfl rfl rfl rfl (q := 90) rfl ?_
          refine st_aloadn O dX7_road_90 rfl (q := 91) rfl ?_
          refine st_geti O dX7_road_91 fl_X7_70 rfl rfl rfl rfl (q := 94) rfl ?_
          refine sn_icmp_ge O dX7_road_94 (t := 142) rfl (q := 97) rfl (by omega) (by omega) (fun c94 => ?_) (fun c94 => ?_)
          · omega
          refine st_aloadn O dX7_road_97 rfl (q := 98) rfl ?_
          refine st_geti O dX7_road_98 fl_X7_73 rfl rfl rfl rfl (q := 101) rfl ?_
          refine st_istoren O dX7_road_101 rfl (q := 102) rfl ?_
          refine st_aloadn O dX7_road_102 rfl (q := 103) rfl ?_
          refine st_iconst O dX7_road_103 am_iconst_1 (q := 104) rfl ?_
          refine st_call O dX7_road_104 cs_X7_road_104 (q := 107) rfl (am_siq rfl rfl rfl (Nat.le_of_ble_eq_true rfl) rfl ?_)
          refine ⟨y, ls, s, _, _, _, _, _, _, _, _, _, _, _, _, _, _, _, _, _, _, _, _, _, _, rfl, hy, ht, Or.inr ⟨rfl, hm, q1, fun h => (by rw [hz] at h; cases h), fun z' h vC kC fC hC lC pC hy' => ?_⟩⟩
          have ez : z' = z := by rw [hz] at h; cases h; rfl
          subst ez
          refine am_nrp rfl rfl rfl rfl ?_
          refine st_if_ne O dX7_road_107 (t := 129) rfl (q := 110) rfl (fun c107 => ?_) (fun c107 => ?_)
          · refine st_aloadn O dX7_road_129 rfl (q := 130) rfl ?_
            refine st_bipush O dX7_road_130 am_bipush_59 (q := 132) rfl ?_
            refine st_call O dX7_road_132 cs_X7_road_132 (q := 135) rfl (am_siq rfl rfl rfl (Nat.le_of_ble_eq_true rfl) rfl ?_)
            refine ⟨ls, s + slN (ls.getD s 0) - 1, 59, _, _, _, _, _, _, _, _, _, _, tA, rfl, ht, by omega, by decide, rfl, fun _ _ => ?_, fun w => absurd ⟨hp, h59⟩ w⟩
            rw [e1]
            refine am_nrp rfl rfl rfl rfl ?_
            refine st_pop O dX7_road_135 (q := 136) rfl ?_
            refine st_iinc O dX7_road_136 rfl (by first | exact am_ii1 _ | exact rfl) rfl (q := 139) rfl ?_
            refine st_goto O dX7_road_139 (t := 86) rfl ?_
            exact ihh _ _ _ _ _ _ _ rfl q3 (by omega) q2 (by omega) hR1 hy' hx _
          exact absurd c107 (by decide)
      · rw [← hR1, tla_end hm] at hK
        refine st_aloadn O dX7_road_86 rfl (q := 87) rfl ?_
        refine st_geti O dX7_road_87 fl_X7_73 rfl rfl rfl rfl (q := 90) rfl ?_
        refine st_aloadn O dX7_road_90 rfl (q := 91) rfl ?_
        refine st_geti O dX7_road_91 fl_X7_70 rfl rfl rfl rfl (q := 94) rfl ?_
        refine sn_icmp_ge O dX7_road_94 (t := 142) rfl (q := 97) rfl (by omega) (by omega) (fun c94 => ?_) (fun c94 => ?_)
        · refine st_aloadn O dX7_road_142 rfl (q := 143) rfl ?_
          refine st_iconst O dX7_road_143 am_iconst_0 (q := 144) rfl ?_
          refine st_puti O dX7_road_144 fl_X7_70 rfl rfl rfl rfl rfl (q := 147) rfl ?_
          refine st_iloadn O dX7_road_147 rfl (q := 148) rfl ?_
          refine st_ireturn O dX7_road_148 ?_
          exact hK _ ⟨_, _, _, _, _, _, _, _, _, _, _, _, _, _, _, _, _, _, _, _, rfl, hy, mT_nil _, ho, hk⟩
        omega
    refine st_iloadn O dX7_road_53 rfl (q := 54) rfl ?_
    refine st_if_ne O dX7_road_54 (t := 71) rfl (q := 57) rfl (fun c54 => ?_) (fun c54 => ?_)
    · refine st_aloadn O dX7_road_71 rfl (q := 72) rfl ?_
      refine st_aloadn O dX7_road_72 rfl (q := 73) rfl ?_
      refine st_getr O dX7_road_73 fl_X7_40 rfl rfl rfl (q := 76) rfl ?_
      refine st_call O dX7_road_76 cs_X7_road_76 (q := 79) rfl (am_siq rfl rfl rfl (Nat.le_of_ble_eq_true rfl) rfl ?_)
      refine ⟨gN σ, gb σ, gw σ, _, kA, fA, hA, lA, pA, _, rfl, rfl, fun e he => ?_⟩
      refine am_nrp rfl rfl rfl rfl ?_
      refine st_aloadn O dX7_road_79 rfl (q := 80) rfl ?_
      refine st_iconst O dX7_road_80 am_iconst_0 (q := 81) rfl ?_
      refine st_puti O dX7_road_81 fl_X7_73 rfl rfl rfl rfl rfl (q := 84) rfl ?_
      refine st_iconst O dX7_road_84 am_iconst_0 (q := 85) rfl ?_
      refine st_istoren O dX7_road_85 rfl (q := 86) rfl ?_
      exact loop ls.length 0 0 ls.length σ.1 _ _ _ _ _ _ _ (by omega) (by omega) (by omega) (bnd_0 hff) (by omega) rfl hR he _
    exact absurd c54 (by decide)
  have loop1 : ∀ d s vB, ls.length - s = d → s ≤ ls.length → (s < ls.length ∨ ls.length = 0) → scF ls (ls.length - s) s s = ffl ls → am_aw X 4 sh_Mod 7 [some (.inr 0), some (.inl 1), none, none] [] [.inl [nI (gN σ), nI (gb σ), nI (gw σ), nI ls.length, nI s, nI σ.2.2.2.1.length, iM, tU, aS, cH, lO, bI false], .inr kA, .inr fA, .inr hA, .inr lA, .inr pA, .inr tA, .inr vB, .inr oA, .inr σ.2.2.2.2, .inr eA, .inr xA, .inr nA, .inr gA, .inr wA, .inr uA] := by
    intro d
    induction d using Nat.strongRecOn with
    | ind d ih =>
    intro s vB hd h1 h2 h3
    have q4 := slN_le (ls.getD s 0)
    by_cases hA : 0 < slN (ls.getD s 0) ∧ ∀ i, s ≤ i → i < s + slN (ls.getD s 0) - 1 → i < ls.length ∧ inF ls s i = true
    · have q5 := sl3 hA.1
      have hl : s + slN (ls.getD s 0) - 1 ≤ ls.length := by
        have := (hA.2 (s + slN (ls.getD s 0) - 2) (by omega) (by omega)).1
        omega
      by_cases h59 : s + slN (ls.getD s 0) - 1 < ls.length ∧ ls.getD (s + slN (ls.getD s 0) - 1) 0 = 59
      · have e1 : s + slN (ls.getD s 0) - 1 + 1 = s + slN (ls.getD s 0) := by omega
        have hnx := scF_next hA.1 (by omega) (fun i h5 h6 => by
          by_cases e : i = s + slN (ls.getD s 0) - 1
          · rw [e, inF_end (by omega) (by omega)]; exact decide_eq_true h59.2
          · exact (hA.2 i h5 (by omega)).2)
        rw [h3] at hnx
        refine st_iloadn O dX7_road_7 rfl (q := 8) rfl ?_
        refine st_if_eq O dX7_road_8 (t := 53) rfl (q := 11) rfl (fun c8 => ?_) (fun c8 => ?_)
        · exact absurd c8 (by decide)
        refine st_aloadn O dX7_road_11 rfl (q := 12) rfl ?_
        refine st_iconst O dX7_road_12 am_iconst_0 (q := 13) rfl ?_
        refine st_call O dX7_road_13 cs_X7_road_13 (q := 16) rfl (am_siq rfl rfl rfl (Nat.le_of_ble_eq_true rfl) rfl ?_)
        refine ⟨σ.1, ls, s, _, _, _, _, _, _, _, _, _, _, _, _, _, _, _, _, _, _, _, _, _, _, rfl, hR, ht, Or.inl ⟨rfl, h1, h2, fun _ _ vC => ?_, fun q vC hq => ?_⟩⟩
        rotate_left
        · refine am_nrp rfl rfl rfl rfl ?_
          exact bad q vC (h3.symm.trans hq)
        refine am_nrp rfl rfl rfl rfl ?_
        refine st_iconst O dX7_road_16 am_iconst_1 (q := 17) rfl ?_
        refine st_icmp_ne O dX7_road_17 (t := 33) rfl (q := 20) rfl (fun c17 => ?_) (fun c17 => ?_)
        · exact absurd c17 (by decide)
        refine st_aloadn O dX7_road_20 rfl (q := 21) rfl ?_
        refine st_bipush O dX7_road_21 am_bipush_59 (q := 23) rfl ?_
        refine st_call O dX7_road_23 cs_X7_road_23 (q := 26) rfl (am_siq rfl rfl rfl (Nat.le_of_ble_eq_true rfl) rfl ?_)
        refine ⟨ls, s + slN (ls.getD s 0) - 1, 59, _, _, _, _, _, _, _, _, _, _, tA, rfl, ht, hl, by decide, rfl, fun _ _ => ?_, fun w => absurd h59 w⟩
        rw [e1]
        refine am_nrp rfl rfl rfl rfl ?_
        refine st_if_eq O dX7_road_26 (t := 33) rfl (q := 29) rfl (fun c26 => ?_) (fun c26 => ?_)
        · exact absurd c26 (by decide)
        refine st_iconst O dX7_road_29 am_iconst_1 (q := 30) rfl ?_
        refine st_goto O dX7_road_30 (t := 34) rfl ?_
        refine st_istoren O dX7_road_34 rfl (q := 35) rfl ?_
        refine st_iloadn O dX7_road_35 rfl (q := 36) rfl ?_
        refine st_if_eq O dX7_road_36 (t := 7) rfl (q := 39) rfl (fun c36 => ?_) (fun c36 => ?_)
        · exact absurd c36 (by decide)
        refine st_aloadn O dX7_road_39 rfl (q := 40) rfl ?_
        refine st_geti O dX7_road_40 fl_X7_73 rfl rfl rfl rfl (q := 43) rfl ?_
        refine st_aloadn O dX7_road_43 rfl (q := 44) rfl ?_
        refine st_geti O dX7_road_44 fl_X7_70 rfl rfl rfl rfl (q := 47) rfl ?_
        refine sn_icmp_ne O dX7_road_47 (t := 7) rfl (q := 50) rfl (by omega) (by omega) (fun c47 => ?_) (fun c47 => ?_)
        · exact ih (ls.length - (s + slN (ls.getD s 0))) (by omega) _ _ rfl (by omega) (by omega) hnx.symm
        refine st_goto O dX7_road_50 (t := 53) rfl ?_
        have e2 : s + slN (ls.getD s 0) = ls.length := by omega
        rw [e2] at hnx ⊢
        refine good _ (hnx.trans ?_)
        rw [Nat.sub_self, scF, if_pos ⟨by omega, rfl⟩]
      · have hff : ffl ls = some (s + slN (ls.getD s 0) - 1) := h3.symm.trans (scF_fail (by omega) hl (Or.inl (by omega)) (fun i h5 h6 => ⟨(hA.2 i h5 h6).2, by omega⟩) (fun h => by rw [inF_end (by omega) (by omega)]; exact decide_eq_false (fun w => h59 ⟨h, w⟩)))
        refine st_iloadn O dX7_road_7 rfl (q := 8) rfl ?_
        refine st_if_eq O dX7_road_8 (t := 53) rfl (q := 11) rfl (fun c8 => ?_) (fun c8 => ?_)
        · exact absurd c8 (by decide)
        refine st_aloadn O dX7_road_11 rfl (q := 12) rfl ?_
        refine st_iconst O dX7_road_12 am_iconst_0 (q := 13) rfl ?_
        refine st_call O dX7_road_13 cs_X7_road_13 (q := 16) rfl (am_siq rfl rfl rfl (Nat.le_of_ble_eq_true rfl) rfl ?_)
        refine ⟨σ.1, ls, s, _, _, _, _, _, _, _, _, _, _, _, _, _, _, _, _, _, _, _, _, _, _, rfl, hR, ht, Or.inl ⟨rfl, h1, h2, fun _ _ vC => ?_, fun q vC hq => ?_⟩⟩
        rotate_left
        · refine am_nrp rfl rfl rfl rfl ?_
          exact bad q vC (h3.symm.trans hq)
        refine am_nrp rfl rfl rfl rfl ?_
        refine st_iconst O dX7_road_16 am_iconst_1 (q := 17) rfl ?_
        refine st_icmp_ne O dX7_road_17 (t := 33) rfl (q := 20) rfl (fun c17 => ?_) (fun c17 => ?_)
        · exact absurd c17 (by decide)
        refine st_aloadn O dX7_road_20 rfl (q := 21) rfl ?_
        refine st_bipush O dX7_road_21 am_bipush_59 (q := 23) rfl ?_
        refine st_call O dX7_road_23 cs_X7_road_23 (q := 26) rfl (am_siq rfl rfl rfl (Nat.le_of_ble_eq_true rfl) rfl ?_)
        refine ⟨ls, s + slN (ls.getD s 0) - 1, 59, _, _, _, _, _, _, _, _, _, _, tA, rfl, ht, hl, by decide, rfl, fun a b => absurd ⟨a, b⟩ h59, fun _ => ?_⟩
        refine am_nrp rfl rfl rfl rfl ?_
        refine st_if_eq O dX7_road_26 (t := 33) rfl (q := 29) rfl (fun c26 => ?_) (fun c26 => ?_)
        · exact bad33 _ _ hff
        exact absurd c26 (by decide)
    · refine st_iloadn O dX7_road_7 rfl (q := 8) rfl ?_
      refine st_if_eq O dX7_road_8 (t := 53) rfl (q := 11) rfl (fun c8 => ?_) (fun c8 => ?_)
      · exact absurd c8 (by decide)
      refine st_aloadn O dX7_road_11 rfl (q := 12) rfl ?_
      refine st_iconst O dX7_road_12 am_iconst_0 (q := 13) rfl ?_
      refine st_call O dX7_road_13 cs_X7_road_13 (q := 16) rfl (am_siq rfl rfl rfl (Nat.le_of_ble_eq_true rfl) rfl ?_)
      refine ⟨σ.1, ls, s, _, _, _, _, _, _, _, _, _, _, _, _, _, _, _, _, _, _, _, _, _, _, rfl, hR, ht, Or.inl ⟨rfl, h1, h2, fun h5 h6 => absurd ⟨h6, h5⟩ hA, fun q vC hq => ?_⟩⟩
      refine am_nrp rfl rfl rfl rfl ?_
      exact bad q vC (h3.symm.trans hq)
  refine am_begin rfl ?_
  refine st_aloadn O dX7_road_0 rfl (q := 1) rfl ?_
  refine st_iconst O dX7_road_1 am_iconst_0 (q := 2) rfl ?_
  refine st_puti O dX7_road_2 fl_X7_73 rfl rfl rfl rfl rfl (q := 5) rfl ?_
  refine st_iconst O dX7_road_5 am_iconst_1 (q := 6) rfl ?_
  refine st_istoren O dX7_road_6 rfl (q := 7) rfl ?_
  exact loop1 ls.length 0 _ (by omega) (by omega) (by omega) rfl
theorem C_X7_road : am_ctr yX7_road cX7_road 4 (some .int) 5 114 sh_Mod [some 0] T_X7_road := am_mk (by decide) (Or.inr (Or.inl ⟨rfl, rfl⟩)) (by decide) (by decide) (by decide) fl_X7_ok kc_X7_ok ck_X7_road B_X7_road
