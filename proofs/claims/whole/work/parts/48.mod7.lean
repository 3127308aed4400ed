/-! the reference's calls: what would be otherwise -/
theorem c_bd {σ : Sg} {kA fA hA lA pA : Nat → Int32} (hR : mR σ.1 kA fA hA lA pA) (b : Nat) (kd fg la : Nat → Nat) (li : List Nat) (hp : li.Perm (List.range (gN σ))) (a : Nat) : cst (gh σ) (simA b (gw σ) kd fg la li a) ≤ 30000 := (simA_bd (n := gN σ) (hu := gh σ) hR.2.2.2.2.1 hR.2.1 (fun c hc => (hR.2.2.2.1 c hc).2.2.1.2) hp a).2
theorem im_len {σ : Sg} {D : am_D} (h : IM σ D) : D.length = 16 := by
  obtain ⟨aT, iM, tU, aS, cH, lO, kA, fA, hA, lA, pA, tA, vA, oA, eA, xA, nA, gA, wA, uA, rfl, -⟩ := h
  rfl
theorem im_put {σ σ' : Sg} {D D' : am_D} (h : IM σ D) (h' : IM σ' D') : am_put [0, 1, 2, 3, 4, 5, 6, 7, 8, 9, 10, 11, 12, 13, 14, 15] D' D = D' := by
  have h1 := am_put_al (d := D') (D := D) (by rw [im_len h, im_len h'])
  rw [im_len h] at h1
  exact h1
def cs_X7_bestBoard : Nat → List am_V → am_D → am_K → Prop := am_cs [(25, am_site 1 [some 0] T_X7_cost [0, 1, 2, 3, 4, 5, 13, 14, 15] [0, 1, 2, 3, 4, 5, 13, 14, 15, 6, 7, 8, 9, 10, 11, 12])]
theorem cs_X7_bestBoard_25 : cs_X7_bestBoard 25 = am_site 1 [some 0] T_X7_cost [0, 1, 2, 3, 4, 5, 13, 14, 15] [0, 1, 2, 3, 4, 5, 13, 14, 15, 6, 7, 8, 9, 10, 11, 12] := rfl
theorem ck_X7_bestBoard : ∀ X : am_X, am_cx X RX7 cX7_bestBoard 6 4 97 → ∀ pc, am_csok X 6 sh_Mod pc (cs_X7_bestBoard pc) := fun X hX => am_cs_ok (List.forall_mem_cons.mpr ⟨am_callV hX C_X7_cost mo_X7_cost rfl lk_X7_168 dX7_bestBoard_25 rfl rfl rfl (by decide), fun _ h => absurd h List.not_mem_nil⟩)
abbrev ok_X7_bestBoard (X : am_X) (K : List Int32 → am_D → Prop) : Prop := am_ok X RX7 cX7_bestBoard 6 sh_Mod fl_X7 kc_X7 none 1 cs_X7_bestBoard K
abbrev aw_X7_bestBoard (X : am_X) (pc : Nat) (ls : am_L) (st : List am_V) (D : am_D) : Prop := am_aw X 6 sh_Mod pc ls st D
abbrev T_X7_bestBoard : am_TT := am_s0 IM f_bestBoard
def mnI (f : Nat → Nat) (m : Nat) : Int32 := if m = 0 then -1 else nI (mnS f m).2
set_option maxHeartbeats 200000 in
theorem B_X7_bestBoard : ∀ (X : am_X) (is : List Int32) (D : am_D) (K : List Int32 → am_D → Prop), ok_X7_bestBoard X K → T_X7_bestBoard is D K → is.length = (List.filter Option.isNone ([some 0] : List (Option Nat))).length → D.length = sh_Mod.length → am_aw X 6 sh_Mod 0 (am_l0 6 [some 0] is) [] D := by
  intro X is D K O hT _ _
  obtain ⟨σ, ⟨aT, iM, tU, aS, cH, lO, kA, fA, hA, lA, pA, tA, vA, oA, eA, xA, nA, gA, wA, uA, rfl, hR, ht, ho, hk⟩, rfl, hK⟩ := hT
  obtain ⟨hb, hw, hp, hj, hL⟩ := id hR
  have hn : gN σ ≤ 9 := hL.1
  have eN : gN σ = σ.1.1 := rfl
  have hf : ∀ j, cst (gh σ) (simA j (gw σ) (gk σ) (gf σ) (gl σ) (gq σ) 0) ≤ 30000 := fun j => c_bd hR j _ _ _ _ hp 0
  have hK : ∀ D', IM σ D' → K [nI (mnS (fun j => cst (gh σ) (simA j (gw σ) (gk σ) (gf σ) (gl σ) (gq σ) 0)) 3).1] D' := hK
  generalize hF : (fun j => cst (gh σ) (simA j (gw σ) (gk σ) (gf σ) (gl σ) (gq σ) 0)) = F at hK
  have hf : ∀ j, F j ≤ 30000 := fun j => by rw [← hF]; exact hf j
  have loop : ∀ d m bb tU aS cH lO gA wA uA y5, 3 - m = d → m ≤ 3 → am_aw X 6 sh_Mod 12 [some (.inr 0), some (.inl (nI (gb σ))), some (.inl (nI (mnS F m).1)), some (.inl (mnI F m)), some (.inl (nI m)), y5] [] [.inl [nI (gN σ), bb, nI (gw σ), nI σ.2.2.1.length, aT, nI σ.2.2.2.1.length, iM, tU, aS, cH, lO, bI false], .inr kA, .inr fA, .inr hA, .inr lA, .inr pA, .inr tA, .inr vA, .inr oA, .inr σ.2.2.2.2, .inr eA, .inr xA, .inr nA, .inr gA, .inr wA, .inr uA] := by
    intro d
    induction d with
    | zero =>
      intro m bb tU aS cH lO gA wA uA y5 hd hm
      have e : m = 3 := by omega
      subst e
      refine st_iload O dX7_bestBoard_12 rfl (q := 14) rfl ?_
      refine st_iconst O dX7_bestBoard_14 am_iconst_3 (q := 15) rfl ?_
      refine sn_icmp_ge O dX7_bestBoard_15 (t := 55) rfl (q := 18) rfl (by omega) (by omega) (fun c15 => ?_) (fun c15 => ?_)
      · refine st_aloadn O dX7_bestBoard_55 rfl (q := 56) rfl ?_
        refine st_iloadn O dX7_bestBoard_56 rfl (q := 57) rfl ?_
        refine st_puti O dX7_bestBoard_57 fl_X7_103 rfl rfl rfl rfl rfl (q := 60) rfl ?_
        refine st_iloadn O dX7_bestBoard_60 rfl (q := 61) rfl ?_
        refine st_ireturn O dX7_bestBoard_61 ?_
        exact hK _ ⟨_, _, _, _, _, _, _, _, _, _, _, _, _, _, _, _, _, _, _, _, rfl, hR, ht, ho, hk⟩
      omega
    | succ d ih =>
      intro m bb tU aS cH lO gA wA uA y5 hd hm
      have h1 := hf m
      have h2 := (mnS_le (f := F) (B := 30000) m (fun j _ => hf j)).1
      have ih := fun bb tU aS cH lO gA wA uA y5 => ih (m + 1) bb tU aS cH lO gA wA uA y5 (by omega) (by omega)
      have h3 : cst (gh σ) (smw false m (gw σ) (gk σ) (gf σ) (fun z => qu (gl σ) (gq σ) z 0)) = F m := by rw [smw_A (fun _ _ => rfl), ← hF]
      rw [show mnI F (m + 1) = nI (mnS F (m + 1)).2 from if_neg (Nat.succ_ne_zero m)] at ih
      unfold mnS at ih
      by_cases h0 : m = 0
      · subst h0
        simp only [if_pos (Or.inl rfl : 0 = 0 ∨ F 0 < (mnS F 0).2)] at ih
        refine st_iload O dX7_bestBoard_12 rfl (q := 14) rfl ?_
        refine st_iconst O dX7_bestBoard_14 am_iconst_3 (q := 15) rfl ?_
        refine sn_icmp_ge O dX7_bestBoard_15 (t := 55) rfl (q := 18) rfl (by omega) (by omega) (fun c15 => ?_) (fun c15 => ?_)
        · omega
        refine st_aloadn O dX7_bestBoard_18 rfl (q := 19) rfl ?_
        refine st_iload O dX7_bestBoard_19 rfl (q := 21) rfl ?_
        refine st_puti O dX7_bestBoard_21 fl_X7_103 rfl rfl rfl rfl rfl (q := 24) rfl ?_
        refine st_aloadn O dX7_bestBoard_24 rfl (q := 25) rfl ?_
        refine st_call O dX7_bestBoard_25 cs_X7_bestBoard_25 (q := 28) rfl (am_siq rfl rfl rfl (Nat.le_of_ble_eq_true rfl) rfl ?_)
        refine ⟨gN σ, 0, gw σ, _, _, _, _, _, _, _, _, false, gk σ, gf σ, gh σ, (fun z => qu (gl σ) (gq σ) z 0), _, _, _, _, _, _, _, _, rfl, rfl, by decide, hR.k2, hR.h2, hL, fun t1 t2 t3 t4 g1 g2 g3 => ?_⟩
        refine am_nrp rfl rfl rfl rfl ?_
        rw [h3]
        refine st_istore O dX7_bestBoard_28 rfl (q := 30) rfl ?_
        refine st_iloadn O dX7_bestBoard_30 rfl (q := 31) rfl ?_
        refine st_if_lt O dX7_bestBoard_31 (t := 43) rfl (q := 34) rfl (fun c31 => ?_) (fun c31 => ?_)
        · refine st_iload O dX7_bestBoard_43 rfl (q := 45) rfl ?_
          refine st_istoren O dX7_bestBoard_45 rfl (q := 46) rfl ?_
          refine st_iload O dX7_bestBoard_46 rfl (q := 48) rfl ?_
          refine st_istoren O dX7_bestBoard_48 rfl (q := 49) rfl ?_
          refine st_iinc O dX7_bestBoard_49 rfl (by first | exact am_ii1 _ | exact rfl) rfl (q := 52) rfl ?_
          refine st_goto O dX7_bestBoard_52 (t := 12) rfl ?_
          exact ih _ _ _ _ _ _ _ _ _
        exact absurd (show (-1 : Int32) < 0 by decide) c31
      · rw [show mnI F m = nI (mnS F m).2 from if_neg h0]
        by_cases hlt : F m < (mnS F m).2
        · simp only [if_pos (Or.inr hlt : m = 0 ∨ F m < (mnS F m).2)] at ih
          refine st_iload O dX7_bestBoard_12 rfl (q := 14) rfl ?_
          refine st_iconst O dX7_bestBoard_14 am_iconst_3 (q := 15) rfl ?_
          refine sn_icmp_ge O dX7_bestBoard_15 (t := 55) rfl (q := 18) rfl (by omega) (by omega) (fun c15 => ?_) (fun c15 => ?_)
          · omega
          refine st_aloadn O dX7_bestBoard_18 rfl (q := 19) rfl ?_
          refine st_iload O dX7_bestBoard_19 rfl (q := 21) rfl ?_
          refine st_puti O dX7_bestBoard_21 fl_X7_103 rfl rfl rfl rfl rfl (q := 24) rfl ?_
          refine st_aloadn O dX7_bestBoard_24 rfl (q := 25) rfl ?_
          refine st_call O dX7_bestBoard_25 cs_X7_bestBoard_25 (q := 28) rfl (am_siq rfl rfl rfl (Nat.le_of_ble_eq_true rfl) rfl ?_)
          refine ⟨gN σ, m, gw σ, _, _, _, _, _, _, _, _, false, gk σ, gf σ, gh σ, (fun z => qu (gl σ) (gq σ) z 0), _, _, _, _, _, _, _, _, rfl, rfl, by omega, hR.k2, hR.h2, hL, fun t1 t2 t3 t4 g1 g2 g3 => ?_⟩
          refine am_nrp rfl rfl rfl rfl ?_
          rw [h3]
          refine st_istore O dX7_bestBoard_28 rfl (q := 30) rfl ?_
          refine st_iloadn O dX7_bestBoard_30 rfl (q := 31) rfl ?_
          refine sn_if_lt O dX7_bestBoard_31 (t := 43) rfl (q := 34) rfl (by omega) (fun c31 => ?_) (fun c31 => ?_)
          · exact c31.elim
          refine st_iload O dX7_bestBoard_34 rfl (q := 36) rfl ?_
          refine st_iloadn O dX7_bestBoard_36 rfl (q := 37) rfl ?_
          refine sn_icmp_lt O dX7_bestBoard_37 (t := 43) rfl (q := 40) rfl (by omega) (by omega) (fun c37 => ?_) (fun c37 => ?_)
          · refine st_iload O dX7_bestBoard_43 rfl (q := 45) rfl ?_
            refine st_istoren O dX7_bestBoard_45 rfl (q := 46) rfl ?_
            refine st_iload O dX7_bestBoard_46 rfl (q := 48) rfl ?_
            refine st_istoren O dX7_bestBoard_48 rfl (q := 49) rfl ?_
            refine st_iinc O dX7_bestBoard_49 rfl (by first | exact am_ii1 _ | exact rfl) rfl (q := 52) rfl ?_
            refine st_goto O dX7_bestBoard_52 (t := 12) rfl ?_
            exact ih _ _ _ _ _ _ _ _ _
          omega
        · simp only [if_neg (fun z => z.elim h0 hlt : ¬ (m = 0 ∨ F m < (mnS F m).2))] at ih
          refine st_iload O dX7_bestBoard_12 rfl (q := 14) rfl ?_
          refine st_iconst O dX7_bestBoard_14 am_iconst_3 (q := 15) rfl ?_
          refine sn_icmp_ge O dX7_bestBoard_15 (t := 55) rfl (q := 18) rfl (by omega) (by omega) (fun c15 => ?_) (fun c15 => ?_)
          · omega
          refine st_aloadn O dX7_bestBoard_18 rfl (q := 19) rfl ?_
          refine st_iload O dX7_bestBoard_19 rfl (q := 21) rfl ?_
          refine st_puti O dX7_bestBoard_21 fl_X7_103 rfl rfl rfl rfl rfl (q := 24) rfl ?_
          refine st_aloadn O dX7_bestBoard_24 rfl (q := 25) rfl ?_
          refine st_call O dX7_bestBoard_25 cs_X7_bestBoard_25 (q := 28) rfl (am_siq rfl rfl rfl (Nat.le_of_ble_eq_true rfl) rfl ?_)
          refine ⟨gN σ, m, gw σ, _, _, _, _, _, _, _, _, false, gk σ, gf σ, gh σ, (fun z => qu (gl σ) (gq σ) z 0), _, _, _, _, _, _, _, _, rfl, rfl, by omega, hR.k2, hR.h2, hL, fun t1 t2 t3 t4 g1 g2 g3 => ?_⟩
          refine am_nrp rfl rfl rfl rfl ?_
          rw [h3]
          refine st_istore O dX7_bestBoard_28 rfl (q := 30) rfl ?_
          refine st_iloadn O dX7_bestBoard_30 rfl (q := 31) rfl ?_
          refine sn_if_lt O dX7_bestBoard_31 (t := 43) rfl (q := 34) rfl (by omega) (fun c31 => ?_) (fun c31 => ?_)
          · exact c31.elim
          refine st_iload O dX7_bestBoard_34 rfl (q := 36) rfl ?_
          refine st_iloadn O dX7_bestBoard_36 rfl (q := 37) rfl ?_
          refine sn_icmp_lt O dX7_bestBoard_37 (t := 43) rfl (q := 40) rfl (by omega) (by omega) (fun c37 => ?_) (fun c37 => ?_)
          · omega
          refine st_goto O dX7_bestBoard_40 (t := 49) rfl ?_
          refine st_iinc O dX7_bestBoard_49 rfl (by first | exact am_ii1 _ | exact rfl) rfl (q := 52) rfl ?_
          refine st_goto O dX7_bestBoard_52 (t := 12) rfl ?_
          exact ih _ _ _ _ _ _ _ _ _
  refine am_begin rfl ?_
  refine st_aloadn O dX7_bestBoard_0 rfl (q := 1) rfl ?_
  refine st_geti O dX7_bestBoard_1 fl_X7_103 rfl rfl rfl rfl (q := 4) rfl ?_
  refine st_istoren O dX7_bestBoard_4 rfl (q := 5) rfl ?_
  refine st_iconst O dX7_bestBoard_5 am_iconst_0 (q := 6) rfl ?_
  refine st_istoren O dX7_bestBoard_6 rfl (q := 7) rfl ?_
  refine st_iconst O dX7_bestBoard_7 am_iconst_m1 (q := 8) rfl ?_
  refine st_istoren O dX7_bestBoard_8 rfl (q := 9) rfl ?_
  refine st_iconst O dX7_bestBoard_9 am_iconst_0 (q := 10) rfl ?_
  refine st_istore O dX7_bestBoard_10 rfl (q := 12) rfl ?_
  exact loop 3 0 _ _ _ _ _ _ _ _ _ rfl (by decide)
theorem C_X7_bestBoard : am_ctr yX7_bestBoard cX7_bestBoard 6 (some .int) 4 97 sh_Mod [some 0] T_X7_bestBoard := am_mk (by decide) (Or.inr (Or.inl ⟨rfl, rfl⟩)) (by decide) (by decide) (by decide) fl_X7_ok kc_X7_ok ck_X7_bestBoard B_X7_bestBoard
def cs_X7_mover : Nat → List am_V → am_D → am_K → Prop := am_cs [(1, am_site 1 [some 0] T_X7_cost [0, 1, 2, 3, 4, 5, 13, 14, 15] [0, 1, 2, 3, 4, 5, 13, 14, 15, 6, 7, 8, 9, 10, 11, 12]), (14, am_site 2 [some 0, some 6] T_X7_keep_ [0, 1, 2, 3, 4, 5, 12] [0, 1, 2, 3, 4, 5, 12, 6, 7, 8, 9, 10, 11, 12, 13, 14, 15]), (36, am_site 2 [some 0, none] T_X7_overGoes [0, 4, 5] [0, 4, 5, 1, 2, 3, 6, 7, 8, 9, 10, 11, 12, 13, 14, 15]), (46, am_site 2 [some 0, none] T_X7_firstStands [0, 4, 5] [0, 4, 5, 1, 2, 3, 6, 7, 8, 9, 10, 11, 12, 13, 14, 15]), (51, am_site 1 [some 0] T_X7_cost [0, 1, 2, 3, 4, 5, 13, 14, 15] [0, 1, 2, 3, 4, 5, 13, 14, 15, 6, 7, 8, 9, 10, 11, 12]), (61, am_site 2 [some 0, some 6] T_X7_again [0, 1, 2, 3, 4, 5, 12] [0, 1, 2, 3, 4, 5, 12, 6, 7, 8, 9, 10, 11, 12, 13, 14, 15])]
theorem cs_X7_mover_1 : cs_X7_mover 1 = am_site 1 [some 0] T_X7_cost [0, 1, 2, 3, 4, 5, 13, 14, 15] [0, 1, 2, 3, 4, 5, 13, 14, 15, 6, 7, 8, 9, 10, 11, 12] := rfl
theorem cs_X7_mover_14 : cs_X7_mover 14 = am_site 2 [some 0, some 6] T_X7_keep_ [0, 1, 2, 3, 4, 5, 12] [0, 1, 2, 3, 4, 5, 12, 6, 7, 8, 9, 10, 11, 12, 13, 14, 15] := rfl
theorem cs_X7_mover_36 : cs_X7_mover 36 = am_site 2 [some 0, none] T_X7_overGoes [0, 4, 5] [0, 4, 5, 1, 2, 3, 6, 7, 8, 9, 10, 11, 12, 13, 14, 15] := rfl
theorem cs_X7_mover_46 : cs_X7_mover 46 = am_site 2 [some 0, none] T_X7_firstStands [0, 4, 5] [0, 4, 5, 1, 2, 3, 6, 7, 8, 9, 10, 11, 12, 13, 14, 15] := rfl
theorem cs_X7_mover_51 : cs_X7_mover 51 = am_site 1 [some 0] T_X7_cost [0, 1, 2, 3, 4, 5, 13, 14, 15] [0, 1, 2, 3, 4, 5, 13, 14, 15, 6, 7, 8, 9, 10, 11, 12] := rfl
theorem cs_X7_mover_61 : cs_X7_mover 61 = am_site 2 [some 0, some 6] T_X7_again [0, 1, 2, 3, 4, 5, 12] [0, 1, 2, 3, 4, 5, 12, 6, 7, 8, 9, 10, 11, 12, 13, 14, 15] := rfl
theorem ck_X7_mover : ∀ X : am_X, am_cx X RX7 cX7_mover 7 4 97 → ∀ pc, am_csok X 7 sh_Mod pc (cs_X7_mover pc) := fun X hX => am_cs_ok (List.forall_mem_cons.mpr ⟨am_callV hX C_X7_cost mo_X7_cost rfl lk_X7_168 dX7_mover_1 rfl rfl rfl (by decide), List.forall_mem_cons.mpr ⟨am_callV hX C_X7_keep_ mo_X7_keep_ rfl lk_X7_116 dX7_mover_14 rfl rfl rfl (by decide), List.forall_mem_cons.mpr ⟨am_callV hX C_X7_overGoes mo_X7_overGoes rfl lk_X7_106 dX7_mover_36 rfl rfl rfl (by decide), List.forall_mem_cons.mpr ⟨am_callV hX C_X7_firstStands mo_X7_firstStands rfl lk_X7_109 dX7_mover_46 rfl rfl rfl (by decide), List.forall_mem_cons.mpr ⟨am_callV hX C_X7_cost mo_X7_cost rfl lk_X7_168 dX7_mover_51 rfl rfl rfl (by decide), List.forall_mem_cons.mpr ⟨am_callV hX C_X7_again mo_X7_again rfl lk_X7_120 dX7_mover_61 rfl rfl rfl (by decide), fun _ h => absurd h List.not_mem_nil⟩⟩⟩⟩⟩⟩)
abbrev ok_X7_mover (X : am_X) (K : List Int32 → am_D → Prop) : Prop := am_ok X RX7 cX7_mover 7 sh_Mod fl_X7 kc_X7 none 1 cs_X7_mover K
abbrev aw_X7_mover (X : am_X) (pc : Nat) (ls : am_L) (st : List am_V) (D : am_D) : Prop := am_aw X 7 sh_Mod pc ls st D
abbrev T_X7_mover : am_TT := fun is D K => ∃ σ ov w, IM σ D ∧ is = [bI ov, w] ∧ (w = 0 ∨ w = 1) ∧ ∀ D', IM σ D' → K [oC (lsF (cMv (gb σ) (gw σ) (gk σ) (gf σ) (gl σ) (gh σ) (gq σ) (!ov)) (gC σ) (gN σ)) (decide (w = 1))] D'
set_option maxHeartbeats 200000 in
theorem B_X7_mover : ∀ (X : am_X) (is : List Int32) (D : am_D) (K : List Int32 → am_D → Prop), ok_X7_mover X K → T_X7_mover is D K → is.length = (List.filter Option.isNone ([some 0, none, none] : List (Option Nat))).length → D.length = sh_Mod.length → am_aw X 7 sh_Mod 0 (am_l0 7 [some 0, none, none] is) [] D := by
  intro X is D K O hT _ _
  obtain ⟨σ, ov, w, ⟨aT, iM, tU, aS, cH, lO, kA, fA, hA, lA, pA, tA, vA, oA, eA, xA, nA, gA, wA, uA, rfl, hR, ht, ho, hk⟩, rfl, hw01, hK⟩ := hT
  obtain ⟨hb, hw, hp, hj, hL⟩ := id hR
  have hn : gN σ ≤ 9 := hL.1
  have eN : gN σ = σ.1.1 := rfl
  have hf : ∀ j, j < gN σ → cMv (gb σ) (gw σ) (gk σ) (gf σ) (gl σ) (gh σ) (gq σ) (!ov) j ≤ 30000 := by
    intro j hj9
    unfold cMv
    split
    · exact c_bd hR _ _ _ _ _ (er_perm2 hp hj9) 0
    · exact c_bd hR _ _ _ _ _ (er_perm hp hj9) 0
  have hC : gC σ ≤ 30000 := c_bd hR _ _ _ _ _ hp 0
  generalize hF : cMv (gb σ) (gw σ) (gk σ) (gf σ) (gl σ) (gh σ) (gq σ) (!ov) = F at hK hf
  have loop : ∀ d m tU aS cH lO kA fA hA lA pA nA gA wA uA y6 k0 f0 h0 l0 p0, mR σ.1 kA fA hA lA pA → mR σ.1 k0 f0 h0 l0 p0 → kpy (gN σ) (gb σ) (gw σ) k0 f0 h0 l0 p0 nA → gN σ - m = d → m ≤ gN σ → am_aw X 7 sh_Mod 20 [some (.inr 0), some (.inl (bI ov)), some (.inl w), some (.inl (nI (lsF F (gC σ) m).2)), some (.inl (oI (lsF F (gC σ) m).1)), some (.inl (nI m)), y6] [] [.inl [nI (gN σ), nI (gb σ), nI (gw σ), nI σ.2.2.1.length, aT, nI σ.2.2.2.1.length, iM, tU, aS, cH, lO, bI false], .inr kA, .inr fA, .inr hA, .inr lA, .inr pA, .inr tA, .inr vA, .inr oA, .inr σ.2.2.2.2, .inr eA, .inr xA, .inr nA, .inr gA, .inr wA, .inr uA] := by
    intro d
    induction d with
    | zero =>
      intro m tU aS cH lO kA fA hA lA pA nA gA wA uA y6 k0 f0 h0 l0 p0 hR h00 hc0 hd hm
      have e : m = gN σ := by omega
      subst e
      have hno := oI_none (o := (lsF F (gC σ) (gN σ)).1) (fun c hc => by have := lsF_lt _ _ hc; omega)
      refine st_iload O dX7_mover_20 rfl (q := 22) rfl ?_
      refine st_aloadn O dX7_mover_22 rfl (q := 23) rfl ?_
      refine st_geti O dX7_mover_23 fl_X7_59 rfl rfl rfl rfl (q := 26) rfl ?_
      refine sn_icmp_ge O dX7_mover_26 (t := 86) rfl (q := 29) rfl (by omega) (by omega) (fun c26 => ?_) (fun c26 => ?_)
      · refine st_iload O dX7_mover_86 rfl (q := 88) rfl ?_
        refine st_bipush O dX7_mover_88 am_bipush_m9 (q := 90) rfl ?_
        refine st_icmp_eq O dX7_mover_90 (t := 97) rfl (q := 93) rfl (fun c90 => ?_) (fun c90 => ?_)
        · refine st_iload O dX7_mover_97 rfl (q := 99) rfl ?_
          refine st_goto O dX7_mover_99 (t := 103) rfl ?_
          refine st_ireturn O dX7_mover_103 ?_
          unfold oC at hK
          cases ho' : (lsF F (gC σ) (gN σ)).1 with
          | none =>
            rw [ho'] at hK
            first | exact hK _ ⟨_, _, _, _, _, _, _, _, _, _, _, _, _, _, _, _, _, _, _, _, rfl, hR, ht, ho, hk⟩ | exact absurd (hno.mpr ho') c90
          | some c =>
            rw [ho'] at hK
            first | exact absurd (ho' ▸ hno.mp c90) (by simp) | (rcases hw01 with h | h; rw [h] at hK; exact hK _ ⟨_, _, _, _, _, _, _, _, _, _, _, _, _, _, _, _, _, _, _, _, rfl, hR, ht, ho, hk⟩; exact absurd h (by rw [show w = 0 from by first | exact c94 | exact Decidable.of_not_not c94]; decide)) | (rcases hw01 with h | h; exact absurd h c94; rw [h] at hK; exact hK _ ⟨_, _, _, _, _, _, _, _, _, _, _, _, _, _, _, _, _, _, _, _, rfl, hR, ht, ho, hk⟩)
        refine st_iloadn O dX7_mover_93 rfl (q := 94) rfl ?_
        refine st_if_ne O dX7_mover_94 (t := 102) rfl (q := 97) rfl (fun c94 => ?_) (fun c94 => ?_)
        · refine st_iloadn O dX7_mover_102 rfl (q := 103) rfl ?_
          refine st_ireturn O dX7_mover_103 ?_
          unfold oC at hK
          cases ho' : (lsF F (gC σ) (gN σ)).1 with
          | none =>
            rw [ho'] at hK
            first | exact hK _ ⟨_, _, _, _, _, _, _, _, _, _, _, _, _, _, _, _, _, _, _, _, rfl, hR, ht, ho, hk⟩ | exact absurd (hno.mpr ho') c90
          | some c =>
            rw [ho'] at hK
            first | exact absurd (ho' ▸ hno.mp c90) (by simp) | (rcases hw01 with h | h; rw [h] at hK; exact hK _ ⟨_, _, _, _, _, _, _, _, _, _, _, _, _, _, _, _, _, _, _, _, rfl, hR, ht, ho, hk⟩; exact absurd h (by rw [show w = 0 from by first | exact c94 | exact Decidable.of_not_not c94]; decide)) | (rcases hw01 with h | h; exact absurd h c94; rw [h] at hK; exact hK _ ⟨_, _, _, _, _, _, _, _, _, _, _, _, _, _, _, _, _, _, _, _, rfl, hR, ht, ho, hk⟩)
        refine st_iload O dX7_mover_97 rfl (q := 99) rfl ?_
        refine st_goto O dX7_mover_99 (t := 103) rfl ?_
        refine st_ireturn O dX7_mover_103 ?_
        unfold oC at hK
        cases ho' : (lsF F (gC σ) (gN σ)).1 with
        | none =>
          rw [ho'] at hK
          first | exact hK _ ⟨_, _, _, _, _, _, _, _, _, _, _, _, _, _, _, _, _, _, _, _, rfl, hR, ht, ho, hk⟩ | exact absurd (hno.mpr ho') c90
        | some c =>
          rw [ho'] at hK
          first | exact absurd (ho' ▸ hno.mp c90) (by simp) | (rcases hw01 with h | h; rw [h] at hK; exact hK _ ⟨_, _, _, _, _, _, _, _, _, _, _, _, _, _, _, _, _, _, _, _, rfl, hR, ht, ho, hk⟩; exact absurd h (by rw [show w = 0 from by first | exact c94 | exact Decidable.of_not_not c94]; decide)) | (rcases hw01 with h | h; exact absurd h c94; rw [h] at hK; exact hK _ ⟨_, _, _, _, _, _, _, _, _, _, _, _, _, _, _, _, _, _, _, _, rfl, hR, ht, ho, hk⟩)
      omega
    | succ d ih =>
      intro m tU aS cH lO kA fA hA lA pA nA gA wA uA y6 k0 f0 h0 l0 p0 hR h00 hc0 hd hm
      obtain ⟨-, -, -, hj, hL⟩ := id hR
      have hm9 : m < gN σ := by omega
      obtain ⟨-, -, -, q4⟩ := hj m hm9
      have h1 := hf m hm9
      have h2 := lsF_le (f := F) hC m (fun j hjm => hf j (by omega))
      have ih := fun tU aS cH lO kA fA hA lA pA nA gA wA uA y6 h => ih (m + 1) tU aS cH lO kA fA hA lA pA nA gA wA uA y6 k0 f0 h0 l0 p0 h h00
      have fin : ∀ tU aS cH lO kA fA hA lA pA gA wA uA, am_aw X 7 sh_Mod 56 [some (.inr 0), some (.inl (bI ov)), some (.inl w), some (.inl (nI (lsF F (gC σ) m).2)), some (.inl (oI (lsF F (gC σ) m).1)), some (.inl (nI m)), some (.inl (nI (F m)))] [] [.inl [nI (gN σ), nI (gb σ), nI (gw σ), nI σ.2.2.1.length, aT, nI σ.2.2.2.1.length, iM, tU, aS, cH, lO, bI false], .inr kA, .inr fA, .inr hA, .inr lA, .inr pA, .inr tA, .inr vA, .inr oA, .inr σ.2.2.2.2, .inr eA, .inr xA, .inr nA, .inr gA, .inr wA, .inr uA] := by
        intro tU aS cH lO kA fA hA lA pA gA wA uA
        unfold lsF at ih
        by_cases hlt : F m < (lsF F (gC σ) m).2
        · simp only [if_pos hlt] at ih
          refine st_aloadn O dX7_mover_56 rfl (q := 57) rfl ?_
          refine st_aloadn O dX7_mover_57 rfl (q := 58) rfl ?_
          refine st_getr O dX7_mover_58 fl_X7_43 rfl rfl rfl (q := 61) rfl ?_
          refine st_call O dX7_mover_61 cs_X7_mover_61 (q := 64) rfl (am_siq rfl rfl rfl (Nat.le_of_ble_eq_true rfl) rfl ?_)
          refine ⟨gN σ, gb σ, gw σ, _, _, _, _, k0, f0, h0, l0, p0, _, _, _, _, _, _, rfl, rfl, hc0, fun kC fC hC lC pC hcc => ?_⟩
          refine am_nrp rfl rfl rfl rfl ?_
          refine st_iload O dX7_mover_64 rfl (q := 66) rfl ?_
          refine st_iloadn O dX7_mover_66 rfl (q := 67) rfl ?_
          refine sn_icmp_lt O dX7_mover_67 (t := 73) rfl (q := 70) rfl (by omega) (by omega) (fun c67 => ?_) (fun c67 => ?_)
          · refine st_iload O dX7_mover_73 rfl (q := 75) rfl ?_
            refine st_istoren O dX7_mover_75 rfl (q := 76) rfl ?_
            refine st_iload O dX7_mover_76 rfl (q := 78) rfl ?_
            refine st_istore O dX7_mover_78 rfl (q := 80) rfl ?_
            refine st_iinc O dX7_mover_80 rfl (by first | exact am_ii1 _ | exact rfl) rfl (q := 83) rfl ?_
            refine st_goto O dX7_mover_83 (t := 20) rfl ?_
            exact ih _ _ _ _ _ _ _ _ _ _ _ _ _ _ (mR_congr h00 hcc) hc0 (by omega) (by omega)
          omega
        · simp only [if_neg hlt] at ih
          refine st_aloadn O dX7_mover_56 rfl (q := 57) rfl ?_
          refine st_aloadn O dX7_mover_57 rfl (q := 58) rfl ?_
          refine st_getr O dX7_mover_58 fl_X7_43 rfl rfl rfl (q := 61) rfl ?_
          refine st_call O dX7_mover_61 cs_X7_mover_61 (q := 64) rfl (am_siq rfl rfl rfl (Nat.le_of_ble_eq_true rfl) rfl ?_)
          refine ⟨gN σ, gb σ, gw σ, _, _, _, _, k0, f0, h0, l0, p0, _, _, _, _, _, _, rfl, rfl, hc0, fun kC fC hC lC pC hcc => ?_⟩
          refine am_nrp rfl rfl rfl rfl ?_
          refine st_iload O dX7_mover_64 rfl (q := 66) rfl ?_
          refine st_iloadn O dX7_mover_66 rfl (q := 67) rfl ?_
          refine sn_icmp_lt O dX7_mover_67 (t := 73) rfl (q := 70) rfl (by omega) (by omega) (fun c67 => ?_) (fun c67 => ?_)
          · omega
          refine st_goto O dX7_mover_70 (t := 80) rfl ?_
          refine st_iinc O dX7_mover_80 rfl (by first | exact am_ii1 _ | exact rfl) rfl (q := 83) rfl ?_
          refine st_goto O dX7_mover_83 (t := 20) rfl ?_
          exact ih _ _ _ _ _ _ _ _ _ _ _ _ _ _ (mR_congr h00 hcc) hc0 (by omega) (by omega)
      cases ov with
      | true =>
        have h3 : cst (gh σ) (smw false (gb σ) (gw σ) (gk σ) (gf σ) (fun y => if y = 1 - gl σ m then (qu (gl σ) (gq σ) y 0).erase m ++ [m] else (qu (gl σ) (gq σ) y 0).erase m)) = F m := by
          rw [smw_A (la := va_up (gl σ) m (1 - gl σ m)) (li := (gq σ).erase m ++ [m]) (a := 0) (fun y _ => (qu_end hp y).symm), ← hF]
          rfl
        refine st_iload O dX7_mover_20 rfl (q := 22) rfl ?_
        refine st_aloadn O dX7_mover_22 rfl (q := 23) rfl ?_
        refine st_geti O dX7_mover_23 fl_X7_59 rfl rfl rfl rfl (q := 26) rfl ?_
        refine sn_icmp_ge O dX7_mover_26 (t := 86) rfl (q := 29) rfl (by omega) (by omega) (fun c26 => ?_) (fun c26 => ?_)
        · omega
        refine st_iloadn O dX7_mover_29 rfl (q := 30) rfl ?_
        refine st_if_eq O dX7_mover_30 (t := 43) rfl (q := 33) rfl (fun c30 => ?_) (fun c30 => ?_)
        · exact absurd c30 (by decide)
        refine st_aloadn O dX7_mover_33 rfl (q := 34) rfl ?_
        refine st_iload O dX7_mover_34 rfl (q := 36) rfl ?_
        refine st_call O dX7_mover_36 cs_X7_mover_36 (q := 39) rfl (am_siq rfl rfl rfl (Nat.le_of_ble_eq_true rfl) rfl ?_)
        refine ⟨gN σ, _, _, lA, pA, m, _, rfl, hL, q4, qu_mem hp hm9, rfl, fun lA' pA' hL' => ?_⟩
        refine am_nrp rfl rfl rfl rfl ?_
        refine st_pop O dX7_mover_39 (q := 40) rfl ?_
        refine st_goto O dX7_mover_40 (t := 50) rfl ?_
        refine st_aloadn O dX7_mover_50 rfl (q := 51) rfl ?_
        refine st_call O dX7_mover_51 cs_X7_mover_51 (q := 54) rfl (am_siq rfl rfl rfl (Nat.le_of_ble_eq_true rfl) rfl ?_)
        refine ⟨gN σ, gb σ, gw σ, _, _, _, _, _, _, _, _, false, gk σ, gf σ, gh σ, _, _, _, _, _, _, _, _, _, rfl, rfl, hb, hR.k2, hR.h2, hL', fun t1 t2 t3 t4 g1 g2 g3 => ?_⟩
        refine am_nrp rfl rfl rfl rfl ?_
        rw [h3]
        refine st_istore O dX7_mover_54 rfl (q := 56) rfl ?_
        exact fin _ _ _ _ _ _ _ _ _ _ _ _
      | false =>
        have h3 : cst (gh σ) (smw false (gb σ) (gw σ) (gk σ) (gf σ) (fun y => if y = gl σ m then m :: (qu (gl σ) (gq σ) y 0).erase m else qu (gl σ) (gq σ) y 0)) = F m := by
          rw [smw_A (la := gl σ) (li := m :: (gq σ).erase m) (a := 0) (fun y _ => (qu_front hp y).symm), ← hF]
          rfl
        refine st_iload O dX7_mover_20 rfl (q := 22) rfl ?_
        refine st_aloadn O dX7_mover_22 rfl (q := 23) rfl ?_
        refine st_geti O dX7_mover_23 fl_X7_59 rfl rfl rfl rfl (q := 26) rfl ?_
        refine sn_icmp_ge O dX7_mover_26 (t := 86) rfl (q := 29) rfl (by omega) (by omega) (fun c26 => ?_) (fun c26 => ?_)
        · omega
        refine st_iloadn O dX7_mover_29 rfl (q := 30) rfl ?_
        refine st_if_eq O dX7_mover_30 (t := 43) rfl (q := 33) rfl (fun c30 => ?_) (fun c30 => ?_)
        · refine st_aloadn O dX7_mover_43 rfl (q := 44) rfl ?_
          refine st_iload O dX7_mover_44 rfl (q := 46) rfl ?_
          refine st_call O dX7_mover_46 cs_X7_mover_46 (q := 49) rfl (am_siq rfl rfl rfl (Nat.le_of_ble_eq_true rfl) rfl ?_)
          refine ⟨gN σ, _, _, lA, pA, m, _, rfl, hL, q4, qu_mem hp hm9, rfl, fun pA' hL' => ?_⟩
          refine am_nrp rfl rfl rfl rfl ?_
          refine st_pop O dX7_mover_49 (q := 50) rfl ?_
          refine st_aloadn O dX7_mover_50 rfl (q := 51) rfl ?_
          refine st_call O dX7_mover_51 cs_X7_mover_51 (q := 54) rfl (am_siq rfl rfl rfl (Nat.le_of_ble_eq_true rfl) rfl ?_)
          refine ⟨gN σ, gb σ, gw σ, _, _, _, _, _, _, _, _, false, gk σ, gf σ, gh σ, _, _, _, _, _, _, _, _, _, rfl, rfl, hb, hR.k2, hR.h2, hL', fun t1 t2 t3 t4 g1 g2 g3 => ?_⟩
          refine am_nrp rfl rfl rfl rfl ?_
          rw [h3]
          refine st_istore O dX7_mover_54 rfl (q := 56) rfl ?_
          exact fin _ _ _ _ _ _ _ _ _ _ _ _
        exact absurd c30 (by decide)
  refine am_begin rfl ?_
  refine st_aloadn O dX7_mover_0 rfl (q := 1) rfl ?_
  refine st_call O dX7_mover_1 cs_X7_mover_1 (q := 4) rfl (am_siq rfl rfl rfl (Nat.le_of_ble_eq_true rfl) rfl ?_)
  refine ⟨gN σ, gb σ, gw σ, _, _, _, _, _, _, _, _, false, gk σ, gf σ, gh σ, (fun z => qu (gl σ) (gq σ) z 0), _, _, _, _, _, _, _, _, rfl, rfl, hb, hR.k2, hR.h2, hL, fun t1 t2 t3 t4 g1 g2 g3 => ?_⟩
  refine am_nrp rfl rfl rfl rfl ?_
  rw [gL_smw σ]
  refine st_istoren O dX7_mover_4 rfl (q := 5) rfl ?_
  refine st_bipush O dX7_mover_5 am_bipush_m9 (q := 7) rfl ?_
  refine st_istore O dX7_mover_7 rfl (q := 9) rfl ?_
  refine st_aloadn O dX7_mover_9 rfl (q := 10) rfl ?_
  refine st_aloadn O dX7_mover_10 rfl (q := 11) rfl ?_
  refine st_getr O dX7_mover_11 fl_X7_43 rfl rfl rfl (q := 14) rfl ?_
  refine st_call O dX7_mover_14 cs_X7_mover_14 (q := 17) rfl (am_siq rfl rfl rfl (Nat.le_of_ble_eq_true rfl) rfl ?_)
  refine ⟨gN σ, gb σ, gw σ, _, kA, fA, hA, lA, pA, _, rfl, rfl, fun e he => ?_⟩
  refine am_nrp rfl rfl rfl rfl ?_
  refine st_iconst O dX7_mover_17 am_iconst_0 (q := 18) rfl ?_
  refine st_istore O dX7_mover_18 rfl (q := 20) rfl ?_
  exact loop (gN σ) 0 _ _ _ _ _ _ _ _ _ _ _ _ _ _ kA fA hA lA pA hR hR he rfl (Nat.zero_le _)
theorem C_X7_mover : am_ctr yX7_mover cX7_mover 7 (some .int) 4 97 sh_Mod [some 0, none, none] T_X7_mover := am_mk (by decide) (Or.inr (Or.inl ⟨rfl, rfl⟩)) (by decide) (by decide) (by decide) fl_X7_ok kc_X7_ok ck_X7_mover B_X7_mover
def cs_X7_over : Nat → List am_V → am_D → am_K → Prop := am_cs [(3, am_site 3 [none, none, none] T_X7_within [] []), (12, am_site 3 [some 0, none, none] T_X7_mover [0, 1, 2, 3, 4, 5, 6, 7, 8, 9, 10, 11, 12, 13, 14, 15] [0, 1, 2, 3, 4, 5, 6, 7, 8, 9, 10, 11, 12, 13, 14, 15]), (21, am_site 2 [some 0, none] T_X7_no [0, 9] [0, 9, 1, 2, 3, 4, 5, 6, 7, 8, 10, 11, 12, 13, 14, 15])]
theorem cs_X7_over_3 : cs_X7_over 3 = am_site 3 [none, none, none] T_X7_within [] [] := rfl
theorem cs_X7_over_12 : cs_X7_over 12 = am_site 3 [some 0, none, none] T_X7_mover [0, 1, 2, 3, 4, 5, 6, 7, 8, 9, 10, 11, 12, 13, 14, 15] [0, 1, 2, 3, 4, 5, 6, 7, 8, 9, 10, 11, 12, 13, 14, 15] := rfl
theorem cs_X7_over_21 : cs_X7_over 21 = am_site 2 [some 0, none] T_X7_no [0, 9] [0, 9, 1, 2, 3, 4, 5, 6, 7, 8, 10, 11, 12, 13, 14, 15] := rfl
theorem ck_X7_over : ∀ X : am_X, am_cx X RX7 cX7_over 2 5 123 → ∀ pc, am_csok X 2 sh_Mod pc (cs_X7_over pc) := fun X hX => am_cs_ok (List.forall_mem_cons.mpr ⟨am_callS hX C_X7_within mo_X7_within rfl lk_X7_62 dX7_over_3 rfl (by decide), List.forall_mem_cons.mpr ⟨am_callV hX C_X7_mover mo_X7_mover rfl lk_X7_171 dX7_over_12 rfl rfl rfl (by decide), List.forall_mem_cons.mpr ⟨am_callV hX C_X7_no mo_X7_no rfl lk_X7_66 dX7_over_21 rfl rfl rfl (by decide), fun _ h => absurd h List.not_mem_nil⟩⟩⟩)
abbrev ok_X7_over (X : am_X) (K : List Int32 → am_D → Prop) : Prop := am_ok X RX7 cX7_over 2 sh_Mod fl_X7 kc_X7 none 1 cs_X7_over K
abbrev aw_X7_over (X : am_X) (pc : Nat) (ls : am_L) (st : List am_V) (D : am_D) : Prop := am_aw X 2 sh_Mod pc ls st D
abbrev T_X7_over : am_TT := am_s1 IM (f_mv false)
set_option maxHeartbeats 200000 in
theorem B_X7_over : ∀ (X : am_X) (is : List Int32) (D : am_D) (K : List Int32 → am_D → Prop), ok_X7_over X K → T_X7_over is D K → is.length = (List.filter Option.isNone ([some 0, none] : List (Option Nat))).length → D.length = sh_Mod.length → am_aw X 2 sh_Mod 0 (am_l0 2 [some 0, none] is) [] D := by
  intro X is D K O hT _ _
  obtain ⟨σ, a, ⟨aT, iM, tU, aS, cH, lO, kA, fA, hA, lA, pA, tA, vA, oA, eA, xA, nA, gA, wA, uA, rfl, hR, ht, ho, hk⟩, rfl, hK⟩ := hT
  obtain ⟨hb, hw, hp, hj, hL⟩ := id hR
  have hn : gN σ ≤ 9 := hL.1
  have eN : gN σ = σ.1.1 := rfl
  have hI : IM σ [.inl [nI (gN σ), nI (gb σ), nI (gw σ), nI σ.2.2.1.length, aT, nI σ.2.2.2.1.length, iM, tU, aS, cH, lO, bI false], .inr kA, .inr fA, .inr hA, .inr lA, .inr pA, .inr tA, .inr vA, .inr oA, .inr σ.2.2.2.2, .inr eA, .inr xA, .inr nA, .inr gA, .inr wA, .inr uA] := ⟨_, _, _, _, _, _, _, _, _, _, _, _, _, _, _, _, _, _, _, _, rfl, hR, ht, ho, hk⟩
  by_cases h01 : a = 0 ∨ a = 1
  · rw [show f_mv false a σ = (oC (lsF (cMv (gb σ) (gw σ) (gk σ) (gf σ) (gl σ) (gh σ) (gq σ) false) (gC σ) (gN σ)) (decide (a = 1)), σ) from if_pos h01] at hK
    refine am_begin rfl ?_
    refine st_iloadn O dX7_over_0 rfl (q := 1) rfl ?_
    refine st_iconst O dX7_over_1 am_iconst_0 (q := 2) rfl ?_
    refine st_iconst O dX7_over_2 am_iconst_1 (q := 3) rfl ?_
    refine st_callS O dX7_over_3 cs_X7_over_3 (q := 6) rfl (am_sipq rfl rfl rfl (Nat.le_of_ble_eq_true rfl) rfl (r := 1) ⟨_, _, _, rfl, wiT h01⟩ ?_)
    refine st_if_eq O dX7_over_6 (t := 18) rfl (q := 9) rfl (fun c6 => ?_) (fun c6 => ?_)
    · exact absurd c6 (by decide)
    refine st_aloadn O dX7_over_9 rfl (q := 10) rfl ?_
    refine st_iconst O dX7_over_10 am_iconst_1 (q := 11) rfl ?_
    refine st_iloadn O dX7_over_11 rfl (q := 12) rfl ?_
    refine st_call O dX7_over_12 cs_X7_over_12 (q := 15) rfl (am_siq rfl rfl rfl (Nat.le_of_ble_eq_true rfl) rfl ?_)
    refine ⟨σ, true, a, hI, rfl, h01, fun D' hI' => ?_⟩
    refine am_nrm rfl (im_put hI hI') ?_
    refine st_goto O dX7_over_15 (t := 24) rfl ?_
    exact st_ireturn O dX7_over_24 (hK _ hI')
  · refine am_begin rfl ?_
    refine st_iloadn O dX7_over_0 rfl (q := 1) rfl ?_
    refine st_iconst O dX7_over_1 am_iconst_0 (q := 2) rfl ?_
    refine st_iconst O dX7_over_2 am_iconst_1 (q := 3) rfl ?_
    refine st_callS O dX7_over_3 cs_X7_over_3 (q := 6) rfl (am_sipq rfl rfl rfl (Nat.le_of_ble_eq_true rfl) rfl (r := 0) ⟨_, _, _, rfl, wiF h01⟩ ?_)
    refine st_if_eq O dX7_over_6 (t := 18) rfl (q := 9) rfl (fun c6 => ?_) (fun c6 => ?_)
    · refine st_aloadn O dX7_over_18 rfl (q := 19) rfl ?_
      refine st_bipush O dX7_over_19 am_bipush_m2 (q := 21) rfl ?_
      refine st_call O dX7_over_21 cs_X7_over_21 (q := 24) rfl (am_siq rfl rfl rfl (Nat.le_of_ble_eq_true rfl) rfl ?_)
      refine ⟨_, _, 2, by decide, by decide, rfl, rfl, ?_⟩
      refine am_nrq rfl rfl ?_
      rw [show f_mv false a σ = rfs 2 σ from if_neg h01] at hK
      exact st_ireturn O dX7_over_24 (hK _ ⟨_, _, _, _, _, _, _, _, _, _, _, _, _, _, _, _, _, _, _, _, rfl, hR, ht, ho, hk⟩)
    exact absurd c6 (by decide)
theorem C_X7_over : am_ctr yX7_over cX7_over 2 (some .int) 5 123 sh_Mod [some 0, none] T_X7_over := am_mk (by decide) (Or.inr (Or.inl ⟨rfl, rfl⟩)) (by decide) (by decide) (by decide) fl_X7_ok kc_X7_ok ck_X7_over B_X7_over
def cs_X7_first : Nat → List am_V → am_D → am_K → Prop := am_cs [(3, am_site 3 [none, none, none] T_X7_within [] []), (12, am_site 3 [some 0, none, none] T_X7_mover [0, 1, 2, 3, 4, 5, 6, 7, 8, 9, 10, 11, 12, 13, 14, 15] [0, 1, 2, 3, 4, 5, 6, 7, 8, 9, 10, 11, 12, 13, 14, 15]), (21, am_site 2 [some 0, none] T_X7_no [0, 9] [0, 9, 1, 2, 3, 4, 5, 6, 7, 8, 10, 11, 12, 13, 14, 15])]
theorem cs_X7_first_3 : cs_X7_first 3 = am_site 3 [none, none, none] T_X7_within [] [] := rfl
theorem cs_X7_first_12 : cs_X7_first 12 = am_site 3 [some 0, none, none] T_X7_mover [0, 1, 2, 3, 4, 5, 6, 7, 8, 9, 10, 11, 12, 13, 14, 15] [0, 1, 2, 3, 4, 5, 6, 7, 8, 9, 10, 11, 12, 13, 14, 15] := rfl
theorem cs_X7_first_21 : cs_X7_first 21 = am_site 2 [some 0, none] T_X7_no [0, 9] [0, 9, 1, 2, 3, 4, 5, 6, 7, 8, 10, 11, 12, 13, 14, 15] := rfl
theorem ck_X7_first : ∀ X : am_X, am_cx X RX7 cX7_first 2 5 123 → ∀ pc, am_csok X 2 sh_Mod pc (cs_X7_first pc) := fun X hX => am_cs_ok (List.forall_mem_cons.mpr ⟨am_callS hX C_X7_within mo_X7_within rfl lk_X7_62 dX7_first_3 rfl (by decide), List.forall_mem_cons.mpr ⟨am_callV hX C_X7_mover mo_X7_mover rfl lk_X7_171 dX7_first_12 rfl rfl rfl (by decide), List.forall_mem_cons.mpr ⟨am_callV hX C_X7_no mo_X7_no rfl lk_X7_66 dX7_first_21 rfl rfl rfl (by decide), fun _ h => absurd h List.not_mem_nil⟩⟩⟩)
abbrev ok_X7_first (X : am_X) (K : List Int32 → am_D → Prop) : Prop := am_ok X RX7 cX7_first 2 sh_Mod fl_X7 kc_X7 none 1 cs_X7_first K
abbrev aw_X7_first (X : am_X) (pc : Nat) (ls : am_L) (st : List am_V) (D : am_D) : Prop := am_aw X 2 sh_Mod pc ls st D
abbrev T_X7_first : am_TT := am_s1 IM (f_mv true)
set_option maxHeartbeats 200000 in
theorem B_X7_first : ∀ (X : am_X) (is : List Int32) (D : am_D) (K : List Int32 → am_D → Prop), ok_X7_first X K → T_X7_first is D K → is.length = (List.filter Option.isNone ([some 0, none] : List (Option Nat))).length → D.length = sh_Mod.length → am_aw X 2 sh_Mod 0 (am_l0 2 [some 0, none] is) [] D := by
  intro X is D K O hT _ _
  obtain ⟨σ, a, ⟨aT, iM, tU, aS, cH, lO, kA, fA, hA, lA, pA, tA, vA, oA, eA, xA, nA, gA, wA, uA, rfl, hR, ht, ho, hk⟩, rfl, hK⟩ := hT
  obtain ⟨hb, hw, hp, hj, hL⟩ := id hR
  have hn : gN σ ≤ 9 := hL.1
  have eN : gN σ = σ.1.1 := rfl
  have hI : IM σ [.inl [nI (gN σ), nI (gb σ), nI (gw σ), nI σ.2.2.1.length, aT, nI σ.2.2.2.1.length, iM, tU, aS, cH, lO, bI false], .inr kA, .inr fA, .inr hA, .inr lA, .inr pA, .inr tA, .inr vA, .inr oA, .inr σ.2.2.2.2, .inr eA, .inr xA, .inr nA, .inr gA, .inr wA, .inr uA] := ⟨_, _, _, _, _, _, _, _, _, _, _, _, _, _, _, _, _, _, _, _, rfl, hR, ht, ho, hk⟩
  by_cases h01 : a = 0 ∨ a = 1
  · rw [show f_mv true a σ = (oC (lsF (cMv (gb σ) (gw σ) (gk σ) (gf σ) (gl σ) (gh σ) (gq σ) true) (gC σ) (gN σ)) (decide (a = 1)), σ) from if_pos h01] at hK
    refine am_begin rfl ?_
    refine st_iloadn O dX7_first_0 rfl (q := 1) rfl ?_
    refine st_iconst O dX7_first_1 am_iconst_0 (q := 2) rfl ?_
    refine st_iconst O dX7_first_2 am_iconst_1 (q := 3) rfl ?_
    refine st_callS O dX7_first_3 cs_X7_first_3 (q := 6) rfl (am_sipq rfl rfl rfl (Nat.le_of_ble_eq_true rfl) rfl (r := 1) ⟨_, _, _, rfl, wiT h01⟩ ?_)
    refine st_if_eq O dX7_first_6 (t := 18) rfl (q := 9) rfl (fun c6 => ?_) (fun c6 => ?_)
    · exact absurd c6 (by decide)
    refine st_aloadn O dX7_first_9 rfl (q := 10) rfl ?_
    refine st_iconst O dX7_first_10 am_iconst_0 (q := 11) rfl ?_
    refine st_iloadn O dX7_first_11 rfl (q := 12) rfl ?_
    refine st_call O dX7_first_12 cs_X7_first_12 (q := 15) rfl (am_siq rfl rfl rfl (Nat.le_of_ble_eq_true rfl) rfl ?_)
    refine ⟨σ, false, a, hI, rfl, h01, fun D' hI' => ?_⟩
    refine am_nrm rfl (im_put hI hI') ?_
    refine st_goto O dX7_first_15 (t := 24) rfl ?_
    exact st_ireturn O dX7_first_24 (hK _ hI')
  · refine am_begin rfl ?_
    refine st_iloadn O dX7_first_0 rfl (q := 1) rfl ?_
    refine st_iconst O dX7_first_1 am_iconst_0 (q := 2) rfl ?_
    refine st_iconst O dX7_first_2 am_iconst_1 (q := 3) rfl ?_
    refine st_callS O dX7_first_3 cs_X7_first_3 (q := 6) rfl (am_sipq rfl rfl rfl (Nat.le_of_ble_eq_true rfl) rfl (r := 0) ⟨_, _, _, rfl, wiF h01⟩ ?_)
    refine st_if_eq O dX7_first_6 (t := 18) rfl (q := 9) rfl (fun c6 => ?_) (fun c6 => ?_)
    · refine st_aloadn O dX7_first_18 rfl (q := 19) rfl ?_
      refine st_bipush O dX7_first_19 am_bipush_m2 (q := 21) rfl ?_
      refine st_call O dX7_first_21 cs_X7_first_21 (q := 24) rfl (am_siq rfl rfl rfl (Nat.le_of_ble_eq_true rfl) rfl ?_)
      refine ⟨_, _, 2, by decide, by decide, rfl, rfl, ?_⟩
      refine am_nrq rfl rfl ?_
      rw [show f_mv true a σ = rfs 2 σ from if_neg h01] at hK
      exact st_ireturn O dX7_first_24 (hK _ ⟨_, _, _, _, _, _, _, _, _, _, _, _, _, _, _, _, _, _, _, _, rfl, hR, ht, ho, hk⟩)
    exact absurd c6 (by decide)
theorem C_X7_first : am_ctr yX7_first cX7_first 2 (some .int) 5 123 sh_Mod [some 0, none] T_X7_first := am_mk (by decide) (Or.inr (Or.inl ⟨rfl, rfl⟩)) (by decide) (by decide) (by decide) fl_X7_ok kc_X7_ok ck_X7_first B_X7_first
