/-! the reference's world, and its calls: the road -/
def mR (x : RS) (kA fA hA lA pA : Nat → Int32) : Prop := x.2.1 ≤ 2 ∧ x.2.2.1 ≤ 9 ∧ x.2.2.2.2.2.2.2.Perm (List.range x.1) ∧ (∀ c, c < x.1 → (kA c = nI (x.2.2.2.1 c) ∧ x.2.2.2.1 c < 6) ∧ (fA c = nI (x.2.2.2.2.1 c) ∧ x.2.2.2.2.1 c < 10) ∧ (hA c = nI (x.2.2.2.2.2.2.1 c) ∧ x.2.2.2.2.2.2.1 c ≤ 20) ∧ x.2.2.2.2.2.1 c < 2) ∧ mL x.1 (fun z => qu x.2.2.2.2.2.1 x.2.2.2.2.2.2.2 z 0) lA pA
def mT (ls : List Nat) (tA : Nat → Int32) : Prop := ls.length ≤ 96 ∧ (∀ j, j < ls.length → tA j = nI (ls.getD j 0)) ∧ ∀ c ∈ ls, c < 256
def kpM (o : Option RS) (iM : Int32) (e : Nat → Int32) : Prop := match o with
  | none => iM = 0
  | some y => iM = 1 ∧ ∃ kA fA hA lA pA, mR y kA fA hA lA pA ∧ kpy y.1 y.2.1 y.2.2.1 kA fA hA lA pA e
def IM (σ : Sg) (D : am_D) : Prop := ∃ (aT iM tU aS cH lO : Int32) (kA fA hA lA pA tA vA oA eA xA nA gA wA uA : Nat → Int32), D = [.inl [nI (gN σ), nI (gb σ), nI (gw σ), nI σ.2.2.1.length, aT, nI σ.2.2.2.1.length, iM, tU, aS, cH, lO, bI false], .inr kA, .inr fA, .inr hA, .inr lA, .inr pA, .inr tA, .inr vA, .inr oA, .inr σ.2.2.2.2, .inr eA, .inr xA, .inr nA, .inr gA, .inr wA, .inr uA] ∧ mR σ.1 kA fA hA lA pA ∧ mT σ.2.2.1 tA ∧ tdX σ.2.2.2.1 oA ∧ kpM σ.2.1 iM eA
theorem mR_congr {x : RS} {kA fA hA lA pA kC fC hC lC pC : Nat → Int32} (h : mR x kA fA hA lA pA) (hc : ∀ j, j < 9 → kC j = kA j ∧ fC j = fA j ∧ hC j = hA j ∧ lC j = lA j ∧ pC j = pA j) : mR x kC fC hC lC pC := by
  obtain ⟨h1, h2, h3, h4, h5⟩ := h
  have hn := h5.1
  refine ⟨h1, h2, h3, fun c hx => ?_, mL_congr h5 (fun _ _ => rfl) (fun c hx => ?_)⟩
  · obtain ⟨q1, q2, q3, q4, q5⟩ := hc c (by omega)
    rw [q1, q2, q3]
    exact h4 c hx
  · obtain ⟨q1, q2, q3, q4, q5⟩ := hc c (by omega)
    exact ⟨q4, q5⟩
theorem mR.k2 {x : RS} {kA fA hA lA pA : Nat → Int32} (h : mR x kA fA hA lA pA) : mK2 x.1 x.2.2.2.1 x.2.2.2.2.1 kA fA := fun c hc => ⟨(h.2.2.2.1 c hc).1, (h.2.2.2.1 c hc).2.1⟩
theorem mR.h2 {x : RS} {kA fA hA lA pA : Nat → Int32} (h : mR x kA fA hA lA pA) : ∀ c, c < x.1 → hA c = nI (x.2.2.2.2.2.2.1 c) := fun c hc => (h.2.2.2.1 c hc).2.2.1.1
theorem gL_smw (σ : Sg) : smw false (gb σ) (gw σ) (gk σ) (gf σ) (fun z => qu (gl σ) (gq σ) z 0) = gL σ := smw_A (fun _ _ => rfl)
theorem wi01 {w : Int32} : (nI 0 ≤ w ∧ w ≤ nI 1) ↔ (w = 0 ∨ w = 1) := by
  constructor
  · intro h
    obtain ⟨v, hv, rfl⟩ := (le_iff 1 (by decide)).mp h
    rcases (by omega : v = 0 ∨ v = 1) with rfl | rfl
    · exact Or.inl rfl
    · exact Or.inr rfl
  · rintro (rfl | rfl) <;> decide
theorem wiT {w : Int32} (h : w = 0 ∨ w = 1) : (1 : Int32) = bI (decide (nI 0 ≤ w ∧ w ≤ nI 1)) := by rw [decide_eq_true (wi01.mpr h)]; rfl
theorem wiF {w : Int32} (h : ¬ (w = 0 ∨ w = 1)) : (0 : Int32) = bI (decide (nI 0 ≤ w ∧ w ≤ nI 1)) := by rw [decide_eq_false (fun z => h (wi01.mp z))]; rfl
def cs_X7_car : Nat → List am_V → am_D → am_K → Prop := am_cs [(2, am_site 2 [some 0, none] T_X7_isCar [0] [0, 1, 2, 3, 4, 5, 6, 7, 8, 9, 10, 11, 12, 13, 14, 15]), (10, am_site 2 [some 0, none] T_X7_no [0, 9] [0, 9, 1, 2, 3, 4, 5, 6, 7, 8, 10, 11, 12, 13, 14, 15]), (93, am_site 2 [some 0, none] T_X7_letsOf [0, 1, 2] [0, 1, 2, 3, 4, 5, 6, 7, 8, 9, 10, 11, 12, 13, 14, 15]), (99, am_site 2 [some 0, none] T_X7_secondsOf [0, 1] [0, 1, 2, 3, 4, 5, 6, 7, 8, 9, 10, 11, 12, 13, 14, 15]), (106, am_site 2 [some 0, none] T_X7_no [0, 9] [0, 9, 1, 2, 3, 4, 5, 6, 7, 8, 10, 11, 12, 13, 14, 15])]
theorem cs_X7_car_2 : cs_X7_car 2 = am_site 2 [some 0, none] T_X7_isCar [0] [0, 1, 2, 3, 4, 5, 6, 7, 8, 9, 10, 11, 12, 13, 14, 15] := rfl
theorem cs_X7_car_10 : cs_X7_car 10 = am_site 2 [some 0, none] T_X7_no [0, 9] [0, 9, 1, 2, 3, 4, 5, 6, 7, 8, 10, 11, 12, 13, 14, 15] := rfl
theorem cs_X7_car_93 : cs_X7_car 93 = am_site 2 [some 0, none] T_X7_letsOf [0, 1, 2] [0, 1, 2, 3, 4, 5, 6, 7, 8, 9, 10, 11, 12, 13, 14, 15] := rfl
theorem cs_X7_car_99 : cs_X7_car 99 = am_site 2 [some 0, none] T_X7_secondsOf [0, 1] [0, 1, 2, 3, 4, 5, 6, 7, 8, 9, 10, 11, 12, 13, 14, 15] := rfl
theorem cs_X7_car_106 : cs_X7_car 106 = am_site 2 [some 0, none] T_X7_no [0, 9] [0, 9, 1, 2, 3, 4, 5, 6, 7, 8, 10, 11, 12, 13, 14, 15] := rfl
theorem ck_X7_car : ∀ X : am_X, am_cx X RX7 cX7_car 3 2 43 → ∀ pc, am_csok X 3 sh_Mod pc (cs_X7_car pc) := fun X hX => am_cs_ok (List.forall_mem_cons.mpr ⟨am_callV hX C_X7_isCar mo_X7_isCar rfl lk_X7_96 dX7_car_2 rfl rfl rfl (by decide), List.forall_mem_cons.mpr ⟨am_callV hX C_X7_no mo_X7_no rfl lk_X7_66 dX7_car_10 rfl rfl rfl (by decide), List.forall_mem_cons.mpr ⟨am_callV hX C_X7_letsOf mo_X7_letsOf rfl lk_X7_140 dX7_car_93 rfl rfl rfl (by decide), List.forall_mem_cons.mpr ⟨am_callV hX C_X7_secondsOf mo_X7_secondsOf rfl lk_X7_143 dX7_car_99 rfl rfl rfl (by decide), List.forall_mem_cons.mpr ⟨am_callV hX C_X7_no mo_X7_no rfl lk_X7_66 dX7_car_106 rfl rfl rfl (by decide), fun _ h => absurd h List.not_mem_nil⟩⟩⟩⟩⟩)
abbrev ok_X7_car (X : am_X) (K : List Int32 → am_D → Prop) : Prop := am_ok X RX7 cX7_car 3 sh_Mod fl_X7 kc_X7 none 1 cs_X7_car K
abbrev aw_X7_car (X : am_X) (pc : Nat) (ls : am_L) (st : List am_V) (D : am_D) : Prop := am_aw X 3 sh_Mod pc ls st D
abbrev T_X7_car : am_TT := am_s2 IM f_car
set_option maxHeartbeats 200000 in
theorem B_X7_car : ∀ (X : am_X) (is : List Int32) (D : am_D) (K : List Int32 → am_D → Prop), ok_X7_car X K → T_X7_car is D K → is.length = (List.filter Option.isNone ([some 0, none, none] : List (Option Nat))).length → D.length = sh_Mod.length → am_aw X 3 sh_Mod 0 (am_l0 3 [some 0, none, none] is) [] D := by
  intro X is D K O hT _ _
  obtain ⟨σ, a, b, ⟨aT, iM, tU, aS, cH, lO, kA, fA, hA, lA, pA, tA, vA, oA, eA, xA, nA, gA, wA, uA, rfl, hR, ht, ho, hk⟩, rfl, hK⟩ := hT
  obtain ⟨hb, hw, hp, hj, hL⟩ := id hR
  have hn : gN σ ≤ 9 := hL.1
  cases hx : xi (gN σ) a with
  | none =>
    refine am_begin rfl ?_
    refine st_aloadn O dX7_car_0 rfl (q := 1) rfl ?_
    refine st_iloadn O dX7_car_1 rfl (q := 2) rfl ?_
    refine st_call O dX7_car_2 cs_X7_car_2 (q := 5) rfl (am_sipq rfl rfl rfl (Nat.le_of_ble_eq_true rfl) rfl (r := 0) ⟨a, gN σ, _, hn, rfl, rfl, by rw [hx]; rfl⟩ ?_)
    refine st_if_ne O dX7_car_5 (t := 14) rfl (q := 8) rfl (fun c5 => ?_) (fun c5 => ?_)
    · exact absurd c5 (by decide)
    refine st_aloadn O dX7_car_8 rfl (q := 9) rfl ?_
    refine st_iconst O dX7_car_9 am_iconst_m1 (q := 10) rfl ?_
    refine st_call O dX7_car_10 cs_X7_car_10 (q := 13) rfl (am_siq rfl rfl rfl (Nat.le_of_ble_eq_true rfl) rfl ?_)
    refine ⟨_, _, 1, by decide, by decide, rfl, rfl, ?_⟩
    refine am_nrq rfl rfl ?_
    rw [show f_car a b σ = rfs 1 σ from by unfold f_car; rw [hx]] at hK
    exact st_ireturn O dX7_car_13 (hK _ ⟨_, _, _, _, _, _, _, _, _, _, _, _, _, _, _, _, _, _, _, _, rfl, hR, ht, ho, hk⟩)
  | some j =>
    obtain ⟨hj9, rfl⟩ := xi_some hn hx
    obtain ⟨q1, q2, q3, q4⟩ := hj j hj9
    have hm := qu_mem (la := gl σ) hp hj9
    obtain ⟨l1, l2, l3⟩ := (hL.2.1 _ q4).2 j hm
    have l3 : pA j = nI (((gq σ).filter (fun z => gl σ z = gl σ j)).idxOf j) := by rw [l3, ← qu_0]
    have key : ∀ v, (if b = 0 then (nI (gk σ j), σ) else if b = 1 then (nI (gf σ j), σ) else if b = 2 then (nI (gl σ j), σ) else if b = 3 then (nI (gh σ j), σ) else if b = 4 then (nI (((gq σ).filter (fun z => gl σ z = gl σ j)).idxOf j), σ) else if b = 5 then (nI (lt (gk σ j) (gf σ j) (gb σ)), σ) else if b = 6 then (nI (sc (gk σ j)), σ) else rfs 2 σ) = v → f_car (nI j) b σ = v := by
      intro v h
      unfold f_car
      rw [hx]
      exact h
    have eN : gN σ = σ.1.1 := rfl
    refine am_begin rfl ?_
    refine st_aloadn O dX7_car_0 rfl (q := 1) rfl ?_
    refine st_iloadn O dX7_car_1 rfl (q := 2) rfl ?_
    refine st_call O dX7_car_2 cs_X7_car_2 (q := 5) rfl (am_sipq rfl rfl rfl (Nat.le_of_ble_eq_true rfl) rfl (r := 1) ⟨_, gN σ, _, hn, rfl, rfl, by rw [hx]; rfl⟩ ?_)
    refine st_if_ne O dX7_car_5 (t := 14) rfl (q := 8) rfl (fun c5 => ?_) (fun c5 => ?_)
    · refine st_iloadn O dX7_car_14 rfl (q := 15) rfl ?_
      refine st_table O dX7_car_15 (os := [41, 48, 55, 62, 69, 76, 82]) rfl rfl ?_
      refine sw_consT (v := 0) (by decide) (t := 56) rfl (lo' := 1) rfl (fun c15_0 => ?_) (fun c15_0 => ?_)
      · refine st_aloadn O dX7_car_56 rfl (q := 57) rfl ?_
        refine st_getr O dX7_car_57 fl_X7_7 rfl rfl rfl (q := 60) rfl ?_
        refine st_iloadn O dX7_car_60 rfl (q := 61) rfl ?_
        refine sn_ald O dX7_car_61 rfl rfl rfl ⟨by omega, by decide⟩ q1.1 (q := 62) rfl ?_
        refine st_ireturn O dX7_car_62 ?_
        rw [key _ (if_pos c15_0)] at hK; exact hK _ ⟨_, _, _, _, _, _, _, _, _, _, _, _, _, _, _, _, _, _, _, _, rfl, hR, ht, ho, hk⟩
      refine sw_consT (v := 1) (by decide) (t := 63) rfl (lo' := 2) rfl (fun c15_1 => ?_) (fun c15_1 => ?_)
      · refine st_aloadn O dX7_car_63 rfl (q := 64) rfl ?_
        refine st_getr O dX7_car_64 fl_X7_13 rfl rfl rfl (q := 67) rfl ?_
        refine st_iloadn O dX7_car_67 rfl (q := 68) rfl ?_
        refine sn_ald O dX7_car_68 rfl rfl rfl ⟨by omega, by decide⟩ q2.1 (q := 69) rfl ?_
        refine st_ireturn O dX7_car_69 ?_
        rw [key _ ((if_neg c15_0).trans (if_pos c15_1))] at hK; exact hK _ ⟨_, _, _, _, _, _, _, _, _, _, _, _, _, _, _, _, _, _, _, _, rfl, hR, ht, ho, hk⟩
      refine sw_consT (v := 2) (by decide) (t := 70) rfl (lo' := 3) rfl (fun c15_2 => ?_) (fun c15_2 => ?_)
      · refine st_aloadn O dX7_car_70 rfl (q := 71) rfl ?_
        refine st_getr O dX7_car_71 fl_X7_19 rfl rfl rfl (q := 74) rfl ?_
        refine st_iloadn O dX7_car_74 rfl (q := 75) rfl ?_
        refine sn_ald O dX7_car_75 rfl rfl rfl ⟨by omega, by decide⟩ l2 (q := 76) rfl ?_
        refine st_ireturn O dX7_car_76 ?_
        rw [key _ ((if_neg c15_0).trans ((if_neg c15_1).trans (if_pos c15_2)))] at hK; exact hK _ ⟨_, _, _, _, _, _, _, _, _, _, _, _, _, _, _, _, _, _, _, _, rfl, hR, ht, ho, hk⟩
      refine sw_consT (v := 3) (by decide) (t := 77) rfl (lo' := 4) rfl (fun c15_3 => ?_) (fun c15_3 => ?_)
      · refine st_aloadn O dX7_car_77 rfl (q := 78) rfl ?_
        refine st_getr O dX7_car_78 fl_X7_16 rfl rfl rfl (q := 81) rfl ?_
        refine st_iloadn O dX7_car_81 rfl (q := 82) rfl ?_
        refine sn_ald O dX7_car_82 rfl rfl rfl ⟨by omega, by decide⟩ q3.1 (q := 83) rfl ?_
        refine st_ireturn O dX7_car_83 ?_
        rw [key _ ((if_neg c15_0).trans ((if_neg c15_1).trans ((if_neg c15_2).trans (if_pos c15_3))))] at hK; exact hK _ ⟨_, _, _, _, _, _, _, _, _, _, _, _, _, _, _, _, _, _, _, _, rfl, hR, ht, ho, hk⟩
      refine sw_consT (v := 4) (by decide) (t := 84) rfl (lo' := 5) rfl (fun c15_4 => ?_) (fun c15_4 => ?_)
      · refine st_aloadn O dX7_car_84 rfl (q := 85) rfl ?_
        refine st_getr O dX7_car_85 fl_X7_22 rfl rfl rfl (q := 88) rfl ?_
        refine st_iloadn O dX7_car_88 rfl (q := 89) rfl ?_
        refine sn_ald O dX7_car_89 rfl rfl rfl ⟨by omega, by decide⟩ l3 (q := 90) rfl ?_
        refine st_ireturn O dX7_car_90 ?_
        rw [key _ ((if_neg c15_0).trans ((if_neg c15_1).trans ((if_neg c15_2).trans ((if_neg c15_3).trans (if_pos c15_4)))))] at hK; exact hK _ ⟨_, _, _, _, _, _, _, _, _, _, _, _, _, _, _, _, _, _, _, _, rfl, hR, ht, ho, hk⟩
      refine sw_consT (v := 5) (by decide) (t := 91) rfl (lo' := 6) rfl (fun c15_5 => ?_) (fun c15_5 => ?_)
      · refine st_aloadn O dX7_car_91 rfl (q := 92) rfl ?_
        refine st_iloadn O dX7_car_92 rfl (q := 93) rfl ?_
        refine st_call O dX7_car_93 cs_X7_car_93 (q := 96) rfl (am_sipq rfl rfl rfl (Nat.le_of_ble_eq_true rfl) rfl (r := nI (lt (gk σ j) (gf σ j) (gb σ))) ⟨j, _, gb σ, _, _, _, _, _, rfl, by omega, q1.1, q1.2, q2.1, hb, rfl, rfl⟩ ?_)
        refine st_ireturn O dX7_car_96 ?_
        rw [key _ ((if_neg c15_0).trans ((if_neg c15_1).trans ((if_neg c15_2).trans ((if_neg c15_3).trans ((if_neg c15_4).trans (if_pos c15_5))))))] at hK; exact hK _ ⟨_, _, _, _, _, _, _, _, _, _, _, _, _, _, _, _, _, _, _, _, rfl, hR, ht, ho, hk⟩
      refine sw_consT (v := 6) (by decide) (t := 97) rfl (lo' := 7) rfl (fun c15_6 => ?_) (fun c15_6 => ?_)
      · refine st_aloadn O dX7_car_97 rfl (q := 98) rfl ?_
        refine st_iloadn O dX7_car_98 rfl (q := 99) rfl ?_
        refine st_call O dX7_car_99 cs_X7_car_99 (q := 102) rfl (am_sipq rfl rfl rfl (Nat.le_of_ble_eq_true rfl) rfl (r := nI (sc (gk σ j))) ⟨j, _, _, _, _, _, _, _, _, _, _, _, false, _, _, rfl, by omega, q1.1, q1.2, rfl, rfl⟩ ?_)
        refine st_ireturn O dX7_car_102 ?_
        rw [key _ ((if_neg c15_0).trans ((if_neg c15_1).trans ((if_neg c15_2).trans ((if_neg c15_3).trans ((if_neg c15_4).trans ((if_neg c15_5).trans (if_pos c15_6)))))))] at hK; exact hK _ ⟨_, _, _, _, _, _, _, _, _, _, _, _, _, _, _, _, _, _, _, _, rfl, hR, ht, ho, hk⟩
      refine sw_nilT (t := 103) rfl ?_
      refine st_aloadn O dX7_car_103 rfl (q := 104) rfl ?_
      refine st_bipush O dX7_car_104 am_bipush_m2 (q := 106) rfl ?_
      refine st_call O dX7_car_106 cs_X7_car_106 (q := 109) rfl (am_siq rfl rfl rfl (Nat.le_of_ble_eq_true rfl) rfl ?_)
      refine ⟨_, _, 2, by decide, by decide, rfl, rfl, ?_⟩
      refine am_nrq rfl rfl ?_
      rw [show f_car (nI j) b σ = rfs 2 σ from key _ ((if_neg c15_0).trans ((if_neg c15_1).trans ((if_neg c15_2).trans ((if_neg c15_3).trans ((if_neg c15_4).trans ((if_neg c15_5).trans (if_neg c15_6)))))))] at hK
      exact st_ireturn O dX7_car_109 (hK _ ⟨_, _, _, _, _, _, _, _, _, _, _, _, _, _, _, _, _, _, _, _, rfl, hR, ht, ho, hk⟩)
    exact absurd c5 (by decide)
theorem C_X7_car : am_ctr yX7_car cX7_car 3 (some .int) 2 43 sh_Mod [some 0, none, none] T_X7_car := am_mk (by decide) (Or.inr (Or.inl ⟨rfl, rfl⟩)) (by decide) (by decide) (by decide) fl_X7_ok kc_X7_ok ck_X7_car B_X7_car
def cs_X7_hurry : Nat → List am_V → am_D → am_K → Prop := am_cs [(2, am_site 2 [some 0, none] T_X7_isCar [0] [0, 1, 2, 3, 4, 5, 6, 7, 8, 9, 10, 11, 12, 13, 14, 15]), (10, am_site 2 [some 0, none] T_X7_no [0, 9] [0, 9, 1, 2, 3, 4, 5, 6, 7, 8, 10, 11, 12, 13, 14, 15]), (21, am_site 2 [some 0, none] T_X7_no [0, 9] [0, 9, 1, 2, 3, 4, 5, 6, 7, 8, 10, 11, 12, 13, 14, 15]), (34, am_site 2 [some 0, none] T_X7_no [0, 9] [0, 9, 1, 2, 3, 4, 5, 6, 7, 8, 10, 11, 12, 13, 14, 15])]
theorem cs_X7_hurry_2 : cs_X7_hurry 2 = am_site 2 [some 0, none] T_X7_isCar [0] [0, 1, 2, 3, 4, 5, 6, 7, 8, 9, 10, 11, 12, 13, 14, 15] := rfl
theorem cs_X7_hurry_10 : cs_X7_hurry 10 = am_site 2 [some 0, none] T_X7_no [0, 9] [0, 9, 1, 2, 3, 4, 5, 6, 7, 8, 10, 11, 12, 13, 14, 15] := rfl
theorem cs_X7_hurry_21 : cs_X7_hurry 21 = am_site 2 [some 0, none] T_X7_no [0, 9] [0, 9, 1, 2, 3, 4, 5, 6, 7, 8, 10, 11, 12, 13, 14, 15] := rfl
theorem cs_X7_hurry_34 : cs_X7_hurry 34 = am_site 2 [some 0, none] T_X7_no [0, 9] [0, 9, 1, 2, 3, 4, 5, 6, 7, 8, 10, 11, 12, 13, 14, 15] := rfl
theorem ck_X7_hurry : ∀ X : am_X, am_cx X RX7 cX7_hurry 4 2 43 → ∀ pc, am_csok X 4 sh_Mod pc (cs_X7_hurry pc) := fun X hX => am_cs_ok (List.forall_mem_cons.mpr ⟨am_callV hX C_X7_isCar mo_X7_isCar rfl lk_X7_96 dX7_hurry_2 rfl rfl rfl (by decide), List.forall_mem_cons.mpr ⟨am_callV hX C_X7_no mo_X7_no rfl lk_X7_66 dX7_hurry_10 rfl rfl rfl (by decide), List.forall_mem_cons.mpr ⟨am_callV hX C_X7_no mo_X7_no rfl lk_X7_66 dX7_hurry_21 rfl rfl rfl (by decide), List.forall_mem_cons.mpr ⟨am_callV hX C_X7_no mo_X7_no rfl lk_X7_66 dX7_hurry_34 rfl rfl rfl (by decide), fun _ h => absurd h List.not_mem_nil⟩⟩⟩⟩)
abbrev ok_X7_hurry (X : am_X) (K : List Int32 → am_D → Prop) : Prop := am_ok X RX7 cX7_hurry 4 sh_Mod fl_X7 kc_X7 none 1 cs_X7_hurry K
abbrev aw_X7_hurry (X : am_X) (pc : Nat) (ls : am_L) (st : List am_V) (D : am_D) : Prop := am_aw X 4 sh_Mod pc ls st D
abbrev T_X7_hurry : am_TT := am_s2 IM f_hurry
set_option maxHeartbeats 200000 in
theorem B_X7_hurry : ∀ (X : am_X) (is : List Int32) (D : am_D) (K : List Int32 → am_D → Prop), ok_X7_hurry X K → T_X7_hurry is D K → is.length = (List.filter Option.isNone ([some 0, none, none] : List (Option Nat))).length → D.length = sh_Mod.length → am_aw X 4 sh_Mod 0 (am_l0 4 [some 0, none, none] is) [] D := by
  intro X is D K O hT _ _
  obtain ⟨σ, a, b, ⟨aT, iM, tU, aS, cH, lO, kA, fA, hA, lA, pA, tA, vA, oA, eA, xA, nA, gA, wA, uA, rfl, hR, ht, ho, hk⟩, rfl, hK⟩ := hT
  obtain ⟨hb, hw, hp, hj, hL⟩ := id hR
  have hn : gN σ ≤ 9 := hL.1
  have eN : gN σ = σ.1.1 := rfl
  cases hx : xi (gN σ) a with
  | none =>
    refine am_begin rfl ?_
    refine st_aloadn O dX7_hurry_0 rfl (q := 1) rfl ?_
    refine st_iloadn O dX7_hurry_1 rfl (q := 2) rfl ?_
    refine st_call O dX7_hurry_2 cs_X7_hurry_2 (q := 5) rfl (am_sipq rfl rfl rfl (Nat.le_of_ble_eq_true rfl) rfl (r := 0) ⟨a, gN σ, _, hn, rfl, rfl, by rw [hx]; rfl⟩ ?_)
    refine st_if_ne O dX7_hurry_5 (t := 14) rfl (q := 8) rfl (fun c5 => ?_) (fun c5 => ?_)
    · exact absurd c5 (by decide)
    refine st_aloadn O dX7_hurry_8 rfl (q := 9) rfl ?_
    refine st_iconst O dX7_hurry_9 am_iconst_m1 (q := 10) rfl ?_
    refine st_call O dX7_hurry_10 cs_X7_hurry_10 (q := 13) rfl (am_siq rfl rfl rfl (Nat.le_of_ble_eq_true rfl) rfl ?_)
    refine ⟨_, _, 1, by decide, by decide, rfl, rfl, ?_⟩
    refine am_nrq rfl rfl ?_
    rw [show f_hurry a b σ = rfs 1 σ from by unfold f_hurry; rw [hx]] at hK
    exact st_ireturn O dX7_hurry_13 (hK _ ⟨_, _, _, _, _, _, _, _, _, _, _, _, _, _, _, _, _, _, _, _, rfl, hR, ht, ho, hk⟩)
  | some j =>
    obtain ⟨hj9, rfl⟩ := xi_some hn hx
    obtain ⟨q1, q2, q3, q4⟩ := hj j hj9
    refine am_begin rfl ?_
    refine st_aloadn O dX7_hurry_0 rfl (q := 1) rfl ?_
    refine st_iloadn O dX7_hurry_1 rfl (q := 2) rfl ?_
    refine st_call O dX7_hurry_2 cs_X7_hurry_2 (q := 5) rfl (am_sipq rfl rfl rfl (Nat.le_of_ble_eq_true rfl) rfl (r := 1) ⟨_, gN σ, _, hn, rfl, rfl, by rw [hx]; rfl⟩ ?_)
    refine st_if_ne O dX7_hurry_5 (t := 14) rfl (q := 8) rfl (fun c5 => ?_) (fun c5 => ?_)
    · refine st_iloadn O dX7_hurry_14 rfl (q := 15) rfl ?_
      refine st_if_ge O dX7_hurry_15 (t := 25) rfl (q := 18) rfl (fun c15 => ?_) (fun c15 => ?_)
      · refine st_iloadn O dX7_hurry_25 rfl (q := 26) rfl ?_
        refine st_bipush O dX7_hurry_26 am_bipush_20 (q := 28) rfl ?_
        refine st_icmp_le O dX7_hurry_28 (t := 38) rfl (q := 31) rfl (fun c28 => ?_) (fun c28 => ?_)
        · refine st_aloadn O dX7_hurry_38 rfl (q := 39) rfl ?_
          refine st_getr O dX7_hurry_39 fl_X7_16 rfl rfl rfl (q := 42) rfl ?_
          refine st_iloadn O dX7_hurry_42 rfl (q := 43) rfl ?_
          refine sn_ald O dX7_hurry_43 rfl rfl rfl ⟨by omega, by decide⟩ q3.1 (q := 44) rfl ?_
          refine st_istoren O dX7_hurry_44 rfl (q := 45) rfl ?_
          refine st_aloadn O dX7_hurry_45 rfl (q := 46) rfl ?_
          refine st_getr O dX7_hurry_46 fl_X7_16 rfl rfl rfl (q := 49) rfl ?_
          refine st_iloadn O dX7_hurry_49 rfl (q := 50) rfl ?_
          refine st_iloadn O dX7_hurry_50 rfl (q := 51) rfl ?_
          refine sn_ast O dX7_hurry_51 rfl rfl rfl ⟨by omega, by decide⟩ rfl rfl (q := 52) rfl ?_
          refine st_iloadn O dX7_hurry_52 rfl (q := 53) rfl ?_
          refine st_ireturn O dX7_hurry_53 ?_
          obtain ⟨v, hv, rfl⟩ := nI_of (Int32.not_lt.mpr c15)
          have h20 : v ≤ 20 := (nI_leI hv (by decide)).mp c28
          rw [show f_hurry (nI j) (nI v) σ = (nI (gh σ j), gR σ (gN σ, gb σ, gw σ, gk σ, gf σ, gl σ, va_up (gh σ) j (nI v).toNatClampNeg, gq σ)) by unfold f_hurry; rw [hx]; exact (if_pos c15).trans (if_pos c28), nI_clamp hv] at hK
          refine hK _ ⟨_, _, _, _, _, _, _, _, _, _, _, _, _, _, _, _, _, _, _, _, rfl, ⟨hb, hw, hp, fun i hin => ?_, hL⟩, ht, ho, hk⟩
          obtain ⟨g1, g2, g3, g4⟩ := hj i hin
          refine ⟨g1, g2, ?_, g4⟩
          by_cases e : i = j
          · subst e; simp only [pk_us, va_up, if_true]; exact ⟨trivial, h20⟩
          · simp only [pk_un e, va_up, if_neg e]; exact g3
        refine st_aloadn O dX7_hurry_31 rfl (q := 32) rfl ?_
        refine st_bipush O dX7_hurry_32 am_bipush_m6 (q := 34) rfl ?_
        refine st_call O dX7_hurry_34 cs_X7_hurry_34 (q := 37) rfl (am_siq rfl rfl rfl (Nat.le_of_ble_eq_true rfl) rfl ?_)
        refine ⟨_, _, 6, by decide, by decide, rfl, rfl, ?_⟩
        refine am_nrq rfl rfl ?_
        rw [show f_hurry (nI j) b σ = rfs 6 σ from by unfold f_hurry; rw [hx]; exact (if_pos c15).trans (if_neg c28)] at hK
        exact st_ireturn O dX7_hurry_37 (hK _ ⟨_, _, _, _, _, _, _, _, _, _, _, _, _, _, _, _, _, _, _, _, rfl, hR, ht, ho, hk⟩)
      refine st_aloadn O dX7_hurry_18 rfl (q := 19) rfl ?_
      refine st_bipush O dX7_hurry_19 am_bipush_m4 (q := 21) rfl ?_
      refine st_call O dX7_hurry_21 cs_X7_hurry_21 (q := 24) rfl (am_siq rfl rfl rfl (Nat.le_of_ble_eq_true rfl) rfl ?_)
      refine ⟨_, _, 4, by decide, by decide, rfl, rfl, ?_⟩
      refine am_nrq rfl rfl ?_
      rw [show f_hurry (nI j) b σ = rfs 4 σ from by unfold f_hurry; rw [hx]; exact if_neg c15] at hK
      exact st_ireturn O dX7_hurry_24 (hK _ ⟨_, _, _, _, _, _, _, _, _, _, _, _, _, _, _, _, _, _, _, _, rfl, hR, ht, ho, hk⟩)
    exact absurd c5 (by decide)
theorem C_X7_hurry : am_ctr yX7_hurry cX7_hurry 4 (some .int) 2 43 sh_Mod [some 0, none, none] T_X7_hurry := am_mk (by decide) (Or.inr (Or.inl ⟨rfl, rfl⟩)) (by decide) (by decide) (by decide) fl_X7_ok kc_X7_ok ck_X7_hurry B_X7_hurry
def cs_X7_goOver : Nat → List am_V → am_D → am_K → Prop := am_cs [(2, am_site 2 [some 0, none] T_X7_isCar [0] [0, 1, 2, 3, 4, 5, 6, 7, 8, 9, 10, 11, 12, 13, 14, 15]), (10, am_site 2 [some 0, none] T_X7_overGoes [0, 4, 5] [0, 4, 5, 1, 2, 3, 6, 7, 8, 9, 10, 11, 12, 13, 14, 15]), (18, am_site 2 [some 0, none] T_X7_no [0, 9] [0, 9, 1, 2, 3, 4, 5, 6, 7, 8, 10, 11, 12, 13, 14, 15])]
theorem cs_X7_goOver_2 : cs_X7_goOver 2 = am_site 2 [some 0, none] T_X7_isCar [0] [0, 1, 2, 3, 4, 5, 6, 7, 8, 9, 10, 11, 12, 13, 14, 15] := rfl
theorem cs_X7_goOver_10 : cs_X7_goOver 10 = am_site 2 [some 0, none] T_X7_overGoes [0, 4, 5] [0, 4, 5, 1, 2, 3, 6, 7, 8, 9, 10, 11, 12, 13, 14, 15] := rfl
theorem cs_X7_goOver_18 : cs_X7_goOver 18 = am_site 2 [some 0, none] T_X7_no [0, 9] [0, 9, 1, 2, 3, 4, 5, 6, 7, 8, 10, 11, 12, 13, 14, 15] := rfl
theorem ck_X7_goOver : ∀ X : am_X, am_cx X RX7 cX7_goOver 2 3 66 → ∀ pc, am_csok X 2 sh_Mod pc (cs_X7_goOver pc) := fun X hX => am_cs_ok (List.forall_mem_cons.mpr ⟨am_callV hX C_X7_isCar mo_X7_isCar rfl lk_X7_96 dX7_goOver_2 rfl rfl rfl (by decide), List.forall_mem_cons.mpr ⟨am_callV hX C_X7_overGoes mo_X7_overGoes rfl lk_X7_106 dX7_goOver_10 rfl rfl rfl (by decide), List.forall_mem_cons.mpr ⟨am_callV hX C_X7_no mo_X7_no rfl lk_X7_66 dX7_goOver_18 rfl rfl rfl (by decide), fun _ h => absurd h List.not_mem_nil⟩⟩⟩)
abbrev ok_X7_goOver (X : am_X) (K : List Int32 → am_D → Prop) : Prop := am_ok X RX7 cX7_goOver 2 sh_Mod fl_X7 kc_X7 none 1 cs_X7_goOver K
abbrev aw_X7_goOver (X : am_X) (pc : Nat) (ls : am_L) (st : List am_V) (D : am_D) : Prop := am_aw X 2 sh_Mod pc ls st D
abbrev T_X7_goOver : am_TT := am_s1 IM f_goOver
theorem va_s {α : Type} (f : Nat → α) (k : Nat) (v : α) : va_up f k v k = v := if_pos rfl
theorem x_over_place {x : RS} {j : Nat} (hp : x.2.2.2.2.2.2.2.Perm (List.range x.1)) (hj : j < x.1) : x_place (x_over x j) j = ((qu x.2.2.2.2.2.1 x.2.2.2.2.2.2.2 (1 - x.2.2.2.2.2.1 j) 0).erase j).length := by
  unfold x_place
  rw [← qu_0]
  show (qu (va_up x.2.2.2.2.2.1 j (1 - x.2.2.2.2.2.1 j)) (x.2.2.2.2.2.2.2.erase j ++ [j]) (va_up x.2.2.2.2.2.1 j (1 - x.2.2.2.2.2.1 j) j) 0).idxOf j = _
  rw [qu_end hp, if_pos (va_s _ _ _), va_s, List.idxOf_append, if_neg (qu_ndz hp _ _).not_mem_erase, List.idxOf_cons_self, Nat.zero_add]
set_option maxHeartbeats 200000 in
theorem B_X7_goOver : ∀ (X : am_X) (is : List Int32) (D : am_D) (K : List Int32 → am_D → Prop), ok_X7_goOver X K → T_X7_goOver is D K → is.length = (List.filter Option.isNone ([some 0, none] : List (Option Nat))).length → D.length = sh_Mod.length → am_aw X 2 sh_Mod 0 (am_l0 2 [some 0, none] is) [] D := by
  intro X is D K O hT _ _
  obtain ⟨σ, a, ⟨aT, iM, tU, aS, cH, lO, kA, fA, hA, lA, pA, tA, vA, oA, eA, xA, nA, gA, wA, uA, rfl, hR, ht, ho, hk⟩, rfl, hK⟩ := hT
  obtain ⟨hb, hw, hp, hj, hL⟩ := id hR
  have hn : gN σ ≤ 9 := hL.1
  cases hx : xi (gN σ) a with
  | none =>
    refine am_begin rfl ?_
    refine st_aloadn O dX7_goOver_0 rfl (q := 1) rfl ?_
    refine st_iloadn O dX7_goOver_1 rfl (q := 2) rfl ?_
    refine st_call O dX7_goOver_2 cs_X7_goOver_2 (q := 5) rfl (am_sipq rfl rfl rfl (Nat.le_of_ble_eq_true rfl) rfl (r := 0) ⟨a, gN σ, _, hn, rfl, rfl, by rw [hx]; rfl⟩ ?_)
    refine st_if_eq O dX7_goOver_5 (t := 16) rfl (q := 8) rfl (fun c5 => ?_) (fun c5 => ?_)
    · refine st_aloadn O dX7_goOver_16 rfl (q := 17) rfl ?_
      refine st_iconst O dX7_goOver_17 am_iconst_m1 (q := 18) rfl ?_
      refine st_call O dX7_goOver_18 cs_X7_goOver_18 (q := 21) rfl (am_siq rfl rfl rfl (Nat.le_of_ble_eq_true rfl) rfl ?_)
      refine ⟨_, _, 1, by decide, by decide, rfl, rfl, ?_⟩
      refine am_nrq rfl rfl ?_
      rw [show f_goOver a σ = rfs 1 σ from by unfold f_goOver; rw [hx]] at hK
      exact st_ireturn O dX7_goOver_21 (hK _ ⟨_, _, _, _, _, _, _, _, _, _, _, _, _, _, _, _, _, _, _, _, rfl, hR, ht, ho, hk⟩)
    exact absurd c5 (by decide)
  | some j =>
    obtain ⟨hj9, rfl⟩ := xi_some hn hx
    obtain ⟨q1, q2, q3, q4⟩ := hj j hj9
    rw [show f_goOver (nI j) σ = (nI (x_place (x_over σ.1 j) j), gR σ (x_over σ.1 j)) by unfold f_goOver; rw [hx], x_over_place hp hj9] at hK
    refine am_begin rfl ?_
    refine st_aloadn O dX7_goOver_0 rfl (q := 1) rfl ?_
    refine st_iloadn O dX7_goOver_1 rfl (q := 2) rfl ?_
    refine st_call O dX7_goOver_2 cs_X7_goOver_2 (q := 5) rfl (am_sipq rfl rfl rfl (Nat.le_of_ble_eq_true rfl) rfl (r := 1) ⟨_, gN σ, _, hn, rfl, rfl, by rw [hx]; rfl⟩ ?_)
    refine st_if_eq O dX7_goOver_5 (t := 16) rfl (q := 8) rfl (fun c5 => ?_) (fun c5 => ?_)
    · exact absurd c5 (by decide)
    refine st_aloadn O dX7_goOver_8 rfl (q := 9) rfl ?_
    refine st_iloadn O dX7_goOver_9 rfl (q := 10) rfl ?_
    refine st_call O dX7_goOver_10 cs_X7_goOver_10 (q := 13) rfl (am_siq rfl rfl rfl (Nat.le_of_ble_eq_true rfl) rfl ?_)
    refine ⟨gN σ, _, _, lA, pA, j, _, rfl, hL, q4, qu_mem hp hj9, rfl, fun lA' pA' hL' => ?_⟩
    refine am_nrp rfl rfl rfl rfl ?_
    refine st_goto O dX7_goOver_13 (t := 21) rfl ?_
    refine st_ireturn O dX7_goOver_21 ?_
    refine hK _ ⟨_, _, _, _, _, _, _, _, _, _, _, _, _, _, _, _, _, _, _, _, rfl, ⟨hb, hw, er_perm hp hj9, fun i hin => ?_, mL_congr hL' (fun y _ => qu_end hp y) (fun _ _ => ⟨rfl, rfl⟩)⟩, ht, ho, hk⟩
    obtain ⟨g1, g2, g3, g4⟩ := hj i hin
    refine ⟨g1, g2, g3, ?_⟩
    show va_up (gl σ) j (1 - gl σ j) i < 2
    unfold va_up
    split
    · omega
    · exact g4
theorem C_X7_goOver : am_ctr yX7_goOver cX7_goOver 2 (some .int) 3 66 sh_Mod [some 0, none] T_X7_goOver := am_mk (by decide) (Or.inr (Or.inl ⟨rfl, rfl⟩)) (by decide) (by decide) (by decide) fl_X7_ok kc_X7_ok ck_X7_goOver B_X7_goOver
def cs_X7_standFirst : Nat → List am_V → am_D → am_K → Prop := am_cs [(2, am_site 2 [some 0, none] T_X7_isCar [0] [0, 1, 2, 3, 4, 5, 6, 7, 8, 9, 10, 11, 12, 13, 14, 15]), (10, am_site 2 [some 0, none] T_X7_firstStands [0, 4, 5] [0, 4, 5, 1, 2, 3, 6, 7, 8, 9, 10, 11, 12, 13, 14, 15]), (18, am_site 2 [some 0, none] T_X7_no [0, 9] [0, 9, 1, 2, 3, 4, 5, 6, 7, 8, 10, 11, 12, 13, 14, 15])]
theorem cs_X7_standFirst_2 : cs_X7_standFirst 2 = am_site 2 [some 0, none] T_X7_isCar [0] [0, 1, 2, 3, 4, 5, 6, 7, 8, 9, 10, 11, 12, 13, 14, 15] := rfl
theorem cs_X7_standFirst_10 : cs_X7_standFirst 10 = am_site 2 [some 0, none] T_X7_firstStands [0, 4, 5] [0, 4, 5, 1, 2, 3, 6, 7, 8, 9, 10, 11, 12, 13, 14, 15] := rfl
theorem cs_X7_standFirst_18 : cs_X7_standFirst 18 = am_site 2 [some 0, none] T_X7_no [0, 9] [0, 9, 1, 2, 3, 4, 5, 6, 7, 8, 10, 11, 12, 13, 14, 15] := rfl
theorem ck_X7_standFirst : ∀ X : am_X, am_cx X RX7 cX7_standFirst 2 2 43 → ∀ pc, am_csok X 2 sh_Mod pc (cs_X7_standFirst pc) := fun X hX => am_cs_ok (List.forall_mem_cons.mpr ⟨am_callV hX C_X7_isCar mo_X7_isCar rfl lk_X7_96 dX7_standFirst_2 rfl rfl rfl (by decide), List.forall_mem_cons.mpr ⟨am_callV hX C_X7_firstStands mo_X7_firstStands rfl lk_X7_109 dX7_standFirst_10 rfl rfl rfl (by decide), List.forall_mem_cons.mpr ⟨am_callV hX C_X7_no mo_X7_no rfl lk_X7_66 dX7_standFirst_18 rfl rfl rfl (by decide), fun _ h => absurd h List.not_mem_nil⟩⟩⟩)
abbrev ok_X7_standFirst (X : am_X) (K : List Int32 → am_D → Prop) : Prop := am_ok X RX7 cX7_standFirst 2 sh_Mod fl_X7 kc_X7 none 1 cs_X7_standFirst K
abbrev aw_X7_standFirst (X : am_X) (pc : Nat) (ls : am_L) (st : List am_V) (D : am_D) : Prop := am_aw X 2 sh_Mod pc ls st D
abbrev T_X7_standFirst : am_TT := am_s1 IM f_standFirst
set_option maxHeartbeats 200000 in
theorem B_X7_standFirst : ∀ (X : am_X) (is : List Int32) (D : am_D) (K : List Int32 → am_D → Prop), ok_X7_standFirst X K → T_X7_standFirst is D K → is.length = (List.filter Option.isNone ([some 0, none] : List (Option Nat))).length → D.length = sh_Mod.length → am_aw X 2 sh_Mod 0 (am_l0 2 [some 0, none] is) [] D := by
  intro X is D K O hT _ _
  obtain ⟨σ, a, ⟨aT, iM, tU, aS, cH, lO, kA, fA, hA, lA, pA, tA, vA, oA, eA, xA, nA, gA, wA, uA, rfl, hR, ht, ho, hk⟩, rfl, hK⟩ := hT
  obtain ⟨hb, hw, hp, hj, hL⟩ := id hR
  have hn : gN σ ≤ 9 := hL.1
  cases hx : xi (gN σ) a with
  | none =>
    refine am_begin rfl ?_
    refine st_aloadn O dX7_standFirst_0 rfl (q := 1) rfl ?_
    refine st_iloadn O dX7_standFirst_1 rfl (q := 2) rfl ?_
    refine st_call O dX7_standFirst_2 cs_X7_standFirst_2 (q := 5) rfl (am_sipq rfl rfl rfl (Nat.le_of_ble_eq_true rfl) rfl (r := 0) ⟨a, gN σ, _, hn, rfl, rfl, by rw [hx]; rfl⟩ ?_)
    refine st_if_eq O dX7_standFirst_5 (t := 16) rfl (q := 8) rfl (fun c5 => ?_) (fun c5 => ?_)
    · refine st_aloadn O dX7_standFirst_16 rfl (q := 17) rfl ?_
      refine st_iconst O dX7_standFirst_17 am_iconst_m1 (q := 18) rfl ?_
      refine st_call O dX7_standFirst_18 cs_X7_standFirst_18 (q := 21) rfl (am_siq rfl rfl rfl (Nat.le_of_ble_eq_true rfl) rfl ?_)
      refine ⟨_, _, 1, by decide, by decide, rfl, rfl, ?_⟩
      refine am_nrq rfl rfl ?_
      rw [show f_standFirst a σ = rfs 1 σ from by unfold f_standFirst; rw [hx]] at hK
      exact st_ireturn O dX7_standFirst_21 (hK _ ⟨_, _, _, _, _, _, _, _, _, _, _, _, _, _, _, _, _, _, _, _, rfl, hR, ht, ho, hk⟩)
    exact absurd c5 (by decide)
  | some j =>
    obtain ⟨hj9, rfl⟩ := xi_some hn hx
    obtain ⟨q1, q2, q3, q4⟩ := hj j hj9
    rw [show f_standFirst (nI j) σ = (nI (x_place σ.1 j), gR σ (x_front σ.1 j)) by unfold f_standFirst; rw [hx], show x_place σ.1 j = (qu (gl σ) (gq σ) (gl σ j) 0).idxOf j by unfold x_place; rw [← qu_0]] at hK
    refine am_begin rfl ?_
    refine st_aloadn O dX7_standFirst_0 rfl (q := 1) rfl ?_
    refine st_iloadn O dX7_standFirst_1 rfl (q := 2) rfl ?_
    refine st_call O dX7_standFirst_2 cs_X7_standFirst_2 (q := 5) rfl (am_sipq rfl rfl rfl (Nat.le_of_ble_eq_true rfl) rfl (r := 1) ⟨_, gN σ, _, hn, rfl, rfl, by rw [hx]; rfl⟩ ?_)
    refine st_if_eq O dX7_standFirst_5 (t := 16) rfl (q := 8) rfl (fun c5 => ?_) (fun c5 => ?_)
    · exact absurd c5 (by decide)
    refine st_aloadn O dX7_standFirst_8 rfl (q := 9) rfl ?_
    refine st_iloadn O dX7_standFirst_9 rfl (q := 10) rfl ?_
    refine st_call O dX7_standFirst_10 cs_X7_standFirst_10 (q := 13) rfl (am_siq rfl rfl rfl (Nat.le_of_ble_eq_true rfl) rfl ?_)
    refine ⟨gN σ, _, _, lA, pA, j, _, rfl, hL, q4, qu_mem hp hj9, rfl, fun pA' hL' => ?_⟩
    refine am_nrp rfl rfl rfl rfl ?_
    refine st_goto O dX7_standFirst_13 (t := 21) rfl ?_
    refine st_ireturn O dX7_standFirst_21 ?_
    exact hK _ ⟨_, _, _, _, _, _, _, _, _, _, _, _, _, _, _, _, _, _, _, _, rfl, ⟨hb, hw, er_perm2 hp hj9, hj, mL_congr hL' (fun y _ => qu_front hp y) (fun _ _ => ⟨rfl, rfl⟩)⟩, ht, ho, hk⟩
theorem C_X7_standFirst : am_ctr yX7_standFirst cX7_standFirst 2 (some .int) 2 43 sh_Mod [some 0, none] T_X7_standFirst := am_mk (by decide) (Or.inr (Or.inl ⟨rfl, rfl⟩)) (by decide) (by decide) (by decide) fl_X7_ok kc_X7_ok ck_X7_standFirst B_X7_standFirst
def cs_X7_set : Nat → List am_V → am_D → am_K → Prop := am_cs [(3, am_site 3 [none, none, none] T_X7_within [] []), (12, am_site 2 [some 0, none] T_X7_no [0, 9] [0, 9, 1, 2, 3, 4, 5, 6, 7, 8, 10, 11, 12, 13, 14, 15]), (23, am_site 2 [some 0, none] T_X7_no [0, 9] [0, 9, 1, 2, 3, 4, 5, 6, 7, 8, 10, 11, 12, 13, 14, 15]), (44, am_site 2 [some 0, none] T_X7_no [0, 9] [0, 9, 1, 2, 3, 4, 5, 6, 7, 8, 10, 11, 12, 13, 14, 15])]
theorem cs_X7_set_3 : cs_X7_set 3 = am_site 3 [none, none, none] T_X7_within [] [] := rfl
theorem cs_X7_set_12 : cs_X7_set 12 = am_site 2 [some 0, none] T_X7_no [0, 9] [0, 9, 1, 2, 3, 4, 5, 6, 7, 8, 10, 11, 12, 13, 14, 15] := rfl
theorem cs_X7_set_23 : cs_X7_set 23 = am_site 2 [some 0, none] T_X7_no [0, 9] [0, 9, 1, 2, 3, 4, 5, 6, 7, 8, 10, 11, 12, 13, 14, 15] := rfl
theorem cs_X7_set_44 : cs_X7_set 44 = am_site 2 [some 0, none] T_X7_no [0, 9] [0, 9, 1, 2, 3, 4, 5, 6, 7, 8, 10, 11, 12, 13, 14, 15] := rfl
theorem ck_X7_set : ∀ X : am_X, am_cx X RX7 cX7_set 4 1 22 → ∀ pc, am_csok X 4 sh_Mod pc (cs_X7_set pc) := fun X hX => am_cs_ok (List.forall_mem_cons.mpr ⟨am_callS hX C_X7_within mo_X7_within rfl lk_X7_62 dX7_set_3 rfl (by decide), List.forall_mem_cons.mpr ⟨am_callV hX C_X7_no mo_X7_no rfl lk_X7_66 dX7_set_12 rfl rfl rfl (by decide), List.forall_mem_cons.mpr ⟨am_callV hX C_X7_no mo_X7_no rfl lk_X7_66 dX7_set_23 rfl rfl rfl (by decide), List.forall_mem_cons.mpr ⟨am_callV hX C_X7_no mo_X7_no rfl lk_X7_66 dX7_set_44 rfl rfl rfl (by decide), fun _ h => absurd h List.not_mem_nil⟩⟩⟩⟩)
abbrev ok_X7_set (X : am_X) (K : List Int32 → am_D → Prop) : Prop := am_ok X RX7 cX7_set 4 sh_Mod fl_X7 kc_X7 none 1 cs_X7_set K
abbrev aw_X7_set (X : am_X) (pc : Nat) (ls : am_L) (st : List am_V) (D : am_D) : Prop := am_aw X 4 sh_Mod pc ls st D
abbrev T_X7_set : am_TT := am_s2 IM f_set
set_option maxHeartbeats 200000 in
theorem B_X7_set : ∀ (X : am_X) (is : List Int32) (D : am_D) (K : List Int32 → am_D → Prop), ok_X7_set X K → T_X7_set is D K → is.length = (List.filter Option.isNone ([some 0, none, none] : List (Option Nat))).length → D.length = sh_Mod.length → am_aw X 4 sh_Mod 0 (am_l0 4 [some 0, none, none] is) [] D := by
  intro X is D K O hT _ _
  obtain ⟨σ, a, b, ⟨aT, iM, tU, aS, cH, lO, kA, fA, hA, lA, pA, tA, vA, oA, eA, xA, nA, gA, wA, uA, rfl, hR, ht, ho, hk⟩, rfl, hK⟩ := hT
  obtain ⟨hb, hw, hp, hj, hL⟩ := id hR
  by_cases h0 : a = 0
  · subst h0
    refine am_begin rfl ?_
    refine st_iloadn O dX7_set_0 rfl (q := 1) rfl ?_
    refine st_iconst O dX7_set_1 am_iconst_0 (q := 2) rfl ?_
    refine st_iconst O dX7_set_2 am_iconst_1 (q := 3) rfl ?_
    refine st_callS O dX7_set_3 cs_X7_set_3 (q := 6) rfl (am_sipq rfl rfl rfl (Nat.le_of_ble_eq_true rfl) rfl (r := 1) ⟨_, _, _, rfl, wiT (Or.inl rfl)⟩ ?_)
    refine st_if_ne O dX7_set_6 (t := 16) rfl (q := 9) rfl (fun c6 => ?_) (fun c6 => ?_)
    · refine st_iloadn O dX7_set_16 rfl (q := 17) rfl ?_
      refine st_if_ge O dX7_set_17 (t := 27) rfl (q := 20) rfl (fun c17 => ?_) (fun c17 => ?_)
      · refine st_iloadn O dX7_set_27 rfl (q := 28) rfl ?_
        refine st_iloadn O dX7_set_28 rfl (q := 29) rfl ?_
        refine st_if_ne O dX7_set_29 (t := 36) rfl (q := 32) rfl (fun c29 => ?_) (fun c29 => ?_)
        · exact absurd c29 (by decide)
        refine st_iconst O dX7_set_32 am_iconst_2 (q := 33) rfl ?_
        refine st_goto O dX7_set_33 (t := 38) rfl ?_
        refine st_icmp_le O dX7_set_38 (t := 48) rfl (q := 41) rfl (fun c38 => ?_) (fun c38 => ?_)
        · refine st_iloadn O dX7_set_48 rfl (q := 49) rfl ?_
          refine st_if_ne O dX7_set_49 (t := 59) rfl (q := 52) rfl (fun c49 => ?_) (fun c49 => ?_)
          · exact absurd c49 (by decide)
          refine st_aloadn O dX7_set_52 rfl (q := 53) rfl ?_
          refine st_geti O dX7_set_53 fl_X7_103 rfl rfl rfl rfl (q := 56) rfl ?_
          refine st_goto O dX7_set_56 (t := 63) rfl ?_
          refine st_istoren O dX7_set_63 rfl (q := 64) rfl ?_
          refine st_iloadn O dX7_set_64 rfl (q := 65) rfl ?_
          refine st_if_ne O dX7_set_65 (t := 76) rfl (q := 68) rfl (fun c65 => ?_) (fun c65 => ?_)
          · exact absurd c65 (by decide)
          refine st_aloadn O dX7_set_68 rfl (q := 69) rfl ?_
          refine st_iloadn O dX7_set_69 rfl (q := 70) rfl ?_
          obtain ⟨v, hv, rfl⟩ := (le_iff 2 (by decide)).mp ⟨c17, c38⟩
          refine st_puti O dX7_set_70 fl_X7_103 rfl rfl rfl rfl rfl (q := 73) rfl ?_
          refine st_goto O dX7_set_73 (t := 81) rfl ?_
          refine st_iloadn O dX7_set_81 rfl (q := 82) rfl ?_
          refine st_ireturn O dX7_set_82 ?_
          rw [show f_set 0 (nI v) σ = (nI (gb σ), gR σ (gN σ, (nI v).toNatClampNeg, σ.1.2.2)) from (if_pos (Or.inl rfl)).trans ((if_pos c17).trans ((if_pos rfl).trans (if_pos c38))), nI_clamp (by omega)] at hK
          exact hK _ ⟨_, _, _, _, _, _, _, _, _, _, _, _, _, _, _, _, _, _, _, _, rfl, ⟨hv, hw, hp, hj, hL⟩, ht, ho, hk⟩
        refine st_aloadn O dX7_set_41 rfl (q := 42) rfl ?_
        refine st_bipush O dX7_set_42 am_bipush_m6 (q := 44) rfl ?_
        refine st_call O dX7_set_44 cs_X7_set_44 (q := 47) rfl (am_siq rfl rfl rfl (Nat.le_of_ble_eq_true rfl) rfl ?_)
        refine ⟨_, _, 6, by decide, by decide, rfl, rfl, ?_⟩
        refine am_nrq rfl rfl ?_
        rw [show f_set 0 b σ = rfs 6 σ from (if_pos (Or.inl rfl)).trans ((if_pos c17).trans ((if_pos rfl).trans (if_neg c38)))] at hK
        exact st_ireturn O dX7_set_47 (hK _ ⟨_, _, _, _, _, _, _, _, _, _, _, _, _, _, _, _, _, _, _, _, rfl, hR, ht, ho, hk⟩)
      refine st_aloadn O dX7_set_20 rfl (q := 21) rfl ?_
      refine st_bipush O dX7_set_21 am_bipush_m4 (q := 23) rfl ?_
      refine st_call O dX7_set_23 cs_X7_set_23 (q := 26) rfl (am_siq rfl rfl rfl (Nat.le_of_ble_eq_true rfl) rfl ?_)
      refine ⟨_, _, 4, by decide, by decide, rfl, rfl, ?_⟩
      refine am_nrq rfl rfl ?_
      rw [show f_set 0 b σ = rfs 4 σ from (if_pos (Or.inl rfl)).trans (if_neg c17)] at hK
      exact st_ireturn O dX7_set_26 (hK _ ⟨_, _, _, _, _, _, _, _, _, _, _, _, _, _, _, _, _, _, _, _, rfl, hR, ht, ho, hk⟩)
    exact absurd c6 (by decide)
  · by_cases h1 : a = 1
    · subst h1
      refine am_begin rfl ?_
      refine st_iloadn O dX7_set_0 rfl (q := 1) rfl ?_
      refine st_iconst O dX7_set_1 am_iconst_0 (q := 2) rfl ?_
      refine st_iconst O dX7_set_2 am_iconst_1 (q := 3) rfl ?_
      refine st_callS O dX7_set_3 cs_X7_set_3 (q := 6) rfl (am_sipq rfl rfl rfl (Nat.le_of_ble_eq_true rfl) rfl (r := 1) ⟨_, _, _, rfl, wiT (Or.inr rfl)⟩ ?_)
      refine st_if_ne O dX7_set_6 (t := 16) rfl (q := 9) rfl (fun c6 => ?_) (fun c6 => ?_)
      · refine st_iloadn O dX7_set_16 rfl (q := 17) rfl ?_
        refine st_if_ge O dX7_set_17 (t := 27) rfl (q := 20) rfl (fun c17 => ?_) (fun c17 => ?_)
        · refine st_iloadn O dX7_set_27 rfl (q := 28) rfl ?_
          refine st_iloadn O dX7_set_28 rfl (q := 29) rfl ?_
          refine st_if_ne O dX7_set_29 (t := 36) rfl (q := 32) rfl (fun c29 => ?_) (fun c29 => ?_)
          · refine st_bipush O dX7_set_36 am_bipush_9 (q := 38) rfl ?_
            refine st_icmp_le O dX7_set_38 (t := 48) rfl (q := 41) rfl (fun c38 => ?_) (fun c38 => ?_)
            · refine st_iloadn O dX7_set_48 rfl (q := 49) rfl ?_
              refine st_if_ne O dX7_set_49 (t := 59) rfl (q := 52) rfl (fun c49 => ?_) (fun c49 => ?_)
              · refine st_aloadn O dX7_set_59 rfl (q := 60) rfl ?_
                refine st_geti O dX7_set_60 fl_X7_55 rfl rfl rfl rfl (q := 63) rfl ?_
                refine st_istoren O dX7_set_63 rfl (q := 64) rfl ?_
                refine st_iloadn O dX7_set_64 rfl (q := 65) rfl ?_
                refine st_if_ne O dX7_set_65 (t := 76) rfl (q := 68) rfl (fun c65 => ?_) (fun c65 => ?_)
                · refine st_aloadn O dX7_set_76 rfl (q := 77) rfl ?_
                  refine st_iloadn O dX7_set_77 rfl (q := 78) rfl ?_
                  obtain ⟨v, hv, rfl⟩ := (le_iff 9 (by decide)).mp ⟨c17, c38⟩
                  refine st_puti O dX7_set_78 fl_X7_55 rfl rfl rfl rfl rfl (q := 81) rfl ?_
                  refine st_iloadn O dX7_set_81 rfl (q := 82) rfl ?_
                  refine st_ireturn O dX7_set_82 ?_
                  rw [show f_set 1 (nI v) σ = (nI (gw σ), gR σ (gN σ, gb σ, (nI v).toNatClampNeg, σ.1.2.2.2)) from (if_pos (Or.inr rfl)).trans ((if_pos c17).trans ((if_neg (by decide)).trans (if_pos c38))), nI_clamp (by omega)] at hK
                  exact hK _ ⟨_, _, _, _, _, _, _, _, _, _, _, _, _, _, _, _, _, _, _, _, rfl, ⟨hb, hv, hp, hj, hL⟩, ht, ho, hk⟩
                exact absurd c65 (by decide)
              exact absurd c49 (by decide)
            refine st_aloadn O dX7_set_41 rfl (q := 42) rfl ?_
            refine st_bipush O dX7_set_42 am_bipush_m6 (q := 44) rfl ?_
            refine st_call O dX7_set_44 cs_X7_set_44 (q := 47) rfl (am_siq rfl rfl rfl (Nat.le_of_ble_eq_true rfl) rfl ?_)
            refine ⟨_, _, 6, by decide, by decide, rfl, rfl, ?_⟩
            refine am_nrq rfl rfl ?_
            rw [show f_set 1 b σ = rfs 6 σ from (if_pos (Or.inr rfl)).trans ((if_pos c17).trans ((if_neg (by decide)).trans (if_neg c38)))] at hK
            exact st_ireturn O dX7_set_47 (hK _ ⟨_, _, _, _, _, _, _, _, _, _, _, _, _, _, _, _, _, _, _, _, rfl, hR, ht, ho, hk⟩)
          exact absurd c29 (by decide)
        refine st_aloadn O dX7_set_20 rfl (q := 21) rfl ?_
        refine st_bipush O dX7_set_21 am_bipush_m4 (q := 23) rfl ?_
        refine st_call O dX7_set_23 cs_X7_set_23 (q := 26) rfl (am_siq rfl rfl rfl (Nat.le_of_ble_eq_true rfl) rfl ?_)
        refine ⟨_, _, 4, by decide, by decide, rfl, rfl, ?_⟩
        refine am_nrq rfl rfl ?_
        rw [show f_set 1 b σ = rfs 4 σ from (if_pos (Or.inr rfl)).trans (if_neg c17)] at hK
        exact st_ireturn O dX7_set_26 (hK _ ⟨_, _, _, _, _, _, _, _, _, _, _, _, _, _, _, _, _, _, _, _, rfl, hR, ht, ho, hk⟩)
      exact absurd c6 (by decide)
    · refine am_begin rfl ?_
      refine st_iloadn O dX7_set_0 rfl (q := 1) rfl ?_
      refine st_iconst O dX7_set_1 am_iconst_0 (q := 2) rfl ?_
      refine st_iconst O dX7_set_2 am_iconst_1 (q := 3) rfl ?_
      refine st_callS O dX7_set_3 cs_X7_set_3 (q := 6) rfl (am_sipq rfl rfl rfl (Nat.le_of_ble_eq_true rfl) rfl (r := 0) ⟨_, _, _, rfl, wiF (fun z => z.elim h0 h1)⟩ ?_)
      refine st_if_ne O dX7_set_6 (t := 16) rfl (q := 9) rfl (fun c6 => ?_) (fun c6 => ?_)
      · exact absurd c6 (by decide)
      refine st_aloadn O dX7_set_9 rfl (q := 10) rfl ?_
      refine st_bipush O dX7_set_10 am_bipush_m2 (q := 12) rfl ?_
      refine st_call O dX7_set_12 cs_X7_set_12 (q := 15) rfl (am_siq rfl rfl rfl (Nat.le_of_ble_eq_true rfl) rfl ?_)
      refine ⟨_, _, 2, by decide, by decide, rfl, rfl, ?_⟩
      refine am_nrq rfl rfl ?_
      rw [show f_set a b σ = rfs 2 σ from if_neg (fun z => z.elim h0 h1)] at hK
      exact st_ireturn O dX7_set_15 (hK _ ⟨_, _, _, _, _, _, _, _, _, _, _, _, _, _, _, _, _, _, _, _, rfl, hR, ht, ho, hk⟩)
theorem C_X7_set : am_ctr yX7_set cX7_set 4 (some .int) 1 22 sh_Mod [some 0, none, none] T_X7_set := am_mk (by decide) (Or.inr (Or.inl ⟨rfl, rfl⟩)) (by decide) (by decide) (by decide) fl_X7_ok kc_X7_ok ck_X7_set B_X7_set
