/-! the class's own methods: the road changed -/
def cs_X6_goOver : Nat → List am_V → am_D → am_K → Prop := am_cs [(5, am_site 2 [some 0, none] T_X4_has [1] [1, 2, 3, 4, 5, 6]), (13, am_site 2 [some 0, none] T_X6_refuse [0, 7] [0, 7, 1, 8, 9, 10, 11, 12, 13, 14]), (22, am_site 2 [some 0, none] T_X4_crossOver [1, 2, 3, 4, 5, 6] [1, 2, 3, 4, 5, 6]), (31, am_site 2 [some 0, none] T_X4_placeOf [1, 2, 3, 4, 5, 6] [1, 2, 3, 4, 5, 6])]
theorem cs_X6_goOver_5 : cs_X6_goOver 5 = am_site 2 [some 0, none] T_X4_has [1] [1, 2, 3, 4, 5, 6] := rfl
theorem cs_X6_goOver_13 : cs_X6_goOver 13 = am_site 2 [some 0, none] T_X6_refuse [0, 7] [0, 7, 1, 8, 9, 10, 11, 12, 13, 14] := rfl
theorem cs_X6_goOver_22 : cs_X6_goOver 22 = am_site 2 [some 0, none] T_X4_crossOver [1, 2, 3, 4, 5, 6] [1, 2, 3, 4, 5, 6] := rfl
theorem cs_X6_goOver_31 : cs_X6_goOver 31 = am_site 2 [some 0, none] T_X4_placeOf [1, 2, 3, 4, 5, 6] [1, 2, 3, 4, 5, 6] := rfl
theorem ck_X6_goOver : ∀ X : am_X, am_cx X RX6 cX6_goOver 2 3 66 → ∀ pc, am_csok X 2 sh_VN pc (cs_X6_goOver pc) := fun X hX => am_cs_ok (List.forall_mem_cons.mpr ⟨am_callV hX C_X4_has mo_X4_has rfl lk_X6_83 dX6_goOver_5 rfl rfl rfl (by decide), List.forall_mem_cons.mpr ⟨am_callV hX C_X6_refuse mo_X6_refuse rfl lk_X6_65 dX6_goOver_13 rfl rfl rfl (by decide), List.forall_mem_cons.mpr ⟨am_callV hX C_X4_crossOver mo_X4_crossOver rfl lk_X6_110 dX6_goOver_22 rfl rfl rfl (by decide), List.forall_mem_cons.mpr ⟨am_callV hX C_X4_placeOf mo_X4_placeOf rfl lk_X6_99 dX6_goOver_31 rfl rfl rfl (by decide), fun _ h => absurd h List.not_mem_nil⟩⟩⟩⟩)
abbrev ok_X6_goOver (X : am_X) (K : List Int32 → am_D → Prop) : Prop := am_ok X RX6 cX6_goOver 2 sh_VN fl_X6 kc_X6 none 1 cs_X6_goOver K
abbrev aw_X6_goOver (X : am_X) (pc : Nat) (ls : am_L) (st : List am_V) (D : am_D) : Prop := am_aw X 2 sh_VN pc ls st D
abbrev T_X6_goOver : am_TT := am_v1f V_N f_goOver
theorem B_X6_goOver : ∀ (X : am_X) (is : List Int32) (D : am_D) (K : List Int32 → am_D → Prop), ok_X6_goOver X K → T_X6_goOver is D K → is.length = (List.filter Option.isNone ([some 0, none] : List (Option Nat))).length → D.length = sh_VN.length → am_aw X 2 sh_VN 0 (am_l0 2 [some 0, none] is) [] D := by
  intro X is D K O hT _ _
  obtain ⟨o, σ, a, ⟨n0, n1, n2, n3, n4, n5, rfl, hn⟩, rfl, hK⟩ := hT
  obtain ⟨kk, ff, ll, hh, ii, e, hn9, hb2, hw9, hj, hp, hi⟩ := id hn
  cases e
  cases hx : xi (gN σ) a with
  | none =>
    refine am_begin rfl ?_
    refine st_aloadn O dX6_goOver_0 rfl (q := 1) rfl ?_
    refine st_getr O dX6_goOver_1 fl_X6_10 rfl rfl rfl (q := 4) rfl ?_
    refine st_iloadn O dX6_goOver_4 rfl (q := 5) rfl ?_
    refine st_call O dX6_goOver_5 cs_X6_goOver_5 (q := 8) rfl (am_sipq rfl rfl rfl (Nat.le_of_ble_eq_true rfl) rfl (r := 0) ⟨a, gN σ, _, hn9, rfl, rfl, Or.inr ⟨xi_none hn9 hx, rfl⟩⟩ ?_)
    refine st_if_ne O dX6_goOver_8 (t := 17) rfl (q := 11) rfl (fun c8 => ?_) (fun c8 => ?_)
    · exact absurd c8 (by decide)
    refine st_aloadn O dX6_goOver_11 rfl (q := 12) rfl ?_
    refine st_iconst O dX6_goOver_12 am_iconst_m1 (q := 13) rfl ?_
    refine st_call O dX6_goOver_13 cs_X6_goOver_13 (q := 16) rfl (am_siq rfl rfl rfl (Nat.le_of_ble_eq_true rfl) rfl ?_)
    refine ⟨_, _, 1, by decide, by decide, rfl, rfl, ?_⟩
    refine am_nrq rfl rfl ?_
    rw [show f_goOver a σ = rfs 1 σ from by unfold f_goOver; rw [hx]] at hK
    exact st_ireturn O dX6_goOver_16 (hK _ ⟨_, _, _, _, _, _, rfl, hn⟩)
  | some j =>
    obtain ⟨hj9, rfl⟩ := xi_some hn9 hx
    unfold f_goOver at hK
    rw [hx] at hK
    dsimp only at hK
    refine am_begin rfl ?_
    refine st_aloadn O dX6_goOver_0 rfl (q := 1) rfl ?_
    refine st_getr O dX6_goOver_1 fl_X6_10 rfl rfl rfl (q := 4) rfl ?_
    refine st_iloadn O dX6_goOver_4 rfl (q := 5) rfl ?_
    refine st_call O dX6_goOver_5 cs_X6_goOver_5 (q := 8) rfl (am_sipq rfl rfl rfl (Nat.le_of_ble_eq_true rfl) rfl (r := 1) ⟨_, gN σ, _, hn9, rfl, rfl, Or.inl ⟨⟨j, hj9, rfl⟩, rfl⟩⟩ ?_)
    refine st_if_ne O dX6_goOver_8 (t := 17) rfl (q := 11) rfl (fun c8 => ?_) (fun c8 => ?_)
    · refine st_aloadn O dX6_goOver_17 rfl (q := 18) rfl ?_
      refine st_getr O dX6_goOver_18 fl_X6_10 rfl rfl rfl (q := 21) rfl ?_
      refine st_iloadn O dX6_goOver_21 rfl (q := 22) rfl ?_
      refine st_call O dX6_goOver_22 cs_X6_goOver_22 (q := 25) rfl (am_siq rfl rfl rfl (Nat.le_of_ble_eq_true rfl) rfl ?_)
      refine ⟨_, _, _, _, _, _, _, _, _, hn, rfl, Or.inl ⟨j, hj9, rfl, fun D' hR' => ?_⟩⟩
      have hR : rS (x_over σ.1 j) D' := hR'
      obtain ⟨k', f', l', h', i', rfl, -⟩ := id hR
      refine am_nrq rfl rfl ?_
      refine st_pop O dX6_goOver_25 (q := 26) rfl ?_
      refine st_aloadn O dX6_goOver_26 rfl (q := 27) rfl ?_
      refine st_getr O dX6_goOver_27 fl_X6_10 rfl rfl rfl (q := 30) rfl ?_
      refine st_iloadn O dX6_goOver_30 rfl (q := 31) rfl ?_
      refine st_call O dX6_goOver_31 cs_X6_goOver_31 (q := 34) rfl (am_sipq rfl rfl rfl (Nat.le_of_ble_eq_true rfl) rfl (r := nI (x_place (x_over σ.1 j) j)) ⟨_, _, _, _, _, _, _, _, j, hR, hj9, rfl, rfl⟩ ?_)
      refine st_ireturn O dX6_goOver_34 ?_
      exact hK _ ⟨_, _, _, _, _, _, rfl, hR⟩
    exact absurd c8 (by decide)
theorem C_X6_goOver : am_ctr yX6_goOver cX6_goOver 2 (some .int) 3 66 sh_VN [some 0, none] T_X6_goOver := am_mk (by decide) (Or.inr (Or.inl ⟨rfl, rfl⟩)) (by decide) (by decide) (by decide) fl_X6_ok kc_X6_ok ck_X6_goOver B_X6_goOver
def cs_X6_standFirst : Nat → List am_V → am_D → am_K → Prop := am_cs [(5, am_site 2 [some 0, none] T_X4_has [1] [1, 2, 3, 4, 5, 6]), (13, am_site 2 [some 0, none] T_X6_refuse [0, 7] [0, 7, 1, 8, 9, 10, 11, 12, 13, 14]), (22, am_site 2 [some 0, none] T_X4_placeOf [1, 2, 3, 4, 5, 6] [1, 2, 3, 4, 5, 6]), (31, am_site 2 [some 0, none] T_X4_moveToFront [1, 2, 3, 4, 5, 6] [1, 2, 3, 4, 5, 6])]
theorem cs_X6_standFirst_5 : cs_X6_standFirst 5 = am_site 2 [some 0, none] T_X4_has [1] [1, 2, 3, 4, 5, 6] := rfl
theorem cs_X6_standFirst_13 : cs_X6_standFirst 13 = am_site 2 [some 0, none] T_X6_refuse [0, 7] [0, 7, 1, 8, 9, 10, 11, 12, 13, 14] := rfl
theorem cs_X6_standFirst_22 : cs_X6_standFirst 22 = am_site 2 [some 0, none] T_X4_placeOf [1, 2, 3, 4, 5, 6] [1, 2, 3, 4, 5, 6] := rfl
theorem cs_X6_standFirst_31 : cs_X6_standFirst 31 = am_site 2 [some 0, none] T_X4_moveToFront [1, 2, 3, 4, 5, 6] [1, 2, 3, 4, 5, 6] := rfl
theorem ck_X6_standFirst : ∀ X : am_X, am_cx X RX6 cX6_standFirst 3 2 46 → ∀ pc, am_csok X 3 sh_VN pc (cs_X6_standFirst pc) := fun X hX => am_cs_ok (List.forall_mem_cons.mpr ⟨am_callV hX C_X4_has mo_X4_has rfl lk_X6_83 dX6_standFirst_5 rfl rfl rfl (by decide), List.forall_mem_cons.mpr ⟨am_callV hX C_X6_refuse mo_X6_refuse rfl lk_X6_65 dX6_standFirst_13 rfl rfl rfl (by decide), List.forall_mem_cons.mpr ⟨am_callV hX C_X4_placeOf mo_X4_placeOf rfl lk_X6_99 dX6_standFirst_22 rfl rfl rfl (by decide), List.forall_mem_cons.mpr ⟨am_callV hX C_X4_moveToFront mo_X4_moveToFront rfl lk_X6_113 dX6_standFirst_31 rfl rfl rfl (by decide), fun _ h => absurd h List.not_mem_nil⟩⟩⟩⟩)
abbrev ok_X6_standFirst (X : am_X) (K : List Int32 → am_D → Prop) : Prop := am_ok X RX6 cX6_standFirst 3 sh_VN fl_X6 kc_X6 none 1 cs_X6_standFirst K
abbrev aw_X6_standFirst (X : am_X) (pc : Nat) (ls : am_L) (st : List am_V) (D : am_D) : Prop := am_aw X 3 sh_VN pc ls st D
abbrev T_X6_standFirst : am_TT := am_v1f V_N f_standFirst
theorem B_X6_standFirst : ∀ (X : am_X) (is : List Int32) (D : am_D) (K : List Int32 → am_D → Prop), ok_X6_standFirst X K → T_X6_standFirst is D K → is.length = (List.filter Option.isNone ([some 0, none] : List (Option Nat))).length → D.length = sh_VN.length → am_aw X 3 sh_VN 0 (am_l0 3 [some 0, none] is) [] D := by
  intro X is D K O hT _ _
  obtain ⟨o, σ, a, ⟨n0, n1, n2, n3, n4, n5, rfl, hn⟩, rfl, hK⟩ := hT
  obtain ⟨kk, ff, ll, hh, ii, e, hn9, hb2, hw9, hj, hp, hi⟩ := id hn
  cases e
  cases hx : xi (gN σ) a with
  | none =>
    refine am_begin rfl ?_
    refine st_aloadn O dX6_standFirst_0 rfl (q := 1) rfl ?_
    refine st_getr O dX6_standFirst_1 fl_X6_10 rfl rfl rfl (q := 4) rfl ?_
    refine st_iloadn O dX6_standFirst_4 rfl (q := 5) rfl ?_
    refine st_call O dX6_standFirst_5 cs_X6_standFirst_5 (q := 8) rfl (am_sipq rfl rfl rfl (Nat.le_of_ble_eq_true rfl) rfl (r := 0) ⟨a, gN σ, _, hn9, rfl, rfl, Or.inr ⟨xi_none hn9 hx, rfl⟩⟩ ?_)
    refine st_if_ne O dX6_standFirst_8 (t := 17) rfl (q := 11) rfl (fun c8 => ?_) (fun c8 => ?_)
    · exact absurd c8 (by decide)
    refine st_aloadn O dX6_standFirst_11 rfl (q := 12) rfl ?_
    refine st_iconst O dX6_standFirst_12 am_iconst_m1 (q := 13) rfl ?_
    refine st_call O dX6_standFirst_13 cs_X6_standFirst_13 (q := 16) rfl (am_siq rfl rfl rfl (Nat.le_of_ble_eq_true rfl) rfl ?_)
    refine ⟨_, _, 1, by decide, by decide, rfl, rfl, ?_⟩
    refine am_nrq rfl rfl ?_
    rw [show f_standFirst a σ = rfs 1 σ from by unfold f_standFirst; rw [hx]] at hK
    exact st_ireturn O dX6_standFirst_16 (hK _ ⟨_, _, _, _, _, _, rfl, hn⟩)
  | some j =>
    obtain ⟨hj9, rfl⟩ := xi_some hn9 hx
    unfold f_standFirst at hK
    rw [hx] at hK
    dsimp only at hK
    refine am_begin rfl ?_
    refine st_aloadn O dX6_standFirst_0 rfl (q := 1) rfl ?_
    refine st_getr O dX6_standFirst_1 fl_X6_10 rfl rfl rfl (q := 4) rfl ?_
    refine st_iloadn O dX6_standFirst_4 rfl (q := 5) rfl ?_
    refine st_call O dX6_standFirst_5 cs_X6_standFirst_5 (q := 8) rfl (am_sipq rfl rfl rfl (Nat.le_of_ble_eq_true rfl) rfl (r := 1) ⟨_, gN σ, _, hn9, rfl, rfl, Or.inl ⟨⟨j, hj9, rfl⟩, rfl⟩⟩ ?_)
    refine st_if_ne O dX6_standFirst_8 (t := 17) rfl (q := 11) rfl (fun c8 => ?_) (fun c8 => ?_)
    · refine st_aloadn O dX6_standFirst_17 rfl (q := 18) rfl ?_
      refine st_getr O dX6_standFirst_18 fl_X6_10 rfl rfl rfl (q := 21) rfl ?_
      refine st_iloadn O dX6_standFirst_21 rfl (q := 22) rfl ?_
      refine st_call O dX6_standFirst_22 cs_X6_standFirst_22 (q := 25) rfl (am_sipq rfl rfl rfl (Nat.le_of_ble_eq_true rfl) rfl (r := nI (x_place σ.1 j)) ⟨_, _, _, _, _, _, _, _, j, hn, hj9, rfl, rfl⟩ ?_)
      refine st_istoren O dX6_standFirst_25 rfl (q := 26) rfl ?_
      refine st_aloadn O dX6_standFirst_26 rfl (q := 27) rfl ?_
      refine st_getr O dX6_standFirst_27 fl_X6_10 rfl rfl rfl (q := 30) rfl ?_
      refine st_iloadn O dX6_standFirst_30 rfl (q := 31) rfl ?_
      refine st_call O dX6_standFirst_31 cs_X6_standFirst_31 (q := 34) rfl (am_siq rfl rfl rfl (Nat.le_of_ble_eq_true rfl) rfl ?_)
      refine ⟨_, _, _, _, _, _, _, _, _, hn, rfl, Or.inl ⟨j, hj9, rfl, fun D' hR' => ?_⟩⟩
      have hR : rS (x_front σ.1 j) D' := hR'
      obtain ⟨k', f', l', h', i', rfl, -⟩ := id hR
      refine am_nrq rfl rfl ?_
      refine st_pop O dX6_standFirst_34 (q := 35) rfl ?_
      refine st_iloadn O dX6_standFirst_35 rfl (q := 36) rfl ?_
      refine st_ireturn O dX6_standFirst_36 ?_
      exact hK _ ⟨_, _, _, _, _, _, rfl, hR⟩
    exact absurd c8 (by decide)
theorem C_X6_standFirst : am_ctr yX6_standFirst cX6_standFirst 3 (some .int) 2 46 sh_VN [some 0, none] T_X6_standFirst := am_mk (by decide) (Or.inr (Or.inl ⟨rfl, rfl⟩)) (by decide) (by decide) (by decide) fl_X6_ok kc_X6_ok ck_X6_standFirst B_X6_standFirst
def cs_X6_set : Nat → List am_V → am_D → am_K → Prop := am_cs [(12, am_site 2 [some 0, none] T_X6_refuse [0, 7] [0, 7, 1, 8, 9, 10, 11, 12, 13, 14]), (23, am_site 2 [some 0, none] T_X6_refuse [0, 7] [0, 7, 1, 8, 9, 10, 11, 12, 13, 14]), (58, am_site 2 [some 0, none] T_X4_putBoard [1] [1, 2, 3, 4, 5, 6]), (69, am_site 2 [some 0, none] T_X4_putWave [1] [1, 2, 3, 4, 5, 6]), (86, am_site 2 [some 0, none] T_X6_refuse [0, 7] [0, 7, 1, 8, 9, 10, 11, 12, 13, 14])]
theorem cs_X6_set_12 : cs_X6_set 12 = am_site 2 [some 0, none] T_X6_refuse [0, 7] [0, 7, 1, 8, 9, 10, 11, 12, 13, 14] := rfl
theorem cs_X6_set_23 : cs_X6_set 23 = am_site 2 [some 0, none] T_X6_refuse [0, 7] [0, 7, 1, 8, 9, 10, 11, 12, 13, 14] := rfl
theorem cs_X6_set_58 : cs_X6_set 58 = am_site 2 [some 0, none] T_X4_putBoard [1] [1, 2, 3, 4, 5, 6] := rfl
theorem cs_X6_set_69 : cs_X6_set 69 = am_site 2 [some 0, none] T_X4_putWave [1] [1, 2, 3, 4, 5, 6] := rfl
theorem cs_X6_set_86 : cs_X6_set 86 = am_site 2 [some 0, none] T_X6_refuse [0, 7] [0, 7, 1, 8, 9, 10, 11, 12, 13, 14] := rfl
theorem ck_X6_set : ∀ X : am_X, am_cx X RX6 cX6_set 5 1 21 → ∀ pc, am_csok X 5 sh_VN pc (cs_X6_set pc) := fun X hX => am_cs_ok (List.forall_mem_cons.mpr ⟨am_callV hX C_X6_refuse mo_X6_refuse rfl lk_X6_65 dX6_set_12 rfl rfl rfl (by decide), List.forall_mem_cons.mpr ⟨am_callV hX C_X6_refuse mo_X6_refuse rfl lk_X6_65 dX6_set_23 rfl rfl rfl (by decide), List.forall_mem_cons.mpr ⟨am_callV hX C_X4_putBoard mo_X4_putBoard rfl lk_X6_122 dX6_set_58 rfl rfl rfl (by decide), List.forall_mem_cons.mpr ⟨am_callV hX C_X4_putWave mo_X4_putWave rfl lk_X6_125 dX6_set_69 rfl rfl rfl (by decide), List.forall_mem_cons.mpr ⟨am_callV hX C_X6_refuse mo_X6_refuse rfl lk_X6_65 dX6_set_86 rfl rfl rfl (by decide), fun _ h => absurd h List.not_mem_nil⟩⟩⟩⟩⟩)
abbrev ok_X6_set (X : am_X) (K : List Int32 → am_D → Prop) : Prop := am_ok X RX6 cX6_set 5 sh_VN fl_X6 kc_X6 none 1 cs_X6_set K
abbrev aw_X6_set (X : am_X) (pc : Nat) (ls : am_L) (st : List am_V) (D : am_D) : Prop := am_aw X 5 sh_VN pc ls st D
abbrev T_X6_set : am_TT := am_v2f V_N f_set
theorem B_X6_set : ∀ (X : am_X) (is : List Int32) (D : am_D) (K : List Int32 → am_D → Prop), ok_X6_set X K → T_X6_set is D K → is.length = (List.filter Option.isNone ([some 0, none, none] : List (Option Nat))).length → D.length = sh_VN.length → am_aw X 5 sh_VN 0 (am_l0 5 [some 0, none, none] is) [] D := by
  intro X is D K O hT _ _
  obtain ⟨o, σ, a, b, ⟨n0, n1, n2, n3, n4, n5, rfl, hn⟩, rfl, hK⟩ := hT
  obtain ⟨kk, ff, ll, hh, ii, e, hn9, hb2, hw9, hj, hp, hi⟩ := id hn
  cases e
  by_cases h0 : a = 0
  · subst h0
    refine am_begin rfl ?_
    refine st_iloadn O dX6_set_0 rfl (q := 1) rfl ?_
    refine st_if_eq O dX6_set_1 (t := 16) rfl (q := 4) rfl (fun c1 => ?_) (fun c1 => ?_)
    · refine st_iloadn O dX6_set_16 rfl (q := 17) rfl ?_
      refine st_if_ge O dX6_set_17 (t := 27) rfl (q := 20) rfl (fun c17 => ?_) (fun c17 => ?_)
      · refine st_iloadn O dX6_set_27 rfl (q := 28) rfl ?_
        refine st_if_ne O dX6_set_28 (t := 41) rfl (q := 31) rfl (fun c28 => ?_) (fun c28 => ?_)
        · exact absurd c28 (by decide)
        refine st_aloadn O dX6_set_31 rfl (q := 32) rfl ?_
        refine st_getr O dX6_set_32 fl_X6_10 rfl rfl rfl (q := 35) rfl ?_
        refine st_geti O dX6_set_35 fl_X6_116 rfl rfl rfl rfl (q := 38) rfl ?_
        refine st_goto O dX6_set_38 (t := 48) rfl ?_
        refine st_istoren O dX6_set_48 rfl (q := 49) rfl ?_
        refine st_iloadn O dX6_set_49 rfl (q := 50) rfl ?_
        refine st_if_ne O dX6_set_50 (t := 64) rfl (q := 53) rfl (fun c50 => ?_) (fun c50 => ?_)
        · exact absurd c50 (by decide)
        refine st_aloadn O dX6_set_53 rfl (q := 54) rfl ?_
        refine st_getr O dX6_set_54 fl_X6_10 rfl rfl rfl (q := 57) rfl ?_
        refine st_iloadn O dX6_set_57 rfl (q := 58) rfl ?_
        refine st_call O dX6_set_58 cs_X6_set_58 (q := 61) rfl (am_siq rfl rfl rfl (Nat.le_of_ble_eq_true rfl) rfl ?_)
        refine ⟨b, _, _, _, rfl, rfl, ?_⟩
        by_cases h2 : b ≤ nI 2
        · obtain ⟨v, hv, rfl⟩ := (le_iff 2 (by decide)).mp ⟨c17, h2⟩
          rw [show f_set 0 (nI v) σ = (nI (gb σ), gR σ (gN σ, (nI v).toNatClampNeg, σ.1.2.2)) from (if_pos (Or.inl rfl)).trans ((if_pos c17).trans ((if_pos rfl).trans (if_pos h2))), nI_clamp (by omega)] at hK
          refine Or.inl ⟨v, hv, rfl, ?_⟩
          refine am_nrq rfl rfl ?_
          refine st_goto O dX6_set_61 (t := 72) rfl ?_
          refine st_istore O dX6_set_72 rfl (q := 74) rfl ?_
          refine st_iload O dX6_set_74 rfl (q := 76) rfl ?_
          refine st_if_eq O dX6_set_76 (t := 83) rfl (q := 79) rfl (fun c76 => ?_) (fun c76 => ?_)
          · exact absurd c76 (by decide)
          refine st_iloadn O dX6_set_79 rfl (q := 80) rfl ?_
          refine st_goto O dX6_set_80 (t := 89) rfl ?_
          refine st_ireturn O dX6_set_89 ?_
          exact hK _ ⟨_, _, _, _, _, _, rfl, kk, ff, ll, hh, ii, rfl, hn9, hv, hw9, hj, hp, hi⟩
        · refine Or.inr ⟨fun z => h2 ((le_iff 2 (by decide)).mpr z).2, ?_⟩
          refine am_nrq rfl rfl ?_
          refine st_goto O dX6_set_61 (t := 72) rfl ?_
          refine st_istore O dX6_set_72 rfl (q := 74) rfl ?_
          refine st_iload O dX6_set_74 rfl (q := 76) rfl ?_
          refine st_if_eq O dX6_set_76 (t := 83) rfl (q := 79) rfl (fun c76 => ?_) (fun c76 => ?_)
          · refine st_aloadn O dX6_set_83 rfl (q := 84) rfl ?_
            refine st_bipush O dX6_set_84 am_bipush_m6 (q := 86) rfl ?_
            refine st_call O dX6_set_86 cs_X6_set_86 (q := 89) rfl (am_siq rfl rfl rfl (Nat.le_of_ble_eq_true rfl) rfl ?_)
            refine ⟨_, _, 6, by decide, by decide, rfl, rfl, ?_⟩
            refine am_nrq rfl rfl ?_
            rw [show f_set 0 b σ = rfs 6 σ from (if_pos (Or.inl rfl)).trans ((if_pos c17).trans ((if_pos rfl).trans (if_neg h2)))] at hK
            exact st_ireturn O dX6_set_89 (hK _ ⟨_, _, _, _, _, _, rfl, hn⟩)
          exact absurd c76 (by decide)
      refine st_aloadn O dX6_set_20 rfl (q := 21) rfl ?_
      refine st_bipush O dX6_set_21 am_bipush_m4 (q := 23) rfl ?_
      refine st_call O dX6_set_23 cs_X6_set_23 (q := 26) rfl (am_siq rfl rfl rfl (Nat.le_of_ble_eq_true rfl) rfl ?_)
      refine ⟨_, _, 4, by decide, by decide, rfl, rfl, ?_⟩
      refine am_nrq rfl rfl ?_
      rw [show f_set 0 b σ = rfs 4 σ from (if_pos (Or.inl rfl)).trans (if_neg c17)] at hK
      exact st_ireturn O dX6_set_26 (hK _ ⟨_, _, _, _, _, _, rfl, hn⟩)
    exact absurd c1 (by decide)
  · by_cases h1 : a = 1
    · subst h1
      refine am_begin rfl ?_
      refine st_iloadn O dX6_set_0 rfl (q := 1) rfl ?_
      refine st_if_eq O dX6_set_1 (t := 16) rfl (q := 4) rfl (fun c1 => ?_) (fun c1 => ?_)
      · exact absurd c1 (by decide)
      refine st_iloadn O dX6_set_4 rfl (q := 5) rfl ?_
      refine st_iconst O dX6_set_5 am_iconst_1 (q := 6) rfl ?_
      refine st_icmp_eq O dX6_set_6 (t := 16) rfl (q := 9) rfl (fun c6 => ?_) (fun c6 => ?_)
      · refine st_iloadn O dX6_set_16 rfl (q := 17) rfl ?_
        refine st_if_ge O dX6_set_17 (t := 27) rfl (q := 20) rfl (fun c17 => ?_) (fun c17 => ?_)
        · refine st_iloadn O dX6_set_27 rfl (q := 28) rfl ?_
          refine st_if_ne O dX6_set_28 (t := 41) rfl (q := 31) rfl (fun c28 => ?_) (fun c28 => ?_)
          · refine st_aloadn O dX6_set_41 rfl (q := 42) rfl ?_
            refine st_getr O dX6_set_42 fl_X6_10 rfl rfl rfl (q := 45) rfl ?_
            refine st_geti O dX6_set_45 fl_X6_119 rfl rfl rfl rfl (q := 48) rfl ?_
            refine st_istoren O dX6_set_48 rfl (q := 49) rfl ?_
            refine st_iloadn O dX6_set_49 rfl (q := 50) rfl ?_
            refine st_if_ne O dX6_set_50 (t := 64) rfl (q := 53) rfl (fun c50 => ?_) (fun c50 => ?_)
            · refine st_aloadn O dX6_set_64 rfl (q := 65) rfl ?_
              refine st_getr O dX6_set_65 fl_X6_10 rfl rfl rfl (q := 68) rfl ?_
              refine st_iloadn O dX6_set_68 rfl (q := 69) rfl ?_
              refine st_call O dX6_set_69 cs_X6_set_69 (q := 72) rfl (am_siq rfl rfl rfl (Nat.le_of_ble_eq_true rfl) rfl ?_)
              refine ⟨b, _, _, _, rfl, rfl, ?_⟩
              by_cases h2 : b ≤ nI 9
              · obtain ⟨v, hv, rfl⟩ := (le_iff 9 (by decide)).mp ⟨c17, h2⟩
                rw [show f_set 1 (nI v) σ = (nI (gw σ), gR σ (gN σ, gb σ, (nI v).toNatClampNeg, σ.1.2.2.2)) from (if_pos (Or.inr rfl)).trans ((if_pos c17).trans ((if_neg (by decide)).trans (if_pos h2))), nI_clamp (by omega)] at hK
                refine Or.inl ⟨v, hv, rfl, ?_⟩
                refine am_nrq rfl rfl ?_
                refine st_istore O dX6_set_72 rfl (q := 74) rfl ?_
                refine st_iload O dX6_set_74 rfl (q := 76) rfl ?_
                refine st_if_eq O dX6_set_76 (t := 83) rfl (q := 79) rfl (fun c76 => ?_) (fun c76 => ?_)
                · exact absurd c76 (by decide)
                refine st_iloadn O dX6_set_79 rfl (q := 80) rfl ?_
                refine st_goto O dX6_set_80 (t := 89) rfl ?_
                refine st_ireturn O dX6_set_89 ?_
                exact hK _ ⟨_, _, _, _, _, _, rfl, kk, ff, ll, hh, ii, rfl, hn9, hb2, hv, hj, hp, hi⟩
              · refine Or.inr ⟨fun z => h2 ((le_iff 9 (by decide)).mpr z).2, ?_⟩
                refine am_nrq rfl rfl ?_
                refine st_istore O dX6_set_72 rfl (q := 74) rfl ?_
                refine st_iload O dX6_set_74 rfl (q := 76) rfl ?_
                refine st_if_eq O dX6_set_76 (t := 83) rfl (q := 79) rfl (fun c76 => ?_) (fun c76 => ?_)
                · refine st_aloadn O dX6_set_83 rfl (q := 84) rfl ?_
                  refine st_bipush O dX6_set_84 am_bipush_m6 (q := 86) rfl ?_
                  refine st_call O dX6_set_86 cs_X6_set_86 (q := 89) rfl (am_siq rfl rfl rfl (Nat.le_of_ble_eq_true rfl) rfl ?_)
                  refine ⟨_, _, 6, by decide, by decide, rfl, rfl, ?_⟩
                  refine am_nrq rfl rfl ?_
                  rw [show f_set 1 b σ = rfs 6 σ from (if_pos (Or.inr rfl)).trans ((if_pos c17).trans ((if_neg (by decide)).trans (if_neg h2)))] at hK
                  exact st_ireturn O dX6_set_89 (hK _ ⟨_, _, _, _, _, _, rfl, hn⟩)
                exact absurd c76 (by decide)
            exact absurd c50 (by decide)
          exact absurd c28 (by decide)
        refine st_aloadn O dX6_set_20 rfl (q := 21) rfl ?_
        refine st_bipush O dX6_set_21 am_bipush_m4 (q := 23) rfl ?_
        refine st_call O dX6_set_23 cs_X6_set_23 (q := 26) rfl (am_siq rfl rfl rfl (Nat.le_of_ble_eq_true rfl) rfl ?_)
        refine ⟨_, _, 4, by decide, by decide, rfl, rfl, ?_⟩
        refine am_nrq rfl rfl ?_
        rw [show f_set 1 b σ = rfs 4 σ from (if_pos (Or.inr rfl)).trans (if_neg c17)] at hK
        exact st_ireturn O dX6_set_26 (hK _ ⟨_, _, _, _, _, _, rfl, hn⟩)
      exact absurd c6 (by decide)
    · refine am_begin rfl ?_
      refine st_iloadn O dX6_set_0 rfl (q := 1) rfl ?_
      refine st_if_eq O dX6_set_1 (t := 16) rfl (q := 4) rfl (fun c1 => ?_) (fun c1 => ?_)
      · exact absurd c1 h0
      refine st_iloadn O dX6_set_4 rfl (q := 5) rfl ?_
      refine st_iconst O dX6_set_5 am_iconst_1 (q := 6) rfl ?_
      refine st_icmp_eq O dX6_set_6 (t := 16) rfl (q := 9) rfl (fun c6 => ?_) (fun c6 => ?_)
      · exact absurd c6 h1
      refine st_aloadn O dX6_set_9 rfl (q := 10) rfl ?_
      refine st_bipush O dX6_set_10 am_bipush_m2 (q := 12) rfl ?_
      refine st_call O dX6_set_12 cs_X6_set_12 (q := 15) rfl (am_siq rfl rfl rfl (Nat.le_of_ble_eq_true rfl) rfl ?_)
      refine ⟨_, _, 2, by decide, by decide, rfl, rfl, ?_⟩
      refine am_nrq rfl rfl ?_
      rw [show f_set a b σ = rfs 2 σ from if_neg (fun z => z.elim h0 h1)] at hK
      exact st_ireturn O dX6_set_15 (hK _ ⟨_, _, _, _, _, _, rfl, hn⟩)
theorem C_X6_set : am_ctr yX6_set cX6_set 5 (some .int) 1 21 sh_VN [some 0, none, none] T_X6_set := am_mk (by decide) (Or.inr (Or.inl ⟨rfl, rfl⟩)) (by decide) (by decide) (by decide) fl_X6_ok kc_X6_ok ck_X6_set B_X6_set
def cs_X6_wider : Nat → List am_V → am_D → am_K → Prop := am_cs [(24, am_site 1 [none] T_X2_secondsOf [] []), (34, am_site 2 [none, none] T_J9_max_7cf53 [] [])]
theorem cs_X6_wider_24 : cs_X6_wider 24 = am_site 1 [none] T_X2_secondsOf [] [] := rfl
theorem cs_X6_wider_34 : cs_X6_wider 34 = am_site 2 [none, none] T_J9_max_7cf53 [] [] := rfl
theorem ck_X6_wider : ∀ X : am_X, am_cx X RX6 cX6_wider 4 1 21 → ∀ pc, am_csok X 4 sh_VN pc (cs_X6_wider pc) := fun X hX => am_cs_ok (List.forall_mem_cons.mpr ⟨am_callS hX C_X2_secondsOf mo_X2_secondsOf rfl lk_X6_105 dX6_wider_24 rfl (by decide), List.forall_mem_cons.mpr ⟨am_callMax hX lk_X6_207 dX6_wider_34 (by decide), fun _ h => absurd h List.not_mem_nil⟩⟩)
abbrev ok_X6_wider (X : am_X) (K : List Int32 → am_D → Prop) : Prop := am_ok X RX6 cX6_wider 4 sh_VN fl_X6 kc_X6 none 1 cs_X6_wider K
abbrev aw_X6_wider (X : am_X) (pc : Nat) (ls : am_L) (st : List am_V) (D : am_D) : Prop := am_aw X 4 sh_VN pc ls st D
abbrev T_X6_wider : am_TT := am_v0 V_N f_wider
theorem B_X6_wider : ∀ (X : am_X) (is : List Int32) (D : am_D) (K : List Int32 → am_D → Prop), ok_X6_wider X K → T_X6_wider is D K → is.length = (List.filter Option.isNone ([some 0] : List (Option Nat))).length → D.length = sh_VN.length → am_aw X 4 sh_VN 0 (am_l0 4 [some 0] is) [] D := by
  intro X is D K O hT _ _
  obtain ⟨o, σ, ⟨n0, n1, n2, n3, n4, n5, rfl, hn⟩, rfl, hK⟩ := hT
  obtain ⟨kk, ff, ll, hh, ii, e, hn9, hb2, hw9, hj, hp, hi⟩ := id hn
  cases e
  have eN : gN σ = σ.1.1 := rfl
  have loop : ∀ d m x3, gN σ - m = d → m ≤ gN σ → am_aw X 4 sh_VN 4 [some (.inr 0), some (.inl (nI (sm (fun c => sc (gk σ c) - max 1 (sc (gk σ c) - 1)) m))), some (.inl (nI m)), x3] [] [.inl [o, nI σ.2.2.2.1.length], .inl [nI σ.1.1, nI σ.1.2.1, nI σ.1.2.2.1], .inr kk, .inr ff, .inr ll, .inr hh, .inr ii, .inr σ.2.2.2.2] := by
    intro d
    induction d with
    | zero =>
      intro m x3 hd hm
      have e : m = gN σ := by omega
      subst e
      refine st_iloadn O dX6_wider_4 rfl (q := 5) rfl ?_
      refine st_aloadn O dX6_wider_5 rfl (q := 6) rfl ?_
      refine st_getr O dX6_wider_6 fl_X6_10 rfl rfl rfl (q := 9) rfl ?_
      refine st_geti O dX6_wider_9 fl_X6_158 rfl rfl rfl rfl (q := 12) rfl ?_
      refine sn_icmp_ge O dX6_wider_12 (t := 46) rfl (q := 15) rfl (by omega) (by omega) (fun c12 => ?_) (fun c12 => ?_)
      · refine st_iloadn O dX6_wider_46 rfl (q := 47) rfl ?_
        refine st_ireturn O dX6_wider_47 ?_
        exact hK _ ⟨_, _, _, _, _, _, rfl, hn⟩
      omega
    | succ d ih =>
      intro m x3 hd hm
      have h3 := (hj m (by omega)).1
      have h4 := sc_le (gk σ m)
      refine st_iloadn O dX6_wider_4 rfl (q := 5) rfl ?_
      refine st_aloadn O dX6_wider_5 rfl (q := 6) rfl ?_
      refine st_getr O dX6_wider_6 fl_X6_10 rfl rfl rfl (q := 9) rfl ?_
      refine st_geti O dX6_wider_9 fl_X6_158 rfl rfl rfl rfl (q := 12) rfl ?_
      refine sn_icmp_ge O dX6_wider_12 (t := 46) rfl (q := 15) rfl (by omega) (by omega) (fun c12 => ?_) (fun c12 => ?_)
      · omega
      refine st_aloadn O dX6_wider_15 rfl (q := 16) rfl ?_
      refine st_getr O dX6_wider_16 fl_X6_10 rfl rfl rfl (q := 19) rfl ?_
      refine st_getr O dX6_wider_19 fl_X6_87 rfl rfl rfl (q := 22) rfl ?_
      refine st_iloadn O dX6_wider_22 rfl (q := 23) rfl ?_
      refine sn_ald O dX6_wider_23 rfl rfl rfl ⟨by omega, by decide⟩ h3.1 (q := 24) rfl ?_
      refine st_callS O dX6_wider_24 cs_X6_wider_24 (q := 27) rfl (am_sipq rfl rfl rfl (Nat.le_of_ble_eq_true rfl) rfl (r := nI (sc (gk σ m))) ⟨_, h3.2, rfl, rfl⟩ ?_)
      refine st_istoren O dX6_wider_27 rfl (q := 28) rfl ?_
      refine st_iloadn O dX6_wider_28 rfl (q := 29) rfl ?_
      refine st_iloadn O dX6_wider_29 rfl (q := 30) rfl ?_
      refine st_iconst O dX6_wider_30 am_iconst_1 (q := 31) rfl ?_
      refine st_iloadn O dX6_wider_31 rfl (q := 32) rfl ?_
      refine st_iconst O dX6_wider_32 am_iconst_1 (q := 33) rfl ?_
      refine st_isub O dX6_wider_33 (by first | exact pk_sub (by omega) | exact rfl) (q := 34) rfl ?_
      refine st_callS O dX6_wider_34 cs_X6_wider_34 (q := 37) rfl (am_sipq rfl rfl rfl (Nat.le_of_ble_eq_true rfl) rfl (r := nI (max 1 (sc (gk σ m) - 1))) ⟨_, _, rfl, (nI_max (by decide) (by omega)).symm⟩ ?_)
      refine st_isub O dX6_wider_37 (by first | exact pk_sub (by omega) | exact rfl) (q := 38) rfl ?_
      refine st_iadd O dX6_wider_38 (by first | exact nI_add _ _ | exact rfl) (q := 39) rfl ?_
      refine st_istoren O dX6_wider_39 rfl (q := 40) rfl ?_
      refine st_iinc O dX6_wider_40 rfl (by first | exact am_ii1 _ | exact rfl) rfl (q := 43) rfl ?_
      refine st_goto O dX6_wider_43 (t := 4) rfl ?_
      exact ih (m + 1) _ (by omega) (by omega)
  refine am_begin rfl ?_
  refine st_iconst O dX6_wider_0 am_iconst_0 (q := 1) rfl ?_
  refine st_istoren O dX6_wider_1 rfl (q := 2) rfl ?_
  refine st_iconst O dX6_wider_2 am_iconst_0 (q := 3) rfl ?_
  refine st_istoren O dX6_wider_3 rfl (q := 4) rfl ?_
  exact loop (gN σ) 0 _ (by omega) (by omega)
theorem C_X6_wider : am_ctr yX6_wider cX6_wider 4 (some .int) 1 21 sh_VN [some 0] T_X6_wider := am_mk (by decide) (Or.inr (Or.inl ⟨rfl, rfl⟩)) (by decide) (by decide) (by decide) fl_X6_ok kc_X6_ok ck_X6_wider B_X6_wider
