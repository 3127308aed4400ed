/-! the class's own methods: who loses, two, lots -/
def V_H (o : Int32) (σ : Sg) (D : am_D) : Prop := ∃ n0 n1 n2 n3 n4 n5 sd b0 b1 b2 b3 b4 b5 s0 s1 s2 s3 s4 s5 w1 w2, D = [.inl [o, nI σ.2.2.2.1.length], n0, n1, n2, n3, n4, n5, .inr σ.2.2.2.2, .inl [sd], b0, b1, b2, b3, b4, b5, s0, s1, s2, s3, s4, s5, .inr w1, .inr w2] ∧ rS σ.1 [n0, n1, n2, n3, n4, n5] ∧ rF [b0, b1, b2, b3, b4, b5] ∧ pF [s0, s1, s2, s3, s4, s5]
theorem xi_two {n : Nat} (hn : n ≤ 9) {a b : Int32} {i j : Nat} (h1 : xi n a = some i) (h2 : xi n b = some j) (hne : ¬ i = j) : ∃ i j, i < n ∧ j < n ∧ i ≠ j ∧ a = nI i ∧ b = nI j := by
  obtain ⟨a1, a2⟩ := xi_some hn h1
  obtain ⟨b1, b2⟩ := xi_some hn h2
  exact ⟨i, j, a1, b1, hne, a2, b2⟩
theorem xi_twoN {n : Nat} (hn : n ≤ 9) {a b : Int32} (h : ∀ i j, xi n a = some i → xi n b = some j → i = j) : ¬ ∃ i j, i < n ∧ j < n ∧ i ≠ j ∧ a = nI i ∧ b = nI j := by
  rintro ⟨i, j, h1, h2, h3, rfl, rfl⟩
  exact h3 (h i j (xi_nI hn h1) (xi_nI hn h2))
def cs_X6_loses : Nat → List am_V → am_D → am_K → Prop := am_cs [(6, am_site 3 [some 0, none, none] T_X4_areTwo [1] [1, 2, 3, 4, 5, 6]), (16, am_site 2 [some 0, none] T_X6_refuse [0, 7] [0, 7, 1, 23, 24, 25, 26, 27, 28, 8]), (31, am_site 4 [some 0, some 7, none, none] T_X1_loss [8, 15, 16, 17, 18, 19, 20, 1, 2, 3, 4, 5, 6] [8, 15, 16, 17, 18, 19, 20, 1, 2, 3, 4, 5, 6, 9, 21, 22])]
theorem cs_X6_loses_6 : cs_X6_loses 6 = am_site 3 [some 0, none, none] T_X4_areTwo [1] [1, 2, 3, 4, 5, 6] := rfl
theorem cs_X6_loses_16 : cs_X6_loses 16 = am_site 2 [some 0, none] T_X6_refuse [0, 7] [0, 7, 1, 23, 24, 25, 26, 27, 28, 8] := rfl
theorem cs_X6_loses_31 : cs_X6_loses 31 = am_site 4 [some 0, some 7, none, none] T_X1_loss [8, 15, 16, 17, 18, 19, 20, 1, 2, 3, 4, 5, 6] [8, 15, 16, 17, 18, 19, 20, 1, 2, 3, 4, 5, 6, 9, 21, 22] := rfl
theorem ck_X6_loses : ∀ X : am_X, am_cx X RX6 cX6_loses 3 5 115 → ∀ pc, am_csok X 3 sh_VH pc (cs_X6_loses pc) := fun X hX => am_cs_ok (List.forall_mem_cons.mpr ⟨am_callV hX C_X4_areTwo mo_X4_areTwo rfl lk_X6_186 dX6_loses_6 rfl rfl rfl (by decide), List.forall_mem_cons.mpr ⟨am_callV hX C_X6_refuse mo_X6_refuse rfl lk_X6_65 dX6_loses_16 rfl rfl rfl (by decide), List.forall_mem_cons.mpr ⟨am_callV hX C_X1_loss mo_X1_loss rfl lk_X6_191 dX6_loses_31 rfl rfl rfl (by decide), fun _ h => absurd h List.not_mem_nil⟩⟩⟩)
abbrev ok_X6_loses (X : am_X) (K : List Int32 → am_D → Prop) : Prop := am_ok X RX6 cX6_loses 3 sh_VH fl_X6 kc_X6 none 1 cs_X6_loses K
abbrev aw_X6_loses (X : am_X) (pc : Nat) (ls : am_L) (st : List am_V) (D : am_D) : Prop := am_aw X 3 sh_VH pc ls st D
abbrev T_X6_loses : am_TT := am_v2f V_H f_loses
set_option maxHeartbeats 200000 in
theorem B_X6_loses : ∀ (X : am_X) (is : List Int32) (D : am_D) (K : List Int32 → am_D → Prop), ok_X6_loses X K → T_X6_loses is D K → is.length = (List.filter Option.isNone ([some 0, none, none] : List (Option Nat))).length → D.length = sh_VH.length → am_aw X 3 sh_VH 0 (am_l0 3 [some 0, none, none] is) [] D := by
  intro X is D K O hT _ _
  obtain ⟨o, σ, a, b, ⟨n0, n1, n2, n3, n4, n5, sd, b0, b1, b2, b3, b4, b5, s0, s1, s2, s3, s4, s5, w1, w2, rfl, hn, hb, hs⟩, rfl, hK⟩ := hT
  obtain ⟨kk, ff, ll, hh, ii, e, hn9, hb2, hw9, hj, hp, hi⟩ := id hn
  cases e
  have bad : (∀ i j, xi (gN σ) a = some i → xi (gN σ) b = some j → i = j) → f_loses a b σ = (1000000000 - (rfs 1 σ).1, (rfs 1 σ).2) → am_aw X 3 sh_VH 0 [some (.inr 0), some (.inl a), some (.inl b)] [] [.inl [o, nI σ.2.2.2.1.length], .inl [nI σ.1.1, nI σ.1.2.1, nI σ.1.2.2.1], .inr kk, .inr ff, .inr ll, .inr hh, .inr ii, .inr σ.2.2.2.2, .inl [sd], b0, b1, b2, b3, b4, b5, s0, s1, s2, s3, s4, s5, .inr w1, .inr w2] := by
    intro h he
    rw [he] at hK
    refine am_begin rfl ?_
    refine st_aloadn O dX6_loses_0 rfl (q := 1) rfl ?_
    refine st_getr O dX6_loses_1 fl_X6_10 rfl rfl rfl (q := 4) rfl ?_
    refine st_iloadn O dX6_loses_4 rfl (q := 5) rfl ?_
    refine st_iloadn O dX6_loses_5 rfl (q := 6) rfl ?_
    refine st_call O dX6_loses_6 cs_X6_loses_6 (q := 9) rfl (am_sipq rfl rfl rfl (Nat.le_of_ble_eq_true rfl) rfl (r := 0) ⟨a, b, gN σ, _, hn9, rfl, rfl, Or.inr ⟨xi_twoN hn9 h, rfl⟩⟩ ?_)
    refine st_if_ne O dX6_loses_9 (t := 21) rfl (q := 12) rfl (fun c9 => ?_) (fun c9 => ?_)
    · exact absurd c9 (by decide)
    refine st_ldc O dX6_loses_12 kc_X6_190 (q := 14) rfl ?_
    refine st_aloadn O dX6_loses_14 rfl (q := 15) rfl ?_
    refine st_iconst O dX6_loses_15 am_iconst_m1 (q := 16) rfl ?_
    refine st_call O dX6_loses_16 cs_X6_loses_16 (q := 19) rfl (am_siq rfl rfl rfl (Nat.le_of_ble_eq_true rfl) rfl ?_)
    refine ⟨_, _, 1, by decide, by decide, rfl, rfl, ?_⟩
    refine am_nrp rfl rfl rfl rfl ?_
    refine st_isub O dX6_loses_19 rfl (q := 20) rfl ?_
    refine st_ireturn O dX6_loses_20 ?_
    exact hK _ ⟨_, _, _, _, _, _, _, _, _, _, _, _, _, _, _, _, _, _, _, _, _, rfl, hn, hb, hs⟩
  cases hx : xi (gN σ) a with
  | none => exact bad (fun i j h1 _ => by rw [hx] at h1; cases h1) (by unfold f_loses; rw [hx])
  | some i =>
    cases hy : xi (gN σ) b with
    | none => exact bad (fun i j _ h1 => by rw [hy] at h1; cases h1) (by unfold f_loses; rw [hx, hy])
    | some j =>
      by_cases hij : i = j
      · exact bad (fun i' j' h1 h2 => by rw [hx] at h1; rw [hy] at h2; cases h1; cases h2; exact hij) (by unfold f_loses; rw [hx, hy]; exact if_pos hij)
      · rw [show f_loses a b σ = (iI (lsz (gb σ) (gw σ) (gk σ) (gf σ) (gl σ) (gq σ) i j), σ) by unfold f_loses; rw [hx, hy]; exact if_neg hij] at hK
        have h2 := xi_two hn9 hx hy hij
        obtain ⟨hi9, rfl⟩ := xi_some hn9 hx
        obtain ⟨hj9, rfl⟩ := xi_some hn9 hy
        refine am_begin rfl ?_
        refine st_aloadn O dX6_loses_0 rfl (q := 1) rfl ?_
        refine st_getr O dX6_loses_1 fl_X6_10 rfl rfl rfl (q := 4) rfl ?_
        refine st_iloadn O dX6_loses_4 rfl (q := 5) rfl ?_
        refine st_iloadn O dX6_loses_5 rfl (q := 6) rfl ?_
        refine st_call O dX6_loses_6 cs_X6_loses_6 (q := 9) rfl (am_sipq rfl rfl rfl (Nat.le_of_ble_eq_true rfl) rfl (r := 1) ⟨_, _, gN σ, _, hn9, rfl, rfl, Or.inl ⟨h2, rfl⟩⟩ ?_)
        refine st_if_ne O dX6_loses_9 (t := 21) rfl (q := 12) rfl (fun c9 => ?_) (fun c9 => ?_)
        · refine st_aloadn O dX6_loses_21 rfl (q := 22) rfl ?_
          refine st_getr O dX6_loses_22 fl_X6_61 rfl rfl rfl (q := 25) rfl ?_
          refine st_aloadn O dX6_loses_25 rfl (q := 26) rfl ?_
          refine st_getr O dX6_loses_26 fl_X6_10 rfl rfl rfl (q := 29) rfl ?_
          refine st_iloadn O dX6_loses_29 rfl (q := 30) rfl ?_
          refine st_iloadn O dX6_loses_30 rfl (q := 31) rfl ?_
          refine st_call O dX6_loses_31 cs_X6_loses_31 (q := 34) rfl (am_siq rfl rfl rfl (Nat.le_of_ble_eq_true rfl) rfl ?_)
          refine ⟨gN σ, gb σ, gw σ, gk σ, gf σ, gl σ, gh σ, gq σ, [_, _, _, _, _, _], _, _, i, j, rfl, hi9, hj9, hij, rfl, hs, hn, fun d1 h1 => ?_⟩
          obtain ⟨y0, y1, y2, y3, y4, y5, rfl⟩ := pF_lit6 h1
          refine am_nrp rfl rfl rfl rfl ?_
          refine st_ireturn O dX6_loses_34 ?_
          exact hK _ ⟨_, _, _, _, _, _, _, _, _, _, _, _, _, _, _, _, _, _, _, _, _, rfl, hn, hb, h1⟩
        exact absurd c9 (by decide)
theorem C_X6_loses : am_ctr yX6_loses cX6_loses 3 (some .int) 5 115 sh_VH [some 0, none, none] T_X6_loses := am_mk (by decide) (Or.inr (Or.inl ⟨rfl, rfl⟩)) (by decide) (by decide) (by decide) fl_X6_ok kc_X6_ok ck_X6_loses B_X6_loses
def cs_X6_byWhom : Nat → List am_V → am_D → am_K → Prop := am_cs [(5, am_site 2 [some 0, none] T_X4_has [1] [1, 2, 3, 4, 5, 6]), (13, am_site 2 [some 0, none] T_X6_refuse [0, 7] [0, 7, 1, 23, 24, 25, 26, 27, 28, 8]), (26, am_site 3 [some 0, some 7, none] T_X1_greatestLossBy [8, 15, 16, 17, 18, 19, 20, 1, 2, 3, 4, 5, 6] [8, 15, 16, 17, 18, 19, 20, 1, 2, 3, 4, 5, 6, 9, 21, 22])]
theorem cs_X6_byWhom_5 : cs_X6_byWhom 5 = am_site 2 [some 0, none] T_X4_has [1] [1, 2, 3, 4, 5, 6] := rfl
theorem cs_X6_byWhom_13 : cs_X6_byWhom 13 = am_site 2 [some 0, none] T_X6_refuse [0, 7] [0, 7, 1, 23, 24, 25, 26, 27, 28, 8] := rfl
theorem cs_X6_byWhom_26 : cs_X6_byWhom 26 = am_site 3 [some 0, some 7, none] T_X1_greatestLossBy [8, 15, 16, 17, 18, 19, 20, 1, 2, 3, 4, 5, 6] [8, 15, 16, 17, 18, 19, 20, 1, 2, 3, 4, 5, 6, 9, 21, 22] := rfl
theorem ck_X6_byWhom : ∀ X : am_X, am_cx X RX6 cX6_byWhom 2 6 141 → ∀ pc, am_csok X 2 sh_VH pc (cs_X6_byWhom pc) := fun X hX => am_cs_ok (List.forall_mem_cons.mpr ⟨am_callV hX C_X4_has mo_X4_has rfl lk_X6_83 dX6_byWhom_5 rfl rfl rfl (by decide), List.forall_mem_cons.mpr ⟨am_callV hX C_X6_refuse mo_X6_refuse rfl lk_X6_65 dX6_byWhom_13 rfl rfl rfl (by decide), List.forall_mem_cons.mpr ⟨am_callV hX C_X1_greatestLossBy mo_X1_greatestLossBy rfl lk_X6_194 dX6_byWhom_26 rfl rfl rfl (by decide), fun _ h => absurd h List.not_mem_nil⟩⟩⟩)
abbrev ok_X6_byWhom (X : am_X) (K : List Int32 → am_D → Prop) : Prop := am_ok X RX6 cX6_byWhom 2 sh_VH fl_X6 kc_X6 none 1 cs_X6_byWhom K
abbrev aw_X6_byWhom (X : am_X) (pc : Nat) (ls : am_L) (st : List am_V) (D : am_D) : Prop := am_aw X 2 sh_VH pc ls st D
abbrev T_X6_byWhom : am_TT := am_v1f V_H f_byWhom
set_option maxHeartbeats 200000 in
theorem B_X6_byWhom : ∀ (X : am_X) (is : List Int32) (D : am_D) (K : List Int32 → am_D → Prop), ok_X6_byWhom X K → T_X6_byWhom is D K → is.length = (List.filter Option.isNone ([some 0, none] : List (Option Nat))).length → D.length = sh_VH.length → am_aw X 2 sh_VH 0 (am_l0 2 [some 0, none] is) [] D := by
  intro X is D K O hT _ _
  obtain ⟨o, σ, a, ⟨n0, n1, n2, n3, n4, n5, sd, b0, b1, b2, b3, b4, b5, s0, s1, s2, s3, s4, s5, w1, w2, rfl, hn, hb, hs⟩, rfl, hK⟩ := hT
  obtain ⟨kk, ff, ll, hh, ii, e, hn9, hb2, hw9, hj, hp, hi⟩ := id hn
  cases e
  cases hx : xi (gN σ) a with
  | none =>
    refine am_begin rfl ?_
    refine st_aloadn O dX6_byWhom_0 rfl (q := 1) rfl ?_
    refine st_getr O dX6_byWhom_1 fl_X6_10 rfl rfl rfl (q := 4) rfl ?_
    refine st_iloadn O dX6_byWhom_4 rfl (q := 5) rfl ?_
    refine st_call O dX6_byWhom_5 cs_X6_byWhom_5 (q := 8) rfl (am_sipq rfl rfl rfl (Nat.le_of_ble_eq_true rfl) rfl (r := 0) ⟨a, gN σ, _, hn9, rfl, rfl, Or.inr ⟨xi_none hn9 hx, rfl⟩⟩ ?_)
    refine st_if_ne O dX6_byWhom_8 (t := 17) rfl (q := 11) rfl (fun c8 => ?_) (fun c8 => ?_)
    · exact absurd c8 (by decide)
    refine st_aloadn O dX6_byWhom_11 rfl (q := 12) rfl ?_
    refine st_iconst O dX6_byWhom_12 am_iconst_m1 (q := 13) rfl ?_
    refine st_call O dX6_byWhom_13 cs_X6_byWhom_13 (q := 16) rfl (am_siq rfl rfl rfl (Nat.le_of_ble_eq_true rfl) rfl ?_)
    refine ⟨_, _, 1, by decide, by decide, rfl, rfl, ?_⟩
    refine am_nrq rfl rfl ?_
    rw [show f_byWhom a σ = rfs 1 σ from by unfold f_byWhom; rw [hx]] at hK
    exact st_ireturn O dX6_byWhom_16 (hK _ ⟨_, _, _, _, _, _, _, _, _, _, _, _, _, _, _, _, _, _, _, _, _, rfl, hn, hb, hs⟩)
  | some j =>
    rw [show f_byWhom a σ = (oI (lsM (lsz (gb σ) (gw σ) (gk σ) (gf σ) (gl σ) (gq σ) j) j (gN σ)).1, σ) by unfold f_byWhom; rw [hx]] at hK
    obtain ⟨hj9, rfl⟩ := xi_some hn9 hx
    refine am_begin rfl ?_
    refine st_aloadn O dX6_byWhom_0 rfl (q := 1) rfl ?_
    refine st_getr O dX6_byWhom_1 fl_X6_10 rfl rfl rfl (q := 4) rfl ?_
    refine st_iloadn O dX6_byWhom_4 rfl (q := 5) rfl ?_
    refine st_call O dX6_byWhom_5 cs_X6_byWhom_5 (q := 8) rfl (am_sipq rfl rfl rfl (Nat.le_of_ble_eq_true rfl) rfl (r := 1) ⟨_, gN σ, _, hn9, rfl, rfl, Or.inl ⟨⟨j, hj9, rfl⟩, rfl⟩⟩ ?_)
    refine st_if_ne O dX6_byWhom_8 (t := 17) rfl (q := 11) rfl (fun c8 => ?_) (fun c8 => ?_)
    · refine st_aloadn O dX6_byWhom_17 rfl (q := 18) rfl ?_
      refine st_getr O dX6_byWhom_18 fl_X6_61 rfl rfl rfl (q := 21) rfl ?_
      refine st_aloadn O dX6_byWhom_21 rfl (q := 22) rfl ?_
      refine st_getr O dX6_byWhom_22 fl_X6_10 rfl rfl rfl (q := 25) rfl ?_
      refine st_iloadn O dX6_byWhom_25 rfl (q := 26) rfl ?_
      refine st_call O dX6_byWhom_26 cs_X6_byWhom_26 (q := 29) rfl (am_siq rfl rfl rfl (Nat.le_of_ble_eq_true rfl) rfl ?_)
      refine ⟨gN σ, gb σ, gw σ, gk σ, gf σ, gl σ, gh σ, gq σ, [_, _, _, _, _, _], _, _, j, rfl, hj9, rfl, hs, hn, fun d1 h1 => ?_⟩
      obtain ⟨y0, y1, y2, y3, y4, y5, rfl⟩ := pF_lit6 h1
      refine am_nrp rfl rfl rfl rfl ?_
      refine st_ireturn O dX6_byWhom_29 ?_
      exact hK _ ⟨_, _, _, _, _, _, _, _, _, _, _, _, _, _, _, _, _, _, _, _, _, rfl, hn, hb, h1⟩
    exact absurd c8 (by decide)
theorem C_X6_byWhom : am_ctr yX6_byWhom cX6_byWhom 2 (some .int) 6 141 sh_VH [some 0, none] T_X6_byWhom := am_mk (by decide) (Or.inr (Or.inl ⟨rfl, rfl⟩)) (by decide) (by decide) (by decide) fl_X6_ok kc_X6_ok ck_X6_byWhom B_X6_byWhom
def cs_X6_two : Nat → List am_V → am_D → am_K → Prop := am_cs [(6, am_site 3 [some 0, none, none] T_X4_areTwo [1] [1, 2, 3, 4, 5, 6]), (14, am_site 2 [some 0, none] T_X6_refuse [0, 7] [0, 7, 1, 23, 24, 25, 26, 27, 28, 8]), (28, am_site 4 [some 0, some 15, none, none] T_X1_steadyPair [8, 9, 10, 11, 12, 13, 14, 15, 16, 17, 18, 19, 20, 21, 22, 1, 2, 3, 4, 5, 6] [8, 9, 10, 11, 12, 13, 14, 15, 16, 17, 18, 19, 20, 21, 22, 1, 2, 3, 4, 5, 6])]
theorem cs_X6_two_6 : cs_X6_two 6 = am_site 3 [some 0, none, none] T_X4_areTwo [1] [1, 2, 3, 4, 5, 6] := rfl
theorem cs_X6_two_14 : cs_X6_two 14 = am_site 2 [some 0, none] T_X6_refuse [0, 7] [0, 7, 1, 23, 24, 25, 26, 27, 28, 8] := rfl
theorem cs_X6_two_28 : cs_X6_two 28 = am_site 4 [some 0, some 15, none, none] T_X1_steadyPair [8, 9, 10, 11, 12, 13, 14, 15, 16, 17, 18, 19, 20, 21, 22, 1, 2, 3, 4, 5, 6] [8, 9, 10, 11, 12, 13, 14, 15, 16, 17, 18, 19, 20, 21, 22, 1, 2, 3, 4, 5, 6] := rfl
theorem ck_X6_two : ∀ X : am_X, am_cx X RX6 cX6_two 3 5 117 → ∀ pc, am_csok X 3 sh_VH pc (cs_X6_two pc) := fun X hX => am_cs_ok (List.forall_mem_cons.mpr ⟨am_callV hX C_X4_areTwo mo_X4_areTwo rfl lk_X6_186 dX6_two_6 rfl rfl rfl (by decide), List.forall_mem_cons.mpr ⟨am_callV hX C_X6_refuse mo_X6_refuse rfl lk_X6_65 dX6_two_14 rfl rfl rfl (by decide), List.forall_mem_cons.mpr ⟨am_callV hX C_X1_steadyPair mo_X1_steadyPair rfl lk_X6_198 dX6_two_28 rfl rfl rfl (by decide), fun _ h => absurd h List.not_mem_nil⟩⟩⟩)
abbrev ok_X6_two (X : am_X) (K : List Int32 → am_D → Prop) : Prop := am_ok X RX6 cX6_two 3 sh_VH fl_X6 kc_X6 none 1 cs_X6_two K
abbrev aw_X6_two (X : am_X) (pc : Nat) (ls : am_L) (st : List am_V) (D : am_D) : Prop := am_aw X 3 sh_VH pc ls st D
abbrev T_X6_two : am_TT := am_v2f V_H f_two
set_option maxHeartbeats 200000 in
theorem B_X6_two : ∀ (X : am_X) (is : List Int32) (D : am_D) (K : List Int32 → am_D → Prop), ok_X6_two X K → T_X6_two is D K → is.length = (List.filter Option.isNone ([some 0, none, none] : List (Option Nat))).length → D.length = sh_VH.length → am_aw X 3 sh_VH 0 (am_l0 3 [some 0, none, none] is) [] D := by
  intro X is D K O hT _ _
  obtain ⟨o, σ, a, b, ⟨n0, n1, n2, n3, n4, n5, sd, b0, b1, b2, b3, b4, b5, s0, s1, s2, s3, s4, s5, w1, w2, rfl, hn, hb, hs⟩, rfl, hK⟩ := hT
  obtain ⟨kk, ff, ll, hh, ii, e, hn9, hb2, hw9, hj, hp, hi⟩ := id hn
  cases e
  have bad : (∀ i j, xi (gN σ) a = some i → xi (gN σ) b = some j → i = j) → f_two a b σ = rfs 1 σ → am_aw X 3 sh_VH 0 [some (.inr 0), some (.inl a), some (.inl b)] [] [.inl [o, nI σ.2.2.2.1.length], .inl [nI σ.1.1, nI σ.1.2.1, nI σ.1.2.2.1], .inr kk, .inr ff, .inr ll, .inr hh, .inr ii, .inr σ.2.2.2.2, .inl [sd], b0, b1, b2, b3, b4, b5, s0, s1, s2, s3, s4, s5, .inr w1, .inr w2] := by
    intro h he
    refine am_begin rfl ?_
    refine st_aloadn O dX6_two_0 rfl (q := 1) rfl ?_
    refine st_getr O dX6_two_1 fl_X6_10 rfl rfl rfl (q := 4) rfl ?_
    refine st_iloadn O dX6_two_4 rfl (q := 5) rfl ?_
    refine st_iloadn O dX6_two_5 rfl (q := 6) rfl ?_
    refine st_call O dX6_two_6 cs_X6_two_6 (q := 9) rfl (am_sipq rfl rfl rfl (Nat.le_of_ble_eq_true rfl) rfl (r := 0) ⟨a, b, gN σ, _, hn9, rfl, rfl, Or.inr ⟨xi_twoN hn9 h, rfl⟩⟩ ?_)
    refine st_if_ne O dX6_two_9 (t := 18) rfl (q := 12) rfl (fun c9 => ?_) (fun c9 => ?_)
    · exact absurd c9 (by decide)
    refine st_aloadn O dX6_two_12 rfl (q := 13) rfl ?_
    refine st_iconst O dX6_two_13 am_iconst_m1 (q := 14) rfl ?_
    refine st_call O dX6_two_14 cs_X6_two_14 (q := 17) rfl (am_siq rfl rfl rfl (Nat.le_of_ble_eq_true rfl) rfl ?_)
    refine ⟨_, _, 1, by decide, by decide, rfl, rfl, ?_⟩
    refine am_nrq rfl rfl ?_
    rw [show f_two a b σ = rfs 1 σ from he] at hK
    exact st_ireturn O dX6_two_17 (hK _ ⟨_, _, _, _, _, _, _, _, _, _, _, _, _, _, _, _, _, _, _, _, _, rfl, hn, hb, hs⟩)
  cases hx : xi (gN σ) a with
  | none => exact bad (fun i j h1 _ => by rw [hx] at h1; cases h1) (by unfold f_two; rw [hx])
  | some i =>
    cases hy : xi (gN σ) b with
    | none => exact bad (fun i j _ h1 => by rw [hy] at h1; cases h1) (by unfold f_two; rw [hx, hy])
    | some j =>
      by_cases hij : i = j
      · exact bad (fun i' j' h1 h2 => by rw [hx] at h1; rw [hy] at h2; cases h1; cases h2; exact hij) (by unfold f_two; rw [hx, hy]; exact if_pos hij)
      · rw [show f_two a b σ = (prI (ffU (stp (gb σ) (gw σ) (gk σ) (gf σ) (gl σ) (gq σ) i j) 0 4), σ) by unfold f_two; rw [hx, hy]; exact if_neg hij] at hK
        have h2 := xi_two hn9 hx hy hij
        obtain ⟨hi9, rfl⟩ := xi_some hn9 hx
        obtain ⟨hj9, rfl⟩ := xi_some hn9 hy
        refine am_begin rfl ?_
        refine st_aloadn O dX6_two_0 rfl (q := 1) rfl ?_
        refine st_getr O dX6_two_1 fl_X6_10 rfl rfl rfl (q := 4) rfl ?_
        refine st_iloadn O dX6_two_4 rfl (q := 5) rfl ?_
        refine st_iloadn O dX6_two_5 rfl (q := 6) rfl ?_
        refine st_call O dX6_two_6 cs_X6_two_6 (q := 9) rfl (am_sipq rfl rfl rfl (Nat.le_of_ble_eq_true rfl) rfl (r := 1) ⟨_, _, gN σ, _, hn9, rfl, rfl, Or.inl ⟨h2, rfl⟩⟩ ?_)
        refine st_if_ne O dX6_two_9 (t := 18) rfl (q := 12) rfl (fun c9 => ?_) (fun c9 => ?_)
        · refine st_aloadn O dX6_two_18 rfl (q := 19) rfl ?_
          refine st_getr O dX6_two_19 fl_X6_61 rfl rfl rfl (q := 22) rfl ?_
          refine st_aloadn O dX6_two_22 rfl (q := 23) rfl ?_
          refine st_getr O dX6_two_23 fl_X6_10 rfl rfl rfl (q := 26) rfl ?_
          refine st_iloadn O dX6_two_26 rfl (q := 27) rfl ?_
          refine st_iloadn O dX6_two_27 rfl (q := 28) rfl ?_
          refine st_call O dX6_two_28 cs_X6_two_28 (q := 31) rfl (am_siq rfl rfl rfl (Nat.le_of_ble_eq_true rfl) rfl ?_)
          refine ⟨gN σ, gb σ, gw σ, gk σ, gf σ, gl σ, gh σ, gq σ, [_, _, _, _, _, _], [_, _, _, _, _, _], _, _, _, _, i, j, rfl, hi9, hj9, rfl, hb, hs, hn, fun d1 d2 w1' w2' h1 h2 => ?_⟩
          obtain ⟨x0, x1, x2, x3, x4, x5, rfl⟩ := rF_lit h1
          obtain ⟨y0, y1, y2, y3, y4, y5, rfl⟩ := pF_lit6 h2
          refine am_nrp rfl rfl rfl rfl ?_
          refine st_ireturn O dX6_two_31 ?_
          exact hK _ ⟨_, _, _, _, _, _, _, _, _, _, _, _, _, _, _, _, _, _, _, _, _, rfl, hn, h1, h2⟩
        exact absurd c9 (by decide)
theorem C_X6_two : am_ctr yX6_two cX6_two 3 (some .int) 5 117 sh_VH [some 0, none, none] T_X6_two := am_mk (by decide) (Or.inr (Or.inl ⟨rfl, rfl⟩)) (by decide) (by decide) (by decide) fl_X6_ok kc_X6_ok ck_X6_two B_X6_two
def cs_X6_lots : Nat → List am_V → am_D → am_K → Prop := am_cs [(8, am_site 2 [some 0, none] T_X6_refuse [0, 7] [0, 7, 1, 23, 24, 25, 26, 27, 28, 8]), (21, am_site 2 [some 0, none] T_X6_refuse [0, 7] [0, 7, 1, 23, 24, 25, 26, 27, 28, 8]), (37, am_site 2 [some 0, none] T_X6_refuse [0, 7] [0, 7, 1, 23, 24, 25, 26, 27, 28, 8]), (61, am_site 5 [some 0, some 13, none, none, none] T_X1_byLot [8, 9, 10, 11, 12, 13, 14, 15, 16, 17, 18, 19, 20, 1, 2, 3, 4, 5, 6] [8, 9, 10, 11, 12, 13, 14, 15, 16, 17, 18, 19, 20, 1, 2, 3, 4, 5, 6, 21, 22])]
theorem cs_X6_lots_8 : cs_X6_lots 8 = am_site 2 [some 0, none] T_X6_refuse [0, 7] [0, 7, 1, 23, 24, 25, 26, 27, 28, 8] := rfl
theorem cs_X6_lots_21 : cs_X6_lots 21 = am_site 2 [some 0, none] T_X6_refuse [0, 7] [0, 7, 1, 23, 24, 25, 26, 27, 28, 8] := rfl
theorem cs_X6_lots_37 : cs_X6_lots 37 = am_site 2 [some 0, none] T_X6_refuse [0, 7] [0, 7, 1, 23, 24, 25, 26, 27, 28, 8] := rfl
theorem cs_X6_lots_61 : cs_X6_lots 61 = am_site 5 [some 0, some 13, none, none, none] T_X1_byLot [8, 9, 10, 11, 12, 13, 14, 15, 16, 17, 18, 19, 20, 1, 2, 3, 4, 5, 6] [8, 9, 10, 11, 12, 13, 14, 15, 16, 17, 18, 19, 20, 1, 2, 3, 4, 5, 6, 21, 22] := rfl
theorem ck_X6_lots : ∀ X : am_X, am_cx X RX6 cX6_lots 4 5 118 → ∀ pc, am_csok X 4 sh_VH pc (cs_X6_lots pc) := fun X hX => am_cs_ok (List.forall_mem_cons.mpr ⟨am_callV hX C_X6_refuse mo_X6_refuse rfl lk_X6_65 dX6_lots_8 rfl rfl rfl (by decide), List.forall_mem_cons.mpr ⟨am_callV hX C_X6_refuse mo_X6_refuse rfl lk_X6_65 dX6_lots_21 rfl rfl rfl (by decide), List.forall_mem_cons.mpr ⟨am_callV hX C_X6_refuse mo_X6_refuse rfl lk_X6_65 dX6_lots_37 rfl rfl rfl (by decide), List.forall_mem_cons.mpr ⟨am_callV hX C_X1_byLot mo_X1_byLot rfl lk_X6_231 dX6_lots_61 rfl rfl rfl (by decide), fun _ h => absurd h List.not_mem_nil⟩⟩⟩⟩)
abbrev ok_X6_lots (X : am_X) (K : List Int32 → am_D → Prop) : Prop := am_ok X RX6 cX6_lots 4 sh_VH fl_X6 kc_X6 none 1 cs_X6_lots K
abbrev aw_X6_lots (X : am_X) (pc : Nat) (ls : am_L) (st : List am_V) (D : am_D) : Prop := am_aw X 4 sh_VH pc ls st D
abbrev T_X6_lots : am_TT := am_v3f V_H f_lots
set_option maxHeartbeats 200000 in
theorem B_X6_lots : ∀ (X : am_X) (is : List Int32) (D : am_D) (K : List Int32 → am_D → Prop), ok_X6_lots X K → T_X6_lots is D K → is.length = (List.filter Option.isNone ([some 0, none, none, none] : List (Option Nat))).length → D.length = sh_VH.length → am_aw X 4 sh_VH 0 (am_l0 4 [some 0, none, none, none] is) [] D := by
  intro X is D K O hT _ _
  obtain ⟨o, σ, a, b, c, ⟨n0, n1, n2, n3, n4, n5, sd, b0, b1, b2, b3, b4, b5, s0, s1, s2, s3, s4, s5, w1, w2, rfl, hn, hb, hs⟩, rfl, hK⟩ := hT
  have main : ∀ wc v, a = nI v → v ≤ 20 → (∀ D', V_H o σ D' → K [nI (sm (vlZ (gb σ) (gw σ) (gk σ) (gf σ) (gh σ) (gN σ) b wc) v)] D') → am_aw X 4 sh_VH 61 [some (.inr 0), some (.inl a), some (.inl b), some (.inl c)] [.inl (bI wc), .inl b, .inl (nI v), .inr 1, .inr 8] [.inl [o, nI σ.2.2.2.1.length], n0, n1, n2, n3, n4, n5, .inr σ.2.2.2.2, .inl [sd], b0, b1, b2, b3, b4, b5, s0, s1, s2, s3, s4, s5, .inr w1, .inr w2] := by
    intro wc v ha hv hK
    refine st_call O dX6_lots_61 cs_X6_lots_61 (q := 64) rfl (am_siq rfl rfl rfl (Nat.le_of_ble_eq_true rfl) rfl ?_)
    refine ⟨gN σ, gb σ, gw σ, gk σ, gf σ, gl σ, gh σ, gq σ, [_, _, _, _, _, _], [_, _, _, _, _, _], _, _, v, b, wc, rfl, hv, rfl, hb, hs, hn, fun sd' d1 d2 h1 h2 => ?_⟩
    obtain ⟨x0, x1, x2, x3, x4, x5, rfl⟩ := rF_lit h1
    obtain ⟨y0, y1, y2, y3, y4, y5, rfl⟩ := pF_lit6 h2
    refine am_nrp rfl rfl rfl rfl ?_
    refine st_ireturn O dX6_lots_64 ?_
    exact hK _ ⟨_, _, _, _, _, _, _, _, _, _, _, _, _, _, _, _, _, _, _, _, _, rfl, hn, h1, h2⟩
  have val : 1 ≤ a → a ≤ nI 20 → ∃ v, a = nI v ∧ v ≤ 20 := by
    intro h1 h2
    obtain ⟨v, hv, e⟩ := (le_iff 20 (by decide)).mp ⟨Int32.le_trans (by decide) h1, h2⟩
    exact ⟨v, e, hv⟩
  by_cases h0 : c = 0
  · subst h0
    refine am_begin rfl ?_
    refine st_iloadn O dX6_lots_0 rfl (q := 1) rfl ?_
    refine st_iconst O dX6_lots_1 am_iconst_1 (q := 2) rfl ?_
    refine st_icmp_ge O dX6_lots_2 (t := 12) rfl (q := 5) rfl (fun c2 => ?_) (fun c2 => ?_)
    · refine st_iloadn O dX6_lots_12 rfl (q := 13) rfl ?_
      refine st_bipush O dX6_lots_13 am_bipush_20 (q := 15) rfl ?_
      refine st_icmp_le O dX6_lots_15 (t := 25) rfl (q := 18) rfl (fun c15 => ?_) (fun c15 => ?_)
      · refine st_iloadn O dX6_lots_25 rfl (q := 26) rfl ?_
        refine st_if_eq O dX6_lots_26 (t := 41) rfl (q := 29) rfl (fun c26 => ?_) (fun c26 => ?_)
        · refine st_aloadn O dX6_lots_41 rfl (q := 42) rfl ?_
          refine st_getr O dX6_lots_42 fl_X6_61 rfl rfl rfl (q := 45) rfl ?_
          refine st_aloadn O dX6_lots_45 rfl (q := 46) rfl ?_
          refine st_getr O dX6_lots_46 fl_X6_10 rfl rfl rfl (q := 49) rfl ?_
          refine st_iloadn O dX6_lots_49 rfl (q := 50) rfl ?_
          refine st_iloadn O dX6_lots_50 rfl (q := 51) rfl ?_
          refine st_iloadn O dX6_lots_51 rfl (q := 52) rfl ?_
          refine st_iconst O dX6_lots_52 am_iconst_1 (q := 53) rfl ?_
          refine st_icmp_ne O dX6_lots_53 (t := 60) rfl (q := 56) rfl (fun c53 => ?_) (fun c53 => ?_)
          · refine st_iconst O dX6_lots_60 am_iconst_0 (q := 61) rfl ?_
            obtain ⟨v, rfl, hv⟩ := val c2 c15
            rw [show f_lots (nI v) b 0 σ = (nI (sm (vlZ (gb σ) (gw σ) (gk σ) (gf σ) (gh σ) (gN σ) b (decide ((0 : Int32) = 1))) (nI v).toNatClampNeg), σ) from (if_pos c2).trans ((if_pos c15).trans (if_pos (Or.inl rfl))), nI_clamp (by omega)] at hK
            exact main false v rfl hv hK
          exact absurd c53 (by decide)
        exact absurd c26 (by decide)
      refine st_aloadn O dX6_lots_18 rfl (q := 19) rfl ?_
      refine st_bipush O dX6_lots_19 am_bipush_m6 (q := 21) rfl ?_
      refine st_call O dX6_lots_21 cs_X6_lots_21 (q := 24) rfl (am_siq rfl rfl rfl (Nat.le_of_ble_eq_true rfl) rfl ?_)
      refine ⟨_, _, 6, by decide, by decide, rfl, rfl, ?_⟩
      refine am_nrq rfl rfl ?_
      rw [show f_lots a b 0 σ = rfs 6 σ from (if_pos c2).trans (if_neg c15)] at hK
      exact st_ireturn O dX6_lots_24 (hK _ ⟨_, _, _, _, _, _, _, _, _, _, _, _, _, _, _, _, _, _, _, _, _, rfl, hn, hb, hs⟩)
    refine st_aloadn O dX6_lots_5 rfl (q := 6) rfl ?_
    refine st_bipush O dX6_lots_6 am_bipush_m4 (q := 8) rfl ?_
    refine st_call O dX6_lots_8 cs_X6_lots_8 (q := 11) rfl (am_siq rfl rfl rfl (Nat.le_of_ble_eq_true rfl) rfl ?_)
    refine ⟨_, _, 4, by decide, by decide, rfl, rfl, ?_⟩
    refine am_nrq rfl rfl ?_
    rw [show f_lots a b 0 σ = rfs 4 σ from if_neg c2] at hK
    exact st_ireturn O dX6_lots_11 (hK _ ⟨_, _, _, _, _, _, _, _, _, _, _, _, _, _, _, _, _, _, _, _, _, rfl, hn, hb, hs⟩)
  · by_cases h1 : c = 1
    · subst h1
      refine am_begin rfl ?_
      refine st_iloadn O dX6_lots_0 rfl (q := 1) rfl ?_
      refine st_iconst O dX6_lots_1 am_iconst_1 (q := 2) rfl ?_
      refine st_icmp_ge O dX6_lots_2 (t := 12) rfl (q := 5) rfl (fun c2 => ?_) (fun c2 => ?_)
      · refine st_iloadn O dX6_lots_12 rfl (q := 13) rfl ?_
        refine st_bipush O dX6_lots_13 am_bipush_20 (q := 15) rfl ?_
        refine st_icmp_le O dX6_lots_15 (t := 25) rfl (q := 18) rfl (fun c15 => ?_) (fun c15 => ?_)
        · refine st_iloadn O dX6_lots_25 rfl (q := 26) rfl ?_
          refine st_if_eq O dX6_lots_26 (t := 41) rfl (q := 29) rfl (fun c26 => ?_) (fun c26 => ?_)
          · exact absurd c26 (by decide)
          refine st_iloadn O dX6_lots_29 rfl (q := 30) rfl ?_
          refine st_iconst O dX6_lots_30 am_iconst_1 (q := 31) rfl ?_
          refine st_icmp_eq O dX6_lots_31 (t := 41) rfl (q := 34) rfl (fun c31 => ?_) (fun c31 => ?_)
          · refine st_aloadn O dX6_lots_41 rfl (q := 42) rfl ?_
            refine st_getr O dX6_lots_42 fl_X6_61 rfl rfl rfl (q := 45) rfl ?_
            refine st_aloadn O dX6_lots_45 rfl (q := 46) rfl ?_
            refine st_getr O dX6_lots_46 fl_X6_10 rfl rfl rfl (q := 49) rfl ?_
            refine st_iloadn O dX6_lots_49 rfl (q := 50) rfl ?_
            refine st_iloadn O dX6_lots_50 rfl (q := 51) rfl ?_
            refine st_iloadn O dX6_lots_51 rfl (q := 52) rfl ?_
            refine st_iconst O dX6_lots_52 am_iconst_1 (q := 53) rfl ?_
            refine st_icmp_ne O dX6_lots_53 (t := 60) rfl (q := 56) rfl (fun c53 => ?_) (fun c53 => ?_)
            · exact absurd c53 (by decide)
            refine st_iconst O dX6_lots_56 am_iconst_1 (q := 57) rfl ?_
            refine st_goto O dX6_lots_57 (t := 61) rfl ?_
            obtain ⟨v, rfl, hv⟩ := val c2 c15
            rw [show f_lots (nI v) b 1 σ = (nI (sm (vlZ (gb σ) (gw σ) (gk σ) (gf σ) (gh σ) (gN σ) b (decide ((1 : Int32) = 1))) (nI v).toNatClampNeg), σ) from (if_pos c2).trans ((if_pos c15).trans (if_pos (Or.inr rfl))), nI_clamp (by omega)] at hK
            exact main true v rfl hv hK
          exact absurd c31 (by decide)
        refine st_aloadn O dX6_lots_18 rfl (q := 19) rfl ?_
        refine st_bipush O dX6_lots_19 am_bipush_m6 (q := 21) rfl ?_
        refine st_call O dX6_lots_21 cs_X6_lots_21 (q := 24) rfl (am_siq rfl rfl rfl (Nat.le_of_ble_eq_true rfl) rfl ?_)
        refine ⟨_, _, 6, by decide, by decide, rfl, rfl, ?_⟩
        refine am_nrq rfl rfl ?_
        rw [show f_lots a b 1 σ = rfs 6 σ from (if_pos c2).trans (if_neg c15)] at hK
        exact st_ireturn O dX6_lots_24 (hK _ ⟨_, _, _, _, _, _, _, _, _, _, _, _, _, _, _, _, _, _, _, _, _, rfl, hn, hb, hs⟩)
      refine st_aloadn O dX6_lots_5 rfl (q := 6) rfl ?_
      refine st_bipush O dX6_lots_6 am_bipush_m4 (q := 8) rfl ?_
      refine st_call O dX6_lots_8 cs_X6_lots_8 (q := 11) rfl (am_siq rfl rfl rfl (Nat.le_of_ble_eq_true rfl) rfl ?_)
      refine ⟨_, _, 4, by decide, by decide, rfl, rfl, ?_⟩
      refine am_nrq rfl rfl ?_
      rw [show f_lots a b 1 σ = rfs 4 σ from if_neg c2] at hK
      exact st_ireturn O dX6_lots_11 (hK _ ⟨_, _, _, _, _, _, _, _, _, _, _, _, _, _, _, _, _, _, _, _, _, rfl, hn, hb, hs⟩)
    · refine am_begin rfl ?_
      refine st_iloadn O dX6_lots_0 rfl (q := 1) rfl ?_
      refine st_iconst O dX6_lots_1 am_iconst_1 (q := 2) rfl ?_
      refine st_icmp_ge O dX6_lots_2 (t := 12) rfl (q := 5) rfl (fun c2 => ?_) (fun c2 => ?_)
      · refine st_iloadn O dX6_lots_12 rfl (q := 13) rfl ?_
        refine st_bipush O dX6_lots_13 am_bipush_20 (q := 15) rfl ?_
        refine st_icmp_le O dX6_lots_15 (t := 25) rfl (q := 18) rfl (fun c15 => ?_) (fun c15 => ?_)
        · refine st_iloadn O dX6_lots_25 rfl (q := 26) rfl ?_
          refine st_if_eq O dX6_lots_26 (t := 41) rfl (q := 29) rfl (fun c26 => ?_) (fun c26 => ?_)
          · exact absurd c26 h0
          refine st_iloadn O dX6_lots_29 rfl (q := 30) rfl ?_
          refine st_iconst O dX6_lots_30 am_iconst_1 (q := 31) rfl ?_
          refine st_icmp_eq O dX6_lots_31 (t := 41) rfl (q := 34) rfl (fun c31 => ?_) (fun c31 => ?_)
          · exact absurd c31 h1
          refine st_aloadn O dX6_lots_34 rfl (q := 35) rfl ?_
          refine st_bipush O dX6_lots_35 am_bipush_m2 (q := 37) rfl ?_
          refine st_call O dX6_lots_37 cs_X6_lots_37 (q := 40) rfl (am_siq rfl rfl rfl (Nat.le_of_ble_eq_true rfl) rfl ?_)
          refine ⟨_, _, 2, by decide, by decide, rfl, rfl, ?_⟩
          refine am_nrq rfl rfl ?_
          rw [show f_lots a b c σ = rfs 2 σ from (if_pos c2).trans ((if_pos c15).trans (if_neg (fun z => z.elim h0 h1)))] at hK
          exact st_ireturn O dX6_lots_40 (hK _ ⟨_, _, _, _, _, _, _, _, _, _, _, _, _, _, _, _, _, _, _, _, _, rfl, hn, hb, hs⟩)
        refine st_aloadn O dX6_lots_18 rfl (q := 19) rfl ?_
        refine st_bipush O dX6_lots_19 am_bipush_m6 (q := 21) rfl ?_
        refine st_call O dX6_lots_21 cs_X6_lots_21 (q := 24) rfl (am_siq rfl rfl rfl (Nat.le_of_ble_eq_true rfl) rfl ?_)
        refine ⟨_, _, 6, by decide, by decide, rfl, rfl, ?_⟩
        refine am_nrq rfl rfl ?_
        rw [show f_lots a b c σ = rfs 6 σ from (if_pos c2).trans (if_neg c15)] at hK
        exact st_ireturn O dX6_lots_24 (hK _ ⟨_, _, _, _, _, _, _, _, _, _, _, _, _, _, _, _, _, _, _, _, _, rfl, hn, hb, hs⟩)
      refine st_aloadn O dX6_lots_5 rfl (q := 6) rfl ?_
      refine st_bipush O dX6_lots_6 am_bipush_m4 (q := 8) rfl ?_
      refine st_call O dX6_lots_8 cs_X6_lots_8 (q := 11) rfl (am_siq rfl rfl rfl (Nat.le_of_ble_eq_true rfl) rfl ?_)
      refine ⟨_, _, 4, by decide, by decide, rfl, rfl, ?_⟩
      refine am_nrq rfl rfl ?_
      rw [show f_lots a b c σ = rfs 4 σ from if_neg c2] at hK
      exact st_ireturn O dX6_lots_11 (hK _ ⟨_, _, _, _, _, _, _, _, _, _, _, _, _, _, _, _, _, _, _, _, _, rfl, hn, hb, hs⟩)
theorem C_X6_lots : am_ctr yX6_lots cX6_lots 4 (some .int) 5 118 sh_VH [some 0, none, none, none] T_X6_lots := am_mk (by decide) (Or.inr (Or.inl ⟨rfl, rfl⟩)) (by decide) (by decide) (by decide) fl_X6_ok kc_X6_ok ck_X6_lots B_X6_lots
