/-! the class's own methods: the turns -/
def V_P (o : Int32) (σ : Sg) (D : am_D) : Prop := ∃ n0 n1 n2 n3 n4 n5 p0 p1 p2 p3 p4 p5, D = [.inl [o, nI σ.2.2.2.1.length], n0, n1, n2, n3, n4, n5, .inr σ.2.2.2.2, p0, p1, p2, p3, p4, p5] ∧ rS σ.1 [n0, n1, n2, n3, n4, n5] ∧ pF [p0, p1, p2, p3, p4, p5]
theorem pF_lit {p0 p1 p2 p3 p4 p5 : am_C} (h : pF [p0, p1, p2, p3, p4, p5]) : ∃ (a b c d e f g h i : Int32) (o wt tn r l : Nat → Int32), p0 = .inl [a, b, c, d, e, f, g, h, i] ∧ p1 = .inr o ∧ p2 = .inr wt ∧ p3 = .inr tn ∧ p4 = .inr r ∧ p5 = .inr l := by
  obtain ⟨a, b, c, d, e, f, g, h, i, o, wt, tn, r, l, q⟩ := h
  cases q
  exact ⟨_, _, _, _, _, _, _, _, _, _, _, _, _, _, rfl, rfl, rfl, rfl, rfl, rfl⟩
theorem qu_sum2 {la : Nat → Nat} : ∀ {li : List Nat}, (∀ c ∈ li, la c < 2) → (qu la li 0 0).length + (qu la li 1 0).length = li.length
  | [], _ => rfl
  | c :: r, h => by
    have ih := qu_sum2 (la := la) (li := r) (fun x hx => h x (List.mem_cons_of_mem _ hx))
    have hc := h c List.mem_cons_self
    unfold qu at ih ⊢
    rw [List.filter_cons, List.filter_cons]
    rcases (by omega : la c = 0 ∨ la c = 1) with e | e
    · simp [e]; simp at ih; omega
    · simp [e]; simp at ih; omega
/-- the turns of a road: what is known of their list -/
theorem gL_ok {σ : Sg} (hn : gN σ ≤ 9) (hp : (gq σ).Perm (List.range (gN σ))) (hl : ∀ j, j < gN σ → gl σ j < 2) : okL (gN σ) (gl σ) (gL σ) ∧ (∀ c, c < gN σ → c ∈ (gL σ).map (fun q => q.1)) ∧ (gL σ).length = gN σ := by
  have h1 := sim_ok (n := gN σ) (b := gb σ) (w := gw σ) (a := 0) (kd := gk σ) (fg := gf σ) (la := gl σ) hn hp
  have h2 : ∀ c, c < gN σ → c ∈ (gL σ).map (fun q => q.1) := fun c hc => sim_all hp hl hc (Nat.zero_testBit c)
  refine ⟨h1, h2, ?_⟩
  have h3 : (gL σ).length = (qu (gl σ) (gq σ) 0 0).length + (qu (gl σ) (gq σ) 1 0).length := sim_len _ _ _ _ _ _
  have h4 := qu_sum2 (la := gl σ) (li := gq σ) (fun c hc => hl c ((pl_mem hp).mp hc))
  rw [h3, h4, pl_len hp]
def cs_X6_order : Nat → List am_V → am_D → am_K → Prop := am_cs [(5, am_site 2 [some 0, none] T_X4_has [1] [1, 2, 3, 4, 5, 6]), (13, am_site 2 [some 0, none] T_X6_refuse [0, 7] [0, 7, 1, 14, 15, 16, 17, 8, 18, 19]), (26, am_site 3 [some 0, some 6, none] T_X3_drive [8, 9, 10, 11, 12, 13, 1, 2, 3, 4, 5, 6] [8, 9, 10, 11, 12, 13, 1, 2, 3, 4, 5, 6])]
theorem cs_X6_order_5 : cs_X6_order 5 = am_site 2 [some 0, none] T_X4_has [1] [1, 2, 3, 4, 5, 6] := rfl
theorem cs_X6_order_13 : cs_X6_order 13 = am_site 2 [some 0, none] T_X6_refuse [0, 7] [0, 7, 1, 14, 15, 16, 17, 8, 18, 19] := rfl
theorem cs_X6_order_26 : cs_X6_order 26 = am_site 3 [some 0, some 6, none] T_X3_drive [8, 9, 10, 11, 12, 13, 1, 2, 3, 4, 5, 6] [8, 9, 10, 11, 12, 13, 1, 2, 3, 4, 5, 6] := rfl
theorem ck_X6_order : ∀ X : am_X, am_cx X RX6 cX6_order 2 4 91 → ∀ pc, am_csok X 2 sh_VP pc (cs_X6_order pc) := fun X hX => am_cs_ok (List.forall_mem_cons.mpr ⟨am_callV hX C_X4_has mo_X4_has rfl lk_X6_83 dX6_order_5 rfl rfl rfl (by decide), List.forall_mem_cons.mpr ⟨am_callV hX C_X6_refuse mo_X6_refuse rfl lk_X6_65 dX6_order_13 rfl rfl rfl (by decide), List.forall_mem_cons.mpr ⟨am_callV hX C_X3_drive mo_X3_drive rfl lk_X6_128 dX6_order_26 rfl rfl rfl (by decide), fun _ h => absurd h List.not_mem_nil⟩⟩⟩)
abbrev ok_X6_order (X : am_X) (K : List Int32 → am_D → Prop) : Prop := am_ok X RX6 cX6_order 2 sh_VP fl_X6 kc_X6 none 1 cs_X6_order K
abbrev aw_X6_order (X : am_X) (pc : Nat) (ls : am_L) (st : List am_V) (D : am_D) : Prop := am_aw X 2 sh_VP pc ls st D
abbrev T_X6_order : am_TT := am_v1f V_P f_order
theorem B_X6_order : ∀ (X : am_X) (is : List Int32) (D : am_D) (K : List Int32 → am_D → Prop), ok_X6_order X K → T_X6_order is D K → is.length = (List.filter Option.isNone ([some 0, none] : List (Option Nat))).length → D.length = sh_VP.length → am_aw X 2 sh_VP 0 (am_l0 2 [some 0, none] is) [] D := by
  intro X is D K O hT _ _
  obtain ⟨o, σ, a, ⟨n0, n1, n2, n3, n4, n5, p0, p1, p2, p3, p4, p5, rfl, hn, hF⟩, rfl, hK⟩ := hT
  obtain ⟨kk, ff, ll, hh, ii, e, hn9, hb2, hw9, hj, hp, hi⟩ := id hn
  cases e
  obtain ⟨z1, z2, z3, z4, z5, z6, z7, z8, z9, y1, y2, y3, y4, y5, e⟩ := id hF
  cases e
  cases hx : xi (gN σ) a with
  | none =>
    refine am_begin rfl ?_
    refine st_aloadn O dX6_order_0 rfl (q := 1) rfl ?_
    refine st_getr O dX6_order_1 fl_X6_10 rfl rfl rfl (q := 4) rfl ?_
    refine st_iloadn O dX6_order_4 rfl (q := 5) rfl ?_
    refine st_call O dX6_order_5 cs_X6_order_5 (q := 8) rfl (am_sipq rfl rfl rfl (Nat.le_of_ble_eq_true rfl) rfl (r := 0) ⟨a, gN σ, _, hn9, rfl, rfl, Or.inr ⟨xi_none hn9 hx, rfl⟩⟩ ?_)
    refine st_if_ne O dX6_order_8 (t := 17) rfl (q := 11) rfl (fun c8 => ?_) (fun c8 => ?_)
    · exact absurd c8 (by decide)
    refine st_aloadn O dX6_order_11 rfl (q := 12) rfl ?_
    refine st_iconst O dX6_order_12 am_iconst_m1 (q := 13) rfl ?_
    refine st_call O dX6_order_13 cs_X6_order_13 (q := 16) rfl (am_siq rfl rfl rfl (Nat.le_of_ble_eq_true rfl) rfl ?_)
    refine ⟨_, _, 1, by decide, by decide, rfl, rfl, ?_⟩
    refine am_nrq rfl rfl ?_
    rw [show f_order a σ = rfs 1 σ from by unfold f_order; rw [hx]] at hK
    exact st_ireturn O dX6_order_16 (hK _ ⟨_, _, _, _, _, _, _, _, _, _, _, _, rfl, hn, hF⟩)
  | some j =>
    obtain ⟨hj9, rfl⟩ := xi_some hn9 hx
    unfold f_order at hK
    rw [hx] at hK
    have eN : gN σ = σ.1.1 := rfl
    dsimp only at hK
    obtain ⟨g1, g2, g3⟩ := gL_ok hn9 hp (fun j h => (hj j h).2.2.1.2)
    refine am_begin rfl ?_
    refine st_aloadn O dX6_order_0 rfl (q := 1) rfl ?_
    refine st_getr O dX6_order_1 fl_X6_10 rfl rfl rfl (q := 4) rfl ?_
    refine st_iloadn O dX6_order_4 rfl (q := 5) rfl ?_
    refine st_call O dX6_order_5 cs_X6_order_5 (q := 8) rfl (am_sipq rfl rfl rfl (Nat.le_of_ble_eq_true rfl) rfl (r := 1) ⟨_, gN σ, _, hn9, rfl, rfl, Or.inl ⟨⟨j, hj9, rfl⟩, rfl⟩⟩ ?_)
    refine st_if_ne O dX6_order_8 (t := 17) rfl (q := 11) rfl (fun c8 => ?_) (fun c8 => ?_)
    · refine st_aloadn O dX6_order_17 rfl (q := 18) rfl ?_
      refine st_getr O dX6_order_18 fl_X6_47 rfl rfl rfl (q := 21) rfl ?_
      refine st_aloadn O dX6_order_21 rfl (q := 22) rfl ?_
      refine st_getr O dX6_order_22 fl_X6_10 rfl rfl rfl (q := 25) rfl ?_
      refine st_iconst O dX6_order_25 am_iconst_0 (q := 26) rfl ?_
      refine st_call O dX6_order_26 cs_X6_order_26 (q := 29) rfl (am_siq rfl rfl rfl (Nat.le_of_ble_eq_true rfl) rfl ?_)
      refine ⟨_, _, _, _, _, _, _, _, [_, _, _, _, _, _], _, 0, rfl, by decide, rfl, hF, hn, fun d hd => ?_⟩
      obtain ⟨j2, j3, j4, j5, j6, j7, j8, o', wt, tn, rr, l, rfl, hO⟩ := id hd
      refine am_nrq rfl rfl ?_
      refine st_aloadn O dX6_order_29 rfl (q := 30) rfl ?_
      refine st_getr O dX6_order_30 fl_X6_47 rfl rfl rfl (q := 33) rfl ?_
      refine st_getr O dX6_order_33 fl_X6_132 rfl rfl rfl (q := 36) rfl ?_
      refine st_iloadn O dX6_order_36 rfl (q := 37) rfl ?_
      refine sn_ald O dX6_order_37 rfl rfl rfl ⟨by omega, by decide⟩ (pO_o (L := gL σ) hO (by omega)) (q := 38) rfl ?_
      refine st_ireturn O dX6_order_38 ?_
      exact hK _ ⟨_, _, _, _, _, _, _, _, _, _, _, _, rfl, hn, hd.form⟩
    exact absurd c8 (by decide)
theorem C_X6_order : am_ctr yX6_order cX6_order 2 (some .int) 4 91 sh_VP [some 0, none] T_X6_order := am_mk (by decide) (Or.inr (Or.inl ⟨rfl, rfl⟩)) (by decide) (by decide) (by decide) fl_X6_ok kc_X6_ok ck_X6_order B_X6_order
def cs_X6_of : Nat → List am_V → am_D → am_K → Prop := am_cs [(5, am_site 2 [some 0, none] T_X4_has [1] [1, 2, 3, 4, 5, 6]), (13, am_site 2 [some 0, none] T_X6_refuse [0, 7] [0, 7, 1, 14, 15, 16, 17, 8, 18, 19]), (29, am_site 2 [some 0, none] T_X6_refuse [0, 7] [0, 7, 1, 14, 15, 16, 17, 8, 18, 19]), (42, am_site 3 [some 0, some 6, none] T_X3_drive [8, 9, 10, 11, 12, 13, 1, 2, 3, 4, 5, 6] [8, 9, 10, 11, 12, 13, 1, 2, 3, 4, 5, 6])]
theorem cs_X6_of_5 : cs_X6_of 5 = am_site 2 [some 0, none] T_X4_has [1] [1, 2, 3, 4, 5, 6] := rfl
theorem cs_X6_of_13 : cs_X6_of 13 = am_site 2 [some 0, none] T_X6_refuse [0, 7] [0, 7, 1, 14, 15, 16, 17, 8, 18, 19] := rfl
theorem cs_X6_of_29 : cs_X6_of 29 = am_site 2 [some 0, none] T_X6_refuse [0, 7] [0, 7, 1, 14, 15, 16, 17, 8, 18, 19] := rfl
theorem cs_X6_of_42 : cs_X6_of 42 = am_site 3 [some 0, some 6, none] T_X3_drive [8, 9, 10, 11, 12, 13, 1, 2, 3, 4, 5, 6] [8, 9, 10, 11, 12, 13, 1, 2, 3, 4, 5, 6] := rfl
theorem ck_X6_of : ∀ X : am_X, am_cx X RX6 cX6_of 3 4 91 → ∀ pc, am_csok X 3 sh_VP pc (cs_X6_of pc) := fun X hX => am_cs_ok (List.forall_mem_cons.mpr ⟨am_callV hX C_X4_has mo_X4_has rfl lk_X6_83 dX6_of_5 rfl rfl rfl (by decide), List.forall_mem_cons.mpr ⟨am_callV hX C_X6_refuse mo_X6_refuse rfl lk_X6_65 dX6_of_13 rfl rfl rfl (by decide), List.forall_mem_cons.mpr ⟨am_callV hX C_X6_refuse mo_X6_refuse rfl lk_X6_65 dX6_of_29 rfl rfl rfl (by decide), List.forall_mem_cons.mpr ⟨am_callV hX C_X3_drive mo_X3_drive rfl lk_X6_128 dX6_of_42 rfl rfl rfl (by decide), fun _ h => absurd h List.not_mem_nil⟩⟩⟩⟩)
abbrev ok_X6_of (X : am_X) (K : List Int32 → am_D → Prop) : Prop := am_ok X RX6 cX6_of 3 sh_VP fl_X6 kc_X6 none 1 cs_X6_of K
abbrev aw_X6_of (X : am_X) (pc : Nat) (ls : am_L) (st : List am_V) (D : am_D) : Prop := am_aw X 3 sh_VP pc ls st D
abbrev T_X6_of : am_TT := am_v2f V_P f_of
theorem B_X6_of : ∀ (X : am_X) (is : List Int32) (D : am_D) (K : List Int32 → am_D → Prop), ok_X6_of X K → T_X6_of is D K → is.length = (List.filter Option.isNone ([some 0, none, none] : List (Option Nat))).length → D.length = sh_VP.length → am_aw X 3 sh_VP 0 (am_l0 3 [some 0, none, none] is) [] D := by
  intro X is D K O hT _ _
  obtain ⟨o, σ, a, b, ⟨n0, n1, n2, n3, n4, n5, p0, p1, p2, p3, p4, p5, rfl, hn, hF⟩, rfl, hK⟩ := hT
  obtain ⟨kk, ff, ll, hh, ii, e, hn9, hb2, hw9, hj, hp, hi⟩ := id hn
  cases e
  obtain ⟨z1, z2, z3, z4, z5, z6, z7, z8, z9, y1, y2, y3, y4, y5, e⟩ := id hF
  cases e
  cases hx : xi (gN σ) a with
  | none =>
    refine am_begin rfl ?_
    refine st_aloadn O dX6_of_0 rfl (q := 1) rfl ?_
    refine st_getr O dX6_of_1 fl_X6_10 rfl rfl rfl (q := 4) rfl ?_
    refine st_iloadn O dX6_of_4 rfl (q := 5) rfl ?_
    refine st_call O dX6_of_5 cs_X6_of_5 (q := 8) rfl (am_sipq rfl rfl rfl (Nat.le_of_ble_eq_true rfl) rfl (r := 0) ⟨a, gN σ, _, hn9, rfl, rfl, Or.inr ⟨xi_none hn9 hx, rfl⟩⟩ ?_)
    refine st_if_ne O dX6_of_8 (t := 17) rfl (q := 11) rfl (fun c8 => ?_) (fun c8 => ?_)
    · exact absurd c8 (by decide)
    refine st_aloadn O dX6_of_11 rfl (q := 12) rfl ?_
    refine st_iconst O dX6_of_12 am_iconst_m1 (q := 13) rfl ?_
    refine st_call O dX6_of_13 cs_X6_of_13 (q := 16) rfl (am_siq rfl rfl rfl (Nat.le_of_ble_eq_true rfl) rfl ?_)
    refine ⟨_, _, 1, by decide, by decide, rfl, rfl, ?_⟩
    refine am_nrq rfl rfl ?_
    rw [show f_of a b σ = rfs 1 σ from by unfold f_of; rw [hx]] at hK
    exact st_ireturn O dX6_of_16 (hK _ ⟨_, _, _, _, _, _, _, _, _, _, _, _, rfl, hn, hF⟩)
  | some j =>
    obtain ⟨hj9, rfl⟩ := xi_some hn9 hx
    obtain ⟨g1, g2, g3⟩ := gL_ok hn9 hp (fun j h => (hj j h).2.2.1.2)
    refine am_begin rfl ?_
    refine st_aloadn O dX6_of_0 rfl (q := 1) rfl ?_
    refine st_getr O dX6_of_1 fl_X6_10 rfl rfl rfl (q := 4) rfl ?_
    refine st_iloadn O dX6_of_4 rfl (q := 5) rfl ?_
    refine st_call O dX6_of_5 cs_X6_of_5 (q := 8) rfl (am_sipq rfl rfl rfl (Nat.le_of_ble_eq_true rfl) rfl (r := 1) ⟨_, gN σ, _, hn9, rfl, rfl, Or.inl ⟨⟨j, hj9, rfl⟩, rfl⟩⟩ ?_)
    refine st_if_ne O dX6_of_8 (t := 17) rfl (q := 11) rfl (fun c8 => ?_) (fun c8 => ?_)
    · refine st_iloadn O dX6_of_17 rfl (q := 18) rfl ?_
      refine st_if_eq O dX6_of_18 (t := 33) rfl (q := 21) rfl (fun c18 => ?_) (fun c18 => ?_)
      · refine st_aloadn O dX6_of_33 rfl (q := 34) rfl ?_
        refine st_getr O dX6_of_34 fl_X6_47 rfl rfl rfl (q := 37) rfl ?_
        refine st_aloadn O dX6_of_37 rfl (q := 38) rfl ?_
        refine st_getr O dX6_of_38 fl_X6_10 rfl rfl rfl (q := 41) rfl ?_
        refine st_iconst O dX6_of_41 am_iconst_0 (q := 42) rfl ?_
        refine st_call O dX6_of_42 cs_X6_of_42 (q := 45) rfl (am_siq rfl rfl rfl (Nat.le_of_ble_eq_true rfl) rfl ?_)
        refine ⟨_, _, _, _, _, _, _, _, [_, _, _, _, _, _], _, 0, rfl, by decide, rfl, hF, hn, fun d hd => ?_⟩
        obtain ⟨j2, j3, j4, j5, j6, j7, j8, o', wt, tn, rr, l, rfl, hO⟩ := id hd
        refine am_nrq rfl rfl ?_
        refine st_iloadn O dX6_of_45 rfl (q := 46) rfl ?_
        refine st_if_ne O dX6_of_46 (t := 61) rfl (q := 49) rfl (fun c46 => ?_) (fun c46 => ?_)
        · refine st_aloadn O dX6_of_61 rfl (q := 62) rfl ?_
          refine st_getr O dX6_of_62 fl_X6_47 rfl rfl rfl (q := 65) rfl ?_
          refine st_getr O dX6_of_65 fl_X6_138 rfl rfl rfl (q := 68) rfl ?_
          refine st_iloadn O dX6_of_68 rfl (q := 69) rfl ?_
          refine sn_ald O dX6_of_69 rfl rfl rfl ⟨by omega, by decide⟩ (tu_tn hO (g2 j hj9)) (q := 70) rfl ?_
          refine st_ireturn O dX6_of_70 ?_
          refine (fun h => ?_) (show b = 0 ∨ b = 1 by first | exact Or.inl c18 | exact Or.inr c23)
          unfold f_of at hK
          rw [hx] at hK
          simp only [if_pos h] at hK
          first | (rw [if_pos (by first | exact c46 | exact Decidable.of_not_not c46)] at hK; exact hK _ ⟨_, _, _, _, _, _, _, _, _, _, _, _, rfl, hn, hd.form⟩) | (rw [if_neg c46] at hK; exact hK _ ⟨_, _, _, _, _, _, _, _, _, _, _, _, rfl, hn, hd.form⟩)
        refine st_aloadn O dX6_of_49 rfl (q := 50) rfl ?_
        refine st_getr O dX6_of_50 fl_X6_47 rfl rfl rfl (q := 53) rfl ?_
        refine st_getr O dX6_of_53 fl_X6_135 rfl rfl rfl (q := 56) rfl ?_
        refine st_iloadn O dX6_of_56 rfl (q := 57) rfl ?_
        refine sn_ald O dX6_of_57 rfl rfl rfl ⟨by omega, by decide⟩ (tu_wt hO (g2 j hj9)) (q := 58) rfl ?_
        refine st_goto O dX6_of_58 (t := 70) rfl ?_
        refine st_ireturn O dX6_of_70 ?_
        refine (fun h => ?_) (show b = 0 ∨ b = 1 by first | exact Or.inl c18 | exact Or.inr c23)
        unfold f_of at hK
        rw [hx] at hK
        simp only [if_pos h] at hK
        first | (rw [if_pos (by first | exact c46 | exact Decidable.of_not_not c46)] at hK; exact hK _ ⟨_, _, _, _, _, _, _, _, _, _, _, _, rfl, hn, hd.form⟩) | (rw [if_neg c46] at hK; exact hK _ ⟨_, _, _, _, _, _, _, _, _, _, _, _, rfl, hn, hd.form⟩)
      refine st_iloadn O dX6_of_21 rfl (q := 22) rfl ?_
      refine st_iconst O dX6_of_22 am_iconst_1 (q := 23) rfl ?_
      refine st_icmp_eq O dX6_of_23 (t := 33) rfl (q := 26) rfl (fun c23 => ?_) (fun c23 => ?_)
      · refine st_aloadn O dX6_of_33 rfl (q := 34) rfl ?_
        refine st_getr O dX6_of_34 fl_X6_47 rfl rfl rfl (q := 37) rfl ?_
        refine st_aloadn O dX6_of_37 rfl (q := 38) rfl ?_
        refine st_getr O dX6_of_38 fl_X6_10 rfl rfl rfl (q := 41) rfl ?_
        refine st_iconst O dX6_of_41 am_iconst_0 (q := 42) rfl ?_
        refine st_call O dX6_of_42 cs_X6_of_42 (q := 45) rfl (am_siq rfl rfl rfl (Nat.le_of_ble_eq_true rfl) rfl ?_)
        refine ⟨_, _, _, _, _, _, _, _, [_, _, _, _, _, _], _, 0, rfl, by decide, rfl, hF, hn, fun d hd => ?_⟩
        obtain ⟨j2, j3, j4, j5, j6, j7, j8, o', wt, tn, rr, l, rfl, hO⟩ := id hd
        refine am_nrq rfl rfl ?_
        refine st_iloadn O dX6_of_45 rfl (q := 46) rfl ?_
        refine st_if_ne O dX6_of_46 (t := 61) rfl (q := 49) rfl (fun c46 => ?_) (fun c46 => ?_)
        · refine st_aloadn O dX6_of_61 rfl (q := 62) rfl ?_
          refine st_getr O dX6_of_62 fl_X6_47 rfl rfl rfl (q := 65) rfl ?_
          refine st_getr O dX6_of_65 fl_X6_138 rfl rfl rfl (q := 68) rfl ?_
          refine st_iloadn O dX6_of_68 rfl (q := 69) rfl ?_
          refine sn_ald O dX6_of_69 rfl rfl rfl ⟨by omega, by decide⟩ (tu_tn hO (g2 j hj9)) (q := 70) rfl ?_
          refine st_ireturn O dX6_of_70 ?_
          refine (fun h => ?_) (show b = 0 ∨ b = 1 by first | exact Or.inl c18 | exact Or.inr c23)
          unfold f_of at hK
          rw [hx] at hK
          simp only [if_pos h] at hK
          first | (rw [if_pos (by first | exact c46 | exact Decidable.of_not_not c46)] at hK; exact hK _ ⟨_, _, _, _, _, _, _, _, _, _, _, _, rfl, hn, hd.form⟩) | (rw [if_neg c46] at hK; exact hK _ ⟨_, _, _, _, _, _, _, _, _, _, _, _, rfl, hn, hd.form⟩)
        refine st_aloadn O dX6_of_49 rfl (q := 50) rfl ?_
        refine st_getr O dX6_of_50 fl_X6_47 rfl rfl rfl (q := 53) rfl ?_
        refine st_getr O dX6_of_53 fl_X6_135 rfl rfl rfl (q := 56) rfl ?_
        refine st_iloadn O dX6_of_56 rfl (q := 57) rfl ?_
        refine sn_ald O dX6_of_57 rfl rfl rfl ⟨by omega, by decide⟩ (tu_wt hO (g2 j hj9)) (q := 58) rfl ?_
        refine st_goto O dX6_of_58 (t := 70) rfl ?_
        refine st_ireturn O dX6_of_70 ?_
        refine (fun h => ?_) (show b = 0 ∨ b = 1 by first | exact Or.inl c18 | exact Or.inr c23)
        unfold f_of at hK
        rw [hx] at hK
        simp only [if_pos h] at hK
        first | (rw [if_pos (by first | exact c46 | exact Decidable.of_not_not c46)] at hK; exact hK _ ⟨_, _, _, _, _, _, _, _, _, _, _, _, rfl, hn, hd.form⟩) | (rw [if_neg c46] at hK; exact hK _ ⟨_, _, _, _, _, _, _, _, _, _, _, _, rfl, hn, hd.form⟩)
      refine st_aloadn O dX6_of_26 rfl (q := 27) rfl ?_
      refine st_bipush O dX6_of_27 am_bipush_m2 (q := 29) rfl ?_
      refine st_call O dX6_of_29 cs_X6_of_29 (q := 32) rfl (am_siq rfl rfl rfl (Nat.le_of_ble_eq_true rfl) rfl ?_)
      refine ⟨_, _, 2, by decide, by decide, rfl, rfl, ?_⟩
      refine am_nrq rfl rfl ?_
      rw [show f_of (nI j) b σ = rfs 2 σ from by unfold f_of; rw [hx]; exact if_neg (fun z => z.elim c18 c23)] at hK
      exact st_ireturn O dX6_of_32 (hK _ ⟨_, _, _, _, _, _, _, _, _, _, _, _, rfl, hn, hF⟩)
    exact absurd c8 (by decide)
theorem C_X6_of : am_ctr yX6_of cX6_of 3 (some .int) 4 91 sh_VP [some 0, none, none] T_X6_of := am_mk (by decide) (Or.inr (Or.inl ⟨rfl, rfl⟩)) (by decide) (by decide) (by decide) fl_X6_ok kc_X6_ok ck_X6_of B_X6_of
def cs_X6_sums : Nat → List am_V → am_D → am_K → Prop := am_cs [(12, am_site 2 [some 0, none] T_X6_refuse [0, 7] [0, 7, 1, 14, 15, 16, 17, 8, 18, 19]), (25, am_site 3 [some 0, some 6, none] T_X3_drive [8, 9, 10, 11, 12, 13, 1, 2, 3, 4, 5, 6] [8, 9, 10, 11, 12, 13, 1, 2, 3, 4, 5, 6]), (72, am_site 1 [some 0] T_X3_allWaits [8, 9, 10, 11, 12, 13] [8, 9, 10, 11, 12, 13]), (84, am_site 2 [some 0, some 6] T_X3_cost [8, 9, 10, 11, 12, 13, 1, 2, 3, 4, 5, 6] [8, 9, 10, 11, 12, 13, 1, 2, 3, 4, 5, 6]), (96, am_site 2 [some 0, some 6] T_X3_laneChanges [8, 9, 10, 11, 12, 13, 1, 2, 3, 4, 5, 6] [8, 9, 10, 11, 12, 13, 1, 2, 3, 4, 5, 6]), (108, am_site 2 [some 0, some 6] T_X3_longestRun [8, 9, 10, 11, 12, 13, 1, 2, 3, 4, 5, 6] [8, 9, 10, 11, 12, 13, 1, 2, 3, 4, 5, 6])]
theorem cs_X6_sums_12 : cs_X6_sums 12 = am_site 2 [some 0, none] T_X6_refuse [0, 7] [0, 7, 1, 14, 15, 16, 17, 8, 18, 19] := rfl
theorem cs_X6_sums_25 : cs_X6_sums 25 = am_site 3 [some 0, some 6, none] T_X3_drive [8, 9, 10, 11, 12, 13, 1, 2, 3, 4, 5, 6] [8, 9, 10, 11, 12, 13, 1, 2, 3, 4, 5, 6] := rfl
theorem cs_X6_sums_72 : cs_X6_sums 72 = am_site 1 [some 0] T_X3_allWaits [8, 9, 10, 11, 12, 13] [8, 9, 10, 11, 12, 13] := rfl
theorem cs_X6_sums_84 : cs_X6_sums 84 = am_site 2 [some 0, some 6] T_X3_cost [8, 9, 10, 11, 12, 13, 1, 2, 3, 4, 5, 6] [8, 9, 10, 11, 12, 13, 1, 2, 3, 4, 5, 6] := rfl
theorem cs_X6_sums_96 : cs_X6_sums 96 = am_site 2 [some 0, some 6] T_X3_laneChanges [8, 9, 10, 11, 12, 13, 1, 2, 3, 4, 5, 6] [8, 9, 10, 11, 12, 13, 1, 2, 3, 4, 5, 6] := rfl
theorem cs_X6_sums_108 : cs_X6_sums 108 = am_site 2 [some 0, some 6] T_X3_longestRun [8, 9, 10, 11, 12, 13, 1, 2, 3, 4, 5, 6] [8, 9, 10, 11, 12, 13, 1, 2, 3, 4, 5, 6] := rfl
theorem ck_X6_sums : ∀ X : am_X, am_cx X RX6 cX6_sums 2 4 91 → ∀ pc, am_csok X 2 sh_VP pc (cs_X6_sums pc) := fun X hX => am_cs_ok (List.forall_mem_cons.mpr ⟨am_callV hX C_X6_refuse mo_X6_refuse rfl lk_X6_65 dX6_sums_12 rfl rfl rfl (by decide), List.forall_mem_cons.mpr ⟨am_callV hX C_X3_drive mo_X3_drive rfl lk_X6_128 dX6_sums_25 rfl rfl rfl (by decide), List.forall_mem_cons.mpr ⟨am_callV hX C_X3_allWaits mo_X3_allWaits rfl lk_X6_144 dX6_sums_72 rfl rfl rfl (by decide), List.forall_mem_cons.mpr ⟨am_callV hX C_X3_cost mo_X3_cost rfl lk_X6_148 dX6_sums_84 rfl rfl rfl (by decide), List.forall_mem_cons.mpr ⟨am_callV hX C_X3_laneChanges mo_X3_laneChanges rfl lk_X6_152 dX6_sums_96 rfl rfl rfl (by decide), List.forall_mem_cons.mpr ⟨am_callV hX C_X3_longestRun mo_X3_longestRun rfl lk_X6_155 dX6_sums_108 rfl rfl rfl (by decide), fun _ h => absurd h List.not_mem_nil⟩⟩⟩⟩⟩⟩)
abbrev ok_X6_sums (X : am_X) (K : List Int32 → am_D → Prop) : Prop := am_ok X RX6 cX6_sums 2 sh_VP fl_X6 kc_X6 none 1 cs_X6_sums K
abbrev aw_X6_sums (X : am_X) (pc : Nat) (ls : am_L) (st : List am_V) (D : am_D) : Prop := am_aw X 2 sh_VP pc ls st D
abbrev T_X6_sums : am_TT := am_v1f V_P f_sums
theorem sm_cases {a : Int32} (h0 : ¬ a < 0) (h4 : a ≤ nI 4) : a = 0 ∨ a = 1 ∨ a = 2 ∨ a = 3 ∨ a = 4 := by
  obtain ⟨v, hv, rfl⟩ := (le_iff 4 (by decide)).mp ⟨Int32.not_lt.mp h0, h4⟩
  rcases (by omega : v = 0 ∨ v = 1 ∨ v = 2 ∨ v = 3 ∨ v = 4) with rfl | rfl | rfl | rfl | rfl
  · exact Or.inl rfl
  · exact Or.inr (Or.inl rfl)
  · exact Or.inr (Or.inr (Or.inl rfl))
  · exact Or.inr (Or.inr (Or.inr (Or.inl rfl)))
  · exact Or.inr (Or.inr (Or.inr (Or.inr rfl)))
theorem sm_out {a : Int32} (h : a < 0 ∨ ¬ a ≤ nI 4) : ¬ a = 0 ∧ ¬ a = 1 ∧ ¬ a = 2 ∧ ¬ a = 3 ∧ ¬ a = 4 := by
  refine ⟨?_, ?_, ?_, ?_, ?_⟩
  all_goals (rintro rfl; revert h; decide)
theorem B_X6_sums : ∀ (X : am_X) (is : List Int32) (D : am_D) (K : List Int32 → am_D → Prop), ok_X6_sums X K → T_X6_sums is D K → is.length = (List.filter Option.isNone ([some 0, none] : List (Option Nat))).length → D.length = sh_VP.length → am_aw X 2 sh_VP 0 (am_l0 2 [some 0, none] is) [] D := by
  intro X is D K O hT _ _
  obtain ⟨o, σ, a, ⟨n0, n1, n2, n3, n4, n5, p0, p1, p2, p3, p4, p5, rfl, hn, hF⟩, rfl, hK⟩ := hT
  obtain ⟨kk, ff, ll, hh, ii, e, hn9, hb2, hw9, hj, hp, hi⟩ := id hn
  cases e
  obtain ⟨z1, z2, z3, z4, z5, z6, z7, z8, z9, y1, y2, y3, y4, y5, e⟩ := id hF
  cases e
  obtain ⟨g1, g2, g3⟩ := gL_ok hn9 hp (fun j h => (hj j h).2.2.1.2)
  refine am_begin rfl ?_
  refine st_iloadn O dX6_sums_0 rfl (q := 1) rfl ?_
  refine st_if_lt O dX6_sums_1 (t := 9) rfl (q := 4) rfl (fun c1 => ?_) (fun c1 => ?_)
  · refine st_aloadn O dX6_sums_9 rfl (q := 10) rfl ?_
    refine st_bipush O dX6_sums_10 am_bipush_m2 (q := 12) rfl ?_
    refine st_call O dX6_sums_12 cs_X6_sums_12 (q := 15) rfl (am_siq rfl rfl rfl (Nat.le_of_ble_eq_true rfl) rfl ?_)
    refine ⟨_, _, 2, by decide, by decide, rfl, rfl, ?_⟩
    refine am_nrq rfl rfl ?_
    rw [show f_sums a σ = rfs 2 σ from by obtain ⟨m1, m2, m3, m4, m5⟩ := sm_out (a := a) (by first | exact Or.inl c1 | exact Or.inr c6); exact (if_neg m1).trans ((if_neg m2).trans ((if_neg m3).trans ((if_neg m4).trans (if_neg m5))))] at hK
    exact st_ireturn O dX6_sums_15 (hK _ ⟨_, _, _, _, _, _, _, _, _, _, _, _, rfl, hn, hF⟩)
  refine st_iloadn O dX6_sums_4 rfl (q := 5) rfl ?_
  refine st_iconst O dX6_sums_5 am_iconst_4 (q := 6) rfl ?_
  refine st_icmp_le O dX6_sums_6 (t := 16) rfl (q := 9) rfl (fun c6 => ?_) (fun c6 => ?_)
  · refine st_aloadn O dX6_sums_16 rfl (q := 17) rfl ?_
    refine st_getr O dX6_sums_17 fl_X6_47 rfl rfl rfl (q := 20) rfl ?_
    refine st_aloadn O dX6_sums_20 rfl (q := 21) rfl ?_
    refine st_getr O dX6_sums_21 fl_X6_10 rfl rfl rfl (q := 24) rfl ?_
    refine st_iconst O dX6_sums_24 am_iconst_0 (q := 25) rfl ?_
    refine st_call O dX6_sums_25 cs_X6_sums_25 (q := 28) rfl (am_siq rfl rfl rfl (Nat.le_of_ble_eq_true rfl) rfl ?_)
    refine ⟨_, _, _, _, _, _, _, _, [_, _, _, _, _, _], _, 0, rfl, by decide, rfl, hF, hn, fun d hd => ?_⟩
    obtain ⟨j2, j3, j4, j5, j6, j7, j8, o', wt, tn, rr, l, rfl, hO⟩ := id hd
    refine am_nrq rfl rfl ?_
    refine st_iloadn O dX6_sums_28 rfl (q := 29) rfl ?_
    refine st_table O dX6_sums_29 (os := [31, 39, 47, 59]) rfl rfl ?_
    refine sw_consT (v := 0) (by decide) (t := 60) rfl (lo' := 1) rfl (fun c29_0 => ?_) (fun c29_0 => ?_)
    · refine st_aloadn O dX6_sums_60 rfl (q := 61) rfl ?_
      refine st_getr O dX6_sums_61 fl_X6_47 rfl rfl rfl (q := 64) rfl ?_
      refine st_geti O dX6_sums_64 fl_X6_141 rfl rfl rfl rfl (q := 67) rfl ?_
      refine st_ireturn O dX6_sums_67 ?_
      rw [show f_sums a σ = (nI (tot (gL σ)), σ) from if_pos c29_0] at hK; exact hK _ ⟨_, _, _, _, _, _, _, _, _, _, _, _, rfl, hn, hd.form⟩
    refine sw_consT (v := 1) (by decide) (t := 68) rfl (lo' := 2) rfl (fun c29_1 => ?_) (fun c29_1 => ?_)
    · refine st_aloadn O dX6_sums_68 rfl (q := 69) rfl ?_
      refine st_getr O dX6_sums_69 fl_X6_47 rfl rfl rfl (q := 72) rfl ?_
      refine st_call O dX6_sums_72 cs_X6_sums_72 (q := 75) rfl (am_sipq rfl rfl rfl (Nat.le_of_ble_eq_true rfl) rfl (r := nI (wts (gL σ))) ⟨_, _, _, hd, g1, rfl, rfl⟩ ?_)
      refine st_ireturn O dX6_sums_75 ?_
      rw [show f_sums a σ = (nI (wts (gL σ)), σ) from (if_neg c29_0).trans (if_pos c29_1)] at hK; exact hK _ ⟨_, _, _, _, _, _, _, _, _, _, _, _, rfl, hn, hd.form⟩
    refine sw_consT (v := 2) (by decide) (t := 76) rfl (lo' := 3) rfl (fun c29_2 => ?_) (fun c29_2 => ?_)
    · refine st_aloadn O dX6_sums_76 rfl (q := 77) rfl ?_
      refine st_getr O dX6_sums_77 fl_X6_47 rfl rfl rfl (q := 80) rfl ?_
      refine st_aloadn O dX6_sums_80 rfl (q := 81) rfl ?_
      refine st_getr O dX6_sums_81 fl_X6_10 rfl rfl rfl (q := 84) rfl ?_
      refine st_call O dX6_sums_84 cs_X6_sums_84 (q := 87) rfl (am_sipq rfl rfl rfl (Nat.le_of_ble_eq_true rfl) rfl (r := nI (gC σ)) ⟨_, _, _, _, _, _, _, _, _, [_, _, _, _, _, _], _, rfl, hd, hn, g1, rfl, rfl⟩ ?_)
      refine st_ireturn O dX6_sums_87 ?_
      rw [show f_sums a σ = (nI (gC σ), σ) from (if_neg c29_0).trans ((if_neg c29_1).trans (if_pos c29_2))] at hK; exact hK _ ⟨_, _, _, _, _, _, _, _, _, _, _, _, rfl, hn, hd.form⟩
    refine sw_consT (v := 3) (by decide) (t := 88) rfl (lo' := 4) rfl (fun c29_3 => ?_) (fun c29_3 => ?_)
    · refine st_aloadn O dX6_sums_88 rfl (q := 89) rfl ?_
      refine st_getr O dX6_sums_89 fl_X6_47 rfl rfl rfl (q := 92) rfl ?_
      refine st_aloadn O dX6_sums_92 rfl (q := 93) rfl ?_
      refine st_getr O dX6_sums_93 fl_X6_10 rfl rfl rfl (q := 96) rfl ?_
      refine st_call O dX6_sums_96 cs_X6_sums_96 (q := 99) rfl (am_sipq rfl rfl rfl (Nat.le_of_ble_eq_true rfl) rfl (r := nI (stt (gL σ)).2.1) ⟨_, _, _, _, _, _, _, _, _, [_, _, _, _, _, _], _, rfl, hd, hn, g1, rfl, rfl⟩ ?_)
      refine st_ireturn O dX6_sums_99 ?_
      rw [show f_sums a σ = (nI (stt (gL σ)).2.1, σ) from (if_neg c29_0).trans ((if_neg c29_1).trans ((if_neg c29_2).trans (if_pos c29_3)))] at hK; exact hK _ ⟨_, _, _, _, _, _, _, _, _, _, _, _, rfl, hn, hd.form⟩
    refine sw_nilT (t := 100) rfl ?_
    refine st_aloadn O dX6_sums_100 rfl (q := 101) rfl ?_
    refine st_getr O dX6_sums_101 fl_X6_47 rfl rfl rfl (q := 104) rfl ?_
    refine st_aloadn O dX6_sums_104 rfl (q := 105) rfl ?_
    refine st_getr O dX6_sums_105 fl_X6_10 rfl rfl rfl (q := 108) rfl ?_
    refine st_call O dX6_sums_108 cs_X6_sums_108 (q := 111) rfl (am_sipq rfl rfl rfl (Nat.le_of_ble_eq_true rfl) rfl (r := nI (stt (gL σ)).2.2.2) ⟨_, _, _, _, _, _, _, _, _, [_, _, _, _, _, _], _, rfl, hd, hn, g1, rfl, rfl⟩ ?_)
    refine st_ireturn O dX6_sums_111 ?_
    rw [show f_sums a σ = (nI (stt (gL σ)).2.2.2, σ) from (if_neg c29_0).trans ((if_neg c29_1).trans ((if_neg c29_2).trans ((if_neg c29_3).trans (if_pos ((((sm_cases c1 c6).resolve_left c29_0).resolve_left c29_1).resolve_left c29_2 |>.resolve_left c29_3)))))] at hK; exact hK _ ⟨_, _, _, _, _, _, _, _, _, _, _, _, rfl, hn, hd.form⟩
  refine st_aloadn O dX6_sums_9 rfl (q := 10) rfl ?_
  refine st_bipush O dX6_sums_10 am_bipush_m2 (q := 12) rfl ?_
  refine st_call O dX6_sums_12 cs_X6_sums_12 (q := 15) rfl (am_siq rfl rfl rfl (Nat.le_of_ble_eq_true rfl) rfl ?_)
  refine ⟨_, _, 2, by decide, by decide, rfl, rfl, ?_⟩
  refine am_nrq rfl rfl ?_
  rw [show f_sums a σ = rfs 2 σ from by obtain ⟨m1, m2, m3, m4, m5⟩ := sm_out (a := a) (by first | exact Or.inl c1 | exact Or.inr c6); exact (if_neg m1).trans ((if_neg m2).trans ((if_neg m3).trans ((if_neg m4).trans (if_neg m5))))] at hK
  exact st_ireturn O dX6_sums_15 (hK _ ⟨_, _, _, _, _, _, _, _, _, _, _, _, rfl, hn, hF⟩)
theorem C_X6_sums : am_ctr yX6_sums cX6_sums 2 (some .int) 4 91 sh_VP [some 0, none] T_X6_sums := am_mk (by decide) (Or.inr (Or.inl ⟨rfl, rfl⟩)) (by decide) (by decide) (by decide) fl_X6_ok kc_X6_ok ck_X6_sums B_X6_sums
