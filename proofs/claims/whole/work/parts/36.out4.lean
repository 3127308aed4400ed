/-! the class's own methods: queues, luck, gaps -/
def cs_X6_queue : Nat → List am_V → am_D → am_K → Prop := am_cs [(11, am_site 2 [some 0, none] T_X6_refuse [0, 7] [0, 7, 1, 14, 15, 16, 17, 8, 18, 19]), (22, am_site 2 [some 0, none] T_X6_refuse [0, 7] [0, 7, 1, 14, 15, 16, 17, 8, 18, 19]), (40, am_site 2 [some 0, none] T_X6_refuse [0, 7] [0, 7, 1, 14, 15, 16, 17, 8, 18, 19]), (53, am_site 3 [some 0, some 6, none] T_X3_drive [8, 9, 10, 11, 12, 13, 1, 2, 3, 4, 5, 6] [8, 9, 10, 11, 12, 13, 1, 2, 3, 4, 5, 6]), (61, am_site 2 [some 0, none] T_X4_standing [1, 2, 3, 4, 5, 6] [1, 2, 3, 4, 5, 6]), (74, am_site 4 [some 0, some 6, none, none] T_X3_goneOf [8, 9, 10, 11, 12, 13, 1, 2, 3, 4, 5, 6] [8, 9, 10, 11, 12, 13, 1, 2, 3, 4, 5, 6])]
theorem cs_X6_queue_11 : cs_X6_queue 11 = am_site 2 [some 0, none] T_X6_refuse [0, 7] [0, 7, 1, 14, 15, 16, 17, 8, 18, 19] := rfl
theorem cs_X6_queue_22 : cs_X6_queue 22 = am_site 2 [some 0, none] T_X6_refuse [0, 7] [0, 7, 1, 14, 15, 16, 17, 8, 18, 19] := rfl
theorem cs_X6_queue_40 : cs_X6_queue 40 = am_site 2 [some 0, none] T_X6_refuse [0, 7] [0, 7, 1, 14, 15, 16, 17, 8, 18, 19] := rfl
theorem cs_X6_queue_53 : cs_X6_queue 53 = am_site 3 [some 0, some 6, none] T_X3_drive [8, 9, 10, 11, 12, 13, 1, 2, 3, 4, 5, 6] [8, 9, 10, 11, 12, 13, 1, 2, 3, 4, 5, 6] := rfl
theorem cs_X6_queue_61 : cs_X6_queue 61 = am_site 2 [some 0, none] T_X4_standing [1, 2, 3, 4, 5, 6] [1, 2, 3, 4, 5, 6] := rfl
theorem cs_X6_queue_74 : cs_X6_queue 74 = am_site 4 [some 0, some 6, none, none] T_X3_goneOf [8, 9, 10, 11, 12, 13, 1, 2, 3, 4, 5, 6] [8, 9, 10, 11, 12, 13, 1, 2, 3, 4, 5, 6] := rfl
theorem ck_X6_queue : ∀ X : am_X, am_cx X RX6 cX6_queue 3 4 91 → ∀ pc, am_csok X 3 sh_VP pc (cs_X6_queue pc) := fun X hX => am_cs_ok (List.forall_mem_cons.mpr ⟨am_callV hX C_X6_refuse mo_X6_refuse rfl lk_X6_65 dX6_queue_11 rfl rfl rfl (by decide), List.forall_mem_cons.mpr ⟨am_callV hX C_X6_refuse mo_X6_refuse rfl lk_X6_65 dX6_queue_22 rfl rfl rfl (by decide), List.forall_mem_cons.mpr ⟨am_callV hX C_X6_refuse mo_X6_refuse rfl lk_X6_65 dX6_queue_40 rfl rfl rfl (by decide), List.forall_mem_cons.mpr ⟨am_callV hX C_X3_drive mo_X3_drive rfl lk_X6_128 dX6_queue_53 rfl rfl rfl (by decide), List.forall_mem_cons.mpr ⟨am_callV hX C_X4_standing mo_X4_standing rfl lk_X6_161 dX6_queue_61 rfl rfl rfl (by decide), List.forall_mem_cons.mpr ⟨am_callV hX C_X3_goneOf mo_X3_goneOf rfl lk_X6_164 dX6_queue_74 rfl rfl rfl (by decide), fun _ h => absurd h List.not_mem_nil⟩⟩⟩⟩⟩⟩)
abbrev ok_X6_queue (X : am_X) (K : List Int32 → am_D → Prop) : Prop := am_ok X RX6 cX6_queue 3 sh_VP fl_X6 kc_X6 none 1 cs_X6_queue K
abbrev aw_X6_queue (X : am_X) (pc : Nat) (ls : am_L) (st : List am_V) (D : am_D) : Prop := am_aw X 3 sh_VP pc ls st D
abbrev T_X6_queue : am_TT := am_v2f V_P f_queue
theorem B_X6_queue : ∀ (X : am_X) (is : List Int32) (D : am_D) (K : List Int32 → am_D → Prop), ok_X6_queue X K → T_X6_queue is D K → is.length = (List.filter Option.isNone ([some 0, none, none] : List (Option Nat))).length → D.length = sh_VP.length → am_aw X 3 sh_VP 0 (am_l0 3 [some 0, none, none] is) [] D := by
  intro X is D K O hT _ _
  obtain ⟨o, σ, a, b, ⟨n0, n1, n2, n3, n4, n5, p0, p1, p2, p3, p4, p5, rfl, hn, hF⟩, rfl, hK⟩ := hT
  obtain ⟨kk, ff, ll, hh, ii, e, hn9, hb2, hw9, hj, hp, hi⟩ := id hn
  cases e
  obtain ⟨z1, z2, z3, z4, z5, z6, z7, z8, z9, y1, y2, y3, y4, y5, e⟩ := id hF
  cases e
  have eN : gN σ = σ.1.1 := rfl
  obtain ⟨g1, g2, g3⟩ := gL_ok hn9 hp (fun j h => (hj j h).2.2.1.2)
  have main : ∀ z, z < 2 → a = nI z → am_aw X 3 sh_VP 15 [some (.inr 0), some (.inl (nI z)), some (.inl b)] [] [.inl [o, nI σ.2.2.2.1.length], .inl [nI σ.1.1, nI σ.1.2.1, nI σ.1.2.2.1], .inr kk, .inr ff, .inr ll, .inr hh, .inr ii, .inr σ.2.2.2.2, .inl [z1, z2, z3, z4, z5, z6, z7, z8, z9], .inr y1, .inr y2, .inr y3, .inr y4, .inr y5] := by
    intro z hz ha
    have hor : a = 0 ∨ a = 1 := by
      rcases (by omega : z = 0 ∨ z = 1) with rfl | rfl
      · exact Or.inl ha
      · exact Or.inr ha
    refine st_iloadn O dX6_queue_15 rfl (q := 16) rfl ?_
    refine st_if_ge O dX6_queue_16 (t := 26) rfl (q := 19) rfl (fun c16 => ?_) (fun c16 => ?_)
    · refine st_iloadn O dX6_queue_26 rfl (q := 27) rfl ?_
      refine st_aloadn O dX6_queue_27 rfl (q := 28) rfl ?_
      refine st_getr O dX6_queue_28 fl_X6_10 rfl rfl rfl (q := 31) rfl ?_
      refine st_geti O dX6_queue_31 fl_X6_158 rfl rfl rfl rfl (q := 34) rfl ?_
      refine st_icmp_le O dX6_queue_34 (t := 44) rfl (q := 37) rfl (fun c34 => ?_) (fun c34 => ?_)
      · refine st_aloadn O dX6_queue_44 rfl (q := 45) rfl ?_
        refine st_getr O dX6_queue_45 fl_X6_47 rfl rfl rfl (q := 48) rfl ?_
        refine st_aloadn O dX6_queue_48 rfl (q := 49) rfl ?_
        refine st_getr O dX6_queue_49 fl_X6_10 rfl rfl rfl (q := 52) rfl ?_
        refine st_iconst O dX6_queue_52 am_iconst_0 (q := 53) rfl ?_
        refine st_call O dX6_queue_53 cs_X6_queue_53 (q := 56) rfl (am_siq rfl rfl rfl (Nat.le_of_ble_eq_true rfl) rfl ?_)
        obtain ⟨v, hv, e⟩ := (le_iff (gN σ) (by omega)).mp ⟨c16, c34⟩
        rw [show f_queue a b σ = (nI (((gq σ).filter (fun c => gl σ c = a.toNatClampNeg)).length) - nI (gnZ (gL σ) a.toNatClampNeg b.toNatClampNeg), σ) from (if_pos hor).trans ((if_pos c16).trans (if_pos c34)), ha, e, nI_clamp (by omega), nI_clamp (by omega)] at hK
        subst e
        refine ⟨_, _, _, _, _, _, _, _, [_, _, _, _, _, _], _, 0, rfl, by decide, rfl, hF, hn, fun d hd => ?_⟩
        obtain ⟨j2, j3, j4, j5, j6, j7, j8, o', wt, tn, rr, l, rfl, hO⟩ := id hd
        refine am_nrq rfl rfl ?_
        refine st_aloadn O dX6_queue_56 rfl (q := 57) rfl ?_
        refine st_getr O dX6_queue_57 fl_X6_10 rfl rfl rfl (q := 60) rfl ?_
        refine st_iloadn O dX6_queue_60 rfl (q := 61) rfl ?_
        refine st_call O dX6_queue_61 cs_X6_queue_61 (q := 64) rfl (am_sipq rfl rfl rfl (Nat.le_of_ble_eq_true rfl) rfl (r := nI (((gq σ).filter (fun c => gl σ c = z)).length)) ⟨_, _, _, _, _, _, _, _, z, hn, hz, rfl, rfl⟩ ?_)
        refine st_aloadn O dX6_queue_64 rfl (q := 65) rfl ?_
        refine st_getr O dX6_queue_65 fl_X6_47 rfl rfl rfl (q := 68) rfl ?_
        refine st_aloadn O dX6_queue_68 rfl (q := 69) rfl ?_
        refine st_getr O dX6_queue_69 fl_X6_10 rfl rfl rfl (q := 72) rfl ?_
        refine st_iloadn O dX6_queue_72 rfl (q := 73) rfl ?_
        refine st_iloadn O dX6_queue_73 rfl (q := 74) rfl ?_
        refine st_call O dX6_queue_74 cs_X6_queue_74 (q := 77) rfl (am_sipq rfl rfl rfl (Nat.le_of_ble_eq_true rfl) rfl (r := nI (gnZ (gL σ) z v)) ⟨gL σ, _, _, _, _, _, _, _, _, [_, _, _, _, _, _], _, z, v, rfl, hd, hn, g1, hz, by omega, rfl, rfl⟩ ?_)
        refine st_isub O dX6_queue_77 rfl (q := 78) rfl ?_
        refine st_ireturn O dX6_queue_78 ?_
        exact hK _ ⟨_, _, _, _, _, _, _, _, _, _, _, _, rfl, hn, hd.form⟩
      refine st_aloadn O dX6_queue_37 rfl (q := 38) rfl ?_
      refine st_bipush O dX6_queue_38 am_bipush_m6 (q := 40) rfl ?_
      refine st_call O dX6_queue_40 cs_X6_queue_40 (q := 43) rfl (am_siq rfl rfl rfl (Nat.le_of_ble_eq_true rfl) rfl ?_)
      refine ⟨_, _, 6, by decide, by decide, rfl, rfl, ?_⟩
      refine am_nrq rfl rfl ?_
      rw [show f_queue a b σ = rfs 6 σ from (if_pos hor).trans ((if_pos c16).trans (if_neg c34))] at hK
      exact st_ireturn O dX6_queue_43 (hK _ ⟨_, _, _, _, _, _, _, _, _, _, _, _, rfl, hn, hF⟩)
    refine st_aloadn O dX6_queue_19 rfl (q := 20) rfl ?_
    refine st_bipush O dX6_queue_20 am_bipush_m4 (q := 22) rfl ?_
    refine st_call O dX6_queue_22 cs_X6_queue_22 (q := 25) rfl (am_siq rfl rfl rfl (Nat.le_of_ble_eq_true rfl) rfl ?_)
    refine ⟨_, _, 4, by decide, by decide, rfl, rfl, ?_⟩
    refine am_nrq rfl rfl ?_
    rw [show f_queue a b σ = rfs 4 σ from (if_pos hor).trans (if_neg c16)] at hK
    exact st_ireturn O dX6_queue_25 (hK _ ⟨_, _, _, _, _, _, _, _, _, _, _, _, rfl, hn, hF⟩)
  by_cases h0 : a = 0
  · refine am_begin rfl ?_
    refine st_iloadn O dX6_queue_0 rfl (q := 1) rfl ?_
    refine st_if_eq O dX6_queue_1 (t := 15) rfl (q := 4) rfl (fun c1 => ?_) (fun c1 => ?_)
    · have := main 0 (by decide) h0
      rw [h0]
      exact this
    exact absurd h0 c1
  · by_cases h1 : a = 1
    · refine am_begin rfl ?_
      refine st_iloadn O dX6_queue_0 rfl (q := 1) rfl ?_
      refine st_if_eq O dX6_queue_1 (t := 15) rfl (q := 4) rfl (fun c1 => ?_) (fun c1 => ?_)
      · exact absurd c1 h0
      refine st_iloadn O dX6_queue_4 rfl (q := 5) rfl ?_
      refine st_iconst O dX6_queue_5 am_iconst_1 (q := 6) rfl ?_
      refine st_icmp_eq O dX6_queue_6 (t := 15) rfl (q := 9) rfl (fun c6 => ?_) (fun c6 => ?_)
      · have := main 1 (by decide) h1
        rw [h1]
        exact this
      exact absurd h1 c6
    · refine am_begin rfl ?_
      refine st_iloadn O dX6_queue_0 rfl (q := 1) rfl ?_
      refine st_if_eq O dX6_queue_1 (t := 15) rfl (q := 4) rfl (fun c1 => ?_) (fun c1 => ?_)
      · exact absurd c1 h0
      refine st_iloadn O dX6_queue_4 rfl (q := 5) rfl ?_
      refine st_iconst O dX6_queue_5 am_iconst_1 (q := 6) rfl ?_
      refine st_icmp_eq O dX6_queue_6 (t := 15) rfl (q := 9) rfl (fun c6 => ?_) (fun c6 => ?_)
      · exact absurd c6 h1
      refine st_aloadn O dX6_queue_9 rfl (q := 10) rfl ?_
      refine st_iconst O dX6_queue_10 am_iconst_m1 (q := 11) rfl ?_
      refine st_call O dX6_queue_11 cs_X6_queue_11 (q := 14) rfl (am_siq rfl rfl rfl (Nat.le_of_ble_eq_true rfl) rfl ?_)
      refine ⟨_, _, 1, by decide, by decide, rfl, rfl, ?_⟩
      refine am_nrq rfl rfl ?_
      rw [show f_queue a b σ = rfs 1 σ from if_neg (fun z => z.elim h0 h1)] at hK
      exact st_ireturn O dX6_queue_14 (hK _ ⟨_, _, _, _, _, _, _, _, _, _, _, _, rfl, hn, hF⟩)
theorem C_X6_queue : am_ctr yX6_queue cX6_queue 3 (some .int) 4 91 sh_VP [some 0, none, none] T_X6_queue := am_mk (by decide) (Or.inr (Or.inl ⟨rfl, rfl⟩)) (by decide) (by decide) (by decide) fl_X6_ok kc_X6_ok ck_X6_queue B_X6_queue
theorem ov_le (L : List (Nat × Nat × Nat)) (c : Nat) : ov L c ≤ c := by
  have := sm_le (f := fun o => if tu_ L c < tu_ L o then 1 else 0) (B := 1) c (fun i _ => by split <;> omega)
  unfold ov
  omega
def cs_X6_fair : Nat → List am_V → am_D → am_K → Prop := am_cs [(9, am_site 3 [some 0, some 6, none] T_X3_drive [8, 9, 10, 11, 12, 13, 1, 2, 3, 4, 5, 6] [8, 9, 10, 11, 12, 13, 1, 2, 3, 4, 5, 6]), (33, am_site 2 [some 0, none] T_X3_overtaken [8, 9, 10, 11, 12, 13] [8, 9, 10, 11, 12, 13])]
theorem cs_X6_fair_9 : cs_X6_fair 9 = am_site 3 [some 0, some 6, none] T_X3_drive [8, 9, 10, 11, 12, 13, 1, 2, 3, 4, 5, 6] [8, 9, 10, 11, 12, 13, 1, 2, 3, 4, 5, 6] := rfl
theorem cs_X6_fair_33 : cs_X6_fair 33 = am_site 2 [some 0, none] T_X3_overtaken [8, 9, 10, 11, 12, 13] [8, 9, 10, 11, 12, 13] := rfl
theorem ck_X6_fair : ∀ X : am_X, am_cx X RX6 cX6_fair 3 4 91 → ∀ pc, am_csok X 3 sh_VP pc (cs_X6_fair pc) := fun X hX => am_cs_ok (List.forall_mem_cons.mpr ⟨am_callV hX C_X3_drive mo_X3_drive rfl lk_X6_128 dX6_fair_9 rfl rfl rfl (by decide), List.forall_mem_cons.mpr ⟨am_callV hX C_X3_overtaken mo_X3_overtaken rfl lk_X6_201 dX6_fair_33 rfl rfl rfl (by decide), fun _ h => absurd h List.not_mem_nil⟩⟩)
abbrev ok_X6_fair (X : am_X) (K : List Int32 → am_D → Prop) : Prop := am_ok X RX6 cX6_fair 3 sh_VP fl_X6 kc_X6 none 1 cs_X6_fair K
abbrev aw_X6_fair (X : am_X) (pc : Nat) (ls : am_L) (st : List am_V) (D : am_D) : Prop := am_aw X 3 sh_VP pc ls st D
abbrev T_X6_fair : am_TT := am_v0 V_P f_fair
theorem B_X6_fair : ∀ (X : am_X) (is : List Int32) (D : am_D) (K : List Int32 → am_D → Prop), ok_X6_fair X K → T_X6_fair is D K → is.length = (List.filter Option.isNone ([some 0] : List (Option Nat))).length → D.length = sh_VP.length → am_aw X 3 sh_VP 0 (am_l0 3 [some 0] is) [] D := by
  intro X is D K O hT _ _
  obtain ⟨o, σ, ⟨n0, n1, n2, n3, n4, n5, p0, p1, p2, p3, p4, p5, rfl, hn, hF⟩, rfl, hK⟩ := hT
  obtain ⟨kk, ff, ll, hh, ii, e, hn9, hb2, hw9, hj, hp, hi⟩ := id hn
  cases e
  obtain ⟨z1, z2, z3, z4, z5, z6, z7, z8, z9, y1, y2, y3, y4, y5, e⟩ := id hF
  cases e
  have eN : gN σ = σ.1.1 := rfl
  obtain ⟨g1, g2, g3⟩ := gL_ok hn9 hp (fun j h => (hj j h).2.2.1.2)
  have loop : ∀ d m (c0 c1 c2 c3 c4 c5 : am_C), pD (gL σ) [c0, c1, c2, c3, c4, c5] → gN σ - m = d → m ≤ gN σ → am_aw X 3 sh_VP 16 [some (.inr 0), some (.inl (nI (sm (ov (gL σ)) m))), some (.inl (nI m))] [] [.inl [o, nI σ.2.2.2.1.length], .inl [nI σ.1.1, nI σ.1.2.1, nI σ.1.2.2.1], .inr kk, .inr ff, .inr ll, .inr hh, .inr ii, .inr σ.2.2.2.2, c0, c1, c2, c3, c4, c5] := by
    intro d
    induction d with
    | zero =>
      intro m c0 c1 c2 c3 c4 c5 hd hdm hm
      have e : m = gN σ := by omega
      subst e
      refine st_iloadn O dX6_fair_16 rfl (q := 17) rfl ?_
      refine st_aloadn O dX6_fair_17 rfl (q := 18) rfl ?_
      refine st_getr O dX6_fair_18 fl_X6_10 rfl rfl rfl (q := 21) rfl ?_
      refine st_geti O dX6_fair_21 fl_X6_158 rfl rfl rfl rfl (q := 24) rfl ?_
      refine sn_icmp_ge O dX6_fair_24 (t := 44) rfl (q := 27) rfl (by omega) (by omega) (fun c24 => ?_) (fun c24 => ?_)
      · refine st_iloadn O dX6_fair_44 rfl (q := 45) rfl ?_
        refine st_ireturn O dX6_fair_45 ?_
        exact hK _ ⟨_, _, _, _, _, _, _, _, _, _, _, _, rfl, hn, hd.form⟩
      omega
    | succ d ih =>
      intro m c0 c1 c2 c3 c4 c5 hd hdm hm
      refine st_iloadn O dX6_fair_16 rfl (q := 17) rfl ?_
      refine st_aloadn O dX6_fair_17 rfl (q := 18) rfl ?_
      refine st_getr O dX6_fair_18 fl_X6_10 rfl rfl rfl (q := 21) rfl ?_
      refine st_geti O dX6_fair_21 fl_X6_158 rfl rfl rfl rfl (q := 24) rfl ?_
      refine sn_icmp_ge O dX6_fair_24 (t := 44) rfl (q := 27) rfl (by omega) (by omega) (fun c24 => ?_) (fun c24 => ?_)
      · omega
      refine st_iloadn O dX6_fair_27 rfl (q := 28) rfl ?_
      refine st_aloadn O dX6_fair_28 rfl (q := 29) rfl ?_
      refine st_getr O dX6_fair_29 fl_X6_47 rfl rfl rfl (q := 32) rfl ?_
      refine st_iloadn O dX6_fair_32 rfl (q := 33) rfl ?_
      refine st_call O dX6_fair_33 cs_X6_fair_33 (q := 36) rfl (am_sipq rfl rfl rfl (Nat.le_of_ble_eq_true rfl) rfl (r := nI (ov (gL σ) m)) ⟨_, _, _, m, hd, g1, g2, by omega, rfl, rfl⟩ ?_)
      refine st_iadd O dX6_fair_36 (by first | exact nI_add _ _ | exact rfl) (q := 37) rfl ?_
      refine st_istoren O dX6_fair_37 rfl (q := 38) rfl ?_
      refine st_iinc O dX6_fair_38 rfl (by first | exact am_ii1 _ | exact rfl) rfl (q := 41) rfl ?_
      refine st_goto O dX6_fair_41 (t := 16) rfl ?_
      exact ih (m + 1) _ _ _ _ _ _ hd (by omega) (by omega)
  refine am_begin rfl ?_
  refine st_aloadn O dX6_fair_0 rfl (q := 1) rfl ?_
  refine st_getr O dX6_fair_1 fl_X6_47 rfl rfl rfl (q := 4) rfl ?_
  refine st_aloadn O dX6_fair_4 rfl (q := 5) rfl ?_
  refine st_getr O dX6_fair_5 fl_X6_10 rfl rfl rfl (q := 8) rfl ?_
  refine st_iconst O dX6_fair_8 am_iconst_0 (q := 9) rfl ?_
  refine st_call O dX6_fair_9 cs_X6_fair_9 (q := 12) rfl (am_siq rfl rfl rfl (Nat.le_of_ble_eq_true rfl) rfl ?_)
  refine ⟨_, _, _, _, _, _, _, _, [_, _, _, _, _, _], _, 0, rfl, by decide, rfl, hF, hn, fun d hd => ?_⟩
  have hd' := id hd
  obtain ⟨j2, j3, j4, j5, j6, j7, j8, o', wt, tn, rr, l, rfl, hO⟩ := id hd
  refine am_nrq rfl rfl ?_
  refine st_iconst O dX6_fair_12 am_iconst_0 (q := 13) rfl ?_
  refine st_istoren O dX6_fair_13 rfl (q := 14) rfl ?_
  refine st_iconst O dX6_fair_14 am_iconst_0 (q := 15) rfl ?_
  refine st_istoren O dX6_fair_15 rfl (q := 16) rfl ?_
  exact loop (gN σ) 0 _ _ _ _ _ _ hd' (by omega) (by omega)
theorem C_X6_fair : am_ctr yX6_fair cX6_fair 3 (some .int) 4 91 sh_VP [some 0] T_X6_fair := am_mk (by decide) (Or.inr (Or.inl ⟨rfl, rfl⟩)) (by decide) (by decide) (by decide) fl_X6_ok kc_X6_ok ck_X6_fair B_X6_fair
theorem lkF_le {f : Nat → Nat} {B : Nat} : ∀ m, (∀ j, j < m → f j ≤ B) → (lkF f m).2 ≤ B
  | 0, _ => Nat.zero_le _
  | m + 1, h => by
    unfold lkF
    split
    · exact h m (Nat.lt_succ_self m)
    · exact lkF_le m (fun j hj => h j (Nat.lt_succ_of_lt hj))
def cs_X6_lucky : Nat → List am_V → am_D → am_K → Prop := am_cs [(9, am_site 3 [some 0, some 6, none] T_X3_drive [8, 9, 10, 11, 12, 13, 1, 2, 3, 4, 5, 6] [8, 9, 10, 11, 12, 13, 1, 2, 3, 4, 5, 6]), (35, am_site 2 [some 0, none] T_X3_overtaken [8, 9, 10, 11, 12, 13] [8, 9, 10, 11, 12, 13])]
theorem cs_X6_lucky_9 : cs_X6_lucky 9 = am_site 3 [some 0, some 6, none] T_X3_drive [8, 9, 10, 11, 12, 13, 1, 2, 3, 4, 5, 6] [8, 9, 10, 11, 12, 13, 1, 2, 3, 4, 5, 6] := rfl
theorem cs_X6_lucky_35 : cs_X6_lucky 35 = am_site 2 [some 0, none] T_X3_overtaken [8, 9, 10, 11, 12, 13] [8, 9, 10, 11, 12, 13] := rfl
theorem ck_X6_lucky : ∀ X : am_X, am_cx X RX6 cX6_lucky 5 4 91 → ∀ pc, am_csok X 5 sh_VP pc (cs_X6_lucky pc) := fun X hX => am_cs_ok (List.forall_mem_cons.mpr ⟨am_callV hX C_X3_drive mo_X3_drive rfl lk_X6_128 dX6_lucky_9 rfl rfl rfl (by decide), List.forall_mem_cons.mpr ⟨am_callV hX C_X3_overtaken mo_X3_overtaken rfl lk_X6_201 dX6_lucky_35 rfl rfl rfl (by decide), fun _ h => absurd h List.not_mem_nil⟩⟩)
abbrev ok_X6_lucky (X : am_X) (K : List Int32 → am_D → Prop) : Prop := am_ok X RX6 cX6_lucky 5 sh_VP fl_X6 kc_X6 none 1 cs_X6_lucky K
abbrev aw_X6_lucky (X : am_X) (pc : Nat) (ls : am_L) (st : List am_V) (D : am_D) : Prop := am_aw X 5 sh_VP pc ls st D
abbrev T_X6_lucky : am_TT := am_v0 V_P f_lucky
theorem B_X6_lucky : ∀ (X : am_X) (is : List Int32) (D : am_D) (K : List Int32 → am_D → Prop), ok_X6_lucky X K → T_X6_lucky is D K → is.length = (List.filter Option.isNone ([some 0] : List (Option Nat))).length → D.length = sh_VP.length → am_aw X 5 sh_VP 0 (am_l0 5 [some 0] is) [] D := by
  intro X is D K O hT _ _
  obtain ⟨o, σ, ⟨n0, n1, n2, n3, n4, n5, p0, p1, p2, p3, p4, p5, rfl, hn, hF⟩, rfl, hK⟩ := hT
  obtain ⟨kk, ff, ll, hh, ii, e, hn9, hb2, hw9, hj, hp, hi⟩ := id hn
  cases e
  obtain ⟨z1, z2, z3, z4, z5, z6, z7, z8, z9, y1, y2, y3, y4, y5, e⟩ := id hF
  cases e
  have eN : gN σ = σ.1.1 := rfl
  obtain ⟨g1, g2, g3⟩ := gL_ok hn9 hp (fun j h => (hj j h).2.2.1.2)
  have loop : ∀ d m x4 (c0 c1 c2 c3 c4 c5 : am_C), pD (gL σ) [c0, c1, c2, c3, c4, c5] → gN σ - m = d → m ≤ gN σ → am_aw X 5 sh_VP 19 [some (.inr 0), some (.inl (oI (lkF (ov (gL σ)) m).1)), some (.inl (nI (lkF (ov (gL σ)) m).2)), some (.inl (nI m)), x4] [] [.inl [o, nI σ.2.2.2.1.length], .inl [nI σ.1.1, nI σ.1.2.1, nI σ.1.2.2.1], .inr kk, .inr ff, .inr ll, .inr hh, .inr ii, .inr σ.2.2.2.2, c0, c1, c2, c3, c4, c5] := by
    intro d
    induction d with
    | zero =>
      intro m x4 c0 c1 c2 c3 c4 c5 hd hdm hm
      have e : m = gN σ := by omega
      subst e
      refine st_iloadn O dX6_lucky_19 rfl (q := 20) rfl ?_
      refine st_aloadn O dX6_lucky_20 rfl (q := 21) rfl ?_
      refine st_getr O dX6_lucky_21 fl_X6_10 rfl rfl rfl (q := 24) rfl ?_
      refine st_geti O dX6_lucky_24 fl_X6_158 rfl rfl rfl rfl (q := 27) rfl ?_
      refine sn_icmp_ge O dX6_lucky_27 (t := 57) rfl (q := 30) rfl (by omega) (by omega) (fun c27 => ?_) (fun c27 => ?_)
      · refine st_iloadn O dX6_lucky_57 rfl (q := 58) rfl ?_
        refine st_ireturn O dX6_lucky_58 ?_
        exact hK _ ⟨_, _, _, _, _, _, _, _, _, _, _, _, rfl, hn, hd.form⟩
      omega
    | succ d ih =>
      intro m x4 c0 c1 c2 c3 c4 c5 hd hdm hm
      have q1 := ov_le (gL σ) m
      have q2 := lkF_le (f := ov (gL σ)) (B := 9) m (fun j hj => Nat.le_trans (ov_le _ _) (by omega))
      have ih := fun x4 c0 c1 c2 c3 c4 c5 h => ih (m + 1) x4 c0 c1 c2 c3 c4 c5 h (by omega) (by omega)
      unfold lkF at ih
      by_cases hlt : (lkF (ov (gL σ)) m).2 < ov (gL σ) m
      · simp only [if_pos hlt] at ih
        refine st_iloadn O dX6_lucky_19 rfl (q := 20) rfl ?_
        refine st_aloadn O dX6_lucky_20 rfl (q := 21) rfl ?_
        refine st_getr O dX6_lucky_21 fl_X6_10 rfl rfl rfl (q := 24) rfl ?_
        refine st_geti O dX6_lucky_24 fl_X6_158 rfl rfl rfl rfl (q := 27) rfl ?_
        refine sn_icmp_ge O dX6_lucky_27 (t := 57) rfl (q := 30) rfl (by omega) (by omega) (fun c27 => ?_) (fun c27 => ?_)
        · omega
        refine st_aloadn O dX6_lucky_30 rfl (q := 31) rfl ?_
        refine st_getr O dX6_lucky_31 fl_X6_47 rfl rfl rfl (q := 34) rfl ?_
        refine st_iloadn O dX6_lucky_34 rfl (q := 35) rfl ?_
        refine st_call O dX6_lucky_35 cs_X6_lucky_35 (q := 38) rfl (am_sipq rfl rfl rfl (Nat.le_of_ble_eq_true rfl) rfl (r := nI (ov (gL σ) m)) ⟨_, _, _, m, hd, g1, g2, by omega, rfl, rfl⟩ ?_)
        refine st_istore O dX6_lucky_38 rfl (q := 40) rfl ?_
        refine st_iload O dX6_lucky_40 rfl (q := 42) rfl ?_
        refine st_iloadn O dX6_lucky_42 rfl (q := 43) rfl ?_
        refine sn_icmp_le O dX6_lucky_43 (t := 51) rfl (q := 46) rfl (by omega) (by omega) (fun c43 => ?_) (fun c43 => ?_)
        · omega
        refine st_iload O dX6_lucky_46 rfl (q := 48) rfl ?_
        refine st_istoren O dX6_lucky_48 rfl (q := 49) rfl ?_
        refine st_iloadn O dX6_lucky_49 rfl (q := 50) rfl ?_
        refine st_istoren O dX6_lucky_50 rfl (q := 51) rfl ?_
        refine st_iinc O dX6_lucky_51 rfl (by first | exact am_ii1 _ | exact rfl) rfl (q := 54) rfl ?_
        refine st_goto O dX6_lucky_54 (t := 19) rfl ?_
        exact ih _ _ _ _ _ _ _ hd
      · simp only [if_neg hlt] at ih
        refine st_iloadn O dX6_lucky_19 rfl (q := 20) rfl ?_
        refine st_aloadn O dX6_lucky_20 rfl (q := 21) rfl ?_
        refine st_getr O dX6_lucky_21 fl_X6_10 rfl rfl rfl (q := 24) rfl ?_
        refine st_geti O dX6_lucky_24 fl_X6_158 rfl rfl rfl rfl (q := 27) rfl ?_
        refine sn_icmp_ge O dX6_lucky_27 (t := 57) rfl (q := 30) rfl (by omega) (by omega) (fun c27 => ?_) (fun c27 => ?_)
        · omega
        refine st_aloadn O dX6_lucky_30 rfl (q := 31) rfl ?_
        refine st_getr O dX6_lucky_31 fl_X6_47 rfl rfl rfl (q := 34) rfl ?_
        refine st_iloadn O dX6_lucky_34 rfl (q := 35) rfl ?_
        refine st_call O dX6_lucky_35 cs_X6_lucky_35 (q := 38) rfl (am_sipq rfl rfl rfl (Nat.le_of_ble_eq_true rfl) rfl (r := nI (ov (gL σ) m)) ⟨_, _, _, m, hd, g1, g2, by omega, rfl, rfl⟩ ?_)
        refine st_istore O dX6_lucky_38 rfl (q := 40) rfl ?_
        refine st_iload O dX6_lucky_40 rfl (q := 42) rfl ?_
        refine st_iloadn O dX6_lucky_42 rfl (q := 43) rfl ?_
        refine sn_icmp_le O dX6_lucky_43 (t := 51) rfl (q := 46) rfl (by omega) (by omega) (fun c43 => ?_) (fun c43 => ?_)
        · refine st_iinc O dX6_lucky_51 rfl (by first | exact am_ii1 _ | exact rfl) rfl (q := 54) rfl ?_
          refine st_goto O dX6_lucky_54 (t := 19) rfl ?_
          exact ih _ _ _ _ _ _ _ hd
        omega
  refine am_begin rfl ?_
  refine st_aloadn O dX6_lucky_0 rfl (q := 1) rfl ?_
  refine st_getr O dX6_lucky_1 fl_X6_47 rfl rfl rfl (q := 4) rfl ?_
  refine st_aloadn O dX6_lucky_4 rfl (q := 5) rfl ?_
  refine st_getr O dX6_lucky_5 fl_X6_10 rfl rfl rfl (q := 8) rfl ?_
  refine st_iconst O dX6_lucky_8 am_iconst_0 (q := 9) rfl ?_
  refine st_call O dX6_lucky_9 cs_X6_lucky_9 (q := 12) rfl (am_siq rfl rfl rfl (Nat.le_of_ble_eq_true rfl) rfl ?_)
  refine ⟨_, _, _, _, _, _, _, _, [_, _, _, _, _, _], _, 0, rfl, by decide, rfl, hF, hn, fun d hd => ?_⟩
  have hd' := id hd
  obtain ⟨j2, j3, j4, j5, j6, j7, j8, o', wt, tn, rr, l, rfl, hO⟩ := id hd
  refine am_nrq rfl rfl ?_
  refine st_bipush O dX6_lucky_12 am_bipush_m9 (q := 14) rfl ?_
  refine st_istoren O dX6_lucky_14 rfl (q := 15) rfl ?_
  refine st_iconst O dX6_lucky_15 am_iconst_0 (q := 16) rfl ?_
  refine st_istoren O dX6_lucky_16 rfl (q := 17) rfl ?_
  refine st_iconst O dX6_lucky_17 am_iconst_0 (q := 18) rfl ?_
  refine st_istoren O dX6_lucky_18 rfl (q := 19) rfl ?_
  exact loop (gN σ) 0 _ _ _ _ _ _ _ hd' (by omega) (by omega)
theorem C_X6_lucky : am_ctr yX6_lucky cX6_lucky 5 (some .int) 4 91 sh_VP [some 0] T_X6_lucky := am_mk (by decide) (Or.inr (Or.inl ⟨rfl, rfl⟩)) (by decide) (by decide) (by decide) fl_X6_ok kc_X6_ok ck_X6_lucky B_X6_lucky
