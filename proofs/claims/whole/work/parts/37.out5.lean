/-! the class's own methods: gap -/
theorem sg_inc {le se : Nat → Nat} {pu : Nat → Bool} {w : Nat} (hse : ∀ c, 1 ≤ se c) : ∀ (n : Nat) (r l : List Nat) (k la : Nat) (pd : Bool) (t : Nat), (∀ q ∈ sg le se pu w n r l k la pd t, t < q.2.2) ∧ (sg le se pu w n r l k la pd t).Pairwise (fun p q => p.2.2 < q.2.2)
  | 0, r, l, k, la, pd, t => ⟨fun q h => (by cases h), List.Pairwise.nil⟩
  | n + 1, r, l, k, la, pd, t => by
    rcases hd : dc le pu r l k la pd with ⟨b, k', pd'⟩
    cases b with
    | true =>
      obtain ⟨c, l', rfl⟩ := dc_true hd
      rw [sg_L hd]
      obtain ⟨h1, h2⟩ := sg_inc (le := le) (pu := pu) (w := w) hse n r l' k' 1 pd' (t + se c + (if la = 0 then w else 0))
      have := hse c
      refine ⟨fun q hq => ?_, List.Pairwise.cons (fun q hq => h1 q hq) h2⟩
      rcases List.mem_cons.mp hq with e | e
      · rw [e]; show t < t + se c + _; omega
      · have := h1 q e; omega
    | false =>
      cases r with
      | nil =>
        cases l with
        | nil => rw [sg, hd]; exact ⟨fun q h => (by cases h), List.Pairwise.nil⟩
        | cons c l' => simp [dc] at hd
      | cons c r' =>
        rw [sg_R hd]
        obtain ⟨h1, h2⟩ := sg_inc (le := le) (pu := pu) (w := w) hse n r' l 0 0 pd' (t + se c + (if la = 1 then w else 0))
        have := hse c
        refine ⟨fun q hq => ?_, List.Pairwise.cons (fun q hq => h1 q hq) h2⟩
        rcases List.mem_cons.mp hq with e | e
        · rw [e]; show t < t + se c + _; omega
        · have := h1 q e; omega
theorem wt_inc {b w : Nat} {kd fg : Nat → Nat} {Q0 Q1 : List Nat} {i : Nat} (h : i + 1 < (sim b w kd fg Q0 Q1).length) : wt_ (sim b w kd fg Q0 Q1) i < wt_ (sim b w kd fg Q0 Q1) (i + 1) := by
  have h1 := (sg_inc (le := fun c => lt (kd c) (fg c) b) (se := fun c => sc (kd c)) (pu := fun c => decide (kd c = 2)) (w := w) (fun c => (sc_le _).2) (Q0.length + Q1.length) Q0 Q1 0 2 false 0).2
  have h2 := List.pairwise_iff_getElem.mp h1 i (i + 1) (Nat.lt_of_succ_lt h) h (Nat.lt_succ_self i)
  unfold wt_
  rw [List.getD_eq_getElem?_getD, List.getD_eq_getElem?_getD, List.getElem?_eq_getElem (Nat.lt_of_succ_lt h), List.getElem?_eq_getElem h]
  exact h2
theorem wt_117 {L : List (Nat × Nat × Nat)} (h : ∀ q ∈ L, q.2.2 ≤ 117) (i : Nat) : wt_ L i ≤ 117 := by
  rcases Nat.lt_or_ge i L.length with q | q
  · exact h _ (L_mem q)
  · unfold wt_
    rw [List.getD_eq_getElem?_getD, List.getElem?_eq_none_iff.mpr q]
    exact Nat.zero_le _
theorem gpF_le {L : List (Nat × Nat × Nat)} (h : ∀ i, wt_ L i ≤ 117) : ∀ m, (gpF L m).2 ≤ 117 ∧ ∀ c, (gpF L m).1 = some c → c < m
  | 0 => ⟨Nat.zero_le _, fun c h => by cases h⟩
  | m + 1 => by
    obtain ⟨a1, a2⟩ := gpF_le h m
    unfold gpF
    split
    · exact ⟨by have := h (m + 1); show wt_ L (m + 1) - wt_ L m ≤ 117; omega, fun c hc => by cases hc; exact Nat.lt_succ_self _⟩
    · exact ⟨a1, fun c hc => Nat.lt_succ_of_lt (a2 c hc)⟩
def cs_X6_gap : Nat → List am_V → am_D → am_K → Prop := am_cs [(12, am_site 2 [some 0, none] T_X6_refuse [0, 7] [0, 7, 1, 14, 15, 16, 17, 8, 18, 19]), (25, am_site 3 [some 0, some 6, none] T_X3_drive [8, 9, 10, 11, 12, 13, 1, 2, 3, 4, 5, 6] [8, 9, 10, 11, 12, 13, 1, 2, 3, 4, 5, 6]), (58, am_site 2 [some 0, none] T_X3_waitInTurn [8, 9, 10, 11, 12, 13] [8, 9, 10, 11, 12, 13]), (67, am_site 2 [some 0, none] T_X3_waitInTurn [8, 9, 10, 11, 12, 13] [8, 9, 10, 11, 12, 13])]
theorem cs_X6_gap_12 : cs_X6_gap 12 = am_site 2 [some 0, none] T_X6_refuse [0, 7] [0, 7, 1, 14, 15, 16, 17, 8, 18, 19] := rfl
theorem cs_X6_gap_25 : cs_X6_gap 25 = am_site 3 [some 0, some 6, none] T_X3_drive [8, 9, 10, 11, 12, 13, 1, 2, 3, 4, 5, 6] [8, 9, 10, 11, 12, 13, 1, 2, 3, 4, 5, 6] := rfl
theorem cs_X6_gap_58 : cs_X6_gap 58 = am_site 2 [some 0, none] T_X3_waitInTurn [8, 9, 10, 11, 12, 13] [8, 9, 10, 11, 12, 13] := rfl
theorem cs_X6_gap_67 : cs_X6_gap 67 = am_site 2 [some 0, none] T_X3_waitInTurn [8, 9, 10, 11, 12, 13] [8, 9, 10, 11, 12, 13] := rfl
theorem ck_X6_gap : ∀ X : am_X, am_cx X RX6 cX6_gap 6 4 91 → ∀ pc, am_csok X 6 sh_VP pc (cs_X6_gap pc) := fun X hX => am_cs_ok (List.forall_mem_cons.mpr ⟨am_callV hX C_X6_refuse mo_X6_refuse rfl lk_X6_65 dX6_gap_12 rfl rfl rfl (by decide), List.forall_mem_cons.mpr ⟨am_callV hX C_X3_drive mo_X3_drive rfl lk_X6_128 dX6_gap_25 rfl rfl rfl (by decide), List.forall_mem_cons.mpr ⟨am_callV hX C_X3_waitInTurn mo_X3_waitInTurn rfl lk_X6_215 dX6_gap_58 rfl rfl rfl (by decide), List.forall_mem_cons.mpr ⟨am_callV hX C_X3_waitInTurn mo_X3_waitInTurn rfl lk_X6_215 dX6_gap_67 rfl rfl rfl (by decide), fun _ h => absurd h List.not_mem_nil⟩⟩⟩⟩)
abbrev ok_X6_gap (X : am_X) (K : List Int32 → am_D → Prop) : Prop := am_ok X RX6 cX6_gap 6 sh_VP fl_X6 kc_X6 none 1 cs_X6_gap K
abbrev aw_X6_gap (X : am_X) (pc : Nat) (ls : am_L) (st : List am_V) (D : am_D) : Prop := am_aw X 6 sh_VP pc ls st D
abbrev T_X6_gap : am_TT := am_v1f V_P f_gap
theorem B_X6_gap : ∀ (X : am_X) (is : List Int32) (D : am_D) (K : List Int32 → am_D → Prop), ok_X6_gap X K → T_X6_gap is D K → is.length = (List.filter Option.isNone ([some 0, none] : List (Option Nat))).length → D.length = sh_VP.length → am_aw X 6 sh_VP 0 (am_l0 6 [some 0, none] is) [] D := by
  intro X is D K O hT _ _
  obtain ⟨o, σ, a, ⟨n0, n1, n2, n3, n4, n5, p0, p1, p2, p3, p4, p5, rfl, hn, hF⟩, rfl, hK⟩ := hT
  obtain ⟨kk, ff, ll, hh, ii, e, hn9, hb2, hw9, hj, hp, hi⟩ := id hn
  cases e
  obtain ⟨z1, z2, z3, z4, z5, z6, z7, z8, z9, y1, y2, y3, y4, y5, e⟩ := id hF
  cases e
  have eN : gN σ = σ.1.1 := rfl
  obtain ⟨g1, g2, g3⟩ := gL_ok hn9 hp (fun j h => (hj j h).2.2.1.2)
  have g4 := simA_117 (n := gN σ) (b := gb σ) (kd := gk σ) (fg := gf σ) (la := gl σ) hn9 hw9 hp 0
  have g5 := gpF_le (L := gL σ) (wt_117 g4)
  have loop : (a = 0 ∨ a = 1) → ∀ d m x5 (c0 c1 c2 c3 c4 c5 : am_C), pD (gL σ) [c0, c1, c2, c3, c4, c5] → (gL σ).length - 1 - m = d → m ≤ (gL σ).length - 1 → am_aw X 6 sh_VP 36 [some (.inr 0), some (.inl a), some (.inl (nI (gpF (gL σ) m).2)), some (.inl (oI (gpF (gL σ) m).1)), some (.inl (nI m)), x5] [] [.inl [o, nI σ.2.2.2.1.length], .inl [nI σ.1.1, nI σ.1.2.1, nI σ.1.2.2.1], .inr kk, .inr ff, .inr ll, .inr hh, .inr ii, .inr σ.2.2.2.2, c0, c1, c2, c3, c4, c5] := by
    intro hor d
    induction d with
    | zero =>
      intro m x5 c0 c1 c2 c3 c4 c5 hd hdm hm
      have e : m = (gL σ).length - 1 := by omega
      subst e
      obtain ⟨j2, j3, j4, j5, j6, j7, j8, o', wt, tn, rr, l, e, hO⟩ := id hd
      cases e
      refine st_iload O dX6_gap_36 rfl (q := 38) rfl ?_
      refine st_iconst O dX6_gap_38 am_iconst_1 (q := 39) rfl ?_
      refine st_iadd O dX6_gap_39 (by first | exact nI_add _ _ | exact rfl) (q := 40) rfl ?_
      refine st_aloadn O dX6_gap_40 rfl (q := 41) rfl ?_
      refine st_getr O dX6_gap_41 fl_X6_47 rfl rfl rfl (q := 44) rfl ?_
      refine st_geti O dX6_gap_44 fl_X6_212 rfl rfl rfl rfl (q := 47) rfl ?_
      refine sn_icmp_ge O dX6_gap_47 (t := 97) rfl (q := 50) rfl (by omega) (show (gL σ).length < 2 ^ 31 by omega) (fun c47 => ?_) (fun c47 => ?_)
      · refine st_iloadn O dX6_gap_97 rfl (q := 98) rfl ?_
        refine st_if_ne O dX6_gap_98 (t := 105) rfl (q := 101) rfl (fun c98 => ?_) (fun c98 => ?_)
        · refine st_iloadn O dX6_gap_105 rfl (q := 106) rfl ?_
          refine st_ireturn O dX6_gap_106 ?_
          first | (rw [show f_gap a σ = (nI (gpF (gL σ) ((gL σ).length - 1)).2, σ) from (if_pos hor).trans (if_pos (by first | exact c98 | exact Decidable.of_not_not c98))] at hK; exact hK _ ⟨_, _, _, _, _, _, _, _, _, _, _, _, rfl, hn, hd.form⟩) | (rw [show f_gap a σ = (oI (gpF (gL σ) ((gL σ).length - 1)).1, σ) from (if_pos hor).trans (if_neg c98)] at hK; exact hK _ ⟨_, _, _, _, _, _, _, _, _, _, _, _, rfl, hn, hd.form⟩)
        refine st_iloadn O dX6_gap_101 rfl (q := 102) rfl ?_
        refine st_goto O dX6_gap_102 (t := 106) rfl ?_
        refine st_ireturn O dX6_gap_106 ?_
        first | (rw [show f_gap a σ = (nI (gpF (gL σ) ((gL σ).length - 1)).2, σ) from (if_pos hor).trans (if_pos (by first | exact c98 | exact Decidable.of_not_not c98))] at hK; exact hK _ ⟨_, _, _, _, _, _, _, _, _, _, _, _, rfl, hn, hd.form⟩) | (rw [show f_gap a σ = (oI (gpF (gL σ) ((gL σ).length - 1)).1, σ) from (if_pos hor).trans (if_neg c98)] at hK; exact hK _ ⟨_, _, _, _, _, _, _, _, _, _, _, _, rfl, hn, hd.form⟩)
      exact absurd c47 (show ¬ (gL σ).length - 1 + 1 < (gL σ).length by omega)
    | succ d ih =>
      intro m x5 c0 c1 c2 c3 c4 c5 hd hdm hm
      have hlen : m + 1 < (gL σ).length := by omega
      have q1 := wt_inc hlen
      have q2 := wt_117 g4 (m + 1)
      obtain ⟨q3, q4⟩ := g5 m
      have q5 := oI_none (o := (gpF (gL σ) m).1) (fun c hc => by have := q4 c hc; omega)
      have ih := fun x5 c0 c1 c2 c3 c4 c5 h => ih (m + 1) x5 c0 c1 c2 c3 c4 c5 h (by omega) (by omega)
      unfold gpF at ih
      obtain ⟨j2, j3, j4, j5, j6, j7, j8, o', wt, tn, rr, l, e, hO⟩ := id hd
      cases e
      have hsub : nI (wt_ (gL σ) (m + 1)) - nI (wt_ (gL σ) m) = nI (wt_ (gL σ) (m + 1) - wt_ (gL σ) m) := pk_sub (Nat.le_of_lt q1)
      by_cases hc : (gpF (gL σ) m).1 = none ∨ (gpF (gL σ) m).2 < wt_ (gL σ) (m + 1) - wt_ (gL σ) m
      · simp only [if_pos hc] at ih
        refine st_iload O dX6_gap_36 rfl (q := 38) rfl ?_
        refine st_iconst O dX6_gap_38 am_iconst_1 (q := 39) rfl ?_
        refine st_iadd O dX6_gap_39 (by first | exact nI_add _ _ | exact rfl) (q := 40) rfl ?_
        refine st_aloadn O dX6_gap_40 rfl (q := 41) rfl ?_
        refine st_getr O dX6_gap_41 fl_X6_47 rfl rfl rfl (q := 44) rfl ?_
        refine st_geti O dX6_gap_44 fl_X6_212 rfl rfl rfl rfl (q := 47) rfl ?_
        refine sn_icmp_ge O dX6_gap_47 (t := 97) rfl (q := 50) rfl (by omega) (show (gL σ).length < 2 ^ 31 by omega) (fun c47 => ?_) (fun c47 => ?_)
        · exact absurd c47 (by show ¬ (gL σ).length ≤ m + 1; omega)
        refine st_aloadn O dX6_gap_50 rfl (q := 51) rfl ?_
        refine st_getr O dX6_gap_51 fl_X6_47 rfl rfl rfl (q := 54) rfl ?_
        refine st_iload O dX6_gap_54 rfl (q := 56) rfl ?_
        refine st_iconst O dX6_gap_56 am_iconst_1 (q := 57) rfl ?_
        refine st_iadd O dX6_gap_57 (by first | exact nI_add _ _ | exact rfl) (q := 58) rfl ?_
        refine st_call O dX6_gap_58 cs_X6_gap_58 (q := 61) rfl (am_sipq rfl rfl rfl (Nat.le_of_ble_eq_true rfl) rfl (r := nI (wt_ (gL σ) (m + 1))) ⟨_, m + 1, _, _, hd, g1, hlen, rfl, rfl⟩ ?_)
        refine st_aloadn O dX6_gap_61 rfl (q := 62) rfl ?_
        refine st_getr O dX6_gap_62 fl_X6_47 rfl rfl rfl (q := 65) rfl ?_
        refine st_iload O dX6_gap_65 rfl (q := 67) rfl ?_
        refine st_call O dX6_gap_67 cs_X6_gap_67 (q := 70) rfl (am_sipq rfl rfl rfl (Nat.le_of_ble_eq_true rfl) rfl (r := nI (wt_ (gL σ) m)) ⟨_, m, _, _, hd, g1, Nat.lt_of_succ_lt hlen, rfl, rfl⟩ ?_)
        refine st_isub O dX6_gap_70 hsub (q := 71) rfl ?_
        refine st_istore O dX6_gap_71 rfl (q := 73) rfl ?_
        refine st_iloadn O dX6_gap_73 rfl (q := 74) rfl ?_
        refine st_bipush O dX6_gap_74 am_bipush_m9 (q := 76) rfl ?_
        refine st_icmp_eq O dX6_gap_76 (t := 85) rfl (q := 79) rfl (fun c76 => ?_) (fun c76 => ?_)
        · refine st_iload O dX6_gap_85 rfl (q := 87) rfl ?_
          refine st_istoren O dX6_gap_87 rfl (q := 88) rfl ?_
          refine st_iload O dX6_gap_88 rfl (q := 90) rfl ?_
          refine st_istoren O dX6_gap_90 rfl (q := 91) rfl ?_
          refine st_iinc O dX6_gap_91 rfl (by first | exact am_ii1 _ | exact rfl) rfl (q := 94) rfl ?_
          refine st_goto O dX6_gap_94 (t := 36) rfl ?_
          exact ih _ _ _ _ _ _ _ hd
        refine st_iload O dX6_gap_79 rfl (q := 81) rfl ?_
        refine st_iloadn O dX6_gap_81 rfl (q := 82) rfl ?_
        refine sn_icmp_le O dX6_gap_82 (t := 91) rfl (q := 85) rfl (Nat.lt_of_le_of_lt (Nat.sub_le _ _) (Nat.lt_of_le_of_lt q2 (by decide))) (by omega) (fun c82 => ?_) (fun c82 => ?_)
        · exact absurd (hc.resolve_left (fun z => c76 (q5.mpr z))) (Nat.not_lt.mpr c82)
        refine st_iload O dX6_gap_85 rfl (q := 87) rfl ?_
        refine st_istoren O dX6_gap_87 rfl (q := 88) rfl ?_
        refine st_iload O dX6_gap_88 rfl (q := 90) rfl ?_
        refine st_istoren O dX6_gap_90 rfl (q := 91) rfl ?_
        refine st_iinc O dX6_gap_91 rfl (by first | exact am_ii1 _ | exact rfl) rfl (q := 94) rfl ?_
        refine st_goto O dX6_gap_94 (t := 36) rfl ?_
        exact ih _ _ _ _ _ _ _ hd
      · simp only [if_neg hc] at ih
        refine st_iload O dX6_gap_36 rfl (q := 38) rfl ?_
        refine st_iconst O dX6_gap_38 am_iconst_1 (q := 39) rfl ?_
        refine st_iadd O dX6_gap_39 (by first | exact nI_add _ _ | exact rfl) (q := 40) rfl ?_
        refine st_aloadn O dX6_gap_40 rfl (q := 41) rfl ?_
        refine st_getr O dX6_gap_41 fl_X6_47 rfl rfl rfl (q := 44) rfl ?_
        refine st_geti O dX6_gap_44 fl_X6_212 rfl rfl rfl rfl (q := 47) rfl ?_
        refine sn_icmp_ge O dX6_gap_47 (t := 97) rfl (q := 50) rfl (by omega) (show (gL σ).length < 2 ^ 31 by omega) (fun c47 => ?_) (fun c47 => ?_)
        · exact absurd c47 (by show ¬ (gL σ).length ≤ m + 1; omega)
        refine st_aloadn O dX6_gap_50 rfl (q := 51) rfl ?_
        refine st_getr O dX6_gap_51 fl_X6_47 rfl rfl rfl (q := 54) rfl ?_
        refine st_iload O dX6_gap_54 rfl (q := 56) rfl ?_
        refine st_iconst O dX6_gap_56 am_iconst_1 (q := 57) rfl ?_
        refine st_iadd O dX6_gap_57 (by first | exact nI_add _ _ | exact rfl) (q := 58) rfl ?_
        refine st_call O dX6_gap_58 cs_X6_gap_58 (q := 61) rfl (am_sipq rfl rfl rfl (Nat.le_of_ble_eq_true rfl) rfl (r := nI (wt_ (gL σ) (m + 1))) ⟨_, m + 1, _, _, hd, g1, hlen, rfl, rfl⟩ ?_)
        refine st_aloadn O dX6_gap_61 rfl (q := 62) rfl ?_
        refine st_getr O dX6_gap_62 fl_X6_47 rfl rfl rfl (q := 65) rfl ?_
        refine st_iload O dX6_gap_65 rfl (q := 67) rfl ?_
        refine st_call O dX6_gap_67 cs_X6_gap_67 (q := 70) rfl (am_sipq rfl rfl rfl (Nat.le_of_ble_eq_true rfl) rfl (r := nI (wt_ (gL σ) m)) ⟨_, m, _, _, hd, g1, Nat.lt_of_succ_lt hlen, rfl, rfl⟩ ?_)
        refine st_isub O dX6_gap_70 hsub (q := 71) rfl ?_
        refine st_istore O dX6_gap_71 rfl (q := 73) rfl ?_
        refine st_iloadn O dX6_gap_73 rfl (q := 74) rfl ?_
        refine st_bipush O dX6_gap_74 am_bipush_m9 (q := 76) rfl ?_
        refine st_icmp_eq O dX6_gap_76 (t := 85) rfl (q := 79) rfl (fun c76 => ?_) (fun c76 => ?_)
        · exact absurd (Or.inl (q5.mp c76)) hc
        refine st_iload O dX6_gap_79 rfl (q := 81) rfl ?_
        refine st_iloadn O dX6_gap_81 rfl (q := 82) rfl ?_
        refine sn_icmp_le O dX6_gap_82 (t := 91) rfl (q := 85) rfl (Nat.lt_of_le_of_lt (Nat.sub_le _ _) (Nat.lt_of_le_of_lt q2 (by decide))) (by omega) (fun c82 => ?_) (fun c82 => ?_)
        · refine st_iinc O dX6_gap_91 rfl (by first | exact am_ii1 _ | exact rfl) rfl (q := 94) rfl ?_
          refine st_goto O dX6_gap_94 (t := 36) rfl ?_
          exact ih _ _ _ _ _ _ _ hd
        exact absurd (Or.inr c82) hc
  refine am_begin rfl ?_
  refine st_iloadn O dX6_gap_0 rfl (q := 1) rfl ?_
  refine st_if_eq O dX6_gap_1 (t := 16) rfl (q := 4) rfl (fun c1 => ?_) (fun c1 => ?_)
  · refine st_aloadn O dX6_gap_16 rfl (q := 17) rfl ?_
    refine st_getr O dX6_gap_17 fl_X6_47 rfl rfl rfl (q := 20) rfl ?_
    refine st_aloadn O dX6_gap_20 rfl (q := 21) rfl ?_
    refine st_getr O dX6_gap_21 fl_X6_10 rfl rfl rfl (q := 24) rfl ?_
    refine st_iconst O dX6_gap_24 am_iconst_0 (q := 25) rfl ?_
    refine st_call O dX6_gap_25 cs_X6_gap_25 (q := 28) rfl (am_siq rfl rfl rfl (Nat.le_of_ble_eq_true rfl) rfl ?_)
    refine ⟨_, _, _, _, _, _, _, _, [_, _, _, _, _, _], _, 0, rfl, by decide, rfl, hF, hn, fun d hd => ?_⟩
    have hd' := id hd
    obtain ⟨j2, j3, j4, j5, j6, j7, j8, o', wt, tn, rr, l, rfl, hO⟩ := id hd
    refine am_nrq rfl rfl ?_
    refine st_iconst O dX6_gap_28 am_iconst_0 (q := 29) rfl ?_
    refine st_istoren O dX6_gap_29 rfl (q := 30) rfl ?_
    refine st_bipush O dX6_gap_30 am_bipush_m9 (q := 32) rfl ?_
    refine st_istoren O dX6_gap_32 rfl (q := 33) rfl ?_
    refine st_iconst O dX6_gap_33 am_iconst_0 (q := 34) rfl ?_
    refine st_istore O dX6_gap_34 rfl (q := 36) rfl ?_
    exact loop (by first | exact Or.inl c1 | exact Or.inr c6) _ 0 _ _ _ _ _ _ _ hd' rfl (Nat.zero_le _)
  refine st_iloadn O dX6_gap_4 rfl (q := 5) rfl ?_
  refine st_iconst O dX6_gap_5 am_iconst_1 (q := 6) rfl ?_
  refine st_icmp_eq O dX6_gap_6 (t := 16) rfl (q := 9) rfl (fun c6 => ?_) (fun c6 => ?_)
  · refine st_aloadn O dX6_gap_16 rfl (q := 17) rfl ?_
    refine st_getr O dX6_gap_17 fl_X6_47 rfl rfl rfl (q := 20) rfl ?_
    refine st_aloadn O dX6_gap_20 rfl (q := 21) rfl ?_
    refine st_getr O dX6_gap_21 fl_X6_10 rfl rfl rfl (q := 24) rfl ?_
    refine st_iconst O dX6_gap_24 am_iconst_0 (q := 25) rfl ?_
    refine st_call O dX6_gap_25 cs_X6_gap_25 (q := 28) rfl (am_siq rfl rfl rfl (Nat.le_of_ble_eq_true rfl) rfl ?_)
    refine ⟨_, _, _, _, _, _, _, _, [_, _, _, _, _, _], _, 0, rfl, by decide, rfl, hF, hn, fun d hd => ?_⟩
    have hd' := id hd
    obtain ⟨j2, j3, j4, j5, j6, j7, j8, o', wt, tn, rr, l, rfl, hO⟩ := id hd
    refine am_nrq rfl rfl ?_
    refine st_iconst O dX6_gap_28 am_iconst_0 (q := 29) rfl ?_
    refine st_istoren O dX6_gap_29 rfl (q := 30) rfl ?_
    refine st_bipush O dX6_gap_30 am_bipush_m9 (q := 32) rfl ?_
    refine st_istoren O dX6_gap_32 rfl (q := 33) rfl ?_
    refine st_iconst O dX6_gap_33 am_iconst_0 (q := 34) rfl ?_
    refine st_istore O dX6_gap_34 rfl (q := 36) rfl ?_
    exact loop (by first | exact Or.inl c1 | exact Or.inr c6) _ 0 _ _ _ _ _ _ _ hd' rfl (Nat.zero_le _)
  refine st_aloadn O dX6_gap_9 rfl (q := 10) rfl ?_
  refine st_bipush O dX6_gap_10 am_bipush_m2 (q := 12) rfl ?_
  refine st_call O dX6_gap_12 cs_X6_gap_12 (q := 15) rfl (am_siq rfl rfl rfl (Nat.le_of_ble_eq_true rfl) rfl ?_)
  refine ⟨_, _, 2, by decide, by decide, rfl, rfl, ?_⟩
  refine am_nrq rfl rfl ?_
  rw [show f_gap a σ = rfs 2 σ from if_neg (fun z => z.elim c1 c6)] at hK
  exact st_ireturn O dX6_gap_15 (hK _ ⟨_, _, _, _, _, _, _, _, _, _, _, _, rfl, hn, hF⟩)
theorem C_X6_gap : am_ctr yX6_gap cX6_gap 6 (some .int) 4 91 sh_VP [some 0, none] T_X6_gap := am_mk (by decide) (Or.inr (Or.inl ⟨rfl, rfl⟩)) (by decide) (by decide) (by decide) fl_X6_ok kc_X6_ok ck_X6_gap B_X6_gap
