def cs_X3_longestRun : Nat → List am_V → am_D → am_K → Prop := am_cs [(72, am_site 2 [none, none] T_J9_max_7cf53 [] [])]
theorem cs_X3_longestRun_72 : cs_X3_longestRun 72 = am_site 2 [none, none] T_J9_max_7cf53 [] [] := rfl
theorem ck_X3_longestRun : ∀ X : am_X, am_cx X RX3 cX3_longestRun 6 1 21 → ∀ pc, am_csok X 6 sh_PR pc (cs_X3_longestRun pc) := fun X hX => am_cs_ok (List.forall_mem_cons.mpr ⟨am_callMax hX lk_X3_103 dX3_longestRun_72 (by decide), fun _ h => absurd h List.not_mem_nil⟩)
abbrev ok_X3_longestRun (X : am_X) (K : List Int32 → am_D → Prop) : Prop := am_ok X RX3 cX3_longestRun 6 sh_PR fl_X3 kc_X3 none 1 cs_X3_longestRun K
abbrev aw_X3_longestRun (X : am_X) (pc : Nat) (ls : am_L) (st : List am_V) (D : am_D) : Prop := am_aw X 6 sh_PR pc ls st D
abbrev T_X3_longestRun : am_TT := am_pure (fun is D r => ∃ L n b w kd fg la hu li d1 d2, D = d1 ++ d2 ∧ pD L d1 ∧ rA n b w kd fg la hu li d2 ∧ okL n la L ∧ is = [] ∧ r = nI (stt L).2.2.2)
theorem stt_b (L : List (Nat × Nat × Nat)) : (stt L).2.2.1 ≤ L.length ∧ (stt L).2.2.2 ≤ L.length ∧ (stt L).2.1 ≤ L.length := by
  have h : ∀ m, m ≤ L.length → (stt (L.take m)).2.2.1 ≤ m ∧ (stt (L.take m)).2.2.2 ≤ m ∧ (stt (L.take m)).2.1 ≤ m := by
    intro m
    induction m with
    | zero => intro _; exact ⟨Nat.le_refl _, Nat.le_refl _, Nat.le_refl _⟩
    | succ m ih =>
      intro hm
      obtain ⟨h1, h2, h3⟩ := ih (by omega)
      rw [stt_s (by omega)]
      unfold sp
      dsimp only
      refine ⟨?_, ?_, ?_⟩
      · split <;> omega
      · rw [Nat.max_le]; refine ⟨by omega, ?_⟩; split <;> omega
      · split <;> omega
  have := h L.length (Nat.le_refl _)
  rwa [List.take_length] at this
theorem nI_max {a b : Nat} (ha : a < 2 ^ 31) (hb : b < 2 ^ 31) : (if nI a < nI b then nI b else nI a) = nI (max a b) := by
  by_cases h : a < b
  · rw [if_pos ((nI_ltI ha hb).mpr h), Nat.max_eq_right (Nat.le_of_lt h)]
  · rw [if_neg (fun q => h ((nI_ltI ha hb).mp q)), Nat.max_eq_left (by omega)]
theorem B_X3_longestRun : ∀ (X : am_X) (is : List Int32) (D : am_D) (K : List Int32 → am_D → Prop), ok_X3_longestRun X K → T_X3_longestRun is D K → is.length = (List.filter Option.isNone ([some 0, some 6] : List (Option Nat))).length → D.length = sh_PR.length → am_aw X 6 sh_PR 0 (am_l0 6 [some 0, some 6] is) [] D := by
  intro X is D K O hT _ _
  obtain ⟨r, ⟨L, n, b, w, kd, fg, la, hu, li, d1, d2, rfl, hL, hR, hk, rfl, rfl⟩, hK⟩ := hT
  obtain ⟨c, d, e, f, g, h, i, o, wt, tn, rr, l, rfl, hO⟩ := id hL
  obtain ⟨kk, ff, ll, hh, ii, rfl, hn, hb, hw, hj, hp, hi⟩ := hR
  have h3 := hk.1
  have loop : ∀ k m x5, L.length - m = k → m ≤ L.length → am_aw X 6 sh_PR 7 [some (.inr 0), some (.inr 6), some (.inl (nI (stt (L.take m)).2.2.2)), some (.inl (nI (stt (L.take m)).2.2.1)), some (.inl (nI m)), x5] [] [.inl [nI L.length, nI (tot L), c, d, e, f, g, h, i], .inr o, .inr wt, .inr tn, .inr rr, .inr l, .inl [nI n, nI b, nI w], .inr kk, .inr ff, .inr ll, .inr hh, .inr ii] := by
    intro k
    induction k with
    | zero =>
      intro m x5 hd hm
      have e : m = L.length := by omega
      subst e
      rw [List.take_length]
      refine st_iload O dX3_longestRun_7 rfl (q := 9) rfl ?_
      refine st_aloadn O dX3_longestRun_9 rfl (q := 10) rfl ?_
      refine st_geti O dX3_longestRun_10 fl_X3_21 rfl rfl rfl rfl (q := 13) rfl ?_
      refine sn_icmp_ge O dX3_longestRun_13 (t := 82) rfl (q := 16) rfl (by omega) (by omega) (fun c13 => ?_) (fun c13 => ?_)
      · refine st_iloadn O dX3_longestRun_82 rfl (q := 83) rfl ?_
        refine st_ireturn O dX3_longestRun_83 ?_
        exact hK
      omega
    | succ k ih =>
      intro m x5 hd hm
      have h4 := hk.2.2 _ (L_mem (i := m) (by omega))
      have h41 : cr_ L m < n := h4.1
      have h42 : la (cr_ L m) = ln_ L m := h4.2.1.symm
      have h43 : ln_ L m < 2 := h4.2.2
      have ih := fun x5 => ih (m + 1) x5 (by omega) (by omega)
      have hb2 := stt_b (L.take m)
      rw [List.length_take_of_le hm] at hb2
      rw [stt_s (by omega)] at ih
      have e2 : (sp (stt (L.take m)) (L.getD m (0, 0, 0))).2.2.1 = (if (stt (L.take m)).1 = ln_ L m then (stt (L.take m)).2.2.1 + 1 else 1) := rfl
      have e3 : (sp (stt (L.take m)) (L.getD m (0, 0, 0))).2.2.2 = max (stt (L.take m)).2.2.2 (if (stt (L.take m)).1 = ln_ L m then (stt (L.take m)).2.2.1 + 1 else 1) := rfl
      rw [e2, e3] at ih
      rcases Nat.eq_zero_or_pos m with q | q
      · subst q
        rw [if_neg (show ¬ (stt (List.take 0 L)).1 = ln_ L 0 by show ¬ (2 : Nat) = _; omega)] at ih
        refine st_iload O dX3_longestRun_7 rfl (q := 9) rfl ?_
        refine st_aloadn O dX3_longestRun_9 rfl (q := 10) rfl ?_
        refine st_geti O dX3_longestRun_10 fl_X3_21 rfl rfl rfl rfl (q := 13) rfl ?_
        refine sn_icmp_ge O dX3_longestRun_13 (t := 82) rfl (q := 16) rfl (by omega) (by omega) (fun c13 => ?_) (fun c13 => ?_)
        · omega
        refine st_iload O dX3_longestRun_16 rfl (q := 18) rfl ?_
        refine sn_if_le O dX3_longestRun_18 (t := 54) rfl (q := 21) rfl (by omega) (fun c18 => ?_) (fun c18 => ?_)
        · refine st_iconst O dX3_longestRun_54 am_iconst_0 (q := 55) rfl ?_
          refine st_istore O dX3_longestRun_55 rfl (q := 57) rfl ?_
          refine st_iload O dX3_longestRun_57 rfl (q := 59) rfl ?_
          refine st_if_eq O dX3_longestRun_59 (t := 68) rfl (q := 62) rfl (fun c59 => ?_) (fun c59 => ?_)
          · refine st_iconst O dX3_longestRun_68 am_iconst_1 (q := 69) rfl ?_
            refine st_istoren O dX3_longestRun_69 rfl (q := 70) rfl ?_
            refine st_iloadn O dX3_longestRun_70 rfl (q := 71) rfl ?_
            refine st_iloadn O dX3_longestRun_71 rfl (q := 72) rfl ?_
            refine st_callS O dX3_longestRun_72 cs_X3_longestRun_72 (q := 75) rfl (am_sip rfl rfl rfl (Nat.le_of_ble_eq_true rfl) rfl ⟨_, _, rfl, (nI_max (by omega) (by omega)).symm⟩ ?_)
            refine st_istoren O dX3_longestRun_75 rfl (q := 76) rfl ?_
            refine st_iinc O dX3_longestRun_76 rfl (by first | exact am_ii1 _ | exact rfl) rfl (q := 79) rfl ?_
            refine st_goto O dX3_longestRun_79 (t := 7) rfl ?_
            exact ih _
          exact absurd c59 (by decide)
        omega
      · have hm2 : m - 1 < L.length := by omega
        have h5 := hk.2.2 _ (L_mem hm2)
        have h51 : cr_ L (m - 1) < n := h5.1
        have h52 : la (cr_ L (m - 1)) = ln_ L (m - 1) := h5.2.1.symm
        have h53 : ln_ L (m - 1) < 2 := h5.2.2
        have e1 : (stt (L.take m)).1 = ln_ L (m - 1) := by
          have := stt_l hm2
          rwa [show m - 1 + 1 = m by omega] at this
        rw [e1] at ih
        by_cases q2 : ln_ L (m - 1) = ln_ L m
        · rw [if_pos q2] at ih
          refine st_iload O dX3_longestRun_7 rfl (q := 9) rfl ?_
          refine st_aloadn O dX3_longestRun_9 rfl (q := 10) rfl ?_
          refine st_geti O dX3_longestRun_10 fl_X3_21 rfl rfl rfl rfl (q := 13) rfl ?_
          refine sn_icmp_ge O dX3_longestRun_13 (t := 82) rfl (q := 16) rfl (by omega) (by omega) (fun c13 => ?_) (fun c13 => ?_)
          · omega
          refine st_iload O dX3_longestRun_16 rfl (q := 18) rfl ?_
          refine sn_if_le O dX3_longestRun_18 (t := 54) rfl (q := 21) rfl (by omega) (fun c18 => ?_) (fun c18 => ?_)
          · omega
          refine st_aloadn O dX3_longestRun_21 rfl (q := 22) rfl ?_
          refine st_getr O dX3_longestRun_22 fl_X3_75 rfl rfl rfl (q := 25) rfl ?_
          refine st_aloadn O dX3_longestRun_25 rfl (q := 26) rfl ?_
          refine st_getr O dX3_longestRun_26 fl_X3_9 rfl rfl rfl (q := 29) rfl ?_
          refine st_iload O dX3_longestRun_29 rfl (q := 31) rfl ?_
          refine sn_ald O dX3_longestRun_31 rfl rfl rfl ⟨by omega, by decide⟩ (pO_o hO (by omega)) (q := 32) rfl ?_
          refine sn_ald O dX3_longestRun_32 rfl rfl rfl ⟨by omega, by decide⟩ (by rw [(hj _ h41).2.2.1.1, h42]) (q := 33) rfl ?_
          refine st_aloadn O dX3_longestRun_33 rfl (q := 34) rfl ?_
          refine st_getr O dX3_longestRun_34 fl_X3_75 rfl rfl rfl (q := 37) rfl ?_
          refine st_aloadn O dX3_longestRun_37 rfl (q := 38) rfl ?_
          refine st_getr O dX3_longestRun_38 fl_X3_9 rfl rfl rfl (q := 41) rfl ?_
          refine st_iload O dX3_longestRun_41 rfl (q := 43) rfl ?_
          refine st_iconst O dX3_longestRun_43 am_iconst_1 (q := 44) rfl ?_
          refine st_isub O dX3_longestRun_44 (by first | exact pk_sub (by omega) | exact rfl) (q := 45) rfl ?_
          refine sn_ald O dX3_longestRun_45 rfl rfl rfl ⟨by omega, by decide⟩ (pO_o hO hm2) (q := 46) rfl ?_
          refine sn_ald O dX3_longestRun_46 rfl rfl rfl ⟨by omega, by decide⟩ (by rw [(hj _ h51).2.2.1.1, h52]) (q := 47) rfl ?_
          refine sn_icmp_ne O dX3_longestRun_47 (t := 54) rfl (q := 50) rfl (by omega) (by omega) (fun c47 => ?_) (fun c47 => ?_)
          · omega
          refine st_iconst O dX3_longestRun_50 am_iconst_1 (q := 51) rfl ?_
          refine st_goto O dX3_longestRun_51 (t := 55) rfl ?_
          refine st_istore O dX3_longestRun_55 rfl (q := 57) rfl ?_
          refine st_iload O dX3_longestRun_57 rfl (q := 59) rfl ?_
          refine st_if_eq O dX3_longestRun_59 (t := 68) rfl (q := 62) rfl (fun c59 => ?_) (fun c59 => ?_)
          · exact absurd c59 (by decide)
          refine st_iloadn O dX3_longestRun_62 rfl (q := 63) rfl ?_
          refine st_iconst O dX3_longestRun_63 am_iconst_1 (q := 64) rfl ?_
          refine st_iadd O dX3_longestRun_64 (by first | exact nI_add _ _ | exact rfl) (q := 65) rfl ?_
          refine st_goto O dX3_longestRun_65 (t := 69) rfl ?_
          refine st_istoren O dX3_longestRun_69 rfl (q := 70) rfl ?_
          refine st_iloadn O dX3_longestRun_70 rfl (q := 71) rfl ?_
          refine st_iloadn O dX3_longestRun_71 rfl (q := 72) rfl ?_
          refine st_callS O dX3_longestRun_72 cs_X3_longestRun_72 (q := 75) rfl (am_sip rfl rfl rfl (Nat.le_of_ble_eq_true rfl) rfl ⟨_, _, rfl, (nI_max (by omega) (by omega)).symm⟩ ?_)
          refine st_istoren O dX3_longestRun_75 rfl (q := 76) rfl ?_
          refine st_iinc O dX3_longestRun_76 rfl (by first | exact am_ii1 _ | exact rfl) rfl (q := 79) rfl ?_
          refine st_goto O dX3_longestRun_79 (t := 7) rfl ?_
          exact ih _
        · rw [if_neg q2] at ih
          refine st_iload O dX3_longestRun_7 rfl (q := 9) rfl ?_
          refine st_aloadn O dX3_longestRun_9 rfl (q := 10) rfl ?_
          refine st_geti O dX3_longestRun_10 fl_X3_21 rfl rfl rfl rfl (q := 13) rfl ?_
          refine sn_icmp_ge O dX3_longestRun_13 (t := 82) rfl (q := 16) rfl (by omega) (by omega) (fun c13 => ?_) (fun c13 => ?_)
          · omega
          refine st_iload O dX3_longestRun_16 rfl (q := 18) rfl ?_
          refine sn_if_le O dX3_longestRun_18 (t := 54) rfl (q := 21) rfl (by omega) (fun c18 => ?_) (fun c18 => ?_)
          · omega
          refine st_aloadn O dX3_longestRun_21 rfl (q := 22) rfl ?_
          refine st_getr O dX3_longestRun_22 fl_X3_75 rfl rfl rfl (q := 25) rfl ?_
          refine st_aloadn O dX3_longestRun_25 rfl (q := 26) rfl ?_
          refine st_getr O dX3_longestRun_26 fl_X3_9 rfl rfl rfl (q := 29) rfl ?_
          refine st_iload O dX3_longestRun_29 rfl (q := 31) rfl ?_
          refine sn_ald O dX3_longestRun_31 rfl rfl rfl ⟨by omega, by decide⟩ (pO_o hO (by omega)) (q := 32) rfl ?_
          refine sn_ald O dX3_longestRun_32 rfl rfl rfl ⟨by omega, by decide⟩ (by rw [(hj _ h41).2.2.1.1, h42]) (q := 33) rfl ?_
          refine st_aloadn O dX3_longestRun_33 rfl (q := 34) rfl ?_
          refine st_getr O dX3_longestRun_34 fl_X3_75 rfl rfl rfl (q := 37) rfl ?_
          refine st_aloadn O dX3_longestRun_37 rfl (q := 38) rfl ?_
          refine st_getr O dX3_longestRun_38 fl_X3_9 rfl rfl rfl (q := 41) rfl ?_
          refine st_iload O dX3_longestRun_41 rfl (q := 43) rfl ?_
          refine st_iconst O dX3_longestRun_43 am_iconst_1 (q := 44) rfl ?_
          refine st_isub O dX3_longestRun_44 (by first | exact pk_sub (by omega) | exact rfl) (q := 45) rfl ?_
          refine sn_ald O dX3_longestRun_45 rfl rfl rfl ⟨by omega, by decide⟩ (pO_o hO hm2) (q := 46) rfl ?_
          refine sn_ald O dX3_longestRun_46 rfl rfl rfl ⟨by omega, by decide⟩ (by rw [(hj _ h51).2.2.1.1, h52]) (q := 47) rfl ?_
          refine sn_icmp_ne O dX3_longestRun_47 (t := 54) rfl (q := 50) rfl (by omega) (by omega) (fun c47 => ?_) (fun c47 => ?_)
          · refine st_iconst O dX3_longestRun_54 am_iconst_0 (q := 55) rfl ?_
            refine st_istore O dX3_longestRun_55 rfl (q := 57) rfl ?_
            refine st_iload O dX3_longestRun_57 rfl (q := 59) rfl ?_
            refine st_if_eq O dX3_longestRun_59 (t := 68) rfl (q := 62) rfl (fun c59 => ?_) (fun c59 => ?_)
            · refine st_iconst O dX3_longestRun_68 am_iconst_1 (q := 69) rfl ?_
              refine st_istoren O dX3_longestRun_69 rfl (q := 70) rfl ?_
              refine st_iloadn O dX3_longestRun_70 rfl (q := 71) rfl ?_
              refine st_iloadn O dX3_longestRun_71 rfl (q := 72) rfl ?_
              refine st_callS O dX3_longestRun_72 cs_X3_longestRun_72 (q := 75) rfl (am_sip rfl rfl rfl (Nat.le_of_ble_eq_true rfl) rfl ⟨_, _, rfl, (nI_max (by omega) (by omega)).symm⟩ ?_)
              refine st_istoren O dX3_longestRun_75 rfl (q := 76) rfl ?_
              refine st_iinc O dX3_longestRun_76 rfl (by first | exact am_ii1 _ | exact rfl) rfl (q := 79) rfl ?_
              refine st_goto O dX3_longestRun_79 (t := 7) rfl ?_
              exact ih _
            exact absurd c59 (by decide)
          omega
  refine am_begin rfl ?_
  refine st_iconst O dX3_longestRun_0 am_iconst_0 (q := 1) rfl ?_
  refine st_istoren O dX3_longestRun_1 rfl (q := 2) rfl ?_
  refine st_iconst O dX3_longestRun_2 am_iconst_0 (q := 3) rfl ?_
  refine st_istoren O dX3_longestRun_3 rfl (q := 4) rfl ?_
  refine st_iconst O dX3_longestRun_4 am_iconst_0 (q := 5) rfl ?_
  refine st_istore O dX3_longestRun_5 rfl (q := 7) rfl ?_
  exact loop _ 0 _ rfl (by omega)
theorem C_X3_longestRun : am_ctr yX3_longestRun cX3_longestRun 6 (some .int) 1 21 sh_PR [some 0, some 6] T_X3_longestRun := am_mk (by decide) (Or.inr (Or.inl ⟨rfl, rfl⟩)) (by decide) (by decide) (by decide) fl_X3_ok kc_X3_ok ck_X3_longestRun B_X3_longestRun
def cs_X3_goneOf : Nat → List am_V → am_D → am_K → Prop := am_cs []
theorem ck_X3_goneOf : ∀ X : am_X, am_cx X RX3 cX3_goneOf 6 0 0 → ∀ pc, am_csok X 6 sh_PR pc (cs_X3_goneOf pc) := fun X hX => am_cs_ok (fun _ h => absurd h List.not_mem_nil)
abbrev ok_X3_goneOf (X : am_X) (K : List Int32 → am_D → Prop) : Prop := am_ok X RX3 cX3_goneOf 6 sh_PR fl_X3 kc_X3 none 1 cs_X3_goneOf K
abbrev aw_X3_goneOf (X : am_X) (pc : Nat) (ls : am_L) (st : List am_V) (D : am_D) : Prop := am_aw X 6 sh_PR pc ls st D
/-- how many of the first m were of a lane -/
def gn (L : List (Nat × Nat × Nat)) (z m : Nat) : Nat := sm (fun i => if ln_ L i = z then 1 else 0) m
abbrev T_X3_goneOf : am_TT := am_pure (fun is D r => ∃ L n b w kd fg la hu li d1 d2 z v, D = d1 ++ d2 ∧ pD L d1 ∧ rA n b w kd fg la hu li d2 ∧ okL n la L ∧ z < 2 ∧ v ≤ L.length ∧ is = [nI z, nI v] ∧ r = nI (gn L z v))
theorem B_X3_goneOf : ∀ (X : am_X) (is : List Int32) (D : am_D) (K : List Int32 → am_D → Prop), ok_X3_goneOf X K → T_X3_goneOf is D K → is.length = (List.filter Option.isNone ([some 0, some 6, none, none] : List (Option Nat))).length → D.length = sh_PR.length → am_aw X 6 sh_PR 0 (am_l0 6 [some 0, some 6, none, none] is) [] D := by
  intro X is D K O hT _ _
  obtain ⟨r, ⟨L, n, b, w, kd, fg, la, hu, li, d1, d2, z, v, rfl, hL, hR, hk, hz, hv, rfl, rfl⟩, hK⟩ := hT
  obtain ⟨c, d, e, f, g, h, i, o, wt, tn, rr, l, rfl, hO⟩ := id hL
  obtain ⟨kk, ff, ll, hh, ii, rfl, hn, hb, hw, hj, hp, hi⟩ := hR
  have h3 := hk.1
  have loop : ∀ k m, v - m = k → m ≤ v → am_aw X 6 sh_PR 6 [some (.inr 0), some (.inr 6), some (.inl (nI z)), some (.inl (nI v)), some (.inl (nI (gn L z m))), some (.inl (nI m))] [] [.inl [nI L.length, nI (tot L), c, d, e, f, g, h, i], .inr o, .inr wt, .inr tn, .inr rr, .inr l, .inl [nI n, nI b, nI w], .inr kk, .inr ff, .inr ll, .inr hh, .inr ii] := by
    intro k
    induction k with
    | zero =>
      intro m hd hm
      have e : m = v := by omega
      subst e
      refine st_iload O dX3_goneOf_6 rfl (q := 8) rfl ?_
      refine st_iloadn O dX3_goneOf_8 rfl (q := 9) rfl ?_
      refine sn_icmp_ge O dX3_goneOf_9 (t := 46) rfl (q := 12) rfl (by omega) (by omega) (fun c9 => ?_) (fun c9 => ?_)
      · refine st_iload O dX3_goneOf_46 rfl (q := 48) rfl ?_
        refine st_ireturn O dX3_goneOf_48 ?_
        exact hK
      omega
    | succ k ih =>
      intro m hd hm
      have h4 := hk.2.2 _ (L_mem (i := m) (by omega))
      have h41 : cr_ L m < n := h4.1
      have h42 : la (cr_ L m) = ln_ L m := h4.2.1.symm
      have h43 : ln_ L m < 2 := h4.2.2
      have ih := ih (m + 1) (by omega) (by omega)
      rw [show gn L z (m + 1) = gn L z m + (if ln_ L m = z then 1 else 0) from rfl] at ih
      refine st_iload O dX3_goneOf_6 rfl (q := 8) rfl ?_
      refine st_iloadn O dX3_goneOf_8 rfl (q := 9) rfl ?_
      refine sn_icmp_ge O dX3_goneOf_9 (t := 46) rfl (q := 12) rfl (by omega) (by omega) (fun c9 => ?_) (fun c9 => ?_)
      · omega
      refine st_iload O dX3_goneOf_12 rfl (q := 14) rfl ?_
      refine st_aloadn O dX3_goneOf_14 rfl (q := 15) rfl ?_
      refine st_geti O dX3_goneOf_15 fl_X3_21 rfl rfl rfl rfl (q := 18) rfl ?_
      refine sn_icmp_ge O dX3_goneOf_18 (t := 46) rfl (q := 21) rfl (by omega) (by omega) (fun c18 => ?_) (fun c18 => ?_)
      · omega
      refine st_aloadn O dX3_goneOf_21 rfl (q := 22) rfl ?_
      refine st_getr O dX3_goneOf_22 fl_X3_75 rfl rfl rfl (q := 25) rfl ?_
      refine st_aloadn O dX3_goneOf_25 rfl (q := 26) rfl ?_
      refine st_getr O dX3_goneOf_26 fl_X3_9 rfl rfl rfl (q := 29) rfl ?_
      refine st_iload O dX3_goneOf_29 rfl (q := 31) rfl ?_
      refine sn_ald O dX3_goneOf_31 rfl rfl rfl ⟨by omega, by decide⟩ (pO_o hO (by omega)) (q := 32) rfl ?_
      refine sn_ald O dX3_goneOf_32 rfl rfl rfl ⟨by omega, by decide⟩ (by rw [(hj _ h41).2.2.1.1, h42]) (q := 33) rfl ?_
      refine st_iloadn O dX3_goneOf_33 rfl (q := 34) rfl ?_
      refine sn_icmp_ne O dX3_goneOf_34 (t := 40) rfl (q := 37) rfl (by omega) (by omega) (fun c34 => ?_) (fun c34 => ?_)
      · refine st_iinc O dX3_goneOf_40 rfl (by first | exact am_ii1 _ | exact rfl) rfl (q := 43) rfl ?_
        refine st_goto O dX3_goneOf_43 (t := 6) rfl ?_
        first | (rw [if_neg (by omega)] at ih; exact ih) | (rw [if_pos (by omega)] at ih; exact ih)
      refine st_iinc O dX3_goneOf_37 rfl (by first | exact am_ii1 _ | exact rfl) rfl (q := 40) rfl ?_
      refine st_iinc O dX3_goneOf_40 rfl (by first | exact am_ii1 _ | exact rfl) rfl (q := 43) rfl ?_
      refine st_goto O dX3_goneOf_43 (t := 6) rfl ?_
      first | (rw [if_neg (by omega)] at ih; exact ih) | (rw [if_pos (by omega)] at ih; exact ih)
  refine am_begin rfl ?_
  refine st_iconst O dX3_goneOf_0 am_iconst_0 (q := 1) rfl ?_
  refine st_istore O dX3_goneOf_1 rfl (q := 3) rfl ?_
  refine st_iconst O dX3_goneOf_3 am_iconst_0 (q := 4) rfl ?_
  refine st_istore O dX3_goneOf_4 rfl (q := 6) rfl ?_
  exact loop _ 0 rfl (by omega)
theorem C_X3_goneOf : am_ctr yX3_goneOf cX3_goneOf 6 (some .int) 0 0 sh_PR [some 0, some 6, none, none] T_X3_goneOf := am_mk (by decide) (Or.inr (Or.inl ⟨rfl, rfl⟩)) (by decide) (by decide) (by decide) fl_X3_ok kc_X3_ok ck_X3_goneOf B_X3_goneOf
/-- in which turn a car goes -/
def tu_ (L : List (Nat × Nat × Nat)) (c : Nat) : Nat := (L.map (fun q => q.1)).idxOf c
theorem tu_lt {L : List (Nat × Nat × Nat)} {c : Nat} (h : c ∈ L.map (fun q => q.1)) : tu_ L c < L.length := by
  have := List.idxOf_lt_length_of_mem h
  rwa [List.length_map] at this
theorem tu_at {L : List (Nat × Nat × Nat)} {c : Nat} (h : c ∈ L.map (fun q => q.1)) : cr_ L (tu_ L c) = c := by
  have h1 := List.idxOf_lt_length_of_mem h
  have h2 := List.getElem_idxOf h1
  rw [List.getElem_map] at h2
  unfold cr_ tu_
  rw [List.getD_eq_getElem?_getD, List.getElem?_eq_getElem (by rwa [List.length_map] at h1)]
  exact h2
theorem tu_tn {L : List (Nat × Nat × Nat)} {o wt tn : Nat → Int32} (hO : pO L o wt tn) {c : Nat} (h : c ∈ L.map (fun q => q.1)) : tn c = nI (tu_ L c) := by
  have := pO_t hO (tu_lt h)
  rwa [tu_at h] at this
theorem tu_wt {L : List (Nat × Nat × Nat)} {o wt tn : Nat → Int32} (hO : pO L o wt tn) {c : Nat} (h : c ∈ L.map (fun q => q.1)) : wt c = nI (wt_ L (tu_ L c)) := by
  have := pO_w hO (tu_lt h)
  rwa [tu_at h] at this
def ov (L : List (Nat × Nat × Nat)) (c : Nat) : Nat := sm (fun o => if tu_ L c < tu_ L o then 1 else 0) c
def cs_X3_overtaken : Nat → List am_V → am_D → am_K → Prop := am_cs []
theorem ck_X3_overtaken : ∀ X : am_X, am_cx X RX3 cX3_overtaken 4 0 0 → ∀ pc, am_csok X 4 sh_Pas pc (cs_X3_overtaken pc) := fun X hX => am_cs_ok (fun _ h => absurd h List.not_mem_nil)
abbrev ok_X3_overtaken (X : am_X) (K : List Int32 → am_D → Prop) : Prop := am_ok X RX3 cX3_overtaken 4 sh_Pas fl_X3 kc_X3 none 1 cs_X3_overtaken K
abbrev aw_X3_overtaken (X : am_X) (pc : Nat) (ls : am_L) (st : List am_V) (D : am_D) : Prop := am_aw X 4 sh_Pas pc ls st D
abbrev T_X3_overtaken : am_TT := am_pure (fun is D r => ∃ L n la c, pD L D ∧ okL n la L ∧ (∀ o, o < n → o ∈ L.map (fun q => q.1)) ∧ c < n ∧ is = [nI c] ∧ r = nI (ov L c))
theorem B_X3_overtaken : ∀ (X : am_X) (is : List Int32) (D : am_D) (K : List Int32 → am_D → Prop), ok_X3_overtaken X K → T_X3_overtaken is D K → is.length = (List.filter Option.isNone ([some 0, none] : List (Option Nat))).length → D.length = sh_Pas.length → am_aw X 4 sh_Pas 0 (am_l0 4 [some 0, none] is) [] D := by
  intro X is D K O hT _ _
  obtain ⟨r, ⟨L, n, la, c, hL, hk, hall, hc, rfl, rfl⟩, hK⟩ := hT
  obtain ⟨c0, d, e, f, g, h, i, o, wt, tn, rr, l, rfl, hO⟩ := id hL
  have h3 := hk.1
  have h9 := hk.2.1
  have hcm := hall c hc
  have hc2 := tu_lt hcm
  have loop : ∀ k m, c - m = k → m ≤ c → am_aw X 4 sh_Pas 4 [some (.inr 0), some (.inl (nI c)), some (.inl (nI (sm (fun o => if tu_ L c < tu_ L o then 1 else 0) m))), some (.inl (nI m))] [] [.inl [nI L.length, nI (tot L), c0, d, e, f, g, h, i], .inr o, .inr wt, .inr tn, .inr rr, .inr l] := by
    intro k
    induction k with
    | zero =>
      intro m hd hm
      have e : m = c := by omega
      subst e
      refine st_iloadn O dX3_overtaken_4 rfl (q := 5) rfl ?_
      refine st_iloadn O dX3_overtaken_5 rfl (q := 6) rfl ?_
      refine sn_icmp_ge O dX3_overtaken_6 (t := 33) rfl (q := 9) rfl (by omega) (by omega) (fun c6 => ?_) (fun c6 => ?_)
      · refine st_iloadn O dX3_overtaken_33 rfl (q := 34) rfl ?_
        refine st_ireturn O dX3_overtaken_34 ?_
        exact hK
      omega
    | succ k ih =>
      intro m hd hm
      have hmm := hall m (by omega)
      have hm2 := tu_lt hmm
      have ih := ih (m + 1) (by omega) (by omega)
      simp only [sm] at ih
      refine st_iloadn O dX3_overtaken_4 rfl (q := 5) rfl ?_
      refine st_iloadn O dX3_overtaken_5 rfl (q := 6) rfl ?_
      refine sn_icmp_ge O dX3_overtaken_6 (t := 33) rfl (q := 9) rfl (by omega) (by omega) (fun c6 => ?_) (fun c6 => ?_)
      · omega
      refine st_aloadn O dX3_overtaken_9 rfl (q := 10) rfl ?_
      refine st_getr O dX3_overtaken_10 fl_X3_18 rfl rfl rfl (q := 13) rfl ?_
      refine st_iloadn O dX3_overtaken_13 rfl (q := 14) rfl ?_
      refine sn_ald O dX3_overtaken_14 rfl rfl rfl ⟨by omega, by decide⟩ (tu_tn hO hmm) (q := 15) rfl ?_
      refine st_aloadn O dX3_overtaken_15 rfl (q := 16) rfl ?_
      refine st_getr O dX3_overtaken_16 fl_X3_18 rfl rfl rfl (q := 19) rfl ?_
      refine st_iloadn O dX3_overtaken_19 rfl (q := 20) rfl ?_
      refine sn_ald O dX3_overtaken_20 rfl rfl rfl ⟨by omega, by decide⟩ (tu_tn hO hcm) (q := 21) rfl ?_
      refine sn_icmp_le O dX3_overtaken_21 (t := 27) rfl (q := 24) rfl (by omega) (by omega) (fun c21 => ?_) (fun c21 => ?_)
      · refine st_iinc O dX3_overtaken_27 rfl (by first | exact am_ii1 _ | exact rfl) rfl (q := 30) rfl ?_
        refine st_goto O dX3_overtaken_30 (t := 4) rfl ?_
        first | (rw [if_neg (by omega)] at ih; exact ih) | (rw [if_pos (by omega)] at ih; exact ih)
      refine st_iinc O dX3_overtaken_24 rfl (by first | exact am_ii1 _ | exact rfl) rfl (q := 27) rfl ?_
      refine st_iinc O dX3_overtaken_27 rfl (by first | exact am_ii1 _ | exact rfl) rfl (q := 30) rfl ?_
      refine st_goto O dX3_overtaken_30 (t := 4) rfl ?_
      first | (rw [if_neg (by omega)] at ih; exact ih) | (rw [if_pos (by omega)] at ih; exact ih)
  refine am_begin rfl ?_
  refine st_iconst O dX3_overtaken_0 am_iconst_0 (q := 1) rfl ?_
  refine st_istoren O dX3_overtaken_1 rfl (q := 2) rfl ?_
  refine st_iconst O dX3_overtaken_2 am_iconst_0 (q := 3) rfl ?_
  refine st_istoren O dX3_overtaken_3 rfl (q := 4) rfl ?_
  exact loop _ 0 rfl (by omega)
theorem C_X3_overtaken : am_ctr yX3_overtaken cX3_overtaken 4 (some .int) 0 0 sh_Pas [some 0, none] T_X3_overtaken := am_mk (by decide) (Or.inr (Or.inl ⟨rfl, rfl⟩)) (by decide) (by decide) (by decide) fl_X3_ok kc_X3_ok ck_X3_overtaken B_X3_overtaken
/-! the turns of a road: its cars, each in its lane -/
theorem sg_lane {le se : Nat → Nat} {pu : Nat → Bool} {w : Nat} : ∀ (n : Nat) (r l : List Nat) (k la : Nat) (pd : Bool) (t : Nat), ∀ q ∈ sg le se pu w n r l k la pd t, (q.2.1 = 0 ∧ q.1 ∈ r) ∨ (q.2.1 = 1 ∧ q.1 ∈ l)
  | 0, r, l, k, la, pd, t, q, h => by cases h
  | n + 1, r, l, k, la, pd, t, q, h => by
    rw [sg] at h
    split at h
    · split at h
      · rcases List.mem_cons.mp h with rfl | h
        · exact Or.inr ⟨rfl, List.mem_cons_self⟩
        · rcases sg_lane n _ _ _ _ _ _ q h with h | h
          · exact Or.inl h
          · exact Or.inr ⟨h.1, List.mem_cons_of_mem _ h.2⟩
      · cases h
    · split at h
      · rcases List.mem_cons.mp h with rfl | h
        · exact Or.inl ⟨rfl, List.mem_cons_self⟩
        · rcases sg_lane n _ _ _ _ _ _ q h with h | h
          · exact Or.inl ⟨h.1, List.mem_cons_of_mem _ h.2⟩
          · exact Or.inr h
      · cases h
theorem sim_ok {n b w a : Nat} {kd fg la : Nat → Nat} {li : List Nat} (hn : n ≤ 9) (hp : li.Perm (List.range n)) : okL n la (sim b w kd fg (qu la li 0 a) (qu la li 1 a)) := by
  refine ⟨?_, hn, fun q hq => ?_⟩
  · rw [sim_len]
    have := qu_sum (la := la) (a := a) hp
    omega
  · rcases sg_lane _ _ _ _ _ _ _ q hq with ⟨h1, h2⟩ | ⟨h1, h2⟩
    · have := qu_lt hp _ h2
      exact ⟨this.1, by rw [h1, this.2], by omega⟩
    · have := qu_lt hp _ h2
      exact ⟨this.1, by rw [h1, this.2], by omega⟩
