/-! the reference's calls: luck, away, two -/
abbrev sh_MU : am_S := [.inr (6, [.inl 0, .inr 2, .inr 3, .inr 4, .inr 5, .inr 6, .inl 1, .inl 2, .inl 3, .inr 7, .inl 4, .inr 8, .inl 5, .inr 9, .inr 10, .inl 6, .inr 11, .inr 12, .inr 13, .inl 7, .inr 14, .inr 15, .inr 1, .inl 8, .inl 9, .inl 10, .inl 11]), .inl 9]
def cs_X7_lucks : Nat → List am_V → am_D → am_K → Prop := am_cs []
theorem ck_X7_lucks : ∀ X : am_X, am_cx X RX7 cX7_lucks 4 0 0 → ∀ pc, am_csok X 4 sh_MU pc (cs_X7_lucks pc) := fun X hX => am_cs_ok (fun _ h => absurd h List.not_mem_nil)
abbrev ok_X7_lucks (X : am_X) (K : List Int32 → am_D → Prop) : Prop := am_ok X RX7 cX7_lucks 4 sh_MU fl_X7 kc_X7 none 1 cs_X7_lucks K
abbrev aw_X7_lucks (X : am_X) (pc : Nat) (ls : am_L) (st : List am_V) (D : am_D) : Prop := am_aw X 4 sh_MU pc ls st D
abbrev T_X7_lucks : am_TT := am_pure (fun is D r => ∃ (xs : List Int32) (uA : Nat → Int32) (c : Nat) (f : Nat → Nat), c < 9 ∧ (∀ o, o ≤ c → uA o = nI (f o) ∧ f o < 1000) ∧ is = [nI c] ∧ D = [.inl xs, .inr uA] ∧ r = nI (sm (fun o => if f c < f o then 1 else 0) c))
set_option maxHeartbeats 200000 in
theorem B_X7_lucks : ∀ (X : am_X) (is : List Int32) (D : am_D) (K : List Int32 → am_D → Prop), ok_X7_lucks X K → T_X7_lucks is D K → is.length = (List.filter Option.isNone ([some 0, none] : List (Option Nat))).length → D.length = sh_MU.length → am_aw X 4 sh_MU 0 (am_l0 4 [some 0, none] is) [] D := by
  intro X is D K O hT _ _
  obtain ⟨r, ⟨xs, uA, c, f, hc, hu, rfl, rfl, rfl⟩, hK⟩ := hT
  have hcc := hu c (Nat.le_refl c)
  have loop : ∀ d m, c - m = d → m ≤ c → am_aw X 4 sh_MU 4 [some (.inr 0), some (.inl (nI c)), some (.inl (nI (sm (fun o => if f c < f o then 1 else 0) m))), some (.inl (nI m))] [] [.inl xs, .inr uA] := by
    intro d
    induction d with
    | zero =>
      intro m hd hm
      have e : m = c := by omega
      subst e
      refine st_iloadn O dX7_lucks_4 rfl (q := 5) rfl ?_
      refine st_iloadn O dX7_lucks_5 rfl (q := 6) rfl ?_
      refine sn_icmp_ge O dX7_lucks_6 (t := 33) rfl (q := 9) rfl (by omega) (by omega) (fun c6 => ?_) (fun c6 => ?_)
      · refine st_iloadn O dX7_lucks_33 rfl (q := 34) rfl ?_
        refine st_ireturn O dX7_lucks_34 ?_
        exact hK
      omega
    | succ d ih =>
      intro m hd hm
      have hmm := hu m hm
      have ih := ih (m + 1) (by omega) (by omega)
      by_cases hlt : f c < f m
      · rw [show sm (fun o => if f c < f o then 1 else 0) (m + 1) = sm (fun o => if f c < f o then 1 else 0) m + 1 from congrArg (sm (fun o => if f c < f o then 1 else 0) m + ·) (if_pos hlt)] at ih
        refine st_iloadn O dX7_lucks_4 rfl (q := 5) rfl ?_
        refine st_iloadn O dX7_lucks_5 rfl (q := 6) rfl ?_
        refine sn_icmp_ge O dX7_lucks_6 (t := 33) rfl (q := 9) rfl (by omega) (by omega) (fun c6 => ?_) (fun c6 => ?_)
        · omega
        refine st_aloadn O dX7_lucks_9 rfl (q := 10) rfl ?_
        refine st_getr O dX7_lucks_10 fl_X7_52 rfl rfl rfl (q := 13) rfl ?_
        refine st_iloadn O dX7_lucks_13 rfl (q := 14) rfl ?_
        refine sn_ald O dX7_lucks_14 rfl rfl rfl ⟨by omega, by decide⟩ hmm.1 (q := 15) rfl ?_
        refine st_aloadn O dX7_lucks_15 rfl (q := 16) rfl ?_
        refine st_getr O dX7_lucks_16 fl_X7_52 rfl rfl rfl (q := 19) rfl ?_
        refine st_iloadn O dX7_lucks_19 rfl (q := 20) rfl ?_
        refine sn_ald O dX7_lucks_20 rfl rfl rfl ⟨by omega, by decide⟩ hcc.1 (q := 21) rfl ?_
        refine sn_icmp_le O dX7_lucks_21 (t := 27) rfl (q := 24) rfl (by omega) (by omega) (fun c21 => ?_) (fun c21 => ?_)
        · omega
        refine st_iinc O dX7_lucks_24 rfl (by first | exact am_ii1 _ | exact rfl) rfl (q := 27) rfl ?_
        refine st_iinc O dX7_lucks_27 rfl (by first | exact am_ii1 _ | exact rfl) rfl (q := 30) rfl ?_
        refine st_goto O dX7_lucks_30 (t := 4) rfl ?_
        exact ih
      · rw [show sm (fun o => if f c < f o then 1 else 0) (m + 1) = sm (fun o => if f c < f o then 1 else 0) m from congrArg (sm (fun o => if f c < f o then 1 else 0) m + ·) (if_neg hlt)] at ih
        refine st_iloadn O dX7_lucks_4 rfl (q := 5) rfl ?_
        refine st_iloadn O dX7_lucks_5 rfl (q := 6) rfl ?_
        refine sn_icmp_ge O dX7_lucks_6 (t := 33) rfl (q := 9) rfl (by omega) (by omega) (fun c6 => ?_) (fun c6 => ?_)
        · omega
        refine st_aloadn O dX7_lucks_9 rfl (q := 10) rfl ?_
        refine st_getr O dX7_lucks_10 fl_X7_52 rfl rfl rfl (q := 13) rfl ?_
        refine st_iloadn O dX7_lucks_13 rfl (q := 14) rfl ?_
        refine sn_ald O dX7_lucks_14 rfl rfl rfl ⟨by omega, by decide⟩ hmm.1 (q := 15) rfl ?_
        refine st_aloadn O dX7_lucks_15 rfl (q := 16) rfl ?_
        refine st_getr O dX7_lucks_16 fl_X7_52 rfl rfl rfl (q := 19) rfl ?_
        refine st_iloadn O dX7_lucks_19 rfl (q := 20) rfl ?_
        refine sn_ald O dX7_lucks_20 rfl rfl rfl ⟨by omega, by decide⟩ hcc.1 (q := 21) rfl ?_
        refine sn_icmp_le O dX7_lucks_21 (t := 27) rfl (q := 24) rfl (by omega) (by omega) (fun c21 => ?_) (fun c21 => ?_)
        · refine st_iinc O dX7_lucks_27 rfl (by first | exact am_ii1 _ | exact rfl) rfl (q := 30) rfl ?_
          refine st_goto O dX7_lucks_30 (t := 4) rfl ?_
          exact ih
        omega
  refine am_begin rfl ?_
  refine st_iconst O dX7_lucks_0 am_iconst_0 (q := 1) rfl ?_
  refine st_istoren O dX7_lucks_1 rfl (q := 2) rfl ?_
  refine st_iconst O dX7_lucks_2 am_iconst_0 (q := 3) rfl ?_
  refine st_istoren O dX7_lucks_3 rfl (q := 4) rfl ?_
  exact loop c 0 (by omega) (by omega)
theorem C_X7_lucks : am_ctr yX7_lucks cX7_lucks 4 (some .int) 0 0 sh_MU [some 0, none] T_X7_lucks := am_mk (by decide) (Or.inr (Or.inl ⟨rfl, rfl⟩)) (by decide) (by decide) (by decide) fl_X7_ok kc_X7_ok ck_X7_lucks B_X7_lucks
def cs_X7_fair : Nat → List am_V → am_D → am_K → Prop := am_cs [(1, am_site 1 [some 0] T_X7_run [0, 1, 2, 4, 5, 13, 14, 15] [0, 1, 2, 4, 5, 13, 14, 15, 3, 6, 7, 8, 9, 10, 11, 12]), (19, am_site 2 [some 0, none] T_X7_lucks [0, 15] [0, 15, 1, 2, 3, 4, 5, 6, 7, 8, 9, 10, 11, 12, 13, 14])]
theorem cs_X7_fair_1 : cs_X7_fair 1 = am_site 1 [some 0] T_X7_run [0, 1, 2, 4, 5, 13, 14, 15] [0, 1, 2, 4, 5, 13, 14, 15, 3, 6, 7, 8, 9, 10, 11, 12] := rfl
theorem cs_X7_fair_19 : cs_X7_fair 19 = am_site 2 [some 0, none] T_X7_lucks [0, 15] [0, 15, 1, 2, 3, 4, 5, 6, 7, 8, 9, 10, 11, 12, 13, 14] := rfl
theorem ck_X7_fair : ∀ X : am_X, am_cx X RX7 cX7_fair 3 3 75 → ∀ pc, am_csok X 3 sh_Mod pc (cs_X7_fair pc) := fun X hX => am_cs_ok (List.forall_mem_cons.mpr ⟨am_callV hX C_X7_run mo_X7_run rfl lk_X7_161 dX7_fair_1 rfl rfl rfl (by decide), List.forall_mem_cons.mpr ⟨am_callV hX C_X7_lucks mo_X7_lucks rfl lk_X7_195 dX7_fair_19 rfl rfl rfl (by decide), fun _ h => absurd h List.not_mem_nil⟩⟩)
abbrev ok_X7_fair (X : am_X) (K : List Int32 → am_D → Prop) : Prop := am_ok X RX7 cX7_fair 3 sh_Mod fl_X7 kc_X7 none 1 cs_X7_fair K
abbrev aw_X7_fair (X : am_X) (pc : Nat) (ls : am_L) (st : List am_V) (D : am_D) : Prop := am_aw X 3 sh_Mod pc ls st D
abbrev T_X7_fair : am_TT := am_s0 IM f_fair
set_option maxHeartbeats 200000 in
theorem B_X7_fair : ∀ (X : am_X) (is : List Int32) (D : am_D) (K : List Int32 → am_D → Prop), ok_X7_fair X K → T_X7_fair is D K → is.length = (List.filter Option.isNone ([some 0] : List (Option Nat))).length → D.length = sh_Mod.length → am_aw X 3 sh_Mod 0 (am_l0 3 [some 0] is) [] D := by
  intro X is D K O hT _ _
  obtain ⟨σ, ⟨aT, iM, tU, aS, cH, lO, kA, fA, hA, lA, pA, tA, vA, oA, eA, xA, nA, gA, wA, uA, rfl, hR, ht, ho, hk⟩, rfl, hK⟩ := hT
  obtain ⟨hb, hw, hp, hj, hL⟩ := id hR
  have hn : gN σ ≤ 9 := hL.1
  have eN : gN σ = σ.1.1 := rfl
  obtain ⟨g1, g2, g3⟩ := gL_ok hn hp (fun j h => (hj j h).2.2.2)
  have hK : ∀ D', IM σ D' → K [nI (sm (ov (gL σ)) (gN σ))] D' := hK
  have loop : ∀ gA wA uA tU aS cH lO, pO (gL σ) gA wA uA → ∀ d m, gN σ - m = d → m ≤ gN σ → am_aw X 3 sh_Mod 8 [some (.inr 0), some (.inl (nI (sm (ov (gL σ)) m))), some (.inl (nI m))] [] [.inl [nI (gN σ), nI (gb σ), nI (gw σ), nI σ.2.2.1.length, aT, nI σ.2.2.2.1.length, iM, tU, aS, cH, lO, bI false], .inr kA, .inr fA, .inr hA, .inr lA, .inr pA, .inr tA, .inr vA, .inr oA, .inr σ.2.2.2.2, .inr eA, .inr xA, .inr nA, .inr gA, .inr wA, .inr uA] := by
    intro gA wA uA tU aS cH lO hO d
    have htu : ∀ c, c < gN σ → uA c = nI (tu_ (gL σ) c) ∧ tu_ (gL σ) c < 1000 := fun c hc => ⟨tu_tn hO (g2 c hc), by have h1 := tu_lt (g2 c hc); have h2 : (gL σ).length ≤ 9 := g1.1; omega⟩
    induction d with
    | zero =>
      intro m hd hm
      have e : m = gN σ := by omega
      subst e
      refine st_iloadn O dX7_fair_8 rfl (q := 9) rfl ?_
      refine st_aloadn O dX7_fair_9 rfl (q := 10) rfl ?_
      refine st_geti O dX7_fair_10 fl_X7_59 rfl rfl rfl rfl (q := 13) rfl ?_
      refine sn_icmp_ge O dX7_fair_13 (t := 30) rfl (q := 16) rfl (by omega) (by omega) (fun c13 => ?_) (fun c13 => ?_)
      · refine st_iloadn O dX7_fair_30 rfl (q := 31) rfl ?_
        refine st_ireturn O dX7_fair_31 ?_
        exact hK _ ⟨_, _, _, _, _, _, _, _, _, _, _, _, _, _, _, _, _, _, _, _, rfl, hR, ht, ho, hk⟩
      omega
    | succ d ih =>
      intro m hd hm
      refine st_iloadn O dX7_fair_8 rfl (q := 9) rfl ?_
      refine st_aloadn O dX7_fair_9 rfl (q := 10) rfl ?_
      refine st_geti O dX7_fair_10 fl_X7_59 rfl rfl rfl rfl (q := 13) rfl ?_
      refine sn_icmp_ge O dX7_fair_13 (t := 30) rfl (q := 16) rfl (by omega) (by omega) (fun c13 => ?_) (fun c13 => ?_)
      · omega
      refine st_iloadn O dX7_fair_16 rfl (q := 17) rfl ?_
      refine st_aloadn O dX7_fair_17 rfl (q := 18) rfl ?_
      refine st_iloadn O dX7_fair_18 rfl (q := 19) rfl ?_
      refine st_call O dX7_fair_19 cs_X7_fair_19 (q := 22) rfl (am_sipq rfl rfl rfl (Nat.le_of_ble_eq_true rfl) rfl (r := nI (ov (gL σ) m)) ⟨_, _, m, tu_ (gL σ), by omega, fun o ho => htu o (by omega), rfl, rfl, rfl⟩ ?_)
      refine st_iadd O dX7_fair_22 (by first | exact nI_add _ _ | exact rfl) (q := 23) rfl ?_
      refine st_istoren O dX7_fair_23 rfl (q := 24) rfl ?_
      refine st_iinc O dX7_fair_24 rfl (by first | exact am_ii1 _ | exact rfl) rfl (q := 27) rfl ?_
      refine st_goto O dX7_fair_27 (t := 8) rfl ?_
      exact ih (m + 1) (by omega) (by omega)
  refine am_begin rfl ?_
  refine st_aloadn O dX7_fair_0 rfl (q := 1) rfl ?_
  refine st_call O dX7_fair_1 cs_X7_fair_1 (q := 4) rfl (am_siq rfl rfl rfl (Nat.le_of_ble_eq_true rfl) rfl ?_)
  refine ⟨gN σ, gb σ, gw σ, _, _, _, _, _, _, _, _, false, gk σ, gf σ, (fun z => qu (gl σ) (gq σ) z 0), _, _, _, _, _, _, _, rfl, rfl, hb, hR.k2, hL, fun gA' wA' uA' hO => ?_⟩
  refine am_nrp rfl rfl rfl rfl ?_
  rw [gL_smw σ] at hO ⊢
  refine st_iconst O dX7_fair_4 am_iconst_0 (q := 5) rfl ?_
  refine st_istoren O dX7_fair_5 rfl (q := 6) rfl ?_
  refine st_iconst O dX7_fair_6 am_iconst_0 (q := 7) rfl ?_
  refine st_istoren O dX7_fair_7 rfl (q := 8) rfl ?_
  exact loop _ _ _ _ _ _ _ hO (gN σ) 0 rfl (Nat.zero_le _)
theorem C_X7_fair : am_ctr yX7_fair cX7_fair 3 (some .int) 3 75 sh_Mod [some 0] T_X7_fair := am_mk (by decide) (Or.inr (Or.inl ⟨rfl, rfl⟩)) (by decide) (by decide) (by decide) fl_X7_ok kc_X7_ok ck_X7_fair B_X7_fair
theorem lkF_val {f : Nat → Nat} : ∀ m, ((lkF f m).1 = none → (lkF f m).2 = 0) ∧ ∀ k, (lkF f m).1 = some k → (lkF f m).2 = f k ∧ k < m
  | 0 => ⟨fun _ => rfl, fun k h => (by cases h)⟩
  | m + 1 => by
    obtain ⟨a1, a2⟩ := lkF_val (f := f) m
    unfold lkF
    split
    · exact ⟨fun h => (by cases h), fun k h => by cases h; exact ⟨rfl, Nat.lt_succ_self m⟩⟩
    · exact ⟨a1, fun k h => ⟨(a2 k h).1, Nat.lt_succ_of_lt (a2 k h).2⟩⟩
def cs_X7_lucky : Nat → List am_V → am_D → am_K → Prop := am_cs [(1, am_site 1 [some 0] T_X7_run [0, 1, 2, 4, 5, 13, 14, 15] [0, 1, 2, 4, 5, 13, 14, 15, 3, 6, 7, 8, 9, 10, 11, 12]), (19, am_site 2 [some 0, none] T_X7_lucks [0, 15] [0, 15, 1, 2, 3, 4, 5, 6, 7, 8, 9, 10, 11, 12, 13, 14]), (34, am_site 2 [some 0, none] T_X7_lucks [0, 15] [0, 15, 1, 2, 3, 4, 5, 6, 7, 8, 9, 10, 11, 12, 13, 14])]
theorem cs_X7_lucky_1 : cs_X7_lucky 1 = am_site 1 [some 0] T_X7_run [0, 1, 2, 4, 5, 13, 14, 15] [0, 1, 2, 4, 5, 13, 14, 15, 3, 6, 7, 8, 9, 10, 11, 12] := rfl
theorem cs_X7_lucky_19 : cs_X7_lucky 19 = am_site 2 [some 0, none] T_X7_lucks [0, 15] [0, 15, 1, 2, 3, 4, 5, 6, 7, 8, 9, 10, 11, 12, 13, 14] := rfl
theorem cs_X7_lucky_34 : cs_X7_lucky 34 = am_site 2 [some 0, none] T_X7_lucks [0, 15] [0, 15, 1, 2, 3, 4, 5, 6, 7, 8, 9, 10, 11, 12, 13, 14] := rfl
theorem ck_X7_lucky : ∀ X : am_X, am_cx X RX7 cX7_lucky 3 3 75 → ∀ pc, am_csok X 3 sh_Mod pc (cs_X7_lucky pc) := fun X hX => am_cs_ok (List.forall_mem_cons.mpr ⟨am_callV hX C_X7_run mo_X7_run rfl lk_X7_161 dX7_lucky_1 rfl rfl rfl (by decide), List.forall_mem_cons.mpr ⟨am_callV hX C_X7_lucks mo_X7_lucks rfl lk_X7_195 dX7_lucky_19 rfl rfl rfl (by decide), List.forall_mem_cons.mpr ⟨am_callV hX C_X7_lucks mo_X7_lucks rfl lk_X7_195 dX7_lucky_34 rfl rfl rfl (by decide), fun _ h => absurd h List.not_mem_nil⟩⟩⟩)
abbrev ok_X7_lucky (X : am_X) (K : List Int32 → am_D → Prop) : Prop := am_ok X RX7 cX7_lucky 3 sh_Mod fl_X7 kc_X7 none 1 cs_X7_lucky K
abbrev aw_X7_lucky (X : am_X) (pc : Nat) (ls : am_L) (st : List am_V) (D : am_D) : Prop := am_aw X 3 sh_Mod pc ls st D
abbrev T_X7_lucky : am_TT := am_s0 IM f_lucky
set_option maxHeartbeats 200000 in
theorem B_X7_lucky : ∀ (X : am_X) (is : List Int32) (D : am_D) (K : List Int32 → am_D → Prop), ok_X7_lucky X K → T_X7_lucky is D K → is.length = (List.filter Option.isNone ([some 0] : List (Option Nat))).length → D.length = sh_Mod.length → am_aw X 3 sh_Mod 0 (am_l0 3 [some 0] is) [] D := by
  intro X is D K O hT _ _
  obtain ⟨σ, ⟨aT, iM, tU, aS, cH, lO, kA, fA, hA, lA, pA, tA, vA, oA, eA, xA, nA, gA, wA, uA, rfl, hR, ht, ho, hk⟩, rfl, hK⟩ := hT
  obtain ⟨hb, hw, hp, hj, hL⟩ := id hR
  have hn : gN σ ≤ 9 := hL.1
  have eN : gN σ = σ.1.1 := rfl
  obtain ⟨g1, g2, g3⟩ := gL_ok hn hp (fun j h => (hj j h).2.2.2)
  have hK : ∀ D', IM σ D' → K [oI (lkF (ov (gL σ)) (gN σ)).1] D' := hK
  have loop : ∀ gA wA uA tU aS cH lO, pO (gL σ) gA wA uA → ∀ d m, gN σ - m = d → m ≤ gN σ → am_aw X 3 sh_Mod 9 [some (.inr 0), some (.inl (oI (lkF (ov (gL σ)) m).1)), some (.inl (nI m))] [] [.inl [nI (gN σ), nI (gb σ), nI (gw σ), nI σ.2.2.1.length, aT, nI σ.2.2.2.1.length, iM, tU, aS, cH, lO, bI false], .inr kA, .inr fA, .inr hA, .inr lA, .inr pA, .inr tA, .inr vA, .inr oA, .inr σ.2.2.2.2, .inr eA, .inr xA, .inr nA, .inr gA, .inr wA, .inr uA] := by
    intro gA wA uA tU aS cH lO hO d
    have htu : ∀ c, c < gN σ → uA c = nI (tu_ (gL σ) c) ∧ tu_ (gL σ) c < 1000 := fun c hc => ⟨tu_tn hO (g2 c hc), by have h1 := tu_lt (g2 c hc); have h2 : (gL σ).length ≤ 9 := g1.1; omega⟩
    induction d with
    | zero =>
      intro m hd hm
      have e : m = gN σ := by omega
      subst e
      refine st_iloadn O dX7_lucky_9 rfl (q := 10) rfl ?_
      refine st_aloadn O dX7_lucky_10 rfl (q := 11) rfl ?_
      refine st_geti O dX7_lucky_11 fl_X7_59 rfl rfl rfl rfl (q := 14) rfl ?_
      refine sn_icmp_ge O dX7_lucky_14 (t := 48) rfl (q := 17) rfl (by omega) (by omega) (fun c14 => ?_) (fun c14 => ?_)
      · refine st_iloadn O dX7_lucky_48 rfl (q := 49) rfl ?_
        refine st_ireturn O dX7_lucky_49 ?_
        exact hK _ ⟨_, _, _, _, _, _, _, _, _, _, _, _, _, _, _, _, _, _, _, _, rfl, hR, ht, ho, hk⟩
      omega
    | succ d ih =>
      intro m hd hm
      have q1 := ov_le (gL σ) m
      obtain ⟨v1, v2⟩ := lkF_val (f := ov (gL σ)) m
      have ih := ih (m + 1) (by omega) (by omega)
      unfold lkF at ih
      cases hfo : (lkF (ov (gL σ)) m).1 with
      | none =>
        have v1 := v1 hfo
        by_cases hlt : (lkF (ov (gL σ)) m).2 < ov (gL σ) m
        · simp only [if_pos hlt] at ih
          refine st_iloadn O dX7_lucky_9 rfl (q := 10) rfl ?_
          refine st_aloadn O dX7_lucky_10 rfl (q := 11) rfl ?_
          refine st_geti O dX7_lucky_11 fl_X7_59 rfl rfl rfl rfl (q := 14) rfl ?_
          refine sn_icmp_ge O dX7_lucky_14 (t := 48) rfl (q := 17) rfl (by omega) (by omega) (fun c14 => ?_) (fun c14 => ?_)
          · omega
          refine st_aloadn O dX7_lucky_17 rfl (q := 18) rfl ?_
          refine st_iloadn O dX7_lucky_18 rfl (q := 19) rfl ?_
          refine st_call O dX7_lucky_19 cs_X7_lucky_19 (q := 22) rfl (am_sipq rfl rfl rfl (Nat.le_of_ble_eq_true rfl) rfl (r := nI (ov (gL σ) m)) ⟨_, _, m, tu_ (gL σ), by omega, fun o ho => htu o (by omega), rfl, rfl, rfl⟩ ?_)
          refine st_iloadn O dX7_lucky_22 rfl (q := 23) rfl ?_
          refine st_bipush O dX7_lucky_23 am_bipush_m9 (q := 25) rfl ?_
          refine st_icmp_ne O dX7_lucky_25 (t := 32) rfl (q := 28) rfl (fun c25 => ?_) (fun c25 => ?_)
          · exact absurd c25 (by decide)
          refine st_iconst O dX7_lucky_28 am_iconst_0 (q := 29) rfl ?_
          refine st_goto O dX7_lucky_29 (t := 37) rfl ?_
          refine sn_icmp_le O dX7_lucky_37 (t := 42) rfl (q := 40) rfl (by omega) (by omega) (fun c37 => ?_) (fun c37 => ?_)
          · omega
          refine st_iloadn O dX7_lucky_40 rfl (q := 41) rfl ?_
          refine st_istoren O dX7_lucky_41 rfl (q := 42) rfl ?_
          refine st_iinc O dX7_lucky_42 rfl (by first | exact am_ii1 _ | exact rfl) rfl (q := 45) rfl ?_
          refine st_goto O dX7_lucky_45 (t := 9) rfl ?_
          exact ih
        · simp only [if_neg hlt] at ih
          rw [hfo] at ih
          refine st_iloadn O dX7_lucky_9 rfl (q := 10) rfl ?_
          refine st_aloadn O dX7_lucky_10 rfl (q := 11) rfl ?_
          refine st_geti O dX7_lucky_11 fl_X7_59 rfl rfl rfl rfl (q := 14) rfl ?_
          refine sn_icmp_ge O dX7_lucky_14 (t := 48) rfl (q := 17) rfl (by omega) (by omega) (fun c14 => ?_) (fun c14 => ?_)
          · omega
          refine st_aloadn O dX7_lucky_17 rfl (q := 18) rfl ?_
          refine st_iloadn O dX7_lucky_18 rfl (q := 19) rfl ?_
          refine st_call O dX7_lucky_19 cs_X7_lucky_19 (q := 22) rfl (am_sipq rfl rfl rfl (Nat.le_of_ble_eq_true rfl) rfl (r := nI (ov (gL σ) m)) ⟨_, _, m, tu_ (gL σ), by omega, fun o ho => htu o (by omega), rfl, rfl, rfl⟩ ?_)
          refine st_iloadn O dX7_lucky_22 rfl (q := 23) rfl ?_
          refine st_bipush O dX7_lucky_23 am_bipush_m9 (q := 25) rfl ?_
          refine st_icmp_ne O dX7_lucky_25 (t := 32) rfl (q := 28) rfl (fun c25 => ?_) (fun c25 => ?_)
          · exact absurd c25 (by decide)
          refine st_iconst O dX7_lucky_28 am_iconst_0 (q := 29) rfl ?_
          refine st_goto O dX7_lucky_29 (t := 37) rfl ?_
          refine sn_icmp_le O dX7_lucky_37 (t := 42) rfl (q := 40) rfl (by omega) (by omega) (fun c37 => ?_) (fun c37 => ?_)
          · refine st_iinc O dX7_lucky_42 rfl (by first | exact am_ii1 _ | exact rfl) rfl (q := 45) rfl ?_
            refine st_goto O dX7_lucky_45 (t := 9) rfl ?_
            exact ih
          omega
      | some k =>
        obtain ⟨v3, v4⟩ := v2 k hfo
        have q2 := ov_le (gL σ) k
        by_cases hlt : (lkF (ov (gL σ)) m).2 < ov (gL σ) m
        · simp only [if_pos hlt] at ih
          refine st_iloadn O dX7_lucky_9 rfl (q := 10) rfl ?_
          refine st_aloadn O dX7_lucky_10 rfl (q := 11) rfl ?_
          refine st_geti O dX7_lucky_11 fl_X7_59 rfl rfl rfl rfl (q := 14) rfl ?_
          refine sn_icmp_ge O dX7_lucky_14 (t := 48) rfl (q := 17) rfl (by omega) (by omega) (fun c14 => ?_) (fun c14 => ?_)
          · omega
          refine st_aloadn O dX7_lucky_17 rfl (q := 18) rfl ?_
          refine st_iloadn O dX7_lucky_18 rfl (q := 19) rfl ?_
          refine st_call O dX7_lucky_19 cs_X7_lucky_19 (q := 22) rfl (am_sipq rfl rfl rfl (Nat.le_of_ble_eq_true rfl) rfl (r := nI (ov (gL σ) m)) ⟨_, _, m, tu_ (gL σ), by omega, fun o ho => htu o (by omega), rfl, rfl, rfl⟩ ?_)
          refine st_iloadn O dX7_lucky_22 rfl (q := 23) rfl ?_
          refine st_bipush O dX7_lucky_23 am_bipush_m9 (q := 25) rfl ?_
          refine st_icmp_ne O dX7_lucky_25 (t := 32) rfl (q := 28) rfl (fun c25 => ?_) (fun c25 => ?_)
          · refine st_aloadn O dX7_lucky_32 rfl (q := 33) rfl ?_
            refine st_iloadn O dX7_lucky_33 rfl (q := 34) rfl ?_
            refine st_call O dX7_lucky_34 cs_X7_lucky_34 (q := 37) rfl (am_sipq rfl rfl rfl (Nat.le_of_ble_eq_true rfl) rfl (r := nI (ov (gL σ) k)) ⟨_, _, k, tu_ (gL σ), by omega, fun o ho => htu o (by omega), rfl, rfl, rfl⟩ ?_)
            refine sn_icmp_le O dX7_lucky_37 (t := 42) rfl (q := 40) rfl (by omega) (by omega) (fun c37 => ?_) (fun c37 => ?_)
            · omega
            refine st_iloadn O dX7_lucky_40 rfl (q := 41) rfl ?_
            refine st_istoren O dX7_lucky_41 rfl (q := 42) rfl ?_
            refine st_iinc O dX7_lucky_42 rfl (by first | exact am_ii1 _ | exact rfl) rfl (q := 45) rfl ?_
            refine st_goto O dX7_lucky_45 (t := 9) rfl ?_
            exact ih
          exact absurd c25 (nn9 _ (by omega))
        · simp only [if_neg hlt] at ih
          rw [hfo] at ih
          refine st_iloadn O dX7_lucky_9 rfl (q := 10) rfl ?_
          refine st_aloadn O dX7_lucky_10 rfl (q := 11) rfl ?_
          refine st_geti O dX7_lucky_11 fl_X7_59 rfl rfl rfl rfl (q := 14) rfl ?_
          refine sn_icmp_ge O dX7_lucky_14 (t := 48) rfl (q := 17) rfl (by omega) (by omega) (fun c14 => ?_) (fun c14 => ?_)
          · omega
          refine st_aloadn O dX7_lucky_17 rfl (q := 18) rfl ?_
          refine st_iloadn O dX7_lucky_18 rfl (q := 19) rfl ?_
          refine st_call O dX7_lucky_19 cs_X7_lucky_19 (q := 22) rfl (am_sipq rfl rfl rfl (Nat.le_of_ble_eq_true rfl) rfl (r := nI (ov (gL σ) m)) ⟨_, _, m, tu_ (gL σ), by omega, fun o ho => htu o (by omega), rfl, rfl, rfl⟩ ?_)
          refine st_iloadn O dX7_lucky_22 rfl (q := 23) rfl ?_
          refine st_bipush O dX7_lucky_23 am_bipush_m9 (q := 25) rfl ?_
          refine st_icmp_ne O dX7_lucky_25 (t := 32) rfl (q := 28) rfl (fun c25 => ?_) (fun c25 => ?_)
          · refine st_aloadn O dX7_lucky_32 rfl (q := 33) rfl ?_
            refine st_iloadn O dX7_lucky_33 rfl (q := 34) rfl ?_
            refine st_call O dX7_lucky_34 cs_X7_lucky_34 (q := 37) rfl (am_sipq rfl rfl rfl (Nat.le_of_ble_eq_true rfl) rfl (r := nI (ov (gL σ) k)) ⟨_, _, k, tu_ (gL σ), by omega, fun o ho => htu o (by omega), rfl, rfl, rfl⟩ ?_)
            refine sn_icmp_le O dX7_lucky_37 (t := 42) rfl (q := 40) rfl (by omega) (by omega) (fun c37 => ?_) (fun c37 => ?_)
            · refine st_iinc O dX7_lucky_42 rfl (by first | exact am_ii1 _ | exact rfl) rfl (q := 45) rfl ?_
              refine st_goto O dX7_lucky_45 (t := 9) rfl ?_
              exact ih
            omega
          exact absurd c25 (nn9 _ (by omega))
  refine am_begin rfl ?_
  refine st_aloadn O dX7_lucky_0 rfl (q := 1) rfl ?_
  refine st_call O dX7_lucky_1 cs_X7_lucky_1 (q := 4) rfl (am_siq rfl rfl rfl (Nat.le_of_ble_eq_true rfl) rfl ?_)
  refine ⟨gN σ, gb σ, gw σ, _, _, _, _, _, _, _, _, false, gk σ, gf σ, (fun z => qu (gl σ) (gq σ) z 0), _, _, _, _, _, _, _, rfl, rfl, hb, hR.k2, hL, fun gA' wA' uA' hO => ?_⟩
  refine am_nrp rfl rfl rfl rfl ?_
  rw [gL_smw σ] at hO ⊢
  refine st_bipush O dX7_lucky_4 am_bipush_m9 (q := 6) rfl ?_
  refine st_istoren O dX7_lucky_6 rfl (q := 7) rfl ?_
  refine st_iconst O dX7_lucky_7 am_iconst_0 (q := 8) rfl ?_
  refine st_istoren O dX7_lucky_8 rfl (q := 9) rfl ?_
  exact loop _ _ _ _ _ _ _ hO (gN σ) 0 rfl (Nat.zero_le _)
theorem C_X7_lucky : am_ctr yX7_lucky cX7_lucky 3 (some .int) 3 75 sh_Mod [some 0] T_X7_lucky := am_mk (by decide) (Or.inr (Or.inl ⟨rfl, rfl⟩)) (by decide) (by decide) (by decide) fl_X7_ok kc_X7_ok ck_X7_lucky B_X7_lucky
def cs_X7_away : Nat → List am_V → am_D → am_K → Prop := am_cs [(10, am_site 2 [some 0, some 6] T_X7_keep_ [0, 1, 2, 3, 4, 5, 12] [0, 1, 2, 3, 4, 5, 12, 6, 7, 8, 9, 10, 11, 12, 13, 14, 15]), (25, am_site 2 [some 0, none] T_X7_leaves [0, 4, 5] [0, 4, 5, 1, 2, 3, 6, 7, 8, 9, 10, 11, 12, 13, 14, 15]), (29, am_site 1 [some 0] T_X7_cost [0, 1, 2, 3, 4, 5, 13, 14, 15] [0, 1, 2, 3, 4, 5, 13, 14, 15, 6, 7, 8, 9, 10, 11, 12]), (39, am_site 2 [some 0, some 6] T_X7_again [0, 1, 2, 3, 4, 5, 12] [0, 1, 2, 3, 4, 5, 12, 6, 7, 8, 9, 10, 11, 12, 13, 14, 15])]
theorem cs_X7_away_10 : cs_X7_away 10 = am_site 2 [some 0, some 6] T_X7_keep_ [0, 1, 2, 3, 4, 5, 12] [0, 1, 2, 3, 4, 5, 12, 6, 7, 8, 9, 10, 11, 12, 13, 14, 15] := rfl
theorem cs_X7_away_25 : cs_X7_away 25 = am_site 2 [some 0, none] T_X7_leaves [0, 4, 5] [0, 4, 5, 1, 2, 3, 6, 7, 8, 9, 10, 11, 12, 13, 14, 15] := rfl
theorem cs_X7_away_29 : cs_X7_away 29 = am_site 1 [some 0] T_X7_cost [0, 1, 2, 3, 4, 5, 13, 14, 15] [0, 1, 2, 3, 4, 5, 13, 14, 15, 6, 7, 8, 9, 10, 11, 12] := rfl
theorem cs_X7_away_39 : cs_X7_away 39 = am_site 2 [some 0, some 6] T_X7_again [0, 1, 2, 3, 4, 5, 12] [0, 1, 2, 3, 4, 5, 12, 6, 7, 8, 9, 10, 11, 12, 13, 14, 15] := rfl
theorem ck_X7_away : ∀ X : am_X, am_cx X RX7 cX7_away 5 4 97 → ∀ pc, am_csok X 5 sh_Mod pc (cs_X7_away pc) := fun X hX => am_cs_ok (List.forall_mem_cons.mpr ⟨am_callV hX C_X7_keep_ mo_X7_keep_ rfl lk_X7_116 dX7_away_10 rfl rfl rfl (by decide), List.forall_mem_cons.mpr ⟨am_callV hX C_X7_leaves mo_X7_leaves rfl lk_X7_183 dX7_away_25 rfl rfl rfl (by decide), List.forall_mem_cons.mpr ⟨am_callV hX C_X7_cost mo_X7_cost rfl lk_X7_168 dX7_away_29 rfl rfl rfl (by decide), List.forall_mem_cons.mpr ⟨am_callV hX C_X7_again mo_X7_again rfl lk_X7_120 dX7_away_39 rfl rfl rfl (by decide), fun _ h => absurd h List.not_mem_nil⟩⟩⟩⟩)
abbrev ok_X7_away (X : am_X) (K : List Int32 → am_D → Prop) : Prop := am_ok X RX7 cX7_away 5 sh_Mod fl_X7 kc_X7 none 1 cs_X7_away K
abbrev aw_X7_away (X : am_X) (pc : Nat) (ls : am_L) (st : List am_V) (D : am_D) : Prop := am_aw X 5 sh_Mod pc ls st D
abbrev T_X7_away : am_TT := am_s0 IM f_away
set_option maxHeartbeats 200000 in
theorem B_X7_away : ∀ (X : am_X) (is : List Int32) (D : am_D) (K : List Int32 → am_D → Prop), ok_X7_away X K → T_X7_away is D K → is.length = (List.filter Option.isNone ([some 0] : List (Option Nat))).length → D.length = sh_Mod.length → am_aw X 5 sh_Mod 0 (am_l0 5 [some 0] is) [] D := by
  intro X is D K O hT _ _
  obtain ⟨σ, ⟨aT, iM, tU, aS, cH, lO, kA, fA, hA, lA, pA, tA, vA, oA, eA, xA, nA, gA, wA, uA, rfl, hR, ht, ho, hk⟩, rfl, hK⟩ := hT
  obtain ⟨hb, hw, hp, hj, hL⟩ := id hR
  have hn : gN σ ≤ 9 := hL.1
  have eN : gN σ = σ.1.1 := rfl
  have hf : ∀ j, cst (gh σ) (simA (gb σ) (gw σ) (gk σ) (gf σ) (gl σ) (gq σ) (2 ^ j)) ≤ 30000 := fun j => c_bd hR _ _ _ _ _ hp _
  have hK : ∀ D', IM σ D' → K [oI (lsN (fun c => cst (gh σ) (simA (gb σ) (gw σ) (gk σ) (gf σ) (gl σ) (gq σ) (2 ^ c))) (gN σ)).1] D' := hK
  have hG : ∀ m, cst (gh σ) (simA (gb σ) (gw σ) (gk σ) (gf σ) (gl σ) (gq σ) (2 ^ m)) = (fun c => cst (gh σ) (simA (gb σ) (gw σ) (gk σ) (gf σ) (gl σ) (gq σ) (2 ^ c))) m := fun _ => rfl
  generalize (fun c => cst (gh σ) (simA (gb σ) (gw σ) (gk σ) (gf σ) (gl σ) (gq σ) (2 ^ c))) = F at hK hG
  have hf : ∀ j, F j ≤ 30000 := fun j => by rw [← hG]; exact hf j
  have loop : ∀ d m tU aS cH lO kA fA hA lA pA nA gA wA uA y4 k0 f0 h0 l0 p0, mR σ.1 kA fA hA lA pA → mR σ.1 k0 f0 h0 l0 p0 → kpy (gN σ) (gb σ) (gw σ) k0 f0 h0 l0 p0 nA → gN σ - m = d → m ≤ gN σ → am_aw X 5 sh_Mod 15 [some (.inr 0), some (.inl (oI (lsN F m).1)), some (.inl (nI (lsN F m).2)), some (.inl (nI m)), y4] [] [.inl [nI (gN σ), nI (gb σ), nI (gw σ), nI σ.2.2.1.length, aT, nI σ.2.2.2.1.length, iM, tU, aS, cH, lO, bI false], .inr kA, .inr fA, .inr hA, .inr lA, .inr pA, .inr tA, .inr vA, .inr oA, .inr σ.2.2.2.2, .inr eA, .inr xA, .inr nA, .inr gA, .inr wA, .inr uA] := by
    intro d
    induction d with
    | zero =>
      intro m tU aS cH lO kA fA hA lA pA nA gA wA uA y4 k0 f0 h0 l0 p0 hR h00 hc0 hd hm
      have e : m = gN σ := by omega
      subst e
      refine st_iloadn O dX7_away_15 rfl (q := 16) rfl ?_
      refine st_aloadn O dX7_away_16 rfl (q := 17) rfl ?_
      refine st_geti O dX7_away_17 fl_X7_59 rfl rfl rfl rfl (q := 20) rfl ?_
      refine sn_icmp_ge O dX7_away_20 (t := 68) rfl (q := 23) rfl (by omega) (by omega) (fun c20 => ?_) (fun c20 => ?_)
      · refine st_iloadn O dX7_away_68 rfl (q := 69) rfl ?_
        refine st_ireturn O dX7_away_69 ?_
        exact hK _ ⟨_, _, _, _, _, _, _, _, _, _, _, _, _, _, _, _, _, _, _, _, rfl, hR, ht, ho, hk⟩
      omega
    | succ d ih =>
      intro m tU aS cH lO kA fA hA lA pA nA gA wA uA y4 k0 f0 h0 l0 p0 hR h00 hc0 hd hm
      obtain ⟨-, -, -, hj, hL⟩ := id hR
      have hm9 : m < gN σ := by omega
      have h1 := hf m
      have h2 := lsN_le (f := F) (B := 30000) m (fun j _ => hf j)
      have hno := oI_none (o := (lsN F m).1) (fun c hc => by have := lsN_lt _ _ hc; omega)
      have ih := fun tU aS cH lO kA fA hA lA pA nA gA wA uA y4 h => ih (m + 1) tU aS cH lO kA fA hA lA pA nA gA wA uA y4 k0 f0 h0 l0 p0 h h00
      have h3 : cst (gh σ) (smw false (gb σ) (gw σ) (gk σ) (gf σ) (fun y => (qu (gl σ) (gq σ) y 0).erase m)) = F m := by
        rw [smw_A (a := 2 ^ m) (fun y _ => qu_ab hp (fun j _ => tb_two) y), hG]
      unfold lsN at ih
      by_cases hc : (lsN F m).1 = none ∨ F m < (lsN F m).2
      · simp only [if_pos hc] at ih
        refine st_iloadn O dX7_away_15 rfl (q := 16) rfl ?_
        refine st_aloadn O dX7_away_16 rfl (q := 17) rfl ?_
        refine st_geti O dX7_away_17 fl_X7_59 rfl rfl rfl rfl (q := 20) rfl ?_
        refine sn_icmp_ge O dX7_away_20 (t := 68) rfl (q := 23) rfl (by omega) (by omega) (fun c20 => ?_) (fun c20 => ?_)
        · omega
        refine st_aloadn O dX7_away_23 rfl (q := 24) rfl ?_
        refine st_iloadn O dX7_away_24 rfl (q := 25) rfl ?_
        refine st_call O dX7_away_25 cs_X7_away_25 (q := 28) rfl (am_siq rfl rfl rfl (Nat.le_of_ble_eq_true rfl) rfl ?_)
        refine ⟨gN σ, _, _, lA, pA, m, gl σ m, rfl, hL, (hj m hm9).2.2.2, qu_mem hp hm9, rfl, fun lA' pA' hL' => ?_⟩
        refine am_nrp rfl rfl rfl rfl ?_
        refine st_aloadn O dX7_away_28 rfl (q := 29) rfl ?_
        refine st_call O dX7_away_29 cs_X7_away_29 (q := 32) rfl (am_siq rfl rfl rfl (Nat.le_of_ble_eq_true rfl) rfl ?_)
        refine ⟨gN σ, gb σ, gw σ, _, _, _, _, _, _, _, _, false, gk σ, gf σ, gh σ, _, _, _, _, _, _, _, _, _, rfl, rfl, hb, hR.k2, hR.h2, hL', fun t1 t2 t3 t4 g1 g2 g3 => ?_⟩
        refine am_nrp rfl rfl rfl rfl ?_
        rw [h3]
        refine st_istore O dX7_away_32 rfl (q := 34) rfl ?_
        refine st_aloadn O dX7_away_34 rfl (q := 35) rfl ?_
        refine st_aloadn O dX7_away_35 rfl (q := 36) rfl ?_
        refine st_getr O dX7_away_36 fl_X7_43 rfl rfl rfl (q := 39) rfl ?_
        refine st_call O dX7_away_39 cs_X7_away_39 (q := 42) rfl (am_siq rfl rfl rfl (Nat.le_of_ble_eq_true rfl) rfl ?_)
        refine ⟨gN σ, gb σ, gw σ, _, _, _, _, k0, f0, h0, l0, p0, _, _, _, _, _, _, rfl, rfl, hc0, fun kC fC hC lC pC hcc => ?_⟩
        refine am_nrp rfl rfl rfl rfl ?_
        refine st_iloadn O dX7_away_42 rfl (q := 43) rfl ?_
        refine st_bipush O dX7_away_43 am_bipush_m9 (q := 45) rfl ?_
        refine st_icmp_eq O dX7_away_45 (t := 57) rfl (q := 48) rfl (fun c45 => ?_) (fun c45 => ?_)
        · refine st_iload O dX7_away_57 rfl (q := 59) rfl ?_
          refine st_istoren O dX7_away_59 rfl (q := 60) rfl ?_
          refine st_iloadn O dX7_away_60 rfl (q := 61) rfl ?_
          refine st_istoren O dX7_away_61 rfl (q := 62) rfl ?_
          refine st_iinc O dX7_away_62 rfl (by first | exact am_ii1 _ | exact rfl) rfl (q := 65) rfl ?_
          refine st_goto O dX7_away_65 (t := 15) rfl ?_
          exact ih _ _ _ _ _ _ _ _ _ _ _ _ _ _ (mR_congr h00 hcc) hc0 (by omega) (by omega)
        refine st_iload O dX7_away_48 rfl (q := 50) rfl ?_
        refine st_iloadn O dX7_away_50 rfl (q := 51) rfl ?_
        refine sn_icmp_lt O dX7_away_51 (t := 57) rfl (q := 54) rfl (by omega) (by omega) (fun c51 => ?_) (fun c51 => ?_)
        · refine st_iload O dX7_away_57 rfl (q := 59) rfl ?_
          refine st_istoren O dX7_away_59 rfl (q := 60) rfl ?_
          refine st_iloadn O dX7_away_60 rfl (q := 61) rfl ?_
          refine st_istoren O dX7_away_61 rfl (q := 62) rfl ?_
          refine st_iinc O dX7_away_62 rfl (by first | exact am_ii1 _ | exact rfl) rfl (q := 65) rfl ?_
          refine st_goto O dX7_away_65 (t := 15) rfl ?_
          exact ih _ _ _ _ _ _ _ _ _ _ _ _ _ _ (mR_congr h00 hcc) hc0 (by omega) (by omega)
        exact absurd (hc.resolve_left (fun z => c45 (hno.mpr z))) (Nat.not_lt.mpr c51)
      · simp only [if_neg hc] at ih
        refine st_iloadn O dX7_away_15 rfl (q := 16) rfl ?_
        refine st_aloadn O dX7_away_16 rfl (q := 17) rfl ?_
        refine st_geti O dX7_away_17 fl_X7_59 rfl rfl rfl rfl (q := 20) rfl ?_
        refine sn_icmp_ge O dX7_away_20 (t := 68) rfl (q := 23) rfl (by omega) (by omega) (fun c20 => ?_) (fun c20 => ?_)
        · omega
        refine st_aloadn O dX7_away_23 rfl (q := 24) rfl ?_
        refine st_iloadn O dX7_away_24 rfl (q := 25) rfl ?_
        refine st_call O dX7_away_25 cs_X7_away_25 (q := 28) rfl (am_siq rfl rfl rfl (Nat.le_of_ble_eq_true rfl) rfl ?_)
        refine ⟨gN σ, _, _, lA, pA, m, gl σ m, rfl, hL, (hj m hm9).2.2.2, qu_mem hp hm9, rfl, fun lA' pA' hL' => ?_⟩
        refine am_nrp rfl rfl rfl rfl ?_
        refine st_aloadn O dX7_away_28 rfl (q := 29) rfl ?_
        refine st_call O dX7_away_29 cs_X7_away_29 (q := 32) rfl (am_siq rfl rfl rfl (Nat.le_of_ble_eq_true rfl) rfl ?_)
        refine ⟨gN σ, gb σ, gw σ, _, _, _, _, _, _, _, _, false, gk σ, gf σ, gh σ, _, _, _, _, _, _, _, _, _, rfl, rfl, hb, hR.k2, hR.h2, hL', fun t1 t2 t3 t4 g1 g2 g3 => ?_⟩
        refine am_nrp rfl rfl rfl rfl ?_
        rw [h3]
        refine st_istore O dX7_away_32 rfl (q := 34) rfl ?_
        refine st_aloadn O dX7_away_34 rfl (q := 35) rfl ?_
        refine st_aloadn O dX7_away_35 rfl (q := 36) rfl ?_
        refine st_getr O dX7_away_36 fl_X7_43 rfl rfl rfl (q := 39) rfl ?_
        refine st_call O dX7_away_39 cs_X7_away_39 (q := 42) rfl (am_siq rfl rfl rfl (Nat.le_of_ble_eq_true rfl) rfl ?_)
        refine ⟨gN σ, gb σ, gw σ, _, _, _, _, k0, f0, h0, l0, p0, _, _, _, _, _, _, rfl, rfl, hc0, fun kC fC hC lC pC hcc => ?_⟩
        refine am_nrp rfl rfl rfl rfl ?_
        refine st_iloadn O dX7_away_42 rfl (q := 43) rfl ?_
        refine st_bipush O dX7_away_43 am_bipush_m9 (q := 45) rfl ?_
        refine st_icmp_eq O dX7_away_45 (t := 57) rfl (q := 48) rfl (fun c45 => ?_) (fun c45 => ?_)
        · exact absurd (Or.inl (hno.mp c45)) hc
        refine st_iload O dX7_away_48 rfl (q := 50) rfl ?_
        refine st_iloadn O dX7_away_50 rfl (q := 51) rfl ?_
        refine sn_icmp_lt O dX7_away_51 (t := 57) rfl (q := 54) rfl (by omega) (by omega) (fun c51 => ?_) (fun c51 => ?_)
        · exact absurd (Or.inr c51) hc
        refine st_goto O dX7_away_54 (t := 62) rfl ?_
        refine st_iinc O dX7_away_62 rfl (by first | exact am_ii1 _ | exact rfl) rfl (q := 65) rfl ?_
        refine st_goto O dX7_away_65 (t := 15) rfl ?_
        exact ih _ _ _ _ _ _ _ _ _ _ _ _ _ _ (mR_congr h00 hcc) hc0 (by omega) (by omega)
  refine am_begin rfl ?_
  refine st_bipush O dX7_away_0 am_bipush_m9 (q := 2) rfl ?_
  refine st_istoren O dX7_away_2 rfl (q := 3) rfl ?_
  refine st_iconst O dX7_away_3 am_iconst_0 (q := 4) rfl ?_
  refine st_istoren O dX7_away_4 rfl (q := 5) rfl ?_
  refine st_aloadn O dX7_away_5 rfl (q := 6) rfl ?_
  refine st_aloadn O dX7_away_6 rfl (q := 7) rfl ?_
  refine st_getr O dX7_away_7 fl_X7_43 rfl rfl rfl (q := 10) rfl ?_
  refine st_call O dX7_away_10 cs_X7_away_10 (q := 13) rfl (am_siq rfl rfl rfl (Nat.le_of_ble_eq_true rfl) rfl ?_)
  refine ⟨gN σ, gb σ, gw σ, _, kA, fA, hA, lA, pA, _, rfl, rfl, fun e he => ?_⟩
  refine am_nrp rfl rfl rfl rfl ?_
  refine st_iconst O dX7_away_13 am_iconst_0 (q := 14) rfl ?_
  refine st_istoren O dX7_away_14 rfl (q := 15) rfl ?_
  exact loop (gN σ) 0 _ _ _ _ _ _ _ _ _ _ _ _ _ _ kA fA hA lA pA hR hR he rfl (Nat.zero_le _)
theorem C_X7_away : am_ctr yX7_away cX7_away 5 (some .int) 4 97 sh_Mod [some 0] T_X7_away := am_mk (by decide) (Or.inr (Or.inl ⟨rfl, rfl⟩)) (by decide) (by decide) (by decide) fl_X7_ok kc_X7_ok ck_X7_away B_X7_away
theorem er_app {l : List Nat} {a c : Nat} (h : ¬ c = a) : (l ++ [a]).erase c = l.erase c ++ [a] := by
  rw [List.erase_append]
  by_cases hc : c ∈ l
  · rw [if_pos hc]
  · rw [if_neg hc, List.erase_of_not_mem hc, List.erase_of_not_mem (by simpa using h)]
def cs_X7_waits : Nat → List am_V → am_D → am_K → Prop := am_cs [(5, am_site 2 [some 0, some 6] T_X7_keep_ [0, 1, 2, 3, 4, 5, 12] [0, 1, 2, 3, 4, 5, 12, 6, 7, 8, 9, 10, 11, 12, 13, 14, 15]), (10, am_site 2 [some 0, none] T_X7_leaves [0, 4, 5] [0, 4, 5, 1, 2, 3, 6, 7, 8, 9, 10, 11, 12, 13, 14, 15]), (15, am_site 2 [some 0, none] T_X7_leaves [0, 4, 5] [0, 4, 5, 1, 2, 3, 6, 7, 8, 9, 10, 11, 12, 13, 14, 15]), (25, am_site 2 [some 0, none] T_X7_inLane [0, 4, 5] [0, 4, 5, 1, 2, 3, 6, 7, 8, 9, 10, 11, 12, 13, 14, 15]), (44, am_site 2 [some 0, none] T_X7_inLane [0, 4, 5] [0, 4, 5, 1, 2, 3, 6, 7, 8, 9, 10, 11, 12, 13, 14, 15]), (57, am_site 1 [some 0] T_X7_run [0, 1, 2, 4, 5, 13, 14, 15] [0, 1, 2, 4, 5, 13, 14, 15, 3, 6, 7, 8, 9, 10, 11, 12]), (65, am_site 2 [some 0, some 6] T_X7_again [0, 1, 2, 3, 4, 5, 12] [0, 1, 2, 3, 4, 5, 12, 6, 7, 8, 9, 10, 11, 12, 13, 14, 15])]
theorem cs_X7_waits_5 : cs_X7_waits 5 = am_site 2 [some 0, some 6] T_X7_keep_ [0, 1, 2, 3, 4, 5, 12] [0, 1, 2, 3, 4, 5, 12, 6, 7, 8, 9, 10, 11, 12, 13, 14, 15] := rfl
theorem cs_X7_waits_10 : cs_X7_waits 10 = am_site 2 [some 0, none] T_X7_leaves [0, 4, 5] [0, 4, 5, 1, 2, 3, 6, 7, 8, 9, 10, 11, 12, 13, 14, 15] := rfl
theorem cs_X7_waits_15 : cs_X7_waits 15 = am_site 2 [some 0, none] T_X7_leaves [0, 4, 5] [0, 4, 5, 1, 2, 3, 6, 7, 8, 9, 10, 11, 12, 13, 14, 15] := rfl
theorem cs_X7_waits_25 : cs_X7_waits 25 = am_site 2 [some 0, none] T_X7_inLane [0, 4, 5] [0, 4, 5, 1, 2, 3, 6, 7, 8, 9, 10, 11, 12, 13, 14, 15] := rfl
theorem cs_X7_waits_44 : cs_X7_waits 44 = am_site 2 [some 0, none] T_X7_inLane [0, 4, 5] [0, 4, 5, 1, 2, 3, 6, 7, 8, 9, 10, 11, 12, 13, 14, 15] := rfl
theorem cs_X7_waits_57 : cs_X7_waits 57 = am_site 1 [some 0] T_X7_run [0, 1, 2, 4, 5, 13, 14, 15] [0, 1, 2, 4, 5, 13, 14, 15, 3, 6, 7, 8, 9, 10, 11, 12] := rfl
theorem cs_X7_waits_65 : cs_X7_waits 65 = am_site 2 [some 0, some 6] T_X7_again [0, 1, 2, 3, 4, 5, 12] [0, 1, 2, 3, 4, 5, 12, 6, 7, 8, 9, 10, 11, 12, 13, 14, 15] := rfl
theorem ck_X7_waits : ∀ X : am_X, am_cx X RX7 cX7_waits 6 3 75 → ∀ pc, am_csok X 6 sh_Mod pc (cs_X7_waits pc) := fun X hX => am_cs_ok (List.forall_mem_cons.mpr ⟨am_callV hX C_X7_keep_ mo_X7_keep_ rfl lk_X7_116 dX7_waits_5 rfl rfl rfl (by decide), List.forall_mem_cons.mpr ⟨am_callV hX C_X7_leaves mo_X7_leaves rfl lk_X7_183 dX7_waits_10 rfl rfl rfl (by decide), List.forall_mem_cons.mpr ⟨am_callV hX C_X7_leaves mo_X7_leaves rfl lk_X7_183 dX7_waits_15 rfl rfl rfl (by decide), List.forall_mem_cons.mpr ⟨am_callV hX C_X7_inLane mo_X7_inLane rfl lk_X7_93 dX7_waits_25 rfl rfl rfl (by decide), List.forall_mem_cons.mpr ⟨am_callV hX C_X7_inLane mo_X7_inLane rfl lk_X7_93 dX7_waits_44 rfl rfl rfl (by decide), List.forall_mem_cons.mpr ⟨am_callV hX C_X7_run mo_X7_run rfl lk_X7_161 dX7_waits_57 rfl rfl rfl (by decide), List.forall_mem_cons.mpr ⟨am_callV hX C_X7_again mo_X7_again rfl lk_X7_120 dX7_waits_65 rfl rfl rfl (by decide), fun _ h => absurd h List.not_mem_nil⟩⟩⟩⟩⟩⟩⟩)
abbrev ok_X7_waits (X : am_X) (K : List Int32 → am_D → Prop) : Prop := am_ok X RX7 cX7_waits 6 sh_Mod fl_X7 kc_X7 none 1 cs_X7_waits K
abbrev aw_X7_waits (X : am_X) (pc : Nat) (ls : am_L) (st : List am_V) (D : am_D) : Prop := am_aw X 6 sh_Mod pc ls st D
abbrev T_X7_waits : am_TT := fun is D K => ∃ σ a c x y fi, IM σ D ∧ a < gN σ ∧ c < gN σ ∧ ¬ c = a ∧ x < 2 ∧ y < 2 ∧ is = [nI a, nI c, nI x, nI y, bI fi] ∧ ∀ D', IM σ D' → K [nI (wtc (sim2 (gb σ) (gw σ) (gk σ) (gf σ) (gl σ) (gq σ) a c (2 * x + y)) (if fi = true then a else c))] D'
set_option maxHeartbeats 200000 in
theorem B_X7_waits : ∀ (X : am_X) (is : List Int32) (D : am_D) (K : List Int32 → am_D → Prop), ok_X7_waits X K → T_X7_waits is D K → is.length = (List.filter Option.isNone ([some 0, none, none, none, none, none] : List (Option Nat))).length → D.length = sh_Mod.length → am_aw X 6 sh_Mod 0 (am_l0 6 [some 0, none, none, none, none, none] is) [] D := by
  intro X is D K O hT _ _
  obtain ⟨σ, a, c, x, y, fi, ⟨aT, iM, tU, aS, cH, lO, kA, fA, hA, lA, pA, tA, vA, oA, eA, xA, nA, gA, wA, uA, rfl, hR, ht, ho, hk⟩, ha, hc, hne, hx, hy, rfl, hK⟩ := hT
  obtain ⟨hb, hw, hp, hj, hL⟩ := id hR
  have hn : gN σ ≤ 9 := hL.1
  have eN : gN σ = σ.1.1 := rfl
  have hl2 : ∀ j, j < gN σ → gl σ j < 2 := fun j h => (hj j h).2.2.2
  have hp1 := er_perm hp ha
  have hp2 := er_perm hp1 hc
  have hQ : ∀ z, z < 2 → (fun z => if z = y then (fun z => if z = x then (fun z => ((qu (gl σ) (gq σ) z 0).erase a).erase c) z ++ [a] else (fun z => ((qu (gl σ) (gq σ) z 0).erase a).erase c) z) z ++ [c] else (fun z => if z = x then (fun z => ((qu (gl σ) (gq σ) z 0).erase a).erase c) z ++ [a] else (fun z => ((qu (gl σ) (gq σ) z 0).erase a).erase c) z) z) z = qu (va_up (va_up (gl σ) a ((2 * x + y) / 2)) c ((2 * x + y) % 2)) (((gq σ).erase a ++ [a]).erase c ++ [c]) z 0 := by
    intro z _
    rw [show (2 * x + y) / 2 = x by omega, show (2 * x + y) % 2 = y by omega, qu_end hp1, qu_end hp]
    dsimp only
    by_cases h1 : z = x
    · simp only [if_pos h1, er_app hne]
    · simp only [if_neg h1]
  have h3 : smw false (gb σ) (gw σ) (gk σ) (gf σ) (fun z => if z = y then (fun z => if z = x then (fun z => ((qu (gl σ) (gq σ) z 0).erase a).erase c) z ++ [a] else (fun z => ((qu (gl σ) (gq σ) z 0).erase a).erase c) z) z ++ [c] else (fun z => if z = x then (fun z => ((qu (gl σ) (gq σ) z 0).erase a).erase c) z ++ [a] else (fun z => ((qu (gl σ) (gq σ) z 0).erase a).erase c) z) z) = sim2 (gb σ) (gw σ) (gk σ) (gf σ) (gl σ) (gq σ) a c (2 * x + y) := smw_A hQ
  have hl3 : ∀ j, j < gN σ → va_up (va_up (gl σ) a ((2 * x + y) / 2)) c ((2 * x + y) % 2) j < 2 := by
    intro j hjn
    unfold va_up
    split
    · omega
    · split
      · omega
      · exact hl2 j hjn
  have hmem : ∀ j, j < gN σ → j ∈ (sim2 (gb σ) (gw σ) (gk σ) (gf σ) (gl σ) (gq σ) a c (2 * x + y)).map (fun q => q.1) := fun j hjn => sim_all hp2 hl3 hjn (Nat.zero_testBit j)
  have nda : ∀ z, z < 2 → a ∉ ((qu (gl σ) (gq σ) z 0).erase a).erase c := fun z _ h => (qu_ndz hp z 0).not_mem_erase (List.mem_of_mem_erase h)
  have ndc : ∀ z, z < 2 → c ∉ ((qu (gl σ) (gq σ) z 0).erase a).erase c := fun z _ h => ((qu_ndz hp z 0).erase a).not_mem_erase h
  have q1 := qu_mem (la := gl σ) hp ha
  have q2 : c ∈ (qu (gl σ) (gq σ) (gl σ c) 0).erase a := (List.mem_erase_of_ne hne).mpr (qu_mem hp hc)
  refine am_begin rfl ?_
  refine st_aloadn O dX7_waits_0 rfl (q := 1) rfl ?_
  refine st_aloadn O dX7_waits_1 rfl (q := 2) rfl ?_
  refine st_getr O dX7_waits_2 fl_X7_43 rfl rfl rfl (q := 5) rfl ?_
  refine st_call O dX7_waits_5 cs_X7_waits_5 (q := 8) rfl (am_siq rfl rfl rfl (Nat.le_of_ble_eq_true rfl) rfl ?_)
  refine ⟨gN σ, gb σ, gw σ, _, kA, fA, hA, lA, pA, _, rfl, rfl, fun e he => ?_⟩
  refine am_nrp rfl rfl rfl rfl ?_
  refine st_aloadn O dX7_waits_8 rfl (q := 9) rfl ?_
  refine st_iloadn O dX7_waits_9 rfl (q := 10) rfl ?_
  refine st_call O dX7_waits_10 cs_X7_waits_10 (q := 13) rfl (am_siq rfl rfl rfl (Nat.le_of_ble_eq_true rfl) rfl ?_)
  refine ⟨gN σ, _, _, lA, pA, a, gl σ a, rfl, hL, hl2 a ha, q1, rfl, fun lB pB hL1 => ?_⟩
  refine am_nrp rfl rfl rfl rfl ?_
  refine st_aloadn O dX7_waits_13 rfl (q := 14) rfl ?_
  refine st_iloadn O dX7_waits_14 rfl (q := 15) rfl ?_
  refine st_call O dX7_waits_15 cs_X7_waits_15 (q := 18) rfl (am_siq rfl rfl rfl (Nat.le_of_ble_eq_true rfl) rfl ?_)
  refine ⟨gN σ, _, _, _, _, c, gl σ c, rfl, hL1, hl2 c hc, q2, rfl, fun lC pC hL2 => ?_⟩
  refine am_nrp rfl rfl rfl rfl ?_
  refine st_aloadn O dX7_waits_18 rfl (q := 19) rfl ?_
  refine st_getr O dX7_waits_19 fl_X7_22 rfl rfl rfl (q := 22) rfl ?_
  refine st_iloadn O dX7_waits_22 rfl (q := 23) rfl ?_
  refine st_aloadn O dX7_waits_23 rfl (q := 24) rfl ?_
  refine st_iloadn O dX7_waits_24 rfl (q := 25) rfl ?_
  refine st_call O dX7_waits_25 cs_X7_waits_25 (q := 28) rfl (am_sipq rfl rfl rfl (Nat.le_of_ble_eq_true rfl) rfl (r := nI ((fun z => ((qu (gl σ) (gq σ) z 0).erase a).erase c) x).length) ⟨x, gN σ, _, _, _, _, rfl, hL2, hx, rfl, rfl⟩ ?_)
  refine sn_ast O dX7_waits_28 rfl rfl rfl ⟨by omega, by decide⟩ rfl rfl (q := 29) rfl ?_
  refine st_aloadn O dX7_waits_29 rfl (q := 30) rfl ?_
  refine st_getr O dX7_waits_30 fl_X7_19 rfl rfl rfl (q := 33) rfl ?_
  refine st_iloadn O dX7_waits_33 rfl (q := 34) rfl ?_
  refine st_iloadn O dX7_waits_34 rfl (q := 35) rfl ?_
  refine sn_ast O dX7_waits_35 rfl rfl rfl ⟨by omega, by decide⟩ rfl rfl (q := 36) rfl ?_
  refine st_aloadn O dX7_waits_36 rfl (q := 37) rfl ?_
  refine st_getr O dX7_waits_37 fl_X7_22 rfl rfl rfl (q := 40) rfl ?_
  refine st_iloadn O dX7_waits_40 rfl (q := 41) rfl ?_
  refine st_aloadn O dX7_waits_41 rfl (q := 42) rfl ?_
  refine st_iload O dX7_waits_42 rfl (q := 44) rfl ?_
  refine st_call O dX7_waits_44 cs_X7_waits_44 (q := 47) rfl (am_siq rfl rfl rfl (Nat.le_of_ble_eq_true rfl) rfl ?_)
  have hL3 := mL_come hL2 ha hx nda
  refine ⟨_, ⟨y, gN σ, _, _, _, _, rfl, hL3, hy, rfl, rfl⟩, ?_⟩
  refine am_nrp rfl rfl rfl rfl ?_
  refine sn_ast O dX7_waits_47 rfl rfl rfl ⟨by omega, by decide⟩ rfl rfl (q := 48) rfl ?_
  refine st_aloadn O dX7_waits_48 rfl (q := 49) rfl ?_
  refine st_getr O dX7_waits_49 fl_X7_19 rfl rfl rfl (q := 52) rfl ?_
  refine st_iloadn O dX7_waits_52 rfl (q := 53) rfl ?_
  refine st_iload O dX7_waits_53 rfl (q := 55) rfl ?_
  refine sn_ast O dX7_waits_55 rfl rfl rfl ⟨by omega, by decide⟩ rfl rfl (q := 56) rfl ?_
  refine st_aloadn O dX7_waits_56 rfl (q := 57) rfl ?_
  refine st_call O dX7_waits_57 cs_X7_waits_57 (q := 60) rfl (am_siq rfl rfl rfl (Nat.le_of_ble_eq_true rfl) rfl ?_)
  have hL4 := mL_come hL3 hc hy (fun z hz h => by
      by_cases e : z = x
      · rw [if_pos e] at h
        rcases List.mem_append.mp h with h | h
        · exact ndc z hz h
        · exact hne (List.mem_singleton.mp h)
      · rw [if_neg e] at h
        exact ndc z hz h)
  refine ⟨gN σ, gb σ, gw σ, _, _, _, _, _, _, _, _, false, gk σ, gf σ, _, _, _, _, _, _, _, _, rfl, rfl, hb, hR.k2, hL4, fun gB wB uB hO => ?_⟩
  refine am_nrp rfl rfl rfl rfl ?_
  rw [h3] at hO
  refine st_aloadn O dX7_waits_60 rfl (q := 61) rfl ?_
  refine st_aloadn O dX7_waits_61 rfl (q := 62) rfl ?_
  refine st_getr O dX7_waits_62 fl_X7_43 rfl rfl rfl (q := 65) rfl ?_
  refine st_call O dX7_waits_65 cs_X7_waits_65 (q := 68) rfl (am_siq rfl rfl rfl (Nat.le_of_ble_eq_true rfl) rfl ?_)
  refine ⟨gN σ, gb σ, gw σ, _, _, _, _, kA, fA, hA, lA, pA, _, _, _, _, _, _, rfl, rfl, he, fun kC fC hC lC pC hcc => ?_⟩
  refine am_nrp rfl rfl rfl rfl ?_
  cases fi with
  | true =>
    refine st_iload O dX7_waits_68 rfl (q := 70) rfl ?_
    refine st_if_eq O dX7_waits_70 (t := 82) rfl (q := 73) rfl (fun c70 => ?_) (fun c70 => ?_)
    · exact absurd c70 (by decide)
    refine st_aloadn O dX7_waits_73 rfl (q := 74) rfl ?_
    refine st_getr O dX7_waits_74 fl_X7_49 rfl rfl rfl (q := 77) rfl ?_
    refine st_iloadn O dX7_waits_77 rfl (q := 78) rfl ?_
    refine sn_ald O dX7_waits_78 rfl rfl rfl ⟨by omega, by decide⟩ (tu_wt hO (hmem a ha)) (q := 79) rfl ?_
    refine st_goto O dX7_waits_79 (t := 88) rfl ?_
    refine st_ireturn O dX7_waits_88 ?_
    exact hK _ ⟨_, _, _, _, _, _, _, _, _, _, _, _, _, _, _, _, _, _, _, _, rfl, mR_congr hR hcc, ht, ho, hk⟩
  | false =>
    refine st_iload O dX7_waits_68 rfl (q := 70) rfl ?_
    refine st_if_eq O dX7_waits_70 (t := 82) rfl (q := 73) rfl (fun c70 => ?_) (fun c70 => ?_)
    · refine st_aloadn O dX7_waits_82 rfl (q := 83) rfl ?_
      refine st_getr O dX7_waits_83 fl_X7_49 rfl rfl rfl (q := 86) rfl ?_
      refine st_iloadn O dX7_waits_86 rfl (q := 87) rfl ?_
      refine sn_ald O dX7_waits_87 rfl rfl rfl ⟨by omega, by decide⟩ (tu_wt hO (hmem c hc)) (q := 88) rfl ?_
      refine st_ireturn O dX7_waits_88 ?_
      exact hK _ ⟨_, _, _, _, _, _, _, _, _, _, _, _, _, _, _, _, _, _, _, _, rfl, mR_congr hR hcc, ht, ho, hk⟩
    exact absurd c70 (by decide)
theorem C_X7_waits : am_ctr yX7_waits cX7_waits 6 (some .int) 3 75 sh_Mod [some 0, none, none, none, none, none] T_X7_waits := am_mk (by decide) (Or.inr (Or.inl ⟨rfl, rfl⟩)) (by decide) (by decide) (by decide) fl_X7_ok kc_X7_ok ck_X7_waits B_X7_waits
