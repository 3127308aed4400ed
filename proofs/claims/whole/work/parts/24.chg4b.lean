theorem sh_tab2 : ∀ c, c < 10 → nI 1 <<< (nI c &&& 31) = nI (2 ^ c) := by decide +kernel
theorem p2_le : ∀ c, c < 10 → 1 ≤ 2 ^ c ∧ 2 ^ c ≤ 512 := by decide +kernel
theorem pc_le (a : Nat) : pc a ≤ 9 := by
  have := List.length_filter_le a.testBit (List.range 9)
  rwa [List.length_range] at this
def cs_X0_fewestGone : Nat → List am_V → am_D → am_K → Prop := am_cs [(30, am_site 1 [none] T_J6_bitCount_0f7a4 [] []), (43, am_site 4 [some 0, some 7, none, none] T_X0_isWithin [0, 1, 2, 3, 4, 5, 6, 7, 8, 9, 10, 11, 12] [0, 1, 2, 3, 4, 5, 6, 7, 8, 9, 10, 11, 12, 13])]
theorem cs_X0_fewestGone_30 : cs_X0_fewestGone 30 = am_site 1 [none] T_J6_bitCount_0f7a4 [] [] := rfl
theorem cs_X0_fewestGone_43 : cs_X0_fewestGone 43 = am_site 4 [some 0, some 7, none, none] T_X0_isWithin [0, 1, 2, 3, 4, 5, 6, 7, 8, 9, 10, 11, 12] [0, 1, 2, 3, 4, 5, 6, 7, 8, 9, 10, 11, 12, 13] := rfl
theorem ck_X0_fewestGone : ∀ X : am_X, am_cx X RX0 cX0_fewestGone 6 5 114 → ∀ pc, am_csok X 6 sh_CPR pc (cs_X0_fewestGone pc) := fun X hX => am_cs_ok (List.forall_mem_cons.mpr ⟨am_callS hX C_J6_bitCount_0f7a4 mo_J6_bitCount_0f7a4 rfl lk_X0_73 dX0_fewestGone_30 rfl (by decide), List.forall_mem_cons.mpr ⟨am_callV hX C_X0_isWithin mo_X0_isWithin rfl lk_X0_83 dX0_fewestGone_43 rfl rfl rfl (by decide), fun _ h => absurd h List.not_mem_nil⟩⟩)
abbrev ok_X0_fewestGone (X : am_X) (K : List Int32 → am_D → Prop) : Prop := am_ok X RX0 cX0_fewestGone 6 sh_CPR fl_X0 kc_X0 none 1 cs_X0_fewestGone K
abbrev aw_X0_fewestGone (X : am_X) (pc : Nat) (ls : am_L) (st : List am_V) (D : am_D) : Prop := am_aw X 6 sh_CPR pc ls st D
def wth (b w : Nat) (kd fg la : Nat → Nat) (li : List Nat) (v a : Nat) : Bool := decide (tot (simA b w kd fg la li a) ≤ v)
abbrev T_X0_fewestGone : am_TT := fun is D K => ∃ n b w kd fg la hu li dp dr v, is = [nI v] ∧ v < 2 ^ 31 ∧ D = .inl [] :: (dp ++ dr) ∧ pF dp ∧ rA n b w kd fg la hu li dr ∧ ∀ dp', pF dp' → K [nI ((ffS (fun s a => decide (pc a = s) && wth b w kd fg la li v a) 0 (2 ^ n) 0 (n + 1)).getD (2 ^ n - 1))] (.inl [] :: (dp' ++ dr))
set_option maxHeartbeats 8000000 in
theorem B_X0_fewestGone : ∀ (X : am_X) (is : List Int32) (D : am_D) (K : List Int32 → am_D → Prop), ok_X0_fewestGone X K → T_X0_fewestGone is D K → is.length = (List.filter Option.isNone ([some 0, some 7, none] : List (Option Nat))).length → D.length = sh_CPR.length → am_aw X 6 sh_CPR 0 (am_l0 6 [some 0, some 7, none] is) [] D := by
  intro X is D K O hT _ _
  obtain ⟨n, b, w, kd, fg, la, hu, li, dp, dr, v, rfl, hv, rfl, hF, hR, hK⟩ := hT
  obtain ⟨kk, ff, ll, hh, ii, rfl, hn, hb, hw, hj, hp, hi⟩ := id hR
  have hp2 := p2_le n (by omega)
  obtain ⟨p, hpe⟩ : ∃ p : Nat → Nat → Bool, p = fun s a => decide (pc a = s) && wth b w kd fg la li v a := ⟨_, rfl⟩
  rw [← hpe] at hK
  have outer : ∀ d s x5 (dp : am_D), n + 1 - s = d → s ≤ n + 1 → pF dp → (∀ dp', pF dp' → K [nI ((ffS p 0 (2 ^ n) s d).getD (2 ^ n - 1))] (.inl [] :: (dp' ++ [.inl [nI n, nI b, nI w], .inr kk, .inr ff, .inr ll, .inr hh, .inr ii]))) → am_aw X 6 sh_CPR 10 [some (.inr 0), some (.inr 7), some (.inl (nI v)), some (.inl (nI (2 ^ n))), some (.inl (nI s)), x5] [] (.inl [] :: (dp ++ [.inl [nI n, nI b, nI w], .inr kk, .inr ff, .inr ll, .inr hh, .inr ii])) := by
    intro d
    induction d with
    | zero =>
      intro s x5 dp hd hs hF hK
      have hK := hK dp hF
      obtain ⟨j0, j1, j2, j3, j4, j5, j6, j7, j8, o, wt, tn, r0, l1, rfl⟩ := hF
      refine am_norm rfl rfl ?_
      refine st_iload O dX0_fewestGone_10 rfl (q := 12) rfl ?_
      refine st_aloadn O dX0_fewestGone_12 rfl (q := 13) rfl ?_
      refine st_geti O dX0_fewestGone_13 fl_X0_44 rfl rfl rfl rfl (q := 16) rfl ?_
      refine sn_icmp_gt O dX0_fewestGone_16 (t := 64) rfl (q := 19) rfl (by omega) (by omega) (fun c16 => ?_) (fun c16 => ?_)
      · refine st_iloadn O dX0_fewestGone_64 rfl (q := 65) rfl ?_
        refine st_iconst O dX0_fewestGone_65 am_iconst_1 (q := 66) rfl ?_
        refine st_isub O dX0_fewestGone_66 (by first | exact pk_sub (by omega) | exact rfl) (q := 67) rfl ?_
        refine st_ireturn O dX0_fewestGone_67 ?_
        exact hK
      omega
    | succ d ih =>
      intro s x5 dp hd hs hF hK
      rw [ffS] at hK
      have inner : ∀ e a (dp : am_D), 2 ^ n - a = e → a ≤ 2 ^ n → pF dp → (∀ dp', pF dp' → K [nI ((match ffU (p s) a e with
          | some b => some b
          | none => ffS p 0 (2 ^ n) (s + 1) d).getD (2 ^ n - 1))] (.inl [] :: (dp' ++ [.inl [nI n, nI b, nI w], .inr kk, .inr ff, .inr ll, .inr hh, .inr ii]))) → am_aw X 6 sh_CPR 22 [some (.inr 0), some (.inr 7), some (.inl (nI v)), some (.inl (nI (2 ^ n))), some (.inl (nI s)), some (.inl (nI a))] [] (.inl [] :: (dp ++ [.inl [nI n, nI b, nI w], .inr kk, .inr ff, .inr ll, .inr hh, .inr ii])) := by
        intro e
        induction e with
        | zero =>
          intro a dp he ha hF hK
          have ih := ih (s + 1) (some (.inl (nI a))) dp (by omega) (by omega) hF hK
          obtain ⟨j0, j1, j2, j3, j4, j5, j6, j7, j8, o, wt, tn, r0, l1, rfl⟩ := hF
          refine am_norm rfl rfl ?_
          refine st_iload O dX0_fewestGone_22 rfl (q := 24) rfl ?_
          refine st_iloadn O dX0_fewestGone_24 rfl (q := 25) rfl ?_
          refine sn_icmp_ge O dX0_fewestGone_25 (t := 58) rfl (q := 28) rfl (by omega) (by omega) (fun c25 => ?_) (fun c25 => ?_)
          · refine st_iinc O dX0_fewestGone_58 rfl (by first | exact am_ii1 _ | exact rfl) rfl (q := 61) rfl ?_
            refine st_goto O dX0_fewestGone_61 (t := 10) rfl ?_
            exact ih
          omega
        | succ e ih2 =>
          intro a dp he ha hF hK
          have hpc := pc_le a
          rw [ffU] at hK
          have hpa : p s a = (decide (pc a = s) && wth b w kd fg la li v a) := by rw [hpe]
          have hF' := hF
          obtain ⟨j0, j1, j2, j3, j4, j5, j6, j7, j8, o, wt, tn, r0, l1, rfl⟩ := hF
          by_cases q1 : pc a = s
          · rcases q2 : wth b w kd fg la li v a with _ | _
            · rw [q2, Bool.and_false] at hpa
              rw [hpa] at hK
              simp only [Bool.false_eq_true, if_false] at hK
              refine am_norm rfl rfl ?_
              refine st_iload O dX0_fewestGone_22 rfl (q := 24) rfl ?_
              refine st_iloadn O dX0_fewestGone_24 rfl (q := 25) rfl ?_
              refine sn_icmp_ge O dX0_fewestGone_25 (t := 58) rfl (q := 28) rfl (by omega) (by omega) (fun c25 => ?_) (fun c25 => ?_)
              · omega
              refine st_iload O dX0_fewestGone_28 rfl (q := 30) rfl ?_
              refine st_callS O dX0_fewestGone_30 cs_X0_fewestGone_30 (q := 33) rfl (am_sip rfl rfl rfl (Nat.le_of_ble_eq_true rfl) rfl (r := nI (pc a)) ⟨a, by omega, rfl, rfl⟩ ?_)
              refine st_iload O dX0_fewestGone_33 rfl (q := 35) rfl ?_
              refine sn_icmp_ne O dX0_fewestGone_35 (t := 52) rfl (q := 38) rfl (by omega) (by omega) (fun c35 => ?_) (fun c35 => ?_)
              · omega
              refine st_aloadn O dX0_fewestGone_38 rfl (q := 39) rfl ?_
              refine st_aloadn O dX0_fewestGone_39 rfl (q := 40) rfl ?_
              refine st_iload O dX0_fewestGone_40 rfl (q := 42) rfl ?_
              refine st_iloadn O dX0_fewestGone_42 rfl (q := 43) rfl ?_
              refine st_call O dX0_fewestGone_43 cs_X0_fewestGone_43 (q := 46) rfl (am_si rfl rfl rfl (Nat.le_of_ble_eq_true rfl) rfl ?_)
              refine ⟨n, b, w, kd, fg, la, hu, li, _, _, a, v, rfl, by omega, hv, (by exact rfl), hF', hR, fun dp' hF2 => ?_⟩
              have ih2 := ih2 (a + 1) dp' (by omega) (by omega) hF2 hK
              rw [show decide (tot (simA b w kd fg la li a) ≤ v) = wth b w kd fg la li v a from rfl, q2]
              obtain ⟨j0, j1, j2, j3, j4, j5, j6, j7, j8, o, wt, tn, r0, l1, rfl⟩ := hF2
              refine am_norm rfl rfl ?_
              refine st_if_eq O dX0_fewestGone_46 (t := 52) rfl (q := 49) rfl (fun c46 => ?_) (fun c46 => ?_)
              · refine st_iinc O dX0_fewestGone_52 rfl (by first | exact am_ii1 _ | exact rfl) rfl (q := 55) rfl ?_
                refine st_goto O dX0_fewestGone_55 (t := 22) rfl ?_
                exact ih2
              exact absurd c46 (by decide)
            · rw [q2, decide_eq_true q1] at hpa
              rw [hpa] at hK
              simp only [Bool.and_true, if_true] at hK
              refine am_norm rfl rfl ?_
              refine st_iload O dX0_fewestGone_22 rfl (q := 24) rfl ?_
              refine st_iloadn O dX0_fewestGone_24 rfl (q := 25) rfl ?_
              refine sn_icmp_ge O dX0_fewestGone_25 (t := 58) rfl (q := 28) rfl (by omega) (by omega) (fun c25 => ?_) (fun c25 => ?_)
              · omega
              refine st_iload O dX0_fewestGone_28 rfl (q := 30) rfl ?_
              refine st_callS O dX0_fewestGone_30 cs_X0_fewestGone_30 (q := 33) rfl (am_sip rfl rfl rfl (Nat.le_of_ble_eq_true rfl) rfl (r := nI (pc a)) ⟨a, by omega, rfl, rfl⟩ ?_)
              refine st_iload O dX0_fewestGone_33 rfl (q := 35) rfl ?_
              refine sn_icmp_ne O dX0_fewestGone_35 (t := 52) rfl (q := 38) rfl (by omega) (by omega) (fun c35 => ?_) (fun c35 => ?_)
              · omega
              refine st_aloadn O dX0_fewestGone_38 rfl (q := 39) rfl ?_
              refine st_aloadn O dX0_fewestGone_39 rfl (q := 40) rfl ?_
              refine st_iload O dX0_fewestGone_40 rfl (q := 42) rfl ?_
              refine st_iloadn O dX0_fewestGone_42 rfl (q := 43) rfl ?_
              refine st_call O dX0_fewestGone_43 cs_X0_fewestGone_43 (q := 46) rfl (am_si rfl rfl rfl (Nat.le_of_ble_eq_true rfl) rfl ?_)
              refine ⟨n, b, w, kd, fg, la, hu, li, _, _, a, v, rfl, by omega, hv, (by exact rfl), hF', hR, fun dp' hF2 => ?_⟩
              have hK := hK dp' hF2
              rw [show decide (tot (simA b w kd fg la li a) ≤ v) = wth b w kd fg la li v a from rfl, q2]
              obtain ⟨j0, j1, j2, j3, j4, j5, j6, j7, j8, o, wt, tn, r0, l1, rfl⟩ := hF2
              refine am_norm rfl rfl ?_
              refine st_if_eq O dX0_fewestGone_46 (t := 52) rfl (q := 49) rfl (fun c46 => ?_) (fun c46 => ?_)
              · exact absurd c46 (by decide)
              refine st_iload O dX0_fewestGone_49 rfl (q := 51) rfl ?_
              refine st_ireturn O dX0_fewestGone_51 ?_
              exact hK
          · rw [decide_eq_false q1, Bool.false_and] at hpa
            rw [hpa] at hK
            simp only [Bool.false_eq_true, if_false] at hK
            have ih2 := ih2 (a + 1) _ (by omega) (by omega) hF' hK
            refine am_norm rfl rfl ?_
            refine st_iload O dX0_fewestGone_22 rfl (q := 24) rfl ?_
            refine st_iloadn O dX0_fewestGone_24 rfl (q := 25) rfl ?_
            refine sn_icmp_ge O dX0_fewestGone_25 (t := 58) rfl (q := 28) rfl (by omega) (by omega) (fun c25 => ?_) (fun c25 => ?_)
            · omega
            refine st_iload O dX0_fewestGone_28 rfl (q := 30) rfl ?_
            refine st_callS O dX0_fewestGone_30 cs_X0_fewestGone_30 (q := 33) rfl (am_sip rfl rfl rfl (Nat.le_of_ble_eq_true rfl) rfl (r := nI (pc a)) ⟨a, by omega, rfl, rfl⟩ ?_)
            refine st_iload O dX0_fewestGone_33 rfl (q := 35) rfl ?_
            refine sn_icmp_ne O dX0_fewestGone_35 (t := 52) rfl (q := 38) rfl (by omega) (by omega) (fun c35 => ?_) (fun c35 => ?_)
            · refine st_iinc O dX0_fewestGone_52 rfl (by first | exact am_ii1 _ | exact rfl) rfl (q := 55) rfl ?_
              refine st_goto O dX0_fewestGone_55 (t := 22) rfl ?_
              exact ih2
            omega
      have inner := inner (2 ^ n) 0 dp rfl (by omega) hF hK
      obtain ⟨j0, j1, j2, j3, j4, j5, j6, j7, j8, o, wt, tn, r0, l1, rfl⟩ := hF
      refine am_norm rfl rfl ?_
      refine st_iload O dX0_fewestGone_10 rfl (q := 12) rfl ?_
      refine st_aloadn O dX0_fewestGone_12 rfl (q := 13) rfl ?_
      refine st_geti O dX0_fewestGone_13 fl_X0_44 rfl rfl rfl rfl (q := 16) rfl ?_
      refine sn_icmp_gt O dX0_fewestGone_16 (t := 64) rfl (q := 19) rfl (by omega) (by omega) (fun c16 => ?_) (fun c16 => ?_)
      · omega
      refine st_iconst O dX0_fewestGone_19 am_iconst_0 (q := 20) rfl ?_
      refine st_istore O dX0_fewestGone_20 rfl (q := 22) rfl ?_
      exact inner
  have outer := outer (n + 1) 0 none dp rfl (by omega) hF hK
  have hF' := hF
  obtain ⟨j0, j1, j2, j3, j4, j5, j6, j7, j8, o, wt, tn, r0, l1, rfl⟩ := hF
  refine am_begin rfl ?_
  refine am_norm rfl rfl ?_
  refine st_iconst O dX0_fewestGone_0 am_iconst_1 (q := 1) rfl ?_
  refine st_aloadn O dX0_fewestGone_1 rfl (q := 2) rfl ?_
  refine st_geti O dX0_fewestGone_2 fl_X0_44 rfl rfl rfl rfl (q := 5) rfl ?_
  refine st_ishl O dX0_fewestGone_5 (sh_tab2 n (by omega)) (q := 6) rfl ?_
  refine st_istoren O dX0_fewestGone_6 rfl (q := 7) rfl ?_
  refine st_iconst O dX0_fewestGone_7 am_iconst_0 (q := 8) rfl ?_
  refine st_istore O dX0_fewestGone_8 rfl (q := 10) rfl ?_
  exact outer
theorem C_X0_fewestGone : am_ctr yX0_fewestGone cX0_fewestGone 6 (some .int) 5 114 sh_CPR [some 0, some 7, none] T_X0_fewestGone := am_mk (by decide) (Or.inr (Or.inl ⟨rfl, rfl⟩)) (by decide) (by decide) (by decide) fl_X0_ok kc_X0_ok ck_X0_fewestGone B_X0_fewestGone
