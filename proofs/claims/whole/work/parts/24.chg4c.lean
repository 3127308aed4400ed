def cs_X0_fewestTurned : Nat → List am_V → am_D → am_K → Prop := am_cs [(3, am_site 3 [some 0, some 7, none] T_X0_measured [0, 7, 8, 9, 10, 11, 12, 13, 14, 15, 16, 17, 18] [0, 7, 8, 9, 10, 11, 12, 13, 14, 15, 16, 17, 18, 1]), (39, am_site 1 [none] T_J6_bitCount_0f7a4 [] []), (53, am_site 5 [some 0, some 13, none, none, none] T_X0_isReached [0, 1, 2, 3, 4, 5, 6, 7, 8, 9, 10, 11, 12, 13, 14, 15, 16, 17, 18] [0, 1, 2, 3, 4, 5, 6, 7, 8, 9, 10, 11, 12, 13, 14, 15, 16, 17, 18])]
theorem cs_X0_fewestTurned_3 : cs_X0_fewestTurned 3 = am_site 3 [some 0, some 7, none] T_X0_measured [0, 7, 8, 9, 10, 11, 12, 13, 14, 15, 16, 17, 18] [0, 7, 8, 9, 10, 11, 12, 13, 14, 15, 16, 17, 18, 1] := rfl
theorem cs_X0_fewestTurned_39 : cs_X0_fewestTurned 39 = am_site 1 [none] T_J6_bitCount_0f7a4 [] [] := rfl
theorem cs_X0_fewestTurned_53 : cs_X0_fewestTurned 53 = am_site 5 [some 0, some 13, none, none, none] T_X0_isReached [0, 1, 2, 3, 4, 5, 6, 7, 8, 9, 10, 11, 12, 13, 14, 15, 16, 17, 18] [0, 1, 2, 3, 4, 5, 6, 7, 8, 9, 10, 11, 12, 13, 14, 15, 16, 17, 18] := rfl
theorem ck_X0_fewestTurned : ∀ X : am_X, am_cx X RX0 cX0_fewestTurned 7 6 139 → ∀ pc, am_csok X 7 sh_CX pc (cs_X0_fewestTurned pc) := fun X hX => am_cs_ok (List.forall_mem_cons.mpr ⟨am_callV hX C_X0_measured mo_X0_measured rfl lk_X0_69 dX0_fewestTurned_3 rfl rfl rfl (by decide), List.forall_mem_cons.mpr ⟨am_callS hX C_J6_bitCount_0f7a4 mo_J6_bitCount_0f7a4 rfl lk_X0_73 dX0_fewestTurned_39 rfl (by decide), List.forall_mem_cons.mpr ⟨am_callV hX C_X0_isReached mo_X0_isReached rfl lk_X0_79 dX0_fewestTurned_53 rfl rfl rfl (by decide), fun _ h => absurd h List.not_mem_nil⟩⟩⟩)
abbrev ok_X0_fewestTurned (X : am_X) (K : List Int32 → am_D → Prop) : Prop := am_ok X RX0 cX0_fewestTurned 7 sh_CX fl_X0 kc_X0 none 1 cs_X0_fewestTurned K
abbrev aw_X0_fewestTurned (X : am_X) (pc : Nat) (ls : am_L) (st : List am_V) (D : am_D) : Prop := am_aw X 7 sh_CX pc ls st D
abbrev T_X0_fewestTurned : am_TT := fun is D K => ∃ n b w kd fg la hu li dt dp dr md, is = [bI md] ∧ D = .inl [] :: (dt ++ (dp ++ dr)) ∧ rF dt ∧ pF dp ∧ rA n b w kd fg la hu li dr ∧ ∀ dt' dp', rF dt' → pF dp' → K [oI (ffS (fun s a => decide (pc a = s) && rch n b w kd fg la hu li md a) 1 (2 ^ n - 1) 1 n)] (.inl [] :: (dt' ++ (dp' ++ dr)))
set_option maxHeartbeats 8000000 in
theorem B_X0_fewestTurned : ∀ (X : am_X) (is : List Int32) (D : am_D) (K : List Int32 → am_D → Prop), ok_X0_fewestTurned X K → T_X0_fewestTurned is D K → is.length = (List.filter Option.isNone ([some 0, some 13, none] : List (Option Nat))).length → D.length = sh_CX.length → am_aw X 7 sh_CX 0 (am_l0 7 [some 0, some 13, none] is) [] D := by
  intro X is D K O hT _ _
  obtain ⟨n, b, w, kd, fg, la, hu, li, dt, dp, dr, md, rfl, rfl, hG, hF, hR, hK⟩ := hT
  obtain ⟨kk, ff, ll, hh, ii, rfl, hn, hb, hw, hj, hp, hi⟩ := id hR
  have hp2 := p2_le n (by omega)
  obtain ⟨p, hpe⟩ : ∃ p : Nat → Nat → Bool, p = fun s a => decide (pc a = s) && rch n b w kd fg la hu li md a := ⟨_, rfl⟩
  rw [← hpe] at hK
  have outer : ∀ d s x6 (dt dp : am_D), n + 1 - s = d → 1 ≤ s → s ≤ n + 1 → rF dt → pF dp → (∀ dt' dp', rF dt' → pF dp' → K [oI (ffS p 1 (2 ^ n - 1) s d)] (.inl [] :: (dt' ++ (dp' ++ [.inl [nI n, nI b, nI w], .inr kk, .inr ff, .inr ll, .inr hh, .inr ii])))) → am_aw X 7 sh_CX 18 [some (.inr 0), some (.inr 13), some (.inl (bI md)), some (.inl (nI (bef b w kd fg la hu li md))), some (.inl (nI (2 ^ n))), some (.inl (nI s)), x6] [] (.inl [] :: (dt ++ (dp ++ [.inl [nI n, nI b, nI w], .inr kk, .inr ff, .inr ll, .inr hh, .inr ii]))) := by
    intro d
    induction d with
    | zero =>
      intro s x6 dt dp hd h1 hs hG hF hK
      have hK := hK dt dp hG hF
      obtain ⟨j0, j1, j2, j3, j4, j5, j6, j7, j8, o, wt, tn, r0, l1, rfl⟩ := hF
      obtain ⟨a0, b0, q0, k0, f0, l0, h0, i0, rfl⟩ := hG
      refine am_norm rfl rfl ?_
      refine st_iload O dX0_fewestTurned_18 rfl (q := 20) rfl ?_
      refine st_aloadn O dX0_fewestTurned_20 rfl (q := 21) rfl ?_
      refine st_geti O dX0_fewestTurned_21 fl_X0_44 rfl rfl rfl rfl (q := 24) rfl ?_
      refine sn_icmp_gt O dX0_fewestTurned_24 (t := 74) rfl (q := 27) rfl (by omega) (by omega) (fun c24 => ?_) (fun c24 => ?_)
      · refine st_bipush O dX0_fewestTurned_74 am_bipush_m9 (q := 76) rfl ?_
        refine st_ireturn O dX0_fewestTurned_76 ?_
        exact hK
      omega
    | succ d ih =>
      intro s x6 dt dp hd h1 hs hG hF hK
      rw [ffS] at hK
      have inner : ∀ e a (dt dp : am_D), 2 ^ n - a = e → 1 ≤ a → a ≤ 2 ^ n → rF dt → pF dp → (∀ dt' dp', rF dt' → pF dp' → K [oI (match ffU (p s) a e with
          | some b => some b
          | none => ffS p 1 (2 ^ n - 1) (s + 1) d)] (.inl [] :: (dt' ++ (dp' ++ [.inl [nI n, nI b, nI w], .inr kk, .inr ff, .inr ll, .inr hh, .inr ii])))) → am_aw X 7 sh_CX 30 [some (.inr 0), some (.inr 13), some (.inl (bI md)), some (.inl (nI (bef b w kd fg la hu li md))), some (.inl (nI (2 ^ n))), some (.inl (nI s)), some (.inl (nI a))] [] (.inl [] :: (dt ++ (dp ++ [.inl [nI n, nI b, nI w], .inr kk, .inr ff, .inr ll, .inr hh, .inr ii]))) := by
        intro e
        induction e with
        | zero =>
          intro a dt dp he ha1 ha hG hF hK
          have ih := ih (s + 1) (some (.inl (nI a))) dt dp (by omega) (by omega) (by omega) hG hF hK
          obtain ⟨j0, j1, j2, j3, j4, j5, j6, j7, j8, o, wt, tn, r0, l1, rfl⟩ := hF
          obtain ⟨a0, b0, q0, k0, f0, l0, h0, i0, rfl⟩ := hG
          refine am_norm rfl rfl ?_
          refine st_iload O dX0_fewestTurned_30 rfl (q := 32) rfl ?_
          refine st_iload O dX0_fewestTurned_32 rfl (q := 34) rfl ?_
          refine sn_icmp_ge O dX0_fewestTurned_34 (t := 68) rfl (q := 37) rfl (by omega) (by omega) (fun c34 => ?_) (fun c34 => ?_)
          · refine st_iinc O dX0_fewestTurned_68 rfl (by first | exact am_ii1 _ | exact rfl) rfl (q := 71) rfl ?_
            refine st_goto O dX0_fewestTurned_71 (t := 18) rfl ?_
            exact ih
          omega
        | succ e ih2 =>
          intro a dt dp he ha1 ha hG hF hK
          have hpc := pc_le a
          rw [ffU] at hK
          have hpa : p s a = (decide (pc a = s) && rch n b w kd fg la hu li md a) := by rw [hpe]
          have hF' := hF
          have hG' := hG
          obtain ⟨j0, j1, j2, j3, j4, j5, j6, j7, j8, o, wt, tn, r0, l1, rfl⟩ := hF
          obtain ⟨a0, b0, q0, k0, f0, l0, h0, i0, rfl⟩ := hG
          by_cases q1 : pc a = s
          · rcases q2 : rch n b w kd fg la hu li md a with _ | _
            · rw [q2, Bool.and_false] at hpa
              rw [hpa] at hK
              simp only [Bool.false_eq_true, if_false] at hK
              refine am_norm rfl rfl ?_
              refine st_iload O dX0_fewestTurned_30 rfl (q := 32) rfl ?_
              refine st_iload O dX0_fewestTurned_32 rfl (q := 34) rfl ?_
              refine sn_icmp_ge O dX0_fewestTurned_34 (t := 68) rfl (q := 37) rfl (by omega) (by omega) (fun c34 => ?_) (fun c34 => ?_)
              · omega
              refine st_iload O dX0_fewestTurned_37 rfl (q := 39) rfl ?_
              refine st_callS O dX0_fewestTurned_39 cs_X0_fewestTurned_39 (q := 42) rfl (am_sip rfl rfl rfl (Nat.le_of_ble_eq_true rfl) rfl (r := nI (pc a)) ⟨a, by omega, rfl, rfl⟩ ?_)
              refine st_iload O dX0_fewestTurned_42 rfl (q := 44) rfl ?_
              refine sn_icmp_ne O dX0_fewestTurned_44 (t := 62) rfl (q := 47) rfl (by omega) (by omega) (fun c44 => ?_) (fun c44 => ?_)
              · omega
              refine st_aloadn O dX0_fewestTurned_47 rfl (q := 48) rfl ?_
              refine st_aloadn O dX0_fewestTurned_48 rfl (q := 49) rfl ?_
              refine st_iload O dX0_fewestTurned_49 rfl (q := 51) rfl ?_
              refine st_iloadn O dX0_fewestTurned_51 rfl (q := 52) rfl ?_
              refine st_iloadn O dX0_fewestTurned_52 rfl (q := 53) rfl ?_
              refine st_call O dX0_fewestTurned_53 cs_X0_fewestTurned_53 (q := 56) rfl (am_si rfl rfl rfl (Nat.le_of_ble_eq_true rfl) rfl ?_)
              refine ⟨n, b, w, kd, fg, la, hu, li, _, _, _, a, md, rfl, by omega, (by exact rfl), hG', hF', hR, fun dt' dp' hG2 hF2 => ?_⟩
              have ih2 := ih2 (a + 1) dt' dp' (by omega) (by omega) (by omega) hG2 hF2 hK
              rw [q2]
              obtain ⟨j0, j1, j2, j3, j4, j5, j6, j7, j8, o, wt, tn, r0, l1, rfl⟩ := hF2
              obtain ⟨a0, b0, q0, k0, f0, l0, h0, i0, rfl⟩ := hG2
              refine am_norm rfl rfl ?_
              refine st_if_eq O dX0_fewestTurned_56 (t := 62) rfl (q := 59) rfl (fun c56 => ?_) (fun c56 => ?_)
              · refine st_iinc O dX0_fewestTurned_62 rfl (by first | exact am_ii1 _ | exact rfl) rfl (q := 65) rfl ?_
                refine st_goto O dX0_fewestTurned_65 (t := 30) rfl ?_
                exact ih2
              exact absurd c56 (by decide)
            · rw [q2, decide_eq_true q1] at hpa
              rw [hpa] at hK
              simp only [Bool.and_true, if_true] at hK
              refine am_norm rfl rfl ?_
              refine st_iload O dX0_fewestTurned_30 rfl (q := 32) rfl ?_
              refine st_iload O dX0_fewestTurned_32 rfl (q := 34) rfl ?_
              refine sn_icmp_ge O dX0_fewestTurned_34 (t := 68) rfl (q := 37) rfl (by omega) (by omega) (fun c34 => ?_) (fun c34 => ?_)
              · omega
              refine st_iload O dX0_fewestTurned_37 rfl (q := 39) rfl ?_
              refine st_callS O dX0_fewestTurned_39 cs_X0_fewestTurned_39 (q := 42) rfl (am_sip rfl rfl rfl (Nat.le_of_ble_eq_true rfl) rfl (r := nI (pc a)) ⟨a, by omega, rfl, rfl⟩ ?_)
              refine st_iload O dX0_fewestTurned_42 rfl (q := 44) rfl ?_
              refine sn_icmp_ne O dX0_fewestTurned_44 (t := 62) rfl (q := 47) rfl (by omega) (by omega) (fun c44 => ?_) (fun c44 => ?_)
              · omega
              refine st_aloadn O dX0_fewestTurned_47 rfl (q := 48) rfl ?_
              refine st_aloadn O dX0_fewestTurned_48 rfl (q := 49) rfl ?_
              refine st_iload O dX0_fewestTurned_49 rfl (q := 51) rfl ?_
              refine st_iloadn O dX0_fewestTurned_51 rfl (q := 52) rfl ?_
              refine st_iloadn O dX0_fewestTurned_52 rfl (q := 53) rfl ?_
              refine st_call O dX0_fewestTurned_53 cs_X0_fewestTurned_53 (q := 56) rfl (am_si rfl rfl rfl (Nat.le_of_ble_eq_true rfl) rfl ?_)
              refine ⟨n, b, w, kd, fg, la, hu, li, _, _, _, a, md, rfl, by omega, (by exact rfl), hG', hF', hR, fun dt' dp' hG2 hF2 => ?_⟩
              have hK := hK dt' dp' hG2 hF2
              rw [q2]
              obtain ⟨j0, j1, j2, j3, j4, j5, j6, j7, j8, o, wt, tn, r0, l1, rfl⟩ := hF2
              obtain ⟨a0, b0, q0, k0, f0, l0, h0, i0, rfl⟩ := hG2
              refine am_norm rfl rfl ?_
              refine st_if_eq O dX0_fewestTurned_56 (t := 62) rfl (q := 59) rfl (fun c56 => ?_) (fun c56 => ?_)
              · exact absurd c56 (by decide)
              refine st_iload O dX0_fewestTurned_59 rfl (q := 61) rfl ?_
              refine st_ireturn O dX0_fewestTurned_61 ?_
              exact hK
          · rw [decide_eq_false q1, Bool.false_and] at hpa
            rw [hpa] at hK
            simp only [Bool.false_eq_true, if_false] at hK
            have ih2 := ih2 (a + 1) _ _ (by omega) (by omega) (by omega) hG' hF' hK
            refine am_norm rfl rfl ?_
            refine st_iload O dX0_fewestTurned_30 rfl (q := 32) rfl ?_
            refine st_iload O dX0_fewestTurned_32 rfl (q := 34) rfl ?_
            refine sn_icmp_ge O dX0_fewestTurned_34 (t := 68) rfl (q := 37) rfl (by omega) (by omega) (fun c34 => ?_) (fun c34 => ?_)
            · omega
            refine st_iload O dX0_fewestTurned_37 rfl (q := 39) rfl ?_
            refine st_callS O dX0_fewestTurned_39 cs_X0_fewestTurned_39 (q := 42) rfl (am_sip rfl rfl rfl (Nat.le_of_ble_eq_true rfl) rfl (r := nI (pc a)) ⟨a, by omega, rfl, rfl⟩ ?_)
            refine st_iload O dX0_fewestTurned_42 rfl (q := 44) rfl ?_
            refine sn_icmp_ne O dX0_fewestTurned_44 (t := 62) rfl (q := 47) rfl (by omega) (by omega) (fun c44 => ?_) (fun c44 => ?_)
            · refine st_iinc O dX0_fewestTurned_62 rfl (by first | exact am_ii1 _ | exact rfl) rfl (q := 65) rfl ?_
              refine st_goto O dX0_fewestTurned_65 (t := 30) rfl ?_
              exact ih2
            omega
      have inner := inner (2 ^ n - 1) 1 dt dp rfl (by omega) (by omega) hG hF hK
      obtain ⟨j0, j1, j2, j3, j4, j5, j6, j7, j8, o, wt, tn, r0, l1, rfl⟩ := hF
      obtain ⟨a0, b0, q0, k0, f0, l0, h0, i0, rfl⟩ := hG
      refine am_norm rfl rfl ?_
      refine st_iload O dX0_fewestTurned_18 rfl (q := 20) rfl ?_
      refine st_aloadn O dX0_fewestTurned_20 rfl (q := 21) rfl ?_
      refine st_geti O dX0_fewestTurned_21 fl_X0_44 rfl rfl rfl rfl (q := 24) rfl ?_
      refine sn_icmp_gt O dX0_fewestTurned_24 (t := 74) rfl (q := 27) rfl (by omega) (by omega) (fun c24 => ?_) (fun c24 => ?_)
      · omega
      refine st_iconst O dX0_fewestTurned_27 am_iconst_1 (q := 28) rfl ?_
      refine st_istore O dX0_fewestTurned_28 rfl (q := 30) rfl ?_
      exact inner
  have hF' := hF
  have hG' := hG
  obtain ⟨j0, j1, j2, j3, j4, j5, j6, j7, j8, o, wt, tn, r0, l1, rfl⟩ := hF
  obtain ⟨a0, b0, q0, k0, f0, l0, h0, i0, rfl⟩ := hG
  refine am_begin rfl ?_
  refine am_norm rfl rfl ?_
  refine st_aloadn O dX0_fewestTurned_0 rfl (q := 1) rfl ?_
  refine st_aloadn O dX0_fewestTurned_1 rfl (q := 2) rfl ?_
  refine st_iloadn O dX0_fewestTurned_2 rfl (q := 3) rfl ?_
  refine st_call O dX0_fewestTurned_3 cs_X0_fewestTurned_3 (q := 6) rfl (am_si rfl rfl rfl (Nat.le_of_ble_eq_true rfl) rfl ?_)
  refine ⟨n, b, w, kd, fg, la, hu, li, _, _, md, rfl, (by exact rfl), hF', hR, fun dp' hF2 => ?_⟩
  have outer := outer n 1 none _ dp' (by omega) (by omega) (by omega) hG' hF2 hK
  rw [show (if md = true then cst hu (simA b w kd fg la li 0) else tot (simA b w kd fg la li 0)) = bef b w kd fg la hu li md from rfl]
  obtain ⟨j0, j1, j2, j3, j4, j5, j6, j7, j8, o, wt, tn, r0, l1, rfl⟩ := hF2
  refine am_norm rfl rfl ?_
  refine st_istoren O dX0_fewestTurned_6 rfl (q := 7) rfl ?_
  refine st_iconst O dX0_fewestTurned_7 am_iconst_1 (q := 8) rfl ?_
  refine st_aloadn O dX0_fewestTurned_8 rfl (q := 9) rfl ?_
  refine st_geti O dX0_fewestTurned_9 fl_X0_44 rfl rfl rfl rfl (q := 12) rfl ?_
  refine st_ishl O dX0_fewestTurned_12 (sh_tab2 n (by omega)) (q := 13) rfl ?_
  refine st_istore O dX0_fewestTurned_13 rfl (q := 15) rfl ?_
  refine st_iconst O dX0_fewestTurned_15 am_iconst_1 (q := 16) rfl ?_
  refine st_istore O dX0_fewestTurned_16 rfl (q := 18) rfl ?_
  exact outer
theorem C_X0_fewestTurned : am_ctr yX0_fewestTurned cX0_fewestTurned 7 (some .int) 6 139 sh_CX [some 0, some 13, none] T_X0_fewestTurned := am_mk (by decide) (Or.inr (Or.inl ⟨rfl, rfl⟩)) (by decide) (by decide) (by decide) fl_X0_ok kc_X0_ok ck_X0_fewestTurned B_X0_fewestTurned
