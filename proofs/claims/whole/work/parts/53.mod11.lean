/-! the reference's calls: two, gap, even -/
def cs_X7_two_ : Nat → List am_V → am_D → am_K → Prop := am_cs [(2, am_site 2 [some 0, none] T_X7_isCar [0] [0, 1, 2, 3, 4, 5, 6, 7, 8, 9, 10, 11, 12, 13, 14, 15]), (10, am_site 2 [some 0, none] T_X7_isCar [0] [0, 1, 2, 3, 4, 5, 6, 7, 8, 9, 10, 11, 12, 13, 14, 15]), (23, am_site 2 [some 0, none] T_X7_no [0, 9] [0, 9, 1, 2, 3, 4, 5, 6, 7, 8, 10, 11, 12, 13, 14, 15]), (50, am_site 6 [some 0, none, none, none, none, none] T_X7_waits [0, 1, 2, 3, 4, 5, 6, 7, 8, 9, 10, 11, 12, 13, 14, 15] [0, 1, 2, 3, 4, 5, 6, 7, 8, 9, 10, 11, 12, 13, 14, 15]), (62, am_site 6 [some 0, none, none, none, none, none] T_X7_waits [0, 1, 2, 3, 4, 5, 6, 7, 8, 9, 10, 11, 12, 13, 14, 15] [0, 1, 2, 3, 4, 5, 6, 7, 8, 9, 10, 11, 12, 13, 14, 15]), (75, am_site 6 [some 0, none, none, none, none, none] T_X7_waits [0, 1, 2, 3, 4, 5, 6, 7, 8, 9, 10, 11, 12, 13, 14, 15] [0, 1, 2, 3, 4, 5, 6, 7, 8, 9, 10, 11, 12, 13, 14, 15]), (87, am_site 6 [some 0, none, none, none, none, none] T_X7_waits [0, 1, 2, 3, 4, 5, 6, 7, 8, 9, 10, 11, 12, 13, 14, 15] [0, 1, 2, 3, 4, 5, 6, 7, 8, 9, 10, 11, 12, 13, 14, 15])]
theorem cs_X7_two__2 : cs_X7_two_ 2 = am_site 2 [some 0, none] T_X7_isCar [0] [0, 1, 2, 3, 4, 5, 6, 7, 8, 9, 10, 11, 12, 13, 14, 15] := rfl
theorem cs_X7_two__10 : cs_X7_two_ 10 = am_site 2 [some 0, none] T_X7_isCar [0] [0, 1, 2, 3, 4, 5, 6, 7, 8, 9, 10, 11, 12, 13, 14, 15] := rfl
theorem cs_X7_two__23 : cs_X7_two_ 23 = am_site 2 [some 0, none] T_X7_no [0, 9] [0, 9, 1, 2, 3, 4, 5, 6, 7, 8, 10, 11, 12, 13, 14, 15] := rfl
theorem cs_X7_two__50 : cs_X7_two_ 50 = am_site 6 [some 0, none, none, none, none, none] T_X7_waits [0, 1, 2, 3, 4, 5, 6, 7, 8, 9, 10, 11, 12, 13, 14, 15] [0, 1, 2, 3, 4, 5, 6, 7, 8, 9, 10, 11, 12, 13, 14, 15] := rfl
theorem cs_X7_two__62 : cs_X7_two_ 62 = am_site 6 [some 0, none, none, none, none, none] T_X7_waits [0, 1, 2, 3, 4, 5, 6, 7, 8, 9, 10, 11, 12, 13, 14, 15] [0, 1, 2, 3, 4, 5, 6, 7, 8, 9, 10, 11, 12, 13, 14, 15] := rfl
theorem cs_X7_two__75 : cs_X7_two_ 75 = am_site 6 [some 0, none, none, none, none, none] T_X7_waits [0, 1, 2, 3, 4, 5, 6, 7, 8, 9, 10, 11, 12, 13, 14, 15] [0, 1, 2, 3, 4, 5, 6, 7, 8, 9, 10, 11, 12, 13, 14, 15] := rfl
theorem cs_X7_two__87 : cs_X7_two_ 87 = am_site 6 [some 0, none, none, none, none, none] T_X7_waits [0, 1, 2, 3, 4, 5, 6, 7, 8, 9, 10, 11, 12, 13, 14, 15] [0, 1, 2, 3, 4, 5, 6, 7, 8, 9, 10, 11, 12, 13, 14, 15] := rfl
theorem ck_X7_two_ : ∀ X : am_X, am_cx X RX7 cX7_two_ 5 4 100 → ∀ pc, am_csok X 5 sh_Mod pc (cs_X7_two_ pc) := fun X hX => am_cs_ok (List.forall_mem_cons.mpr ⟨am_callV hX C_X7_isCar mo_X7_isCar rfl lk_X7_96 dX7_two__2 rfl rfl rfl (by decide), List.forall_mem_cons.mpr ⟨am_callV hX C_X7_isCar mo_X7_isCar rfl lk_X7_96 dX7_two__10 rfl rfl rfl (by decide), List.forall_mem_cons.mpr ⟨am_callV hX C_X7_no mo_X7_no rfl lk_X7_66 dX7_two__23 rfl rfl rfl (by decide), List.forall_mem_cons.mpr ⟨am_callV hX C_X7_waits mo_X7_waits rfl lk_X7_191 dX7_two__50 rfl rfl rfl (by decide), List.forall_mem_cons.mpr ⟨am_callV hX C_X7_waits mo_X7_waits rfl lk_X7_191 dX7_two__62 rfl rfl rfl (by decide), List.forall_mem_cons.mpr ⟨am_callV hX C_X7_waits mo_X7_waits rfl lk_X7_191 dX7_two__75 rfl rfl rfl (by decide), List.forall_mem_cons.mpr ⟨am_callV hX C_X7_waits mo_X7_waits rfl lk_X7_191 dX7_two__87 rfl rfl rfl (by decide), fun _ h => absurd h List.not_mem_nil⟩⟩⟩⟩⟩⟩⟩)
abbrev ok_X7_two_ (X : am_X) (K : List Int32 → am_D → Prop) : Prop := am_ok X RX7 cX7_two_ 5 sh_Mod fl_X7 kc_X7 none 1 cs_X7_two_ K
abbrev aw_X7_two_ (X : am_X) (pc : Nat) (ls : am_L) (st : List am_V) (D : am_D) : Prop := am_aw X 5 sh_Mod pc ls st D
abbrev T_X7_two_ : am_TT := am_s2 IM f_two
theorem x2e : ∀ x, x < 2 → ∀ y, y < 2 → (2 * x + y) ^^^ 2 = 2 * (1 - x) + y ∧ (2 * x + y) ^^^ 1 = 2 * x + (1 - y) := by decide
theorem sub1t : ∀ x, x < 2 → nI 1 - nI x = nI (1 - x) := by decide
theorem sim2_le {σ : Sg} {kA fA hA lA pA : Nat → Int32} (hR : mR σ.1 kA fA hA lA pA) {a c i j : Nat} (ha : a < gN σ) (hc : c < gN σ) : wtc (sim2 (gb σ) (gw σ) (gk σ) (gf σ) (gl σ) (gq σ) a c (i)) j ≤ 117 := wtc_le (simA_117 (n := gN σ) hR.2.2.2.2.1 hR.2.1 (er_perm (er_perm hR.2.2.1 ha) hc) 0) j
set_option maxHeartbeats 200000 in
theorem B_X7_two_ : ∀ (X : am_X) (is : List Int32) (D : am_D) (K : List Int32 → am_D → Prop), ok_X7_two_ X K → T_X7_two_ is D K → is.length = (List.filter Option.isNone ([some 0, none, none] : List (Option Nat))).length → D.length = sh_Mod.length → am_aw X 5 sh_Mod 0 (am_l0 5 [some 0, none, none] is) [] D := by
  intro X is D K O hT _ _
  obtain ⟨σ, a0, b0, ⟨aT, iM, tU, aS, cH, lO, kA, fA, hA, lA, pA, tA, vA, oA, eA, xA, nA, gA, wA, uA, rfl, hR, ht, ho, hk⟩, rfl, hK⟩ := hT
  obtain ⟨hb, hw, hp, hj, hL⟩ := id hR
  have hn : gN σ ≤ 9 := hL.1
  have eN : gN σ = σ.1.1 := rfl
  have hI : IM σ [.inl [nI (gN σ), nI (gb σ), nI (gw σ), nI σ.2.2.1.length, aT, nI σ.2.2.2.1.length, iM, tU, aS, cH, lO, bI false], .inr kA, .inr fA, .inr hA, .inr lA, .inr pA, .inr tA, .inr vA, .inr oA, .inr σ.2.2.2.2, .inr eA, .inr xA, .inr nA, .inr gA, .inr wA, .inr uA] := ⟨_, _, _, _, _, _, _, _, _, _, _, _, _, _, _, _, _, _, _, _, rfl, hR, ht, ho, hk⟩
  have bad : f_two a0 b0 σ = rfs 1 σ → am_aw X 5 sh_Mod 21 [some (.inr 0), some (.inl a0), some (.inl b0), none, none] [] [.inl [nI (gN σ), nI (gb σ), nI (gw σ), nI σ.2.2.1.length, aT, nI σ.2.2.2.1.length, iM, tU, aS, cH, lO, bI false], .inr kA, .inr fA, .inr hA, .inr lA, .inr pA, .inr tA, .inr vA, .inr oA, .inr σ.2.2.2.2, .inr eA, .inr xA, .inr nA, .inr gA, .inr wA, .inr uA] := by
    intro he
    refine st_aloadn O dX7_two__21 rfl (q := 22) rfl ?_
    refine st_iconst O dX7_two__22 am_iconst_m1 (q := 23) rfl ?_
    refine st_call O dX7_two__23 cs_X7_two__23 (q := 26) rfl (am_siq rfl rfl rfl (Nat.le_of_ble_eq_true rfl) rfl ?_)
    refine ⟨_, _, 1, by decide, by decide, rfl, rfl, ?_⟩
    refine am_nrq rfl rfl ?_
    rw [show f_two a0 b0 σ = rfs 1 σ from he] at hK
    exact st_ireturn O dX7_two__26 (hK _ ⟨_, _, _, _, _, _, _, _, _, _, _, _, _, _, _, _, _, _, _, _, rfl, hR, ht, ho, hk⟩)
  cases hx : xi (gN σ) a0 with
  | none =>
    refine am_begin rfl ?_
    refine st_aloadn O dX7_two__0 rfl (q := 1) rfl ?_
    refine st_iloadn O dX7_two__1 rfl (q := 2) rfl ?_
    refine st_call O dX7_two__2 cs_X7_two__2 (q := 5) rfl (am_sipq rfl rfl rfl (Nat.le_of_ble_eq_true rfl) rfl (r := 0) ⟨_, gN σ, _, hn, rfl, rfl, by rw [hx]; rfl⟩ ?_)
    refine st_if_eq O dX7_two__5 (t := 21) rfl (q := 8) rfl (fun c5 => ?_) (fun c5 => ?_)
    · exact bad (by unfold f_two; rw [hx])
    exact absurd c5 (by decide)
  | some a =>
    cases hy : xi (gN σ) b0 with
    | none =>
      refine am_begin rfl ?_
      refine st_aloadn O dX7_two__0 rfl (q := 1) rfl ?_
      refine st_iloadn O dX7_two__1 rfl (q := 2) rfl ?_
      refine st_call O dX7_two__2 cs_X7_two__2 (q := 5) rfl (am_sipq rfl rfl rfl (Nat.le_of_ble_eq_true rfl) rfl (r := 1) ⟨_, gN σ, _, hn, rfl, rfl, by rw [hx]; rfl⟩ ?_)
      refine st_if_eq O dX7_two__5 (t := 21) rfl (q := 8) rfl (fun c5 => ?_) (fun c5 => ?_)
      · exact absurd c5 (by decide)
      refine st_aloadn O dX7_two__8 rfl (q := 9) rfl ?_
      refine st_iloadn O dX7_two__9 rfl (q := 10) rfl ?_
      refine st_call O dX7_two__10 cs_X7_two__10 (q := 13) rfl (am_sipq rfl rfl rfl (Nat.le_of_ble_eq_true rfl) rfl (r := 0) ⟨_, gN σ, _, hn, rfl, rfl, by rw [hy]; rfl⟩ ?_)
      refine st_if_eq O dX7_two__13 (t := 21) rfl (q := 16) rfl (fun c13 => ?_) (fun c13 => ?_)
      · exact bad (by unfold f_two; rw [hx, hy])
      exact absurd c13 (by decide)
    | some c =>
      by_cases hac : a = c
      · have bad := bad (by unfold f_two; rw [hx, hy]; exact if_pos hac)
        have hab : a0 = b0 := by rw [(xi_some hn hx).2, (xi_some hn hy).2, hac]
        refine am_begin rfl ?_
        refine st_aloadn O dX7_two__0 rfl (q := 1) rfl ?_
        refine st_iloadn O dX7_two__1 rfl (q := 2) rfl ?_
        refine st_call O dX7_two__2 cs_X7_two__2 (q := 5) rfl (am_sipq rfl rfl rfl (Nat.le_of_ble_eq_true rfl) rfl (r := 1) ⟨_, gN σ, _, hn, rfl, rfl, by rw [hx]; rfl⟩ ?_)
        refine st_if_eq O dX7_two__5 (t := 21) rfl (q := 8) rfl (fun c5 => ?_) (fun c5 => ?_)
        · exact absurd c5 (by decide)
        refine st_aloadn O dX7_two__8 rfl (q := 9) rfl ?_
        refine st_iloadn O dX7_two__9 rfl (q := 10) rfl ?_
        refine st_call O dX7_two__10 cs_X7_two__10 (q := 13) rfl (am_sipq rfl rfl rfl (Nat.le_of_ble_eq_true rfl) rfl (r := 1) ⟨_, gN σ, _, hn, rfl, rfl, by rw [hy]; rfl⟩ ?_)
        refine st_if_eq O dX7_two__13 (t := 21) rfl (q := 16) rfl (fun c13 => ?_) (fun c13 => ?_)
        · exact absurd c13 (by decide)
        refine st_iloadn O dX7_two__16 rfl (q := 17) rfl ?_
        refine st_iloadn O dX7_two__17 rfl (q := 18) rfl ?_
        refine st_icmp_ne O dX7_two__18 (t := 27) rfl (q := 21) rfl (fun c18 => ?_) (fun c18 => ?_)
        · exact absurd hab c18
        exact bad
      · rw [show f_two a0 b0 σ = (prI (ffU (stp (gb σ) (gw σ) (gk σ) (gf σ) (gl σ) (gq σ) a c) 0 4), σ) by unfold f_two; rw [hx, hy]; exact if_neg hac] at hK
        obtain ⟨ha, rfl⟩ := xi_some hn hx
        obtain ⟨hc, rfl⟩ := xi_some hn hy
        have hca : ¬ c = a := fun e => hac e.symm
        have hbd : ∀ i j, wtc (sim2 (gb σ) (gw σ) (gk σ) (gf σ) (gl σ) (gq σ) a c (i)) j ≤ 117 := fun i j => sim2_le hR ha hc
        generalize hP : stp (gb σ) (gw σ) (gk σ) (gf σ) (gl σ) (gq σ) a c = P at hK
        have body : ∀ x y, x < 2 → y < 2 → (P (2 * x + y) = true → ∀ D', IM σ D' → K [nI (10 * x + y)] D') → (P (2 * x + y) = false → ∀ aT iM tU aS cH lO kA fA hA lA pA tA vA oA eA xA nA gA wA uA, IM σ [.inl [nI (gN σ), nI (gb σ), nI (gw σ), nI σ.2.2.1.length, aT, nI σ.2.2.2.1.length, iM, tU, aS, cH, lO, bI false], .inr kA, .inr fA, .inr hA, .inr lA, .inr pA, .inr tA, .inr vA, .inr oA, .inr σ.2.2.2.2, .inr eA, .inr xA, .inr nA, .inr gA, .inr wA, .inr uA] → am_aw X 5 sh_Mod 101 [some (.inr 0), some (.inl (nI a)), some (.inl (nI c)), some (.inl (nI x)), some (.inl (nI y))] [] [.inl [nI (gN σ), nI (gb σ), nI (gw σ), nI σ.2.2.1.length, aT, nI σ.2.2.2.1.length, iM, tU, aS, cH, lO, bI false], .inr kA, .inr fA, .inr hA, .inr lA, .inr pA, .inr tA, .inr vA, .inr oA, .inr σ.2.2.2.2, .inr eA, .inr xA, .inr nA, .inr gA, .inr wA, .inr uA]) → ∀ aT iM tU aS cH lO kA fA hA lA pA tA vA oA eA xA nA gA wA uA, IM σ [.inl [nI (gN σ), nI (gb σ), nI (gw σ), nI σ.2.2.1.length, aT, nI σ.2.2.2.1.length, iM, tU, aS, cH, lO, bI false], .inr kA, .inr fA, .inr hA, .inr lA, .inr pA, .inr tA, .inr vA, .inr oA, .inr σ.2.2.2.2, .inr eA, .inr xA, .inr nA, .inr gA, .inr wA, .inr uA] → am_aw X 5 sh_Mod 43 [some (.inr 0), some (.inl (nI a)), some (.inl (nI c)), some (.inl (nI x)), some (.inl (nI y))] [] [.inl [nI (gN σ), nI (gb σ), nI (gw σ), nI σ.2.2.1.length, aT, nI σ.2.2.2.1.length, iM, tU, aS, cH, lO, bI false], .inr kA, .inr fA, .inr hA, .inr lA, .inr pA, .inr tA, .inr vA, .inr oA, .inr σ.2.2.2.2, .inr eA, .inr xA, .inr nA, .inr gA, .inr wA, .inr uA] := by
          intro x y hx2 hy2 kt kf aT iM tU aS cH lO kA fA hA lA pA tA vA oA eA xA nA gA wA uA hI
          obtain ⟨ex, ey⟩ := x2e x hx2 y hy2
          have hb1 := hbd (2 * x + y) a
          have hb2 := hbd (2 * (1 - x) + y) a
          have hb3 := hbd (2 * x + y) c
          have hb4 := hbd (2 * x + (1 - y)) c
          have hPv : P (2 * x + y) = (decide (wtc (sim2 (gb σ) (gw σ) (gk σ) (gf σ) (gl σ) (gq σ) a c (2 * x + y)) a ≤ wtc (sim2 (gb σ) (gw σ) (gk σ) (gf σ) (gl σ) (gq σ) a c (2 * (1 - x) + y)) a) && decide (wtc (sim2 (gb σ) (gw σ) (gk σ) (gf σ) (gl σ) (gq σ) a c (2 * x + y)) c ≤ wtc (sim2 (gb σ) (gw σ) (gk σ) (gf σ) (gl σ) (gq σ) a c (2 * x + (1 - y))) c)) := by
            rw [← hP]
            unfold stp
            rw [ex, ey]
          refine st_aloadn O dX7_two__43 rfl (q := 44) rfl ?_
          refine st_iloadn O dX7_two__44 rfl (q := 45) rfl ?_
          refine st_iloadn O dX7_two__45 rfl (q := 46) rfl ?_
          refine st_iloadn O dX7_two__46 rfl (q := 47) rfl ?_
          refine st_iload O dX7_two__47 rfl (q := 49) rfl ?_
          refine st_iconst O dX7_two__49 am_iconst_1 (q := 50) rfl ?_
          refine st_call O dX7_two__50 cs_X7_two__50 (q := 53) rfl (am_siq rfl rfl rfl (Nat.le_of_ble_eq_true rfl) rfl ?_)
          refine ⟨σ, a, c, x, y, true, hI, ha, hc, hca, hx2, hy2, rfl, fun D' hI1 => ?_⟩
          refine am_nrm rfl (im_put hI hI1) ?_
          obtain ⟨aT1, iM1, tU1, aS1, cH1, lO1, kA1, fA1, hA1, lA1, pA1, tA1, vA1, oA1, eA1, xA1, nA1, gA1, wA1, uA1, rfl, -⟩ := id hI1
          refine st_aloadn O dX7_two__53 rfl (q := 54) rfl ?_
          refine st_iloadn O dX7_two__54 rfl (q := 55) rfl ?_
          refine st_iloadn O dX7_two__55 rfl (q := 56) rfl ?_
          refine st_iconst O dX7_two__56 am_iconst_1 (q := 57) rfl ?_
          refine st_iloadn O dX7_two__57 rfl (q := 58) rfl ?_
          refine st_isub O dX7_two__58 (sub1t x hx2) (q := 59) rfl ?_
          refine st_iload O dX7_two__59 rfl (q := 61) rfl ?_
          refine st_iconst O dX7_two__61 am_iconst_1 (q := 62) rfl ?_
          refine st_call O dX7_two__62 cs_X7_two__62 (q := 65) rfl (am_siq rfl rfl rfl (Nat.le_of_ble_eq_true rfl) rfl ?_)
          refine ⟨σ, a, c, 1 - x, y, true, hI1, ha, hc, hca, by omega, hy2, rfl, fun D' hI2 => ?_⟩
          refine am_nrm rfl (im_put hI1 hI2) ?_
          obtain ⟨aT2, iM2, tU2, aS2, cH2, lO2, kA2, fA2, hA2, lA2, pA2, tA2, vA2, oA2, eA2, xA2, nA2, gA2, wA2, uA2, rfl, -⟩ := id hI2
          refine sn_icmp_gt O dX7_two__65 (t := 101) rfl (q := 68) rfl (Nat.lt_of_le_of_lt hb1 (by decide)) (Nat.lt_of_le_of_lt hb2 (by decide)) (fun c65 => ?_) (fun c65 => ?_)
          · first | exact kf (by rw [hPv, Bool.and_eq_false_iff]; exact Or.inl (decide_eq_false (Nat.not_le.mpr c65))) _ _ _ _ _ _ _ _ _ _ _ _ _ _ _ _ _ _ _ _ hI2 | exact kf (by rw [hPv, Bool.and_eq_false_iff]; exact Or.inr (decide_eq_false (Nat.not_le.mpr c90))) _ _ _ _ _ _ _ _ _ _ _ _ _ _ _ _ _ _ _ _ hI4
          refine st_aloadn O dX7_two__68 rfl (q := 69) rfl ?_
          refine st_iloadn O dX7_two__69 rfl (q := 70) rfl ?_
          refine st_iloadn O dX7_two__70 rfl (q := 71) rfl ?_
          refine st_iloadn O dX7_two__71 rfl (q := 72) rfl ?_
          refine st_iload O dX7_two__72 rfl (q := 74) rfl ?_
          refine st_iconst O dX7_two__74 am_iconst_0 (q := 75) rfl ?_
          refine st_call O dX7_two__75 cs_X7_two__75 (q := 78) rfl (am_siq rfl rfl rfl (Nat.le_of_ble_eq_true rfl) rfl ?_)
          refine ⟨σ, a, c, x, y, false, hI2, ha, hc, hca, hx2, hy2, rfl, fun D' hI3 => ?_⟩
          refine am_nrm rfl (im_put hI2 hI3) ?_
          obtain ⟨aT3, iM3, tU3, aS3, cH3, lO3, kA3, fA3, hA3, lA3, pA3, tA3, vA3, oA3, eA3, xA3, nA3, gA3, wA3, uA3, rfl, -⟩ := id hI3
          refine st_aloadn O dX7_two__78 rfl (q := 79) rfl ?_
          refine st_iloadn O dX7_two__79 rfl (q := 80) rfl ?_
          refine st_iloadn O dX7_two__80 rfl (q := 81) rfl ?_
          refine st_iloadn O dX7_two__81 rfl (q := 82) rfl ?_
          refine st_iconst O dX7_two__82 am_iconst_1 (q := 83) rfl ?_
          refine st_iload O dX7_two__83 rfl (q := 85) rfl ?_
          refine st_isub O dX7_two__85 (sub1t y hy2) (q := 86) rfl ?_
          refine st_iconst O dX7_two__86 am_iconst_0 (q := 87) rfl ?_
          refine st_call O dX7_two__87 cs_X7_two__87 (q := 90) rfl (am_siq rfl rfl rfl (Nat.le_of_ble_eq_true rfl) rfl ?_)
          refine ⟨σ, a, c, x, 1 - y, false, hI3, ha, hc, hca, hx2, by omega, rfl, fun D' hI4 => ?_⟩
          refine am_nrm rfl (im_put hI3 hI4) ?_
          obtain ⟨aT4, iM4, tU4, aS4, cH4, lO4, kA4, fA4, hA4, lA4, pA4, tA4, vA4, oA4, eA4, xA4, nA4, gA4, wA4, uA4, rfl, -⟩ := id hI4
          refine sn_icmp_gt O dX7_two__90 (t := 101) rfl (q := 93) rfl (Nat.lt_of_le_of_lt hb3 (by decide)) (Nat.lt_of_le_of_lt hb4 (by decide)) (fun c90 => ?_) (fun c90 => ?_)
          · first | exact kf (by rw [hPv, Bool.and_eq_false_iff]; exact Or.inl (decide_eq_false (Nat.not_le.mpr c65))) _ _ _ _ _ _ _ _ _ _ _ _ _ _ _ _ _ _ _ _ hI2 | exact kf (by rw [hPv, Bool.and_eq_false_iff]; exact Or.inr (decide_eq_false (Nat.not_le.mpr c90))) _ _ _ _ _ _ _ _ _ _ _ _ _ _ _ _ _ _ _ _ hI4
          refine st_bipush O dX7_two__93 am_bipush_10 (q := 95) rfl ?_
          refine st_iloadn O dX7_two__95 rfl (q := 96) rfl ?_
          refine st_imul O dX7_two__96 (pk_mul 10 x) (q := 97) rfl ?_
          refine st_iload O dX7_two__97 rfl (q := 99) rfl ?_
          refine st_iadd O dX7_two__99 (by first | exact nI_add _ _ | exact rfl) (q := 100) rfl ?_
          refine st_ireturn O dX7_two__100 ?_
          exact kt (by rw [hPv, Bool.and_eq_true]; exact ⟨decide_eq_true (by first | exact c65 | exact Nat.le_of_not_lt c65), decide_eq_true (by first | exact c90 | exact Nat.le_of_not_lt c90)⟩) _ hI4
        have hK0 : ∀ D', IM σ D' → K [prI (ffU P 0 4)] D' := hK
        have hK : ∀ i, i < 4 → (∀ j, j < i → P j = false) → P i = true → ∀ D', IM σ D' → K [nI (10 * (i / 2) + i % 2)] D' := by
          intro i hi hno hy D' hI'
          have h1 : ffU P 0 4 = some i := by
            rcases (by omega : i = 0 ∨ i = 1 ∨ i = 2 ∨ i = 3) with rfl | rfl | rfl | rfl
            · rw [ffU_s, if_pos hy]
            · rw [ffU_s, if_neg (by rw [hno 0 (by decide)]; decide), ffU_s, if_pos hy]
            · rw [ffU_s, if_neg (by rw [hno 0 (by decide)]; decide), ffU_s, if_neg (by rw [hno 1 (by decide)]; decide), ffU_s, if_pos hy]
            · rw [ffU_s, if_neg (by rw [hno 0 (by decide)]; decide), ffU_s, if_neg (by rw [hno 1 (by decide)]; decide), ffU_s, if_neg (by rw [hno 2 (by decide)]; decide), ffU_s, if_pos hy]
          have := hK D' hI'
          rw [h1] at this
          exact this
        have hKn : (∀ j, j < 4 → P j = false) → ∀ D', IM σ D' → K [-9] D' := by
          intro hno D' hI'
          have h1 : ffU P 0 4 = none := by
            rw [ffU_s, if_neg (by rw [hno 0 (by decide)]; decide), ffU_s, if_neg (by rw [hno 1 (by decide)]; decide), ffU_s, if_neg (by rw [hno 2 (by decide)]; decide), ffU_s, if_neg (by rw [hno 3 (by decide)]; decide)]
            rfl
          have := hK0 D' hI'
          rw [h1] at this
          exact this
        have s3 : P 0 = false → P 1 = false → P 2 = false → ∀ aT iM tU aS cH lO kA fA hA lA pA tA vA oA eA xA nA gA wA uA, IM σ [.inl [nI (gN σ), nI (gb σ), nI (gw σ), nI σ.2.2.1.length, aT, nI σ.2.2.2.1.length, iM, tU, aS, cH, lO, bI false], .inr kA, .inr fA, .inr hA, .inr lA, .inr pA, .inr tA, .inr vA, .inr oA, .inr σ.2.2.2.2, .inr eA, .inr xA, .inr nA, .inr gA, .inr wA, .inr uA] → am_aw X 5 sh_Mod 43 [some (.inr 0), some (.inl (nI a)), some (.inl (nI c)), some (.inl (nI 1)), some (.inl (nI 1))] [] [.inl [nI (gN σ), nI (gb σ), nI (gw σ), nI σ.2.2.1.length, aT, nI σ.2.2.2.1.length, iM, tU, aS, cH, lO, bI false], .inr kA, .inr fA, .inr hA, .inr lA, .inr pA, .inr tA, .inr vA, .inr oA, .inr σ.2.2.2.2, .inr eA, .inr xA, .inr nA, .inr gA, .inr wA, .inr uA] := by
          intro z0 z1 z2
          refine body 1 1 (by decide) (by decide) (fun hy => hK 3 (by decide) (fun j hj => by rcases (by omega : j = 0 ∨ j = 1 ∨ j = 2) with rfl | rfl | rfl; exact z0; exact z1; exact z2) hy) (fun z3 => ?_)
          intro aT iM tU aS cH lO kA fA hA lA pA tA vA oA eA xA nA gA wA uA hI
          refine st_iinc O dX7_two__101 rfl (by first | exact am_ii1 _ | exact rfl) rfl (q := 104) rfl ?_
          refine st_goto O dX7_two__104 (t := 37) rfl ?_
          refine st_iload O dX7_two__37 rfl (q := 39) rfl ?_
          refine st_iconst O dX7_two__39 am_iconst_2 (q := 40) rfl ?_
          refine st_icmp_ge O dX7_two__40 (t := 107) rfl (q := 43) rfl (fun c40 => ?_) (fun c40 => ?_)
          · refine st_iinc O dX7_two__107 rfl (by first | exact am_ii1 _ | exact rfl) rfl (q := 110) rfl ?_
            refine st_goto O dX7_two__110 (t := 29) rfl ?_
            refine st_iloadn O dX7_two__29 rfl (q := 30) rfl ?_
            refine st_iconst O dX7_two__30 am_iconst_2 (q := 31) rfl ?_
            refine st_icmp_ge O dX7_two__31 (t := 113) rfl (q := 34) rfl (fun c31 => ?_) (fun c31 => ?_)
            · refine st_bipush O dX7_two__113 am_bipush_m9 (q := 115) rfl ?_
              refine st_ireturn O dX7_two__115 ?_
              exact hKn (fun j hj => by rcases (by omega : j = 0 ∨ j = 1 ∨ j = 2 ∨ j = 3) with rfl | rfl | rfl | rfl; exact z0; exact z1; exact z2; exact z3) _ hI
            exact absurd c31 (by decide)
          exact absurd c40 (by decide)
        have s2 : P 0 = false → P 1 = false → ∀ aT iM tU aS cH lO kA fA hA lA pA tA vA oA eA xA nA gA wA uA, IM σ [.inl [nI (gN σ), nI (gb σ), nI (gw σ), nI σ.2.2.1.length, aT, nI σ.2.2.2.1.length, iM, tU, aS, cH, lO, bI false], .inr kA, .inr fA, .inr hA, .inr lA, .inr pA, .inr tA, .inr vA, .inr oA, .inr σ.2.2.2.2, .inr eA, .inr xA, .inr nA, .inr gA, .inr wA, .inr uA] → am_aw X 5 sh_Mod 43 [some (.inr 0), some (.inl (nI a)), some (.inl (nI c)), some (.inl (nI 1)), some (.inl (nI 0))] [] [.inl [nI (gN σ), nI (gb σ), nI (gw σ), nI σ.2.2.1.length, aT, nI σ.2.2.2.1.length, iM, tU, aS, cH, lO, bI false], .inr kA, .inr fA, .inr hA, .inr lA, .inr pA, .inr tA, .inr vA, .inr oA, .inr σ.2.2.2.2, .inr eA, .inr xA, .inr nA, .inr gA, .inr wA, .inr uA] := by
          intro z0 z1
          refine body 1 0 (by decide) (by decide) (fun hy => hK 2 (by decide) (fun j hj => by rcases (by omega : j = 0 ∨ j = 1) with rfl | rfl; exact z0; exact z1) hy) (fun z2 => ?_)
          intro aT iM tU aS cH lO kA fA hA lA pA tA vA oA eA xA nA gA wA uA hI
          refine st_iinc O dX7_two__101 rfl (by first | exact am_ii1 _ | exact rfl) rfl (q := 104) rfl ?_
          refine st_goto O dX7_two__104 (t := 37) rfl ?_
          refine st_iload O dX7_two__37 rfl (q := 39) rfl ?_
          refine st_iconst O dX7_two__39 am_iconst_2 (q := 40) rfl ?_
          refine st_icmp_ge O dX7_two__40 (t := 107) rfl (q := 43) rfl (fun c40 => ?_) (fun c40 => ?_)
          · exact absurd c40 (by decide)
          exact s3 z0 z1 z2 _ _ _ _ _ _ _ _ _ _ _ _ _ _ _ _ _ _ _ _ hI
        have s1 : P 0 = false → ∀ aT iM tU aS cH lO kA fA hA lA pA tA vA oA eA xA nA gA wA uA, IM σ [.inl [nI (gN σ), nI (gb σ), nI (gw σ), nI σ.2.2.1.length, aT, nI σ.2.2.2.1.length, iM, tU, aS, cH, lO, bI false], .inr kA, .inr fA, .inr hA, .inr lA, .inr pA, .inr tA, .inr vA, .inr oA, .inr σ.2.2.2.2, .inr eA, .inr xA, .inr nA, .inr gA, .inr wA, .inr uA] → am_aw X 5 sh_Mod 43 [some (.inr 0), some (.inl (nI a)), some (.inl (nI c)), some (.inl (nI 0)), some (.inl (nI 1))] [] [.inl [nI (gN σ), nI (gb σ), nI (gw σ), nI σ.2.2.1.length, aT, nI σ.2.2.2.1.length, iM, tU, aS, cH, lO, bI false], .inr kA, .inr fA, .inr hA, .inr lA, .inr pA, .inr tA, .inr vA, .inr oA, .inr σ.2.2.2.2, .inr eA, .inr xA, .inr nA, .inr gA, .inr wA, .inr uA] := by
          intro z0
          refine body 0 1 (by decide) (by decide) (fun hy => hK 1 (by decide) (fun j hj => by rw [show j = 0 by omega]; exact z0) hy) (fun z1 => ?_)
          intro aT iM tU aS cH lO kA fA hA lA pA tA vA oA eA xA nA gA wA uA hI
          refine st_iinc O dX7_two__101 rfl (by first | exact am_ii1 _ | exact rfl) rfl (q := 104) rfl ?_
          refine st_goto O dX7_two__104 (t := 37) rfl ?_
          refine st_iload O dX7_two__37 rfl (q := 39) rfl ?_
          refine st_iconst O dX7_two__39 am_iconst_2 (q := 40) rfl ?_
          refine st_icmp_ge O dX7_two__40 (t := 107) rfl (q := 43) rfl (fun c40 => ?_) (fun c40 => ?_)
          · refine st_iinc O dX7_two__107 rfl (by first | exact am_ii1 _ | exact rfl) rfl (q := 110) rfl ?_
            refine st_goto O dX7_two__110 (t := 29) rfl ?_
            refine st_iloadn O dX7_two__29 rfl (q := 30) rfl ?_
            refine st_iconst O dX7_two__30 am_iconst_2 (q := 31) rfl ?_
            refine st_icmp_ge O dX7_two__31 (t := 113) rfl (q := 34) rfl (fun c31 => ?_) (fun c31 => ?_)
            · exact absurd c31 (by decide)
            refine id ?_
            refine st_iconst O dX7_two__34 am_iconst_0 (q := 35) rfl ?_
            refine st_istore O dX7_two__35 rfl (q := 37) rfl ?_
            refine st_iload O dX7_two__37 rfl (q := 39) rfl ?_
            refine st_iconst O dX7_two__39 am_iconst_2 (q := 40) rfl ?_
            refine st_icmp_ge O dX7_two__40 (t := 107) rfl (q := 43) rfl (fun c40 => ?_) (fun c40 => ?_)
            · exact absurd c40 (by decide)
            exact s2 z0 z1 _ _ _ _ _ _ _ _ _ _ _ _ _ _ _ _ _ _ _ _ hI
          exact absurd c40 (by decide)
        have s0 := body 0 0 (by decide) (by decide) (fun hy => hK 0 (by decide) (fun j hj => absurd hj (Nat.not_lt_zero j)) hy) (fun z0 => by
          intro aT iM tU aS cH lO kA fA hA lA pA tA vA oA eA xA nA gA wA uA hI
          refine st_iinc O dX7_two__101 rfl (by first | exact am_ii1 _ | exact rfl) rfl (q := 104) rfl ?_
          refine st_goto O dX7_two__104 (t := 37) rfl ?_
          refine st_iload O dX7_two__37 rfl (q := 39) rfl ?_
          refine st_iconst O dX7_two__39 am_iconst_2 (q := 40) rfl ?_
          refine st_icmp_ge O dX7_two__40 (t := 107) rfl (q := 43) rfl (fun c40 => ?_) (fun c40 => ?_)
          · exact absurd c40 (by decide)
          exact s1 z0 _ _ _ _ _ _ _ _ _ _ _ _ _ _ _ _ _ _ _ _ hI
          )
        refine am_begin rfl ?_
        refine st_aloadn O dX7_two__0 rfl (q := 1) rfl ?_
        refine st_iloadn O dX7_two__1 rfl (q := 2) rfl ?_
        refine st_call O dX7_two__2 cs_X7_two__2 (q := 5) rfl (am_sipq rfl rfl rfl (Nat.le_of_ble_eq_true rfl) rfl (r := 1) ⟨_, gN σ, _, hn, rfl, rfl, by rw [hx]; rfl⟩ ?_)
        refine st_if_eq O dX7_two__5 (t := 21) rfl (q := 8) rfl (fun c5 => ?_) (fun c5 => ?_)
        · exact absurd c5 (by decide)
        refine st_aloadn O dX7_two__8 rfl (q := 9) rfl ?_
        refine st_iloadn O dX7_two__9 rfl (q := 10) rfl ?_
        refine st_call O dX7_two__10 cs_X7_two__10 (q := 13) rfl (am_sipq rfl rfl rfl (Nat.le_of_ble_eq_true rfl) rfl (r := 1) ⟨_, gN σ, _, hn, rfl, rfl, by rw [hy]; rfl⟩ ?_)
        refine st_if_eq O dX7_two__13 (t := 21) rfl (q := 16) rfl (fun c13 => ?_) (fun c13 => ?_)
        · exact absurd c13 (by decide)
        refine st_iloadn O dX7_two__16 rfl (q := 17) rfl ?_
        refine st_iloadn O dX7_two__17 rfl (q := 18) rfl ?_
        refine st_icmp_ne O dX7_two__18 (t := 27) rfl (q := 21) rfl (fun c18 => ?_) (fun c18 => ?_)
        · refine st_iconst O dX7_two__27 am_iconst_0 (q := 28) rfl ?_
          refine st_istoren O dX7_two__28 rfl (q := 29) rfl ?_
          refine st_iloadn O dX7_two__29 rfl (q := 30) rfl ?_
          refine st_iconst O dX7_two__30 am_iconst_2 (q := 31) rfl ?_
          refine st_icmp_ge O dX7_two__31 (t := 113) rfl (q := 34) rfl (fun c31 => ?_) (fun c31 => ?_)
          · exact absurd c31 (by decide)
          refine st_iconst O dX7_two__34 am_iconst_0 (q := 35) rfl ?_
          refine st_istore O dX7_two__35 rfl (q := 37) rfl ?_
          refine st_iload O dX7_two__37 rfl (q := 39) rfl ?_
          refine st_iconst O dX7_two__39 am_iconst_2 (q := 40) rfl ?_
          refine st_icmp_ge O dX7_two__40 (t := 107) rfl (q := 43) rfl (fun c40 => ?_) (fun c40 => ?_)
          · exact absurd c40 (by decide)
          exact s0 _ _ _ _ _ _ _ _ _ _ _ _ _ _ _ _ _ _ _ _ hI
        exact absurd ((nI_eq (by omega) (by omega)).mp c18) hac
theorem C_X7_two_ : am_ctr yX7_two_ cX7_two_ 5 (some .int) 4 100 sh_Mod [some 0, none, none] T_X7_two_ := am_mk (by decide) (Or.inr (Or.inl ⟨rfl, rfl⟩)) (by decide) (by decide) (by decide) fl_X7_ok kc_X7_ok ck_X7_two_ B_X7_two_
theorem gpF_val {L : List (Nat × Nat × Nat)} : ∀ m, (gpF L m).1 = none → (gpF L m).2 = 0
  | 0, _ => rfl
  | m + 1, h => by
    unfold gpF at h ⊢
    split at h
    · cases h
    next hc => rw [if_neg hc]; exact gpF_val m h
def cs_X7_gap : Nat → List am_V → am_D → am_K → Prop := am_cs [(3, am_site 3 [none, none, none] T_X7_within [] []), (12, am_site 2 [some 0, none] T_X7_no [0, 9] [0, 9, 1, 2, 3, 4, 5, 6, 7, 8, 10, 11, 12, 13, 14, 15]), (17, am_site 1 [some 0] T_X7_run [0, 1, 2, 4, 5, 13, 14, 15] [0, 1, 2, 4, 5, 13, 14, 15, 3, 6, 7, 8, 9, 10, 11, 12])]
theorem cs_X7_gap_3 : cs_X7_gap 3 = am_site 3 [none, none, none] T_X7_within [] [] := rfl
theorem cs_X7_gap_12 : cs_X7_gap 12 = am_site 2 [some 0, none] T_X7_no [0, 9] [0, 9, 1, 2, 3, 4, 5, 6, 7, 8, 10, 11, 12, 13, 14, 15] := rfl
theorem cs_X7_gap_17 : cs_X7_gap 17 = am_site 1 [some 0] T_X7_run [0, 1, 2, 4, 5, 13, 14, 15] [0, 1, 2, 4, 5, 13, 14, 15, 3, 6, 7, 8, 9, 10, 11, 12] := rfl
theorem ck_X7_gap : ∀ X : am_X, am_cx X RX7 cX7_gap 6 3 75 → ∀ pc, am_csok X 6 sh_Mod pc (cs_X7_gap pc) := fun X hX => am_cs_ok (List.forall_mem_cons.mpr ⟨am_callS hX C_X7_within mo_X7_within rfl lk_X7_62 dX7_gap_3 rfl (by decide), List.forall_mem_cons.mpr ⟨am_callV hX C_X7_no mo_X7_no rfl lk_X7_66 dX7_gap_12 rfl rfl rfl (by decide), List.forall_mem_cons.mpr ⟨am_callV hX C_X7_run mo_X7_run rfl lk_X7_161 dX7_gap_17 rfl rfl rfl (by decide), fun _ h => absurd h List.not_mem_nil⟩⟩⟩)
abbrev ok_X7_gap (X : am_X) (K : List Int32 → am_D → Prop) : Prop := am_ok X RX7 cX7_gap 6 sh_Mod fl_X7 kc_X7 none 1 cs_X7_gap K
abbrev aw_X7_gap (X : am_X) (pc : Nat) (ls : am_L) (st : List am_V) (D : am_D) : Prop := am_aw X 6 sh_Mod pc ls st D
abbrev T_X7_gap : am_TT := am_s1 IM f_gap
set_option maxHeartbeats 200000 in
theorem B_X7_gap : ∀ (X : am_X) (is : List Int32) (D : am_D) (K : List Int32 → am_D → Prop), ok_X7_gap X K → T_X7_gap is D K → is.length = (List.filter Option.isNone ([some 0, none] : List (Option Nat))).length → D.length = sh_Mod.length → am_aw X 6 sh_Mod 0 (am_l0 6 [some 0, none] is) [] D := by
  intro X is D K O hT _ _
  obtain ⟨σ, a, ⟨aT, iM, tU, aS, cH, lO, kA, fA, hA, lA, pA, tA, vA, oA, eA, xA, nA, gA, wA, uA, rfl, hR, ht, ho, hk⟩, rfl, hK⟩ := hT
  obtain ⟨hb, hw, hp, hj, hL⟩ := id hR
  have hn : gN σ ≤ 9 := hL.1
  have eN : gN σ = σ.1.1 := rfl
  obtain ⟨q1, q2, q3⟩ := gL_ok hn hp (fun j h => (hj j h).2.2.2)
  have g4 := simA_117 (n := gN σ) (b := gb σ) (kd := gk σ) (fg := gf σ) (la := gl σ) hn hw hp 0
  have g5 := gpF_le (L := gL σ) (wt_117 g4)
  by_cases h01 : a = 0 ∨ a = 1
  · rw [show f_gap a σ = if a = 0 then (nI (gpF (gL σ) ((gL σ).length - 1)).2, σ) else (oI (gpF (gL σ) ((gL σ).length - 1)).1, σ) from if_pos h01] at hK
    have loop : ∀ gA wA uA aS cH lO, pO (gL σ) gA wA uA → ∀ d m y5, (gL σ).length - 1 - m = d → m ≤ (gL σ).length - 1 → am_aw X 6 sh_Mod 28 [some (.inr 0), some (.inl a), some (.inl (nI (gpF (gL σ) m).2)), some (.inl (oI (gpF (gL σ) m).1)), some (.inl (nI m)), y5] [] [.inl [nI (gN σ), nI (gb σ), nI (gw σ), nI σ.2.2.1.length, aT, nI σ.2.2.2.1.length, iM, nI (gL σ).length, aS, cH, lO, bI false], .inr kA, .inr fA, .inr hA, .inr lA, .inr pA, .inr tA, .inr vA, .inr oA, .inr σ.2.2.2.2, .inr eA, .inr xA, .inr nA, .inr gA, .inr wA, .inr uA] := by
      intro gA wA uA aS cH lO hO d
      induction d with
      | zero =>
        intro m y5 hd hm
        have e : m = (gL σ).length - 1 := by omega
        subst e
        refine st_iload O dX7_gap_28 rfl (q := 30) rfl ?_
        refine st_iconst O dX7_gap_30 am_iconst_1 (q := 31) rfl ?_
        refine st_iadd O dX7_gap_31 (by first | exact nI_add _ _ | exact rfl) (q := 32) rfl ?_
        refine st_aloadn O dX7_gap_32 rfl (q := 33) rfl ?_
        refine st_geti O dX7_gap_33 fl_X7_146 rfl rfl rfl rfl (q := 36) rfl ?_
        refine sn_icmp_ge O dX7_gap_36 (t := 89) rfl (q := 39) rfl (by omega) (show (gL σ).length < 2 ^ 31 by omega) (fun c36 => ?_) (fun c36 => ?_)
        · refine st_iloadn O dX7_gap_89 rfl (q := 90) rfl ?_
          refine st_if_ne O dX7_gap_90 (t := 97) rfl (q := 93) rfl (fun c90 => ?_) (fun c90 => ?_)
          · refine st_iloadn O dX7_gap_97 rfl (q := 98) rfl ?_
            refine st_ireturn O dX7_gap_98 ?_
            first | (rw [if_pos (by first | exact c90 | exact Decidable.of_not_not c90)] at hK; exact hK _ ⟨_, _, _, _, _, _, _, _, _, _, _, _, _, _, _, _, _, _, _, _, rfl, hR, ht, ho, hk⟩) | (rw [if_neg c90] at hK; exact hK _ ⟨_, _, _, _, _, _, _, _, _, _, _, _, _, _, _, _, _, _, _, _, rfl, hR, ht, ho, hk⟩)
          refine st_iloadn O dX7_gap_93 rfl (q := 94) rfl ?_
          refine st_goto O dX7_gap_94 (t := 98) rfl ?_
          refine st_ireturn O dX7_gap_98 ?_
          first | (rw [if_pos (by first | exact c90 | exact Decidable.of_not_not c90)] at hK; exact hK _ ⟨_, _, _, _, _, _, _, _, _, _, _, _, _, _, _, _, _, _, _, _, rfl, hR, ht, ho, hk⟩) | (rw [if_neg c90] at hK; exact hK _ ⟨_, _, _, _, _, _, _, _, _, _, _, _, _, _, _, _, _, _, _, _, rfl, hR, ht, ho, hk⟩)
        exact absurd c36 (show ¬ (gL σ).length - 1 + 1 < (gL σ).length by omega)
      | succ d ih =>
        intro m y5 hd hm
        have hlen : m + 1 < (gL σ).length := by omega
        have hml : m < (gL σ).length := by omega
        have r1 := wt_inc hlen
        have r2 := wt_117 g4 (m + 1)
        obtain ⟨r3, r4⟩ := g5 m
        have e1 := (ln_lane q1 hlen).1
        have e2 := (ln_lane q1 hml).1
        have ih := fun y5 => ih (m + 1) y5 (by omega) (by omega)
        unfold gpF at ih
        have hsub : nI (wt_ (gL σ) (m + 1)) - nI (wt_ (gL σ) m) = nI (wt_ (gL σ) (m + 1) - wt_ (gL σ) m) := pk_sub (Nat.le_of_lt r1)
        have hiff : ((gpF (gL σ) m).1 = none ∨ (gpF (gL σ) m).2 < wt_ (gL σ) (m + 1) - wt_ (gL σ) m) ↔ (gpF (gL σ) m).2 < wt_ (gL σ) (m + 1) - wt_ (gL σ) m := ⟨fun h => h.elim (fun e => by rw [gpF_val m e]; exact Nat.sub_pos_of_lt r1) id, Or.inr⟩
        by_cases hc : (gpF (gL σ) m).2 < wt_ (gL σ) (m + 1) - wt_ (gL σ) m
        · simp only [if_pos (hiff.mpr hc)] at ih
          refine st_iload O dX7_gap_28 rfl (q := 30) rfl ?_
          refine st_iconst O dX7_gap_30 am_iconst_1 (q := 31) rfl ?_
          refine st_iadd O dX7_gap_31 (by first | exact nI_add _ _ | exact rfl) (q := 32) rfl ?_
          refine st_aloadn O dX7_gap_32 rfl (q := 33) rfl ?_
          refine st_geti O dX7_gap_33 fl_X7_146 rfl rfl rfl rfl (q := 36) rfl ?_
          refine sn_icmp_ge O dX7_gap_36 (t := 89) rfl (q := 39) rfl (by omega) (show (gL σ).length < 2 ^ 31 by omega) (fun c36 => ?_) (fun c36 => ?_)
          · exact absurd c36 (by show ¬ (gL σ).length ≤ m + 1; omega)
          refine st_aloadn O dX7_gap_39 rfl (q := 40) rfl ?_
          refine st_getr O dX7_gap_40 fl_X7_49 rfl rfl rfl (q := 43) rfl ?_
          refine st_aloadn O dX7_gap_43 rfl (q := 44) rfl ?_
          refine st_getr O dX7_gap_44 fl_X7_46 rfl rfl rfl (q := 47) rfl ?_
          refine st_iload O dX7_gap_47 rfl (q := 49) rfl ?_
          refine st_iconst O dX7_gap_49 am_iconst_1 (q := 50) rfl ?_
          refine st_iadd O dX7_gap_50 (by first | exact nI_add _ _ | exact rfl) (q := 51) rfl ?_
          refine sn_ald O dX7_gap_51 rfl rfl rfl ⟨by omega, by decide⟩ (pO_o (L := gL σ) hO hlen) (q := 52) rfl ?_
          refine sn_ald O dX7_gap_52 rfl rfl rfl ⟨(show cr_ (gL σ) (m + 1) < 9 by omega), by decide⟩ (pO_w (L := gL σ) hO hlen) (q := 53) rfl ?_
          refine st_aloadn O dX7_gap_53 rfl (q := 54) rfl ?_
          refine st_getr O dX7_gap_54 fl_X7_49 rfl rfl rfl (q := 57) rfl ?_
          refine st_aloadn O dX7_gap_57 rfl (q := 58) rfl ?_
          refine st_getr O dX7_gap_58 fl_X7_46 rfl rfl rfl (q := 61) rfl ?_
          refine st_iload O dX7_gap_61 rfl (q := 63) rfl ?_
          refine sn_ald O dX7_gap_63 rfl rfl rfl ⟨by omega, by decide⟩ (pO_o (L := gL σ) hO hml) (q := 64) rfl ?_
          refine sn_ald O dX7_gap_64 rfl rfl rfl ⟨(show cr_ (gL σ) m < 9 by omega), by decide⟩ (pO_w (L := gL σ) hO hml) (q := 65) rfl ?_
          refine st_isub O dX7_gap_65 hsub (q := 66) rfl ?_
          refine st_istore O dX7_gap_66 rfl (q := 68) rfl ?_
          refine st_iload O dX7_gap_68 rfl (q := 70) rfl ?_
          refine st_iloadn O dX7_gap_70 rfl (q := 71) rfl ?_
          refine sn_icmp_gt O dX7_gap_71 (t := 77) rfl (q := 74) rfl (Nat.lt_of_le_of_lt (Nat.sub_le _ _) (Nat.lt_of_le_of_lt r2 (by decide))) (by omega) (fun c71 => ?_) (fun c71 => ?_)
          · refine st_iload O dX7_gap_77 rfl (q := 79) rfl ?_
            refine st_istoren O dX7_gap_79 rfl (q := 80) rfl ?_
            refine st_iload O dX7_gap_80 rfl (q := 82) rfl ?_
            refine st_istoren O dX7_gap_82 rfl (q := 83) rfl ?_
            refine st_iinc O dX7_gap_83 rfl (by first | exact am_ii1 _ | exact rfl) rfl (q := 86) rfl ?_
            refine st_goto O dX7_gap_86 (t := 28) rfl ?_
            exact ih _
          exact absurd hc (Nat.not_lt.mpr c71)
        · simp only [if_neg (fun z => hc (hiff.mp z))] at ih
          refine st_iload O dX7_gap_28 rfl (q := 30) rfl ?_
          refine st_iconst O dX7_gap_30 am_iconst_1 (q := 31) rfl ?_
          refine st_iadd O dX7_gap_31 (by first | exact nI_add _ _ | exact rfl) (q := 32) rfl ?_
          refine st_aloadn O dX7_gap_32 rfl (q := 33) rfl ?_
          refine st_geti O dX7_gap_33 fl_X7_146 rfl rfl rfl rfl (q := 36) rfl ?_
          refine sn_icmp_ge O dX7_gap_36 (t := 89) rfl (q := 39) rfl (by omega) (show (gL σ).length < 2 ^ 31 by omega) (fun c36 => ?_) (fun c36 => ?_)
          · exact absurd c36 (by show ¬ (gL σ).length ≤ m + 1; omega)
          refine st_aloadn O dX7_gap_39 rfl (q := 40) rfl ?_
          refine st_getr O dX7_gap_40 fl_X7_49 rfl rfl rfl (q := 43) rfl ?_
          refine st_aloadn O dX7_gap_43 rfl (q := 44) rfl ?_
          refine st_getr O dX7_gap_44 fl_X7_46 rfl rfl rfl (q := 47) rfl ?_
          refine st_iload O dX7_gap_47 rfl (q := 49) rfl ?_
          refine st_iconst O dX7_gap_49 am_iconst_1 (q := 50) rfl ?_
          refine st_iadd O dX7_gap_50 (by first | exact nI_add _ _ | exact rfl) (q := 51) rfl ?_
          refine sn_ald O dX7_gap_51 rfl rfl rfl ⟨by omega, by decide⟩ (pO_o (L := gL σ) hO hlen) (q := 52) rfl ?_
          refine sn_ald O dX7_gap_52 rfl rfl rfl ⟨(show cr_ (gL σ) (m + 1) < 9 by omega), by decide⟩ (pO_w (L := gL σ) hO hlen) (q := 53) rfl ?_
          refine st_aloadn O dX7_gap_53 rfl (q := 54) rfl ?_
          refine st_getr O dX7_gap_54 fl_X7_49 rfl rfl rfl (q := 57) rfl ?_
          refine st_aloadn O dX7_gap_57 rfl (q := 58) rfl ?_
          refine st_getr O dX7_gap_58 fl_X7_46 rfl rfl rfl (q := 61) rfl ?_
          refine st_iload O dX7_gap_61 rfl (q := 63) rfl ?_
          refine sn_ald O dX7_gap_63 rfl rfl rfl ⟨by omega, by decide⟩ (pO_o (L := gL σ) hO hml) (q := 64) rfl ?_
          refine sn_ald O dX7_gap_64 rfl rfl rfl ⟨(show cr_ (gL σ) m < 9 by omega), by decide⟩ (pO_w (L := gL σ) hO hml) (q := 65) rfl ?_
          refine st_isub O dX7_gap_65 hsub (q := 66) rfl ?_
          refine st_istore O dX7_gap_66 rfl (q := 68) rfl ?_
          refine st_iload O dX7_gap_68 rfl (q := 70) rfl ?_
          refine st_iloadn O dX7_gap_70 rfl (q := 71) rfl ?_
          refine sn_icmp_gt O dX7_gap_71 (t := 77) rfl (q := 74) rfl (Nat.lt_of_le_of_lt (Nat.sub_le _ _) (Nat.lt_of_le_of_lt r2 (by decide))) (by omega) (fun c71 => ?_) (fun c71 => ?_)
          · exact absurd c71 hc
          refine st_goto O dX7_gap_74 (t := 83) rfl ?_
          refine st_iinc O dX7_gap_83 rfl (by first | exact am_ii1 _ | exact rfl) rfl (q := 86) rfl ?_
          refine st_goto O dX7_gap_86 (t := 28) rfl ?_
          exact ih _
    refine am_begin rfl ?_
    refine st_iloadn O dX7_gap_0 rfl (q := 1) rfl ?_
    refine st_iconst O dX7_gap_1 am_iconst_0 (q := 2) rfl ?_
    refine st_iconst O dX7_gap_2 am_iconst_1 (q := 3) rfl ?_
    refine st_callS O dX7_gap_3 cs_X7_gap_3 (q := 6) rfl (am_sipq rfl rfl rfl (Nat.le_of_ble_eq_true rfl) rfl (r := 1) ⟨_, _, _, rfl, wiT h01⟩ ?_)
    refine st_if_ne O dX7_gap_6 (t := 16) rfl (q := 9) rfl (fun c6 => ?_) (fun c6 => ?_)
    · refine st_aloadn O dX7_gap_16 rfl (q := 17) rfl ?_
      refine st_call O dX7_gap_17 cs_X7_gap_17 (q := 20) rfl (am_siq rfl rfl rfl (Nat.le_of_ble_eq_true rfl) rfl ?_)
      refine ⟨gN σ, gb σ, gw σ, _, _, _, _, _, _, _, _, false, gk σ, gf σ, (fun z => qu (gl σ) (gq σ) z 0), _, _, _, _, _, _, _, rfl, rfl, hb, hR.k2, hL, fun gA' wA' uA' hO => ?_⟩
      refine am_nrp rfl rfl rfl rfl ?_
      rw [gL_smw σ] at hO ⊢
      refine st_iconst O dX7_gap_20 am_iconst_0 (q := 21) rfl ?_
      refine st_istoren O dX7_gap_21 rfl (q := 22) rfl ?_
      refine st_bipush O dX7_gap_22 am_bipush_m9 (q := 24) rfl ?_
      refine st_istoren O dX7_gap_24 rfl (q := 25) rfl ?_
      refine st_iconst O dX7_gap_25 am_iconst_0 (q := 26) rfl ?_
      refine st_istore O dX7_gap_26 rfl (q := 28) rfl ?_
      exact loop _ _ _ _ _ _ hO _ 0 _ rfl (Nat.zero_le _)
    exact absurd c6 (by decide)
  · refine am_begin rfl ?_
    refine st_iloadn O dX7_gap_0 rfl (q := 1) rfl ?_
    refine st_iconst O dX7_gap_1 am_iconst_0 (q := 2) rfl ?_
    refine st_iconst O dX7_gap_2 am_iconst_1 (q := 3) rfl ?_
    refine st_callS O dX7_gap_3 cs_X7_gap_3 (q := 6) rfl (am_sipq rfl rfl rfl (Nat.le_of_ble_eq_true rfl) rfl (r := 0) ⟨_, _, _, rfl, wiF h01⟩ ?_)
    refine st_if_ne O dX7_gap_6 (t := 16) rfl (q := 9) rfl (fun c6 => ?_) (fun c6 => ?_)
    · exact absurd c6 (by decide)
    refine st_aloadn O dX7_gap_9 rfl (q := 10) rfl ?_
    refine st_bipush O dX7_gap_10 am_bipush_m2 (q := 12) rfl ?_
    refine st_call O dX7_gap_12 cs_X7_gap_12 (q := 15) rfl (am_siq rfl rfl rfl (Nat.le_of_ble_eq_true rfl) rfl ?_)
    refine ⟨_, _, 2, by decide, by decide, rfl, rfl, ?_⟩
    refine am_nrq rfl rfl ?_
    rw [show f_gap a σ = rfs 2 σ from if_neg h01] at hK
    exact st_ireturn O dX7_gap_15 (hK _ ⟨_, _, _, _, _, _, _, _, _, _, _, _, _, _, _, _, _, _, _, _, rfl, hR, ht, ho, hk⟩)
theorem C_X7_gap : am_ctr yX7_gap cX7_gap 6 (some .int) 3 75 sh_Mod [some 0, none] T_X7_gap := am_mk (by decide) (Or.inr (Or.inl ⟨rfl, rfl⟩)) (by decide) (by decide) (by decide) fl_X7_ok kc_X7_ok ck_X7_gap B_X7_gap
def evI (d : Nat) : Int32 := if d = 0 then -1 else nI (d - 1)
theorem evI_s (d : Nat) : nI d + Int32.ofInt (-1) = evI d := by
  unfold evI
  by_cases h : d = 0
  · rw [if_pos h, h]; decide
  · rw [if_neg h]; exact am_iim (by omega)
def cs_X7_even : Nat → List am_V → am_D → am_K → Prop := am_cs [(7, am_site 2 [some 0, none] T_X7_no [0, 9] [0, 9, 1, 2, 3, 4, 5, 6, 7, 8, 10, 11, 12, 13, 14, 15]), (20, am_site 2 [some 0, none] T_X7_no [0, 9] [0, 9, 1, 2, 3, 4, 5, 6, 7, 8, 10, 11, 12, 13, 14, 15]), (48, am_site 1 [some 0] T_X7_seconds [0, 1, 2, 4, 5, 13, 14, 15] [0, 1, 2, 4, 5, 13, 14, 15, 3, 6, 7, 8, 9, 10, 11, 12])]
theorem cs_X7_even_7 : cs_X7_even 7 = am_site 2 [some 0, none] T_X7_no [0, 9] [0, 9, 1, 2, 3, 4, 5, 6, 7, 8, 10, 11, 12, 13, 14, 15] := rfl
theorem cs_X7_even_20 : cs_X7_even 20 = am_site 2 [some 0, none] T_X7_no [0, 9] [0, 9, 1, 2, 3, 4, 5, 6, 7, 8, 10, 11, 12, 13, 14, 15] := rfl
theorem cs_X7_even_48 : cs_X7_even 48 = am_site 1 [some 0] T_X7_seconds [0, 1, 2, 4, 5, 13, 14, 15] [0, 1, 2, 4, 5, 13, 14, 15, 3, 6, 7, 8, 9, 10, 11, 12] := rfl
theorem ck_X7_even : ∀ X : am_X, am_cx X RX7 cX7_even 5 4 95 → ∀ pc, am_csok X 5 sh_Mod pc (cs_X7_even pc) := fun X hX => am_cs_ok (List.forall_mem_cons.mpr ⟨am_callV hX C_X7_no mo_X7_no rfl lk_X7_66 dX7_even_7 rfl rfl rfl (by decide), List.forall_mem_cons.mpr ⟨am_callV hX C_X7_no mo_X7_no rfl lk_X7_66 dX7_even_20 rfl rfl rfl (by decide), List.forall_mem_cons.mpr ⟨am_callV hX C_X7_seconds mo_X7_seconds rfl lk_X7_164 dX7_even_48 rfl rfl rfl (by decide), fun _ h => absurd h List.not_mem_nil⟩⟩⟩)
abbrev ok_X7_even (X : am_X) (K : List Int32 → am_D → Prop) : Prop := am_ok X RX7 cX7_even 5 sh_Mod fl_X7 kc_X7 none 1 cs_X7_even K
abbrev aw_X7_even (X : am_X) (pc : Nat) (ls : am_L) (st : List am_V) (D : am_D) : Prop := am_aw X 5 sh_Mod pc ls st D
abbrev T_X7_even : am_TT := am_s1 IM f_even
set_option maxHeartbeats 200000 in
theorem B_X7_even : ∀ (X : am_X) (is : List Int32) (D : am_D) (K : List Int32 → am_D → Prop), ok_X7_even X K → T_X7_even is D K → is.length = (List.filter Option.isNone ([some 0, none] : List (Option Nat))).length → D.length = sh_Mod.length → am_aw X 5 sh_Mod 0 (am_l0 5 [some 0, none] is) [] D := by
  intro X is D K O hT _ _
  obtain ⟨σ, a, ⟨aT, iM, tU, aS, cH, lO, kA, fA, hA, lA, pA, tA, vA, oA, eA, xA, nA, gA, wA, uA, rfl, hR, ht, ho, hk⟩, rfl, hK⟩ := hT
  obtain ⟨hb, hw, hp, hj, hL⟩ := id hR
  have hn : gN σ ≤ 9 := hL.1
  have eN : gN σ = σ.1.1 := rfl
  have main : ∀ v, a = nI v → v ≤ 99 → (∀ D', IM σ D' → K [oI (ffU (fun x => decide (v ≤ tot (simA (gb σ) x (gk σ) (gf σ) (gl σ) (gq σ) 0))) 0 10)] D') → am_aw X 5 sh_Mod 24 [some (.inr 0), some (.inl a), none, none, none] [] [.inl [nI (gN σ), nI (gb σ), nI (gw σ), nI σ.2.2.1.length, aT, nI σ.2.2.2.1.length, iM, tU, aS, cH, lO, bI false], .inr kA, .inr fA, .inr hA, .inr lA, .inr pA, .inr tA, .inr vA, .inr oA, .inr σ.2.2.2.2, .inr eA, .inr xA, .inr nA, .inr gA, .inr wA, .inr uA] := by
    intro v hav hv hK2
    subst hav
    have hbd : ∀ x, x < 10 → tot (simA (gb σ) x (gk σ) (gf σ) (gl σ) (gq σ) 0) ≤ 117 := fun x hx => (simA_bd (n := gN σ) (hu := gh σ) (w := x) hn (by omega) (fun c hc => (hj c hc).2.2.1.2) hp 0).1
    have h3 : ∀ x, tot (smw false (gb σ) x (gk σ) (gf σ) (fun z => qu (gl σ) (gq σ) z 0)) = tot (simA (gb σ) x (gk σ) (gf σ) (gl σ) (gq σ) 0) := fun x => by rw [smw_A (fun _ _ => rfl)]
    have loop : ∀ d ww tU aS cH lO gA wA uA, d ≤ 10 → am_aw X 5 sh_Mod 36 [some (.inr 0), some (.inl (nI v)), some (.inl (nI (gw σ))), some (.inl (oI (ffU (fun x => decide (v ≤ tot (simA (gb σ) x (gk σ) (gf σ) (gl σ) (gq σ) 0))) d (10 - d)))), some (.inl (evI d))] [] [.inl [nI (gN σ), nI (gb σ), ww, nI σ.2.2.1.length, aT, nI σ.2.2.2.1.length, iM, tU, aS, cH, lO, bI false], .inr kA, .inr fA, .inr hA, .inr lA, .inr pA, .inr tA, .inr vA, .inr oA, .inr σ.2.2.2.2, .inr eA, .inr xA, .inr nA, .inr gA, .inr wA, .inr uA] := by
      intro d
      induction d with
      | zero =>
        intro ww tU aS cH lO gA wA uA hd
        refine st_iload O dX7_even_36 rfl (q := 38) rfl ?_
        refine st_if_lt O dX7_even_38 (t := 64) rfl (q := 41) rfl (fun c38 => ?_) (fun c38 => ?_)
        · refine st_aloadn O dX7_even_64 rfl (q := 65) rfl ?_
          refine st_iloadn O dX7_even_65 rfl (q := 66) rfl ?_
          refine st_puti O dX7_even_66 fl_X7_55 rfl rfl rfl rfl rfl (q := 69) rfl ?_
          refine st_iloadn O dX7_even_69 rfl (q := 70) rfl ?_
          refine st_ireturn O dX7_even_70 ?_
          exact hK2 _ ⟨_, _, _, _, _, _, _, _, _, _, _, _, _, _, _, _, _, _, _, _, rfl, hR, ht, ho, hk⟩
        exact absurd c38 (by decide)
      | succ d ih =>
        intro ww tU aS cH lO gA wA uA hd
        have hb1 := hbd d (by omega)
        have ih := fun ww tU aS cH lO gA wA uA => ih ww tU aS cH lO gA wA uA (by omega)
        rw [show 10 - d = (10 - (d + 1)) + 1 by omega, ffU_s] at ih
        rw [show evI (d + 1) = nI d from if_neg (Nat.succ_ne_zero d)]
        by_cases hc : v ≤ tot (simA (gb σ) d (gk σ) (gf σ) (gl σ) (gq σ) 0)
        · rw [if_pos (decide_eq_true hc)] at ih
          refine st_iload O dX7_even_36 rfl (q := 38) rfl ?_
          refine sn_if_lt O dX7_even_38 (t := 64) rfl (q := 41) rfl (by omega) (fun c38 => ?_) (fun c38 => ?_)
          · exact c38.elim
          refine st_aloadn O dX7_even_41 rfl (q := 42) rfl ?_
          refine st_iload O dX7_even_42 rfl (q := 44) rfl ?_
          refine st_puti O dX7_even_44 fl_X7_55 rfl rfl rfl rfl rfl (q := 47) rfl ?_
          refine st_aloadn O dX7_even_47 rfl (q := 48) rfl ?_
          refine st_call O dX7_even_48 cs_X7_even_48 (q := 51) rfl (am_siq rfl rfl rfl (Nat.le_of_ble_eq_true rfl) rfl ?_)
          refine ⟨gN σ, gb σ, d, _, _, _, _, _, _, _, _, false, gk σ, gf σ, (fun z => qu (gl σ) (gq σ) z 0), _, _, _, _, _, _, _, rfl, rfl, hb, hR.k2, hL, fun t1 t2 t3 t4 g1 g2 g3 => ?_⟩
          refine am_nrp rfl rfl rfl rfl ?_
          rw [h3]
          refine st_iloadn O dX7_even_51 rfl (q := 52) rfl ?_
          refine sn_icmp_lt O dX7_even_52 (t := 58) rfl (q := 55) rfl (Nat.lt_of_le_of_lt hb1 (by decide)) (by omega) (fun c52 => ?_) (fun c52 => ?_)
          · exact absurd hc (Nat.not_le.mpr c52)
          refine st_iload O dX7_even_55 rfl (q := 57) rfl ?_
          refine st_istoren O dX7_even_57 rfl (q := 58) rfl ?_
          refine st_iinc O dX7_even_58 rfl (evI_s d) rfl (q := 61) rfl ?_
          refine st_goto O dX7_even_61 (t := 36) rfl ?_
          exact ih _ _ _ _ _ _ _ _
        · rw [if_neg (by rw [decide_eq_false hc]; decide)] at ih
          refine st_iload O dX7_even_36 rfl (q := 38) rfl ?_
          refine sn_if_lt O dX7_even_38 (t := 64) rfl (q := 41) rfl (by omega) (fun c38 => ?_) (fun c38 => ?_)
          · exact c38.elim
          refine st_aloadn O dX7_even_41 rfl (q := 42) rfl ?_
          refine st_iload O dX7_even_42 rfl (q := 44) rfl ?_
          refine st_puti O dX7_even_44 fl_X7_55 rfl rfl rfl rfl rfl (q := 47) rfl ?_
          refine st_aloadn O dX7_even_47 rfl (q := 48) rfl ?_
          refine st_call O dX7_even_48 cs_X7_even_48 (q := 51) rfl (am_siq rfl rfl rfl (Nat.le_of_ble_eq_true rfl) rfl ?_)
          refine ⟨gN σ, gb σ, d, _, _, _, _, _, _, _, _, false, gk σ, gf σ, (fun z => qu (gl σ) (gq σ) z 0), _, _, _, _, _, _, _, rfl, rfl, hb, hR.k2, hL, fun t1 t2 t3 t4 g1 g2 g3 => ?_⟩
          refine am_nrp rfl rfl rfl rfl ?_
          rw [h3]
          refine st_iloadn O dX7_even_51 rfl (q := 52) rfl ?_
          refine sn_icmp_lt O dX7_even_52 (t := 58) rfl (q := 55) rfl (Nat.lt_of_le_of_lt hb1 (by decide)) (by omega) (fun c52 => ?_) (fun c52 => ?_)
          · refine st_iinc O dX7_even_58 rfl (evI_s d) rfl (q := 61) rfl ?_
            refine st_goto O dX7_even_61 (t := 36) rfl ?_
            exact ih _ _ _ _ _ _ _ _
          exact absurd c52 hc
    refine st_aloadn O dX7_even_24 rfl (q := 25) rfl ?_
    refine st_geti O dX7_even_25 fl_X7_55 rfl rfl rfl rfl (q := 28) rfl ?_
    refine st_istoren O dX7_even_28 rfl (q := 29) rfl ?_
    refine st_bipush O dX7_even_29 am_bipush_m9 (q := 31) rfl ?_
    refine st_istoren O dX7_even_31 rfl (q := 32) rfl ?_
    refine st_bipush O dX7_even_32 am_bipush_9 (q := 34) rfl ?_
    refine st_istore O dX7_even_34 rfl (q := 36) rfl ?_
    exact loop 10 _ _ _ _ _ _ _ _ (by decide)
  refine am_begin rfl ?_
  refine st_iloadn O dX7_even_0 rfl (q := 1) rfl ?_
  refine st_if_ge O dX7_even_1 (t := 11) rfl (q := 4) rfl (fun c1 => ?_) (fun c1 => ?_)
  · refine st_iloadn O dX7_even_11 rfl (q := 12) rfl ?_
    refine st_bipush O dX7_even_12 am_bipush_99 (q := 14) rfl ?_
    refine st_icmp_le O dX7_even_14 (t := 24) rfl (q := 17) rfl (fun c14 => ?_) (fun c14 => ?_)
    · obtain ⟨v, hv, e⟩ := (le_iff 99 (by decide)).mp ⟨c1, c14⟩
      rw [show f_even a σ = (oI (ffU (fun x => decide (a.toNatClampNeg ≤ tot (simA (gb σ) x (gk σ) (gf σ) (gl σ) (gq σ) 0))) 0 10), σ) from (if_pos c1).trans (if_pos c14), e, nI_clamp (by omega)] at hK
      exact main v e hv hK
    refine st_aloadn O dX7_even_17 rfl (q := 18) rfl ?_
    refine st_bipush O dX7_even_18 am_bipush_m6 (q := 20) rfl ?_
    refine st_call O dX7_even_20 cs_X7_even_20 (q := 23) rfl (am_siq rfl rfl rfl (Nat.le_of_ble_eq_true rfl) rfl ?_)
    refine ⟨_, _, 6, by decide, by decide, rfl, rfl, ?_⟩
    refine am_nrq rfl rfl ?_
    rw [show f_even a σ = rfs 6 σ from (if_pos c1).trans (if_neg c14)] at hK
    exact st_ireturn O dX7_even_23 (hK _ ⟨_, _, _, _, _, _, _, _, _, _, _, _, _, _, _, _, _, _, _, _, rfl, hR, ht, ho, hk⟩)
  refine st_aloadn O dX7_even_4 rfl (q := 5) rfl ?_
  refine st_bipush O dX7_even_5 am_bipush_m4 (q := 7) rfl ?_
  refine st_call O dX7_even_7 cs_X7_even_7 (q := 10) rfl (am_siq rfl rfl rfl (Nat.le_of_ble_eq_true rfl) rfl ?_)
  refine ⟨_, _, 4, by decide, by decide, rfl, rfl, ?_⟩
  refine am_nrq rfl rfl ?_
  rw [show f_even a σ = rfs 4 σ from if_neg c1] at hK
  exact st_ireturn O dX7_even_10 (hK _ ⟨_, _, _, _, _, _, _, _, _, _, _, _, _, _, _, _, _, _, _, _, rfl, hR, ht, ho, hk⟩)
theorem C_X7_even : am_ctr yX7_even cX7_even 5 (some .int) 4 95 sh_Mod [some 0, none] T_X7_even := am_mk (by decide) (Or.inr (Or.inl ⟨rfl, rfl⟩)) (by decide) (by decide) (by decide) fl_X7_ok kc_X7_ok ck_X7_even B_X7_even
