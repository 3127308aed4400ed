/-! the reference's calls: lets, loses, by whom -/
theorem upd_eqv {f g : Nat → Int32} {c : Nat} {x : Int32} (h : ∀ d, d ≠ c → f d = g d) : ∀ d, upd f c x d = upd g c x d := by
  intro d
  unfold upd
  split
  · rfl
  next hd => exact h d hd
theorem va_o {α : Type} (f : Nat → α) {k j : Nat} (v : α) (h : j ≠ k) : va_up f k v j = f j := if_neg h
def cs_X7_lets : Nat → List am_V → am_D → am_K → Prop := am_cs [(1, am_site 1 [some 0] T_X7_cost [0, 1, 2, 3, 4, 5, 13, 14, 15] [0, 1, 2, 3, 4, 5, 13, 14, 15, 6, 7, 8, 9, 10, 11, 12]), (49, am_site 4 [some 0, none, none, none] T_X7_becomes [0, 1, 2] [0, 1, 2, 3, 4, 5, 6, 7, 8, 9, 10, 11, 12, 13, 14, 15]), (53, am_site 1 [some 0] T_X7_cost [0, 1, 2, 3, 4, 5, 13, 14, 15] [0, 1, 2, 3, 4, 5, 13, 14, 15, 6, 7, 8, 9, 10, 11, 12]), (90, am_site 4 [some 0, none, none, none] T_X7_becomes [0, 1, 2] [0, 1, 2, 3, 4, 5, 6, 7, 8, 9, 10, 11, 12, 13, 14, 15])]
theorem cs_X7_lets_1 : cs_X7_lets 1 = am_site 1 [some 0] T_X7_cost [0, 1, 2, 3, 4, 5, 13, 14, 15] [0, 1, 2, 3, 4, 5, 13, 14, 15, 6, 7, 8, 9, 10, 11, 12] := rfl
theorem cs_X7_lets_49 : cs_X7_lets 49 = am_site 4 [some 0, none, none, none] T_X7_becomes [0, 1, 2] [0, 1, 2, 3, 4, 5, 6, 7, 8, 9, 10, 11, 12, 13, 14, 15] := rfl
theorem cs_X7_lets_53 : cs_X7_lets 53 = am_site 1 [some 0] T_X7_cost [0, 1, 2, 3, 4, 5, 13, 14, 15] [0, 1, 2, 3, 4, 5, 13, 14, 15, 6, 7, 8, 9, 10, 11, 12] := rfl
theorem cs_X7_lets_90 : cs_X7_lets 90 = am_site 4 [some 0, none, none, none] T_X7_becomes [0, 1, 2] [0, 1, 2, 3, 4, 5, 6, 7, 8, 9, 10, 11, 12, 13, 14, 15] := rfl
theorem ck_X7_lets : ∀ X : am_X, am_cx X RX7 cX7_lets 8 4 97 → ∀ pc, am_csok X 8 sh_Mod pc (cs_X7_lets pc) := fun X hX => am_cs_ok (List.forall_mem_cons.mpr ⟨am_callV hX C_X7_cost mo_X7_cost rfl lk_X7_168 dX7_lets_1 rfl rfl rfl (by decide), List.forall_mem_cons.mpr ⟨am_callV hX C_X7_becomes mo_X7_becomes rfl lk_X7_99 dX7_lets_49 rfl rfl rfl (by decide), List.forall_mem_cons.mpr ⟨am_callV hX C_X7_cost mo_X7_cost rfl lk_X7_168 dX7_lets_53 rfl rfl rfl (by decide), List.forall_mem_cons.mpr ⟨am_callV hX C_X7_becomes mo_X7_becomes rfl lk_X7_99 dX7_lets_90 rfl rfl rfl (by decide), fun _ h => absurd h List.not_mem_nil⟩⟩⟩⟩)
abbrev ok_X7_lets (X : am_X) (K : List Int32 → am_D → Prop) : Prop := am_ok X RX7 cX7_lets 8 sh_Mod fl_X7 kc_X7 none 1 cs_X7_lets K
abbrev aw_X7_lets (X : am_X) (pc : Nat) (ls : am_L) (st : List am_V) (D : am_D) : Prop := am_aw X 8 sh_Mod pc ls st D
abbrev T_X7_lets : am_TT := am_s0 IM f_lets
set_option maxHeartbeats 200000 in
theorem B_X7_lets : ∀ (X : am_X) (is : List Int32) (D : am_D) (K : List Int32 → am_D → Prop), ok_X7_lets X K → T_X7_lets is D K → is.length = (List.filter Option.isNone ([some 0] : List (Option Nat))).length → D.length = sh_Mod.length → am_aw X 8 sh_Mod 0 (am_l0 8 [some 0] is) [] D := by
  intro X is D K O hT _ _
  obtain ⟨σ, ⟨aT, iM, tU, aS, cH, lO, kA, fA, hA, lA, pA, tA, vA, oA, eA, xA, nA, gA, wA, uA, rfl, hR, ht, ho, hk⟩, rfl, hK⟩ := hT
  obtain ⟨hb, hw, hp, hj, hL⟩ := id hR
  have hn : gN σ ≤ 9 := hL.1
  have eN : gN σ = σ.1.1 := rfl
  have hf : ∀ j, cKf (gb σ) (gw σ) (gk σ) (gf σ) (gl σ) (gh σ) (gq σ) j ≤ 30000 := fun j => c_bd hR _ _ _ _ _ hp 0
  have hC : gC σ ≤ 30000 := c_bd hR _ _ _ _ _ hp 0
  have hK : ∀ D', IM σ D' → K [oI (lsF (cKf (gb σ) (gw σ) (gk σ) (gf σ) (gl σ) (gh σ) (gq σ)) (gC σ) (10 * gN σ)).1] D' := hK
  generalize hF : cKf (gb σ) (gw σ) (gk σ) (gf σ) (gl σ) (gh σ) (gq σ) = F at hK hf
  have inner : ∀ c, c < gN σ → (∀ tU aS cH lO kA fA gA wA uA y4 y5 y6 y7, mR σ.1 kA fA hA lA pA → am_aw X 8 sh_Mod 10 [some (.inr 0), some (.inl (nI (lsF F (gC σ) (10 * (c + 1))).2)), some (.inl (oI (lsF F (gC σ) (10 * (c + 1))).1)), some (.inl (nI (c + 1))), y4, y5, y6, y7] [] [.inl [nI (gN σ), nI (gb σ), nI (gw σ), nI σ.2.2.1.length, aT, nI σ.2.2.2.1.length, iM, tU, aS, cH, lO, bI false], .inr kA, .inr fA, .inr hA, .inr lA, .inr pA, .inr tA, .inr vA, .inr oA, .inr σ.2.2.2.2, .inr eA, .inr xA, .inr nA, .inr gA, .inr wA, .inr uA]) → ∀ d v tU aS cH lO kA fA gA wA uA y7 kB fB, mR σ.1 kB fB hA lA pA → (∀ d, d ≠ c → kA d = kB d ∧ fA d = fB d) → 10 - v = d → v ≤ 10 → am_aw X 8 sh_Mod 37 [some (.inr 0), some (.inl (nI (lsF F (gC σ) (10 * c + v)).2)), some (.inl (oI (lsF F (gC σ) (10 * c + v)).1)), some (.inl (nI c)), some (.inl (kB c)), some (.inl (fB c)), some (.inl (nI v)), y7] [] [.inl [nI (gN σ), nI (gb σ), nI (gw σ), nI σ.2.2.1.length, aT, nI σ.2.2.2.1.length, iM, tU, aS, cH, lO, bI false], .inr kA, .inr fA, .inr hA, .inr lA, .inr pA, .inr tA, .inr vA, .inr oA, .inr σ.2.2.2.2, .inr eA, .inr xA, .inr nA, .inr gA, .inr wA, .inr uA] := by
    intro c hc nxt d
    induction d with
    | zero =>
      intro v tU aS cH lO kA fA gA wA uA y7 kB fB hR2 heq hd hv
      have e : v = 10 := by omega
      subst e
      refine st_iload O dX7_lets_37 rfl (q := 39) rfl ?_
      refine st_bipush O dX7_lets_39 am_bipush_10 (q := 41) rfl ?_
      refine sn_icmp_ge O dX7_lets_41 (t := 84) rfl (q := 44) rfl (by omega) (by omega) (fun c41 => ?_) (fun c41 => ?_)
      · refine st_aloadn O dX7_lets_84 rfl (q := 85) rfl ?_
        refine st_iloadn O dX7_lets_85 rfl (q := 86) rfl ?_
        refine st_iload O dX7_lets_86 rfl (q := 88) rfl ?_
        refine st_iload O dX7_lets_88 rfl (q := 90) rfl ?_
        refine st_call O dX7_lets_90 cs_X7_lets_90 (q := 93) rfl (am_siq rfl rfl rfl (Nat.le_of_ble_eq_true rfl) rfl ?_)
        refine ⟨_, _, _, c, _, _, by omega, rfl, rfl, ?_⟩
        refine am_nrp rfl rfl rfl rfl ?_
        refine st_iinc O dX7_lets_93 rfl (by first | exact am_ii1 _ | exact rfl) rfl (q := 96) rfl ?_
        refine st_goto O dX7_lets_96 (t := 10) rfl ?_
        exact nxt _ _ _ _ _ _ _ _ _ _ _ _ _ (mR_congr hR2 (fun j _ => ⟨by by_cases e : j = c; rw [e, pk_us]; rw [pk_un e]; exact (heq j e).1, by by_cases e : j = c; rw [e, pk_us]; rw [pk_un e]; exact (heq j e).2, rfl, rfl, rfl⟩))
      omega
    | succ d ih =>
      intro v tU aS cH lO kA fA gA wA uA y7 kB fB hR2 heq hd hv
      obtain ⟨-, -, -, hj2, hL2⟩ := id hR2
      have h1 := hf (10 * c + v)
      have h2 := lsF_le (f := F) hC (10 * c + v) (fun j _ => hf j)
      have h3 : cst (gh σ) (smw false (gb σ) (gw σ) (va_up (gk σ) c 1) (va_up (gf σ) c v) (fun z => qu (gl σ) (gq σ) z 0)) = F (10 * c + v) := by
        rw [smw_A (fun _ _ => rfl), ← hF]
        unfold cKf
        rw [show (10 * c + v) / 10 = c by omega, show (10 * c + v) % 10 = v by omega]
      have hk2 : mK2 (gN σ) (va_up (gk σ) c 1) (va_up (gf σ) c v) (upd kA c (nI 1)) (upd fA c (nI v)) := by
        intro x hx
        by_cases e : x = c
        · subst e
          rw [pk_us, pk_us, va_s, va_s]
          exact ⟨⟨rfl, by decide⟩, ⟨rfl, by omega⟩⟩
        · rw [pk_un e, pk_un e, va_o _ _ e, va_o _ _ e, (heq x e).1, (heq x e).2]
          exact ⟨(hj2 x hx).1, (hj2 x hx).2.1⟩
      have heq2 : ∀ d, d ≠ c → upd kA c (nI 1) d = kB d ∧ upd fA c (nI v) d = fB d := fun d hd => by rw [pk_un hd, pk_un hd]; exact heq d hd
      have ih := fun tU aS cH lO kA fA gA wA uA y7 h => ih (v + 1) tU aS cH lO kA fA gA wA uA y7 kB fB hR2 h (by omega) (by omega)
      rw [show 10 * c + (v + 1) = (10 * c + v) + 1 by omega] at ih
      unfold lsF at ih
      by_cases hlt : F (10 * c + v) < (lsF F (gC σ) (10 * c + v)).2
      · simp only [if_pos hlt] at ih
        refine st_iload O dX7_lets_37 rfl (q := 39) rfl ?_
        refine st_bipush O dX7_lets_39 am_bipush_10 (q := 41) rfl ?_
        refine sn_icmp_ge O dX7_lets_41 (t := 84) rfl (q := 44) rfl (by omega) (by omega) (fun c41 => ?_) (fun c41 => ?_)
        · omega
        refine st_aloadn O dX7_lets_44 rfl (q := 45) rfl ?_
        refine st_iloadn O dX7_lets_45 rfl (q := 46) rfl ?_
        refine st_iconst O dX7_lets_46 am_iconst_1 (q := 47) rfl ?_
        refine st_iload O dX7_lets_47 rfl (q := 49) rfl ?_
        refine st_call O dX7_lets_49 cs_X7_lets_49 (q := 52) rfl (am_siq rfl rfl rfl (Nat.le_of_ble_eq_true rfl) rfl ?_)
        refine ⟨_, _, _, c, _, _, by omega, rfl, rfl, ?_⟩
        refine am_nrp rfl rfl rfl rfl ?_
        refine st_aloadn O dX7_lets_52 rfl (q := 53) rfl ?_
        refine st_call O dX7_lets_53 cs_X7_lets_53 (q := 56) rfl (am_siq rfl rfl rfl (Nat.le_of_ble_eq_true rfl) rfl ?_)
        refine ⟨gN σ, gb σ, gw σ, _, _, _, _, _, _, _, _, false, va_up (gk σ) c 1, va_up (gf σ) c v, gh σ, (fun z => qu (gl σ) (gq σ) z 0), _, _, _, _, _, _, _, _, rfl, rfl, hb, hk2, hR.h2, hL2, fun t1 t2 t3 t4 g1 g2 g3 => ?_⟩
        refine am_nrp rfl rfl rfl rfl ?_
        rw [h3]
        refine st_istore O dX7_lets_56 rfl (q := 58) rfl ?_
        refine st_iload O dX7_lets_58 rfl (q := 60) rfl ?_
        refine st_iloadn O dX7_lets_60 rfl (q := 61) rfl ?_
        refine sn_icmp_lt O dX7_lets_61 (t := 67) rfl (q := 64) rfl (by omega) (by omega) (fun c61 => ?_) (fun c61 => ?_)
        · refine st_iload O dX7_lets_67 rfl (q := 69) rfl ?_
          refine st_istoren O dX7_lets_69 rfl (q := 70) rfl ?_
          refine st_bipush O dX7_lets_70 am_bipush_10 (q := 72) rfl ?_
          refine st_iloadn O dX7_lets_72 rfl (q := 73) rfl ?_
          refine st_imul O dX7_lets_73 (pk_mul 10 c) (q := 74) rfl ?_
          refine st_iload O dX7_lets_74 rfl (q := 76) rfl ?_
          refine st_iadd O dX7_lets_76 (by first | exact nI_add _ _ | exact rfl) (q := 77) rfl ?_
          refine st_istoren O dX7_lets_77 rfl (q := 78) rfl ?_
          refine st_iinc O dX7_lets_78 rfl (by first | exact am_ii1 _ | exact rfl) rfl (q := 81) rfl ?_
          refine st_goto O dX7_lets_81 (t := 37) rfl ?_
          exact ih _ _ _ _ _ _ _ _ _ _ heq2
        omega
      · simp only [if_neg hlt] at ih
        refine st_iload O dX7_lets_37 rfl (q := 39) rfl ?_
        refine st_bipush O dX7_lets_39 am_bipush_10 (q := 41) rfl ?_
        refine sn_icmp_ge O dX7_lets_41 (t := 84) rfl (q := 44) rfl (by omega) (by omega) (fun c41 => ?_) (fun c41 => ?_)
        · omega
        refine st_aloadn O dX7_lets_44 rfl (q := 45) rfl ?_
        refine st_iloadn O dX7_lets_45 rfl (q := 46) rfl ?_
        refine st_iconst O dX7_lets_46 am_iconst_1 (q := 47) rfl ?_
        refine st_iload O dX7_lets_47 rfl (q := 49) rfl ?_
        refine st_call O dX7_lets_49 cs_X7_lets_49 (q := 52) rfl (am_siq rfl rfl rfl (Nat.le_of_ble_eq_true rfl) rfl ?_)
        refine ⟨_, _, _, c, _, _, by omega, rfl, rfl, ?_⟩
        refine am_nrp rfl rfl rfl rfl ?_
        refine st_aloadn O dX7_lets_52 rfl (q := 53) rfl ?_
        refine st_call O dX7_lets_53 cs_X7_lets_53 (q := 56) rfl (am_siq rfl rfl rfl (Nat.le_of_ble_eq_true rfl) rfl ?_)
        refine ⟨gN σ, gb σ, gw σ, _, _, _, _, _, _, _, _, false, va_up (gk σ) c 1, va_up (gf σ) c v, gh σ, (fun z => qu (gl σ) (gq σ) z 0), _, _, _, _, _, _, _, _, rfl, rfl, hb, hk2, hR.h2, hL2, fun t1 t2 t3 t4 g1 g2 g3 => ?_⟩
        refine am_nrp rfl rfl rfl rfl ?_
        rw [h3]
        refine st_istore O dX7_lets_56 rfl (q := 58) rfl ?_
        refine st_iload O dX7_lets_58 rfl (q := 60) rfl ?_
        refine st_iloadn O dX7_lets_60 rfl (q := 61) rfl ?_
        refine sn_icmp_lt O dX7_lets_61 (t := 67) rfl (q := 64) rfl (by omega) (by omega) (fun c61 => ?_) (fun c61 => ?_)
        · omega
        refine st_goto O dX7_lets_64 (t := 78) rfl ?_
        refine st_iinc O dX7_lets_78 rfl (by first | exact am_ii1 _ | exact rfl) rfl (q := 81) rfl ?_
        refine st_goto O dX7_lets_81 (t := 37) rfl ?_
        exact ih _ _ _ _ _ _ _ _ _ _ heq2
  have loop : ∀ d m tU aS cH lO kA fA gA wA uA y4 y5 y6 y7, mR σ.1 kA fA hA lA pA → gN σ - m = d → m ≤ gN σ → am_aw X 8 sh_Mod 10 [some (.inr 0), some (.inl (nI (lsF F (gC σ) (10 * m)).2)), some (.inl (oI (lsF F (gC σ) (10 * m)).1)), some (.inl (nI m)), y4, y5, y6, y7] [] [.inl [nI (gN σ), nI (gb σ), nI (gw σ), nI σ.2.2.1.length, aT, nI σ.2.2.2.1.length, iM, tU, aS, cH, lO, bI false], .inr kA, .inr fA, .inr hA, .inr lA, .inr pA, .inr tA, .inr vA, .inr oA, .inr σ.2.2.2.2, .inr eA, .inr xA, .inr nA, .inr gA, .inr wA, .inr uA] := by
    intro d
    induction d with
    | zero =>
      intro m tU aS cH lO kA fA gA wA uA y4 y5 y6 y7 hR hd hm
      have e : m = gN σ := by omega
      subst e
      refine st_iloadn O dX7_lets_10 rfl (q := 11) rfl ?_
      refine st_aloadn O dX7_lets_11 rfl (q := 12) rfl ?_
      refine st_geti O dX7_lets_12 fl_X7_59 rfl rfl rfl rfl (q := 15) rfl ?_
      refine sn_icmp_ge O dX7_lets_15 (t := 99) rfl (q := 18) rfl (by omega) (by omega) (fun c15 => ?_) (fun c15 => ?_)
      · refine st_iloadn O dX7_lets_99 rfl (q := 100) rfl ?_
        refine st_ireturn O dX7_lets_100 ?_
        exact hK _ ⟨_, _, _, _, _, _, _, _, _, _, _, _, _, _, _, _, _, _, _, _, rfl, hR, ht, ho, hk⟩
      omega
    | succ d ih =>
      intro m tU aS cH lO kA fA gA wA uA y4 y5 y6 y7 hR hd hm
      have inn := inner m (by omega) (fun tU aS cH lO kA fA gA wA uA y4 y5 y6 y7 h => ih (m + 1) tU aS cH lO kA fA gA wA uA y4 y5 y6 y7 h (by omega) (by omega)) 10 0
      refine st_iloadn O dX7_lets_10 rfl (q := 11) rfl ?_
      refine st_aloadn O dX7_lets_11 rfl (q := 12) rfl ?_
      refine st_geti O dX7_lets_12 fl_X7_59 rfl rfl rfl rfl (q := 15) rfl ?_
      refine sn_icmp_ge O dX7_lets_15 (t := 99) rfl (q := 18) rfl (by omega) (by omega) (fun c15 => ?_) (fun c15 => ?_)
      · omega
      refine st_aloadn O dX7_lets_18 rfl (q := 19) rfl ?_
      refine st_getr O dX7_lets_19 fl_X7_7 rfl rfl rfl (q := 22) rfl ?_
      refine st_iloadn O dX7_lets_22 rfl (q := 23) rfl ?_
      refine sn_ald O dX7_lets_23 rfl rfl rfl ⟨by omega, by decide⟩ rfl (q := 24) rfl ?_
      refine st_istore O dX7_lets_24 rfl (q := 26) rfl ?_
      refine st_aloadn O dX7_lets_26 rfl (q := 27) rfl ?_
      refine st_getr O dX7_lets_27 fl_X7_13 rfl rfl rfl (q := 30) rfl ?_
      refine st_iloadn O dX7_lets_30 rfl (q := 31) rfl ?_
      refine sn_ald O dX7_lets_31 rfl rfl rfl ⟨by omega, by decide⟩ rfl (q := 32) rfl ?_
      refine st_istore O dX7_lets_32 rfl (q := 34) rfl ?_
      refine st_iconst O dX7_lets_34 am_iconst_0 (q := 35) rfl ?_
      refine st_istore O dX7_lets_35 rfl (q := 37) rfl ?_
      exact inn _ _ _ _ _ _ _ _ _ _ kA fA hR (fun d _ => ⟨rfl, rfl⟩) rfl (by decide)
  refine am_begin rfl ?_
  refine st_aloadn O dX7_lets_0 rfl (q := 1) rfl ?_
  refine st_call O dX7_lets_1 cs_X7_lets_1 (q := 4) rfl (am_siq rfl rfl rfl (Nat.le_of_ble_eq_true rfl) rfl ?_)
  refine ⟨gN σ, gb σ, gw σ, _, _, _, _, _, _, _, _, false, gk σ, gf σ, gh σ, (fun z => qu (gl σ) (gq σ) z 0), _, _, _, _, _, _, _, _, rfl, rfl, hb, hR.k2, hR.h2, hL, fun t1 t2 t3 t4 g1 g2 g3 => ?_⟩
  refine am_nrp rfl rfl rfl rfl ?_
  rw [gL_smw σ]
  refine st_istoren O dX7_lets_4 rfl (q := 5) rfl ?_
  refine st_bipush O dX7_lets_5 am_bipush_m9 (q := 7) rfl ?_
  refine st_istoren O dX7_lets_7 rfl (q := 8) rfl ?_
  refine st_iconst O dX7_lets_8 am_iconst_0 (q := 9) rfl ?_
  refine st_istoren O dX7_lets_9 rfl (q := 10) rfl ?_
  exact loop (gN σ) 0 _ _ _ _ _ _ _ _ _ _ _ _ _ hR rfl (Nat.zero_le _)
theorem C_X7_lets : am_ctr yX7_lets cX7_lets 8 (some .int) 4 97 sh_Mod [some 0] T_X7_lets := am_mk (by decide) (Or.inr (Or.inl ⟨rfl, rfl⟩)) (by decide) (by decide) (by decide) fl_X7_ok kc_X7_ok ck_X7_lets B_X7_lets
theorem tb_two {o j : Nat} : (2 ^ o).testBit j = ((0 : Nat).testBit j || decide (j = o)) := by
  rw [Nat.zero_testBit, Bool.false_or, Nat.testBit_two_pow]
  by_cases h : o = j
  · rw [decide_eq_true h, decide_eq_true h.symm]
  · rw [decide_eq_false h, decide_eq_false (fun e => h e.symm)]
def cs_X7_losesBy : Nat → List am_V → am_D → am_K → Prop := am_cs [(1, am_site 1 [some 0] T_X7_run [0, 1, 2, 4, 5, 13, 14, 15] [0, 1, 2, 4, 5, 13, 14, 15, 3, 6, 7, 8, 9, 10, 11, 12]), (16, am_site 2 [some 0, some 6] T_X7_keep_ [0, 1, 2, 3, 4, 5, 12] [0, 1, 2, 3, 4, 5, 12, 6, 7, 8, 9, 10, 11, 12, 13, 14, 15]), (21, am_site 2 [some 0, none] T_X7_leaves [0, 4, 5] [0, 4, 5, 1, 2, 3, 6, 7, 8, 9, 10, 11, 12, 13, 14, 15]), (25, am_site 1 [some 0] T_X7_run [0, 1, 2, 4, 5, 13, 14, 15] [0, 1, 2, 4, 5, 13, 14, 15, 3, 6, 7, 8, 9, 10, 11, 12]), (33, am_site 2 [some 0, some 6] T_X7_again [0, 1, 2, 3, 4, 5, 12] [0, 1, 2, 3, 4, 5, 12, 6, 7, 8, 9, 10, 11, 12, 13, 14, 15])]
theorem cs_X7_losesBy_1 : cs_X7_losesBy 1 = am_site 1 [some 0] T_X7_run [0, 1, 2, 4, 5, 13, 14, 15] [0, 1, 2, 4, 5, 13, 14, 15, 3, 6, 7, 8, 9, 10, 11, 12] := rfl
theorem cs_X7_losesBy_16 : cs_X7_losesBy 16 = am_site 2 [some 0, some 6] T_X7_keep_ [0, 1, 2, 3, 4, 5, 12] [0, 1, 2, 3, 4, 5, 12, 6, 7, 8, 9, 10, 11, 12, 13, 14, 15] := rfl
theorem cs_X7_losesBy_21 : cs_X7_losesBy 21 = am_site 2 [some 0, none] T_X7_leaves [0, 4, 5] [0, 4, 5, 1, 2, 3, 6, 7, 8, 9, 10, 11, 12, 13, 14, 15] := rfl
theorem cs_X7_losesBy_25 : cs_X7_losesBy 25 = am_site 1 [some 0] T_X7_run [0, 1, 2, 4, 5, 13, 14, 15] [0, 1, 2, 4, 5, 13, 14, 15, 3, 6, 7, 8, 9, 10, 11, 12] := rfl
theorem cs_X7_losesBy_33 : cs_X7_losesBy 33 = am_site 2 [some 0, some 6] T_X7_again [0, 1, 2, 3, 4, 5, 12] [0, 1, 2, 3, 4, 5, 12, 6, 7, 8, 9, 10, 11, 12, 13, 14, 15] := rfl
theorem ck_X7_losesBy : ∀ X : am_X, am_cx X RX7 cX7_losesBy 4 3 75 → ∀ pc, am_csok X 4 sh_Mod pc (cs_X7_losesBy pc) := fun X hX => am_cs_ok (List.forall_mem_cons.mpr ⟨am_callV hX C_X7_run mo_X7_run rfl lk_X7_161 dX7_losesBy_1 rfl rfl rfl (by decide), List.forall_mem_cons.mpr ⟨am_callV hX C_X7_keep_ mo_X7_keep_ rfl lk_X7_116 dX7_losesBy_16 rfl rfl rfl (by decide), List.forall_mem_cons.mpr ⟨am_callV hX C_X7_leaves mo_X7_leaves rfl lk_X7_183 dX7_losesBy_21 rfl rfl rfl (by decide), List.forall_mem_cons.mpr ⟨am_callV hX C_X7_run mo_X7_run rfl lk_X7_161 dX7_losesBy_25 rfl rfl rfl (by decide), List.forall_mem_cons.mpr ⟨am_callV hX C_X7_again mo_X7_again rfl lk_X7_120 dX7_losesBy_33 rfl rfl rfl (by decide), fun _ h => absurd h List.not_mem_nil⟩⟩⟩⟩⟩)
abbrev ok_X7_losesBy (X : am_X) (K : List Int32 → am_D → Prop) : Prop := am_ok X RX7 cX7_losesBy 4 sh_Mod fl_X7 kc_X7 none 1 cs_X7_losesBy K
abbrev aw_X7_losesBy (X : am_X) (pc : Nat) (ls : am_L) (st : List am_V) (D : am_D) : Prop := am_aw X 4 sh_Mod pc ls st D
abbrev T_X7_losesBy : am_TT := fun is D K => ∃ σ c o, IM σ D ∧ c < gN σ ∧ o < gN σ ∧ c ≠ o ∧ is = [nI c, nI o] ∧ ∀ D', IM σ D' → K [iI (lsz (gb σ) (gw σ) (gk σ) (gf σ) (gl σ) (gq σ) c o)] D'
set_option maxHeartbeats 200000 in
theorem B_X7_losesBy : ∀ (X : am_X) (is : List Int32) (D : am_D) (K : List Int32 → am_D → Prop), ok_X7_losesBy X K → T_X7_losesBy is D K → is.length = (List.filter Option.isNone ([some 0, none, none] : List (Option Nat))).length → D.length = sh_Mod.length → am_aw X 4 sh_Mod 0 (am_l0 4 [some 0, none, none] is) [] D := by
  intro X is D K O hT _ _
  obtain ⟨σ, c, o, ⟨aT, iM, tU, aS, cH, lO, kA, fA, hA, lA, pA, tA, vA, oA, eA, xA, nA, gA, wA, uA, rfl, hR, ht, ho, hk⟩, hc, hoo, hne, rfl, hK⟩ := hT
  obtain ⟨hb, hw, hp, hj, hL⟩ := id hR
  have hn : gN σ ≤ 9 := hL.1
  have eN : gN σ = σ.1.1 := rfl
  have hl2 : ∀ j, j < gN σ → gl σ j < 2 := fun j h => (hj j h).2.2.2
  obtain ⟨g1, g2, g3⟩ := gL_ok hn hp hl2
  have q1 := qu_mem (la := gl σ) hp hoo
  have hQ : ∀ y, y < 2 → (qu (gl σ) (gq σ) y 0).erase o = qu (gl σ) (gq σ) y (2 ^ o) := fun y _ => qu_ab hp (fun j _ => tb_two) y
  have h3 : smw false (gb σ) (gw σ) (gk σ) (gf σ) (fun y => (qu (gl σ) (gq σ) y 0).erase o) = simA (gb σ) (gw σ) (gk σ) (gf σ) (gl σ) (gq σ) (2 ^ o) := smw_A hQ
  have hmem : c ∈ (simA (gb σ) (gw σ) (gk σ) (gf σ) (gl σ) (gq σ) (2 ^ o)).map (fun q => q.1) := sim_all hp hl2 hc (tb_ne o (by omega) c (by omega) hne)
  have hb1 := wtc_le (simA_117 (n := gN σ) (b := gb σ) (kd := gk σ) (fg := gf σ) (la := gl σ) hn hw hp 0) c
  have hb2 := wtc_le (simA_117 (n := gN σ) (b := gb σ) (kd := gk σ) (fg := gf σ) (la := gl σ) hn hw hp (2 ^ o)) c
  have hsub : nI (wtc (gL σ) c) - nI (wtc (simA (gb σ) (gw σ) (gk σ) (gf σ) (gl σ) (gq σ) (2 ^ o)) c) = iI (lsz (gb σ) (gw σ) (gk σ) (gf σ) (gl σ) (gq σ) c o) := iI_sub (Nat.le_trans hb1 (by decide)) (Nat.le_trans hb2 (by decide))
  refine am_begin rfl ?_
  refine st_aloadn O dX7_losesBy_0 rfl (q := 1) rfl ?_
  refine st_call O dX7_losesBy_1 cs_X7_losesBy_1 (q := 4) rfl (am_siq rfl rfl rfl (Nat.le_of_ble_eq_true rfl) rfl ?_)
  refine ⟨gN σ, gb σ, gw σ, _, _, _, _, _, _, _, _, false, gk σ, gf σ, (fun z => qu (gl σ) (gq σ) z 0), _, _, _, _, _, _, _, rfl, rfl, hb, hR.k2, hL, fun gA' wA' uA' hO => ?_⟩
  refine am_nrp rfl rfl rfl rfl ?_
  rw [gL_smw σ] at hO ⊢
  refine st_aloadn O dX7_losesBy_4 rfl (q := 5) rfl ?_
  refine st_getr O dX7_losesBy_5 fl_X7_49 rfl rfl rfl (q := 8) rfl ?_
  refine st_iloadn O dX7_losesBy_8 rfl (q := 9) rfl ?_
  refine sn_ald O dX7_losesBy_9 rfl rfl rfl ⟨by omega, by decide⟩ (tu_wt (L := gL σ) hO (g2 c hc)) (q := 10) rfl ?_
  refine st_istoren O dX7_losesBy_10 rfl (q := 11) rfl ?_
  refine st_aloadn O dX7_losesBy_11 rfl (q := 12) rfl ?_
  refine st_aloadn O dX7_losesBy_12 rfl (q := 13) rfl ?_
  refine st_getr O dX7_losesBy_13 fl_X7_43 rfl rfl rfl (q := 16) rfl ?_
  refine st_call O dX7_losesBy_16 cs_X7_losesBy_16 (q := 19) rfl (am_siq rfl rfl rfl (Nat.le_of_ble_eq_true rfl) rfl ?_)
  refine ⟨gN σ, gb σ, gw σ, _, kA, fA, hA, lA, pA, _, rfl, rfl, fun e he => ?_⟩
  refine am_nrp rfl rfl rfl rfl ?_
  refine st_aloadn O dX7_losesBy_19 rfl (q := 20) rfl ?_
  refine st_iloadn O dX7_losesBy_20 rfl (q := 21) rfl ?_
  refine st_call O dX7_losesBy_21 cs_X7_losesBy_21 (q := 24) rfl (am_siq rfl rfl rfl (Nat.le_of_ble_eq_true rfl) rfl ?_)
  refine ⟨gN σ, _, _, _, _, o, gl σ o, rfl, hL, hl2 o hoo, q1, rfl, fun lA' pA' hL' => ?_⟩
  refine am_nrp rfl rfl rfl rfl ?_
  refine st_aloadn O dX7_losesBy_24 rfl (q := 25) rfl ?_
  refine st_call O dX7_losesBy_25 cs_X7_losesBy_25 (q := 28) rfl (am_siq rfl rfl rfl (Nat.le_of_ble_eq_true rfl) rfl ?_)
  refine ⟨gN σ, gb σ, gw σ, _, _, _, _, _, _, _, _, false, gk σ, gf σ, (fun y => (qu (gl σ) (gq σ) y 0).erase o), _, _, _, _, _, _, _, rfl, rfl, hb, hR.k2, hL', fun gB wB uB hO2 => ?_⟩
  refine am_nrp rfl rfl rfl rfl ?_
  rw [h3] at hO2
  refine st_aloadn O dX7_losesBy_28 rfl (q := 29) rfl ?_
  refine st_aloadn O dX7_losesBy_29 rfl (q := 30) rfl ?_
  refine st_getr O dX7_losesBy_30 fl_X7_43 rfl rfl rfl (q := 33) rfl ?_
  refine st_call O dX7_losesBy_33 cs_X7_losesBy_33 (q := 36) rfl (am_siq rfl rfl rfl (Nat.le_of_ble_eq_true rfl) rfl ?_)
  refine ⟨gN σ, gb σ, gw σ, _, _, _, _, kA, fA, hA, lA, pA, _, _, _, _, _, _, rfl, rfl, he, fun kC fC hC lC pC hcc => ?_⟩
  refine am_nrp rfl rfl rfl rfl ?_
  refine st_iloadn O dX7_losesBy_36 rfl (q := 37) rfl ?_
  refine st_aloadn O dX7_losesBy_37 rfl (q := 38) rfl ?_
  refine st_getr O dX7_losesBy_38 fl_X7_49 rfl rfl rfl (q := 41) rfl ?_
  refine st_iloadn O dX7_losesBy_41 rfl (q := 42) rfl ?_
  refine sn_ald O dX7_losesBy_42 rfl rfl rfl ⟨by omega, by decide⟩ (tu_wt hO2 hmem) (q := 43) rfl ?_
  refine st_isub O dX7_losesBy_43 hsub (q := 44) rfl ?_
  refine st_ireturn O dX7_losesBy_44 ?_
  exact hK _ ⟨_, _, _, _, _, _, _, _, _, _, _, _, _, _, _, _, _, _, _, _, rfl, mR_congr hR hcc, ht, ho, hk⟩
theorem C_X7_losesBy : am_ctr yX7_losesBy cX7_losesBy 4 (some .int) 3 75 sh_Mod [some 0, none, none] T_X7_losesBy := am_mk (by decide) (Or.inr (Or.inl ⟨rfl, rfl⟩)) (by decide) (by decide) (by decide) fl_X7_ok kc_X7_ok ck_X7_losesBy B_X7_losesBy
def cs_X7_loses : Nat → List am_V → am_D → am_K → Prop := am_cs [(2, am_site 2 [some 0, none] T_X7_isCar [0] [0, 1, 2, 3, 4, 5, 6, 7, 8, 9, 10, 11, 12, 13, 14, 15]), (10, am_site 2 [some 0, none] T_X7_isCar [0] [0, 1, 2, 3, 4, 5, 6, 7, 8, 9, 10, 11, 12, 13, 14, 15]), (24, am_site 3 [some 0, none, none] T_X7_losesBy [0, 1, 2, 3, 4, 5, 6, 7, 8, 9, 10, 11, 12, 13, 14, 15] [0, 1, 2, 3, 4, 5, 6, 7, 8, 9, 10, 11, 12, 13, 14, 15]), (34, am_site 2 [some 0, none] T_X7_no [0, 9] [0, 9, 1, 2, 3, 4, 5, 6, 7, 8, 10, 11, 12, 13, 14, 15])]
theorem cs_X7_loses_2 : cs_X7_loses 2 = am_site 2 [some 0, none] T_X7_isCar [0] [0, 1, 2, 3, 4, 5, 6, 7, 8, 9, 10, 11, 12, 13, 14, 15] := rfl
theorem cs_X7_loses_10 : cs_X7_loses 10 = am_site 2 [some 0, none] T_X7_isCar [0] [0, 1, 2, 3, 4, 5, 6, 7, 8, 9, 10, 11, 12, 13, 14, 15] := rfl
theorem cs_X7_loses_24 : cs_X7_loses 24 = am_site 3 [some 0, none, none] T_X7_losesBy [0, 1, 2, 3, 4, 5, 6, 7, 8, 9, 10, 11, 12, 13, 14, 15] [0, 1, 2, 3, 4, 5, 6, 7, 8, 9, 10, 11, 12, 13, 14, 15] := rfl
theorem cs_X7_loses_34 : cs_X7_loses 34 = am_site 2 [some 0, none] T_X7_no [0, 9] [0, 9, 1, 2, 3, 4, 5, 6, 7, 8, 10, 11, 12, 13, 14, 15] := rfl
theorem ck_X7_loses : ∀ X : am_X, am_cx X RX7 cX7_loses 3 4 98 → ∀ pc, am_csok X 3 sh_Mod pc (cs_X7_loses pc) := fun X hX => am_cs_ok (List.forall_mem_cons.mpr ⟨am_callV hX C_X7_isCar mo_X7_isCar rfl lk_X7_96 dX7_loses_2 rfl rfl rfl (by decide), List.forall_mem_cons.mpr ⟨am_callV hX C_X7_isCar mo_X7_isCar rfl lk_X7_96 dX7_loses_10 rfl rfl rfl (by decide), List.forall_mem_cons.mpr ⟨am_callV hX C_X7_losesBy mo_X7_losesBy rfl lk_X7_187 dX7_loses_24 rfl rfl rfl (by decide), List.forall_mem_cons.mpr ⟨am_callV hX C_X7_no mo_X7_no rfl lk_X7_66 dX7_loses_34 rfl rfl rfl (by decide), fun _ h => absurd h List.not_mem_nil⟩⟩⟩⟩)
abbrev ok_X7_loses (X : am_X) (K : List Int32 → am_D → Prop) : Prop := am_ok X RX7 cX7_loses 3 sh_Mod fl_X7 kc_X7 none 1 cs_X7_loses K
abbrev aw_X7_loses (X : am_X) (pc : Nat) (ls : am_L) (st : List am_V) (D : am_D) : Prop := am_aw X 3 sh_Mod pc ls st D
abbrev T_X7_loses : am_TT := am_s2 IM f_loses
set_option maxHeartbeats 200000 in
theorem B_X7_loses : ∀ (X : am_X) (is : List Int32) (D : am_D) (K : List Int32 → am_D → Prop), ok_X7_loses X K → T_X7_loses is D K → is.length = (List.filter Option.isNone ([some 0, none, none] : List (Option Nat))).length → D.length = sh_Mod.length → am_aw X 3 sh_Mod 0 (am_l0 3 [some 0, none, none] is) [] D := by
  intro X is D K O hT _ _
  obtain ⟨σ, a, b, ⟨aT, iM, tU, aS, cH, lO, kA, fA, hA, lA, pA, tA, vA, oA, eA, xA, nA, gA, wA, uA, rfl, hR, ht, ho, hk⟩, rfl, hK⟩ := hT
  obtain ⟨hb, hw, hp, hj, hL⟩ := id hR
  have hn : gN σ ≤ 9 := hL.1
  have eN : gN σ = σ.1.1 := rfl
  have hI : IM σ [.inl [nI (gN σ), nI (gb σ), nI (gw σ), nI σ.2.2.1.length, aT, nI σ.2.2.2.1.length, iM, tU, aS, cH, lO, bI false], .inr kA, .inr fA, .inr hA, .inr lA, .inr pA, .inr tA, .inr vA, .inr oA, .inr σ.2.2.2.2, .inr eA, .inr xA, .inr nA, .inr gA, .inr wA, .inr uA] := ⟨_, _, _, _, _, _, _, _, _, _, _, _, _, _, _, _, _, _, _, _, rfl, hR, ht, ho, hk⟩
  have bad : f_loses a b σ = (1000000000 - (rfs 1 σ).1, (rfs 1 σ).2) → am_aw X 3 sh_Mod 30 [some (.inr 0), some (.inl a), some (.inl b)] [] [.inl [nI (gN σ), nI (gb σ), nI (gw σ), nI σ.2.2.1.length, aT, nI σ.2.2.2.1.length, iM, tU, aS, cH, lO, bI false], .inr kA, .inr fA, .inr hA, .inr lA, .inr pA, .inr tA, .inr vA, .inr oA, .inr σ.2.2.2.2, .inr eA, .inr xA, .inr nA, .inr gA, .inr wA, .inr uA] := by
    intro he
    rw [he] at hK
    refine st_ldc O dX7_loses_30 kc_X7_190 (q := 32) rfl ?_
    refine st_aloadn O dX7_loses_32 rfl (q := 33) rfl ?_
    refine st_iconst O dX7_loses_33 am_iconst_m1 (q := 34) rfl ?_
    refine st_call O dX7_loses_34 cs_X7_loses_34 (q := 37) rfl (am_siq rfl rfl rfl (Nat.le_of_ble_eq_true rfl) rfl ?_)
    refine ⟨_, _, 1, by decide, by decide, rfl, rfl, ?_⟩
    refine am_nrp rfl rfl rfl rfl ?_
    refine st_isub O dX7_loses_37 rfl (q := 38) rfl ?_
    refine st_ireturn O dX7_loses_38 ?_
    exact hK _ ⟨_, _, _, _, _, _, _, _, _, _, _, _, _, _, _, _, _, _, _, _, rfl, hR, ht, ho, hk⟩
  cases hx : xi (gN σ) a with
  | none =>
    refine am_begin rfl ?_
    refine st_aloadn O dX7_loses_0 rfl (q := 1) rfl ?_
    refine st_iloadn O dX7_loses_1 rfl (q := 2) rfl ?_
    refine st_call O dX7_loses_2 cs_X7_loses_2 (q := 5) rfl (am_sipq rfl rfl rfl (Nat.le_of_ble_eq_true rfl) rfl (r := 0) ⟨_, gN σ, _, hn, rfl, rfl, by rw [hx]; rfl⟩ ?_)
    refine st_if_eq O dX7_loses_5 (t := 30) rfl (q := 8) rfl (fun c5 => ?_) (fun c5 => ?_)
    · exact bad (by unfold f_loses; rw [hx])
    exact absurd c5 (by decide)
  | some i =>
    cases hy : xi (gN σ) b with
    | none =>
      refine am_begin rfl ?_
      refine st_aloadn O dX7_loses_0 rfl (q := 1) rfl ?_
      refine st_iloadn O dX7_loses_1 rfl (q := 2) rfl ?_
      refine st_call O dX7_loses_2 cs_X7_loses_2 (q := 5) rfl (am_sipq rfl rfl rfl (Nat.le_of_ble_eq_true rfl) rfl (r := 1) ⟨_, gN σ, _, hn, rfl, rfl, by rw [hx]; rfl⟩ ?_)
      refine st_if_eq O dX7_loses_5 (t := 30) rfl (q := 8) rfl (fun c5 => ?_) (fun c5 => ?_)
      · exact absurd c5 (by decide)
      refine st_aloadn O dX7_loses_8 rfl (q := 9) rfl ?_
      refine st_iloadn O dX7_loses_9 rfl (q := 10) rfl ?_
      refine st_call O dX7_loses_10 cs_X7_loses_10 (q := 13) rfl (am_sipq rfl rfl rfl (Nat.le_of_ble_eq_true rfl) rfl (r := 0) ⟨_, gN σ, _, hn, rfl, rfl, by rw [hy]; rfl⟩ ?_)
      refine st_if_eq O dX7_loses_13 (t := 30) rfl (q := 16) rfl (fun c13 => ?_) (fun c13 => ?_)
      · exact bad (by unfold f_loses; rw [hx, hy])
      exact absurd c13 (by decide)
    | some j =>
      by_cases hij : i = j
      · have bad := bad (by unfold f_loses; rw [hx, hy]; exact if_pos hij)
        have hab : a = b := by rw [(xi_some hn hx).2, (xi_some hn hy).2, hij]
        refine am_begin rfl ?_
        refine st_aloadn O dX7_loses_0 rfl (q := 1) rfl ?_
        refine st_iloadn O dX7_loses_1 rfl (q := 2) rfl ?_
        refine st_call O dX7_loses_2 cs_X7_loses_2 (q := 5) rfl (am_sipq rfl rfl rfl (Nat.le_of_ble_eq_true rfl) rfl (r := 1) ⟨_, gN σ, _, hn, rfl, rfl, by rw [hx]; rfl⟩ ?_)
        refine st_if_eq O dX7_loses_5 (t := 30) rfl (q := 8) rfl (fun c5 => ?_) (fun c5 => ?_)
        · exact absurd c5 (by decide)
        refine st_aloadn O dX7_loses_8 rfl (q := 9) rfl ?_
        refine st_iloadn O dX7_loses_9 rfl (q := 10) rfl ?_
        refine st_call O dX7_loses_10 cs_X7_loses_10 (q := 13) rfl (am_sipq rfl rfl rfl (Nat.le_of_ble_eq_true rfl) rfl (r := 1) ⟨_, gN σ, _, hn, rfl, rfl, by rw [hy]; rfl⟩ ?_)
        refine st_if_eq O dX7_loses_13 (t := 30) rfl (q := 16) rfl (fun c13 => ?_) (fun c13 => ?_)
        · exact absurd c13 (by decide)
        refine st_iloadn O dX7_loses_16 rfl (q := 17) rfl ?_
        refine st_iloadn O dX7_loses_17 rfl (q := 18) rfl ?_
        refine st_icmp_eq O dX7_loses_18 (t := 30) rfl (q := 21) rfl (fun c18 => ?_) (fun c18 => ?_)
        · exact bad
        exact absurd hab c18
      · rw [show f_loses a b σ = (iI (lsz (gb σ) (gw σ) (gk σ) (gf σ) (gl σ) (gq σ) i j), σ) by unfold f_loses; rw [hx, hy]; exact if_neg hij] at hK
        obtain ⟨hi9, rfl⟩ := xi_some hn hx
        obtain ⟨hj9, rfl⟩ := xi_some hn hy
        refine am_begin rfl ?_
        refine st_aloadn O dX7_loses_0 rfl (q := 1) rfl ?_
        refine st_iloadn O dX7_loses_1 rfl (q := 2) rfl ?_
        refine st_call O dX7_loses_2 cs_X7_loses_2 (q := 5) rfl (am_sipq rfl rfl rfl (Nat.le_of_ble_eq_true rfl) rfl (r := 1) ⟨_, gN σ, _, hn, rfl, rfl, by rw [hx]; rfl⟩ ?_)
        refine st_if_eq O dX7_loses_5 (t := 30) rfl (q := 8) rfl (fun c5 => ?_) (fun c5 => ?_)
        · exact absurd c5 (by decide)
        refine st_aloadn O dX7_loses_8 rfl (q := 9) rfl ?_
        refine st_iloadn O dX7_loses_9 rfl (q := 10) rfl ?_
        refine st_call O dX7_loses_10 cs_X7_loses_10 (q := 13) rfl (am_sipq rfl rfl rfl (Nat.le_of_ble_eq_true rfl) rfl (r := 1) ⟨_, gN σ, _, hn, rfl, rfl, by rw [hy]; rfl⟩ ?_)
        refine st_if_eq O dX7_loses_13 (t := 30) rfl (q := 16) rfl (fun c13 => ?_) (fun c13 => ?_)
        · exact absurd c13 (by decide)
        refine st_iloadn O dX7_loses_16 rfl (q := 17) rfl ?_
        refine st_iloadn O dX7_loses_17 rfl (q := 18) rfl ?_
        refine st_icmp_eq O dX7_loses_18 (t := 30) rfl (q := 21) rfl (fun c18 => ?_) (fun c18 => ?_)
        · exact absurd ((nI_eq (by omega) (by omega)).mp c18) hij
        refine st_aloadn O dX7_loses_21 rfl (q := 22) rfl ?_
        refine st_iloadn O dX7_loses_22 rfl (q := 23) rfl ?_
        refine st_iloadn O dX7_loses_23 rfl (q := 24) rfl ?_
        refine st_call O dX7_loses_24 cs_X7_loses_24 (q := 27) rfl (am_siq rfl rfl rfl (Nat.le_of_ble_eq_true rfl) rfl ?_)
        refine ⟨σ, i, j, hI, hi9, hj9, hij, rfl, fun D' hI' => ?_⟩
        refine am_nrm rfl (im_put hI hI') ?_
        refine st_goto O dX7_loses_27 (t := 38) rfl ?_
        exact st_ireturn O dX7_loses_38 (hK _ hI')
theorem C_X7_loses : am_ctr yX7_loses cX7_loses 3 (some .int) 4 98 sh_Mod [some 0, none, none] T_X7_loses := am_mk (by decide) (Or.inr (Or.inl ⟨rfl, rfl⟩)) (by decide) (by decide) (by decide) fl_X7_ok kc_X7_ok ck_X7_loses B_X7_loses
theorem lsM_val {f : Nat → Int} {c : Nat} : ∀ m k, (lsM f c m).1 = some k → (lsM f c m).2 = f k ∧ k < m ∧ k ≠ c
  | 0, k, h => by cases h
  | m + 1, k, h => by
    unfold lsM at h ⊢
    split at h
    next hc =>
      cases h
      rw [if_pos hc]
      exact ⟨rfl, Nat.lt_succ_self m, hc.1⟩
    next hc =>
      rw [if_neg hc]
      obtain ⟨a1, a2, a3⟩ := lsM_val m k h
      exact ⟨a1, Nat.lt_succ_of_lt a2, a3⟩
def cs_X7_byWhom : Nat → List am_V → am_D → am_K → Prop := am_cs [(2, am_site 2 [some 0, none] T_X7_isCar [0] [0, 1, 2, 3, 4, 5, 6, 7, 8, 9, 10, 11, 12, 13, 14, 15]), (10, am_site 2 [some 0, none] T_X7_no [0, 9] [0, 9, 1, 2, 3, 4, 5, 6, 7, 8, 10, 11, 12, 13, 14, 15]), (41, am_site 3 [some 0, none, none] T_X7_losesBy [0, 1, 2, 3, 4, 5, 6, 7, 8, 9, 10, 11, 12, 13, 14, 15] [0, 1, 2, 3, 4, 5, 6, 7, 8, 9, 10, 11, 12, 13, 14, 15]), (47, am_site 3 [some 0, none, none] T_X7_losesBy [0, 1, 2, 3, 4, 5, 6, 7, 8, 9, 10, 11, 12, 13, 14, 15] [0, 1, 2, 3, 4, 5, 6, 7, 8, 9, 10, 11, 12, 13, 14, 15])]
theorem cs_X7_byWhom_2 : cs_X7_byWhom 2 = am_site 2 [some 0, none] T_X7_isCar [0] [0, 1, 2, 3, 4, 5, 6, 7, 8, 9, 10, 11, 12, 13, 14, 15] := rfl
theorem cs_X7_byWhom_10 : cs_X7_byWhom 10 = am_site 2 [some 0, none] T_X7_no [0, 9] [0, 9, 1, 2, 3, 4, 5, 6, 7, 8, 10, 11, 12, 13, 14, 15] := rfl
theorem cs_X7_byWhom_41 : cs_X7_byWhom 41 = am_site 3 [some 0, none, none] T_X7_losesBy [0, 1, 2, 3, 4, 5, 6, 7, 8, 9, 10, 11, 12, 13, 14, 15] [0, 1, 2, 3, 4, 5, 6, 7, 8, 9, 10, 11, 12, 13, 14, 15] := rfl
theorem cs_X7_byWhom_47 : cs_X7_byWhom 47 = am_site 3 [some 0, none, none] T_X7_losesBy [0, 1, 2, 3, 4, 5, 6, 7, 8, 9, 10, 11, 12, 13, 14, 15] [0, 1, 2, 3, 4, 5, 6, 7, 8, 9, 10, 11, 12, 13, 14, 15] := rfl
theorem ck_X7_byWhom : ∀ X : am_X, am_cx X RX7 cX7_byWhom 4 4 98 → ∀ pc, am_csok X 4 sh_Mod pc (cs_X7_byWhom pc) := fun X hX => am_cs_ok (List.forall_mem_cons.mpr ⟨am_callV hX C_X7_isCar mo_X7_isCar rfl lk_X7_96 dX7_byWhom_2 rfl rfl rfl (by decide), List.forall_mem_cons.mpr ⟨am_callV hX C_X7_no mo_X7_no rfl lk_X7_66 dX7_byWhom_10 rfl rfl rfl (by decide), List.forall_mem_cons.mpr ⟨am_callV hX C_X7_losesBy mo_X7_losesBy rfl lk_X7_187 dX7_byWhom_41 rfl rfl rfl (by decide), List.forall_mem_cons.mpr ⟨am_callV hX C_X7_losesBy mo_X7_losesBy rfl lk_X7_187 dX7_byWhom_47 rfl rfl rfl (by decide), fun _ h => absurd h List.not_mem_nil⟩⟩⟩⟩)
abbrev ok_X7_byWhom (X : am_X) (K : List Int32 → am_D → Prop) : Prop := am_ok X RX7 cX7_byWhom 4 sh_Mod fl_X7 kc_X7 none 1 cs_X7_byWhom K
abbrev aw_X7_byWhom (X : am_X) (pc : Nat) (ls : am_L) (st : List am_V) (D : am_D) : Prop := am_aw X 4 sh_Mod pc ls st D
abbrev T_X7_byWhom : am_TT := am_s1 IM f_byWhom
set_option maxHeartbeats 200000 in
theorem B_X7_byWhom : ∀ (X : am_X) (is : List Int32) (D : am_D) (K : List Int32 → am_D → Prop), ok_X7_byWhom X K → T_X7_byWhom is D K → is.length = (List.filter Option.isNone ([some 0, none] : List (Option Nat))).length → D.length = sh_Mod.length → am_aw X 4 sh_Mod 0 (am_l0 4 [some 0, none] is) [] D := by
  intro X is D K O hT _ _
  obtain ⟨σ, a, ⟨aT, iM, tU, aS, cH, lO, kA, fA, hA, lA, pA, tA, vA, oA, eA, xA, nA, gA, wA, uA, rfl, hR, ht, ho, hk⟩, rfl, hK⟩ := hT
  obtain ⟨hb, hw, hp, hj, hL⟩ := id hR
  have hn : gN σ ≤ 9 := hL.1
  have eN : gN σ = σ.1.1 := rfl
  cases hx : xi (gN σ) a with
  | none =>
    refine am_begin rfl ?_
    refine st_aloadn O dX7_byWhom_0 rfl (q := 1) rfl ?_
    refine st_iloadn O dX7_byWhom_1 rfl (q := 2) rfl ?_
    refine st_call O dX7_byWhom_2 cs_X7_byWhom_2 (q := 5) rfl (am_sipq rfl rfl rfl (Nat.le_of_ble_eq_true rfl) rfl (r := 0) ⟨_, gN σ, _, hn, rfl, rfl, by rw [hx]; rfl⟩ ?_)
    refine st_if_ne O dX7_byWhom_5 (t := 14) rfl (q := 8) rfl (fun c5 => ?_) (fun c5 => ?_)
    · exact absurd c5 (by decide)
    refine st_aloadn O dX7_byWhom_8 rfl (q := 9) rfl ?_
    refine st_iconst O dX7_byWhom_9 am_iconst_m1 (q := 10) rfl ?_
    refine st_call O dX7_byWhom_10 cs_X7_byWhom_10 (q := 13) rfl (am_siq rfl rfl rfl (Nat.le_of_ble_eq_true rfl) rfl ?_)
    refine ⟨_, _, 1, by decide, by decide, rfl, rfl, ?_⟩
    refine am_nrq rfl rfl ?_
    rw [show f_byWhom a σ = rfs 1 σ from by unfold f_byWhom; rw [hx]] at hK
    exact st_ireturn O dX7_byWhom_13 (hK _ ⟨_, _, _, _, _, _, _, _, _, _, _, _, _, _, _, _, _, _, _, _, rfl, hR, ht, ho, hk⟩)
  | some j =>
    rw [show f_byWhom a σ = (oI (lsM (lsz (gb σ) (gw σ) (gk σ) (gf σ) (gl σ) (gq σ) j) j (gN σ)).1, σ) by unfold f_byWhom; rw [hx]] at hK
    obtain ⟨hj9, rfl⟩ := xi_some hn hx
    have hbd : ∀ k, -100000 ≤ lsz (gb σ) (gw σ) (gk σ) (gf σ) (gl σ) (gq σ) j k ∧ lsz (gb σ) (gw σ) (gk σ) (gf σ) (gl σ) (gq σ) j k ≤ 100000 := fun k => lsz_bd hn hw hp
    have loop : ∀ d m tU aS cH lO gA wA uA aT iM kA fA hA lA pA tA vA oA eA xA nA, IM σ [.inl [nI (gN σ), nI (gb σ), nI (gw σ), nI σ.2.2.1.length, aT, nI σ.2.2.2.1.length, iM, tU, aS, cH, lO, bI false], .inr kA, .inr fA, .inr hA, .inr lA, .inr pA, .inr tA, .inr vA, .inr oA, .inr σ.2.2.2.2, .inr eA, .inr xA, .inr nA, .inr gA, .inr wA, .inr uA] → gN σ - m = d → m ≤ gN σ → am_aw X 4 sh_Mod 19 [some (.inr 0), some (.inl (nI j)), some (.inl (oI (lsM (lsz (gb σ) (gw σ) (gk σ) (gf σ) (gl σ) (gq σ) j) j m).1)), some (.inl (nI m))] [] [.inl [nI (gN σ), nI (gb σ), nI (gw σ), nI σ.2.2.1.length, aT, nI σ.2.2.2.1.length, iM, tU, aS, cH, lO, bI false], .inr kA, .inr fA, .inr hA, .inr lA, .inr pA, .inr tA, .inr vA, .inr oA, .inr σ.2.2.2.2, .inr eA, .inr xA, .inr nA, .inr gA, .inr wA, .inr uA] := by
      intro d
      induction d with
      | zero =>
        intro m tU aS cH lO gA wA uA aT iM kA fA hA lA pA tA vA oA eA xA nA hI hd hm
        have e : m = gN σ := by omega
        subst e
        refine st_iloadn O dX7_byWhom_19 rfl (q := 20) rfl ?_
        refine st_aloadn O dX7_byWhom_20 rfl (q := 21) rfl ?_
        refine st_geti O dX7_byWhom_21 fl_X7_59 rfl rfl rfl rfl (q := 24) rfl ?_
        refine sn_icmp_ge O dX7_byWhom_24 (t := 61) rfl (q := 27) rfl (by omega) (by omega) (fun c24 => ?_) (fun c24 => ?_)
        · refine st_iloadn O dX7_byWhom_61 rfl (q := 62) rfl ?_
          refine st_ireturn O dX7_byWhom_62 ?_
          exact hK _ hI
        omega
      | succ d ih =>
        intro m tU aS cH lO gA wA uA aT iM kA fA hA lA pA tA vA oA eA xA nA hI hd hm
        have ih := fun tU aS cH lO gA wA uA aT iM kA fA hA lA pA tA vA oA eA xA nA h => ih (m + 1) tU aS cH lO gA wA uA aT iM kA fA hA lA pA tA vA oA eA xA nA h (by omega) (by omega)
        generalize hF : lsz (gb σ) (gw σ) (gk σ) (gf σ) (gl σ) (gq σ) j = F at ih hbd
        unfold lsM at ih
        by_cases hmj : m = j
        · simp only [if_neg (fun z => z.1 hmj : ¬ (m ≠ j ∧ ((lsM F j m).1 = none ∨ (lsM F j m).2 < F m)))] at ih
          refine st_iloadn O dX7_byWhom_19 rfl (q := 20) rfl ?_
          refine st_aloadn O dX7_byWhom_20 rfl (q := 21) rfl ?_
          refine st_geti O dX7_byWhom_21 fl_X7_59 rfl rfl rfl rfl (q := 24) rfl ?_
          refine sn_icmp_ge O dX7_byWhom_24 (t := 61) rfl (q := 27) rfl (by omega) (by omega) (fun c24 => ?_) (fun c24 => ?_)
          · omega
          refine st_iloadn O dX7_byWhom_27 rfl (q := 28) rfl ?_
          refine st_iloadn O dX7_byWhom_28 rfl (q := 29) rfl ?_
          refine sn_icmp_eq O dX7_byWhom_29 (t := 55) rfl (q := 32) rfl (by omega) (by omega) (fun c29 => ?_) (fun c29 => ?_)
          · refine st_iinc O dX7_byWhom_55 rfl (by first | exact am_ii1 _ | exact rfl) rfl (q := 58) rfl ?_
            refine st_goto O dX7_byWhom_58 (t := 19) rfl ?_
            exact ih _ _ _ _ _ _ _ _ _ _ _ _ _ _ _ _ _ _ _ _ hI
          exact absurd hmj c29
        · cases hfo : (lsM F j m).1 with
          | none =>
            simp only [if_pos (⟨hmj, Or.inl hfo⟩ : m ≠ j ∧ ((lsM F j m).1 = none ∨ (lsM F j m).2 < F m))] at ih
            refine st_iloadn O dX7_byWhom_19 rfl (q := 20) rfl ?_
            refine st_aloadn O dX7_byWhom_20 rfl (q := 21) rfl ?_
            refine st_geti O dX7_byWhom_21 fl_X7_59 rfl rfl rfl rfl (q := 24) rfl ?_
            refine sn_icmp_ge O dX7_byWhom_24 (t := 61) rfl (q := 27) rfl (by omega) (by omega) (fun c24 => ?_) (fun c24 => ?_)
            · omega
            refine st_iloadn O dX7_byWhom_27 rfl (q := 28) rfl ?_
            refine st_iloadn O dX7_byWhom_28 rfl (q := 29) rfl ?_
            refine sn_icmp_eq O dX7_byWhom_29 (t := 55) rfl (q := 32) rfl (by omega) (by omega) (fun c29 => ?_) (fun c29 => ?_)
            · exact absurd c29 hmj
            refine st_iloadn O dX7_byWhom_32 rfl (q := 33) rfl ?_
            refine st_bipush O dX7_byWhom_33 am_bipush_m9 (q := 35) rfl ?_
            refine st_icmp_eq O dX7_byWhom_35 (t := 53) rfl (q := 38) rfl (fun c35 => ?_) (fun c35 => ?_)
            · refine st_iloadn O dX7_byWhom_53 rfl (q := 54) rfl ?_
              refine st_istoren O dX7_byWhom_54 rfl (q := 55) rfl ?_
              refine st_iinc O dX7_byWhom_55 rfl (by first | exact am_ii1 _ | exact rfl) rfl (q := 58) rfl ?_
              refine st_goto O dX7_byWhom_58 (t := 19) rfl ?_
              exact ih _ _ _ _ _ _ _ _ _ _ _ _ _ _ _ _ _ _ _ _ hI
            exact absurd rfl c35
          | some k =>
            obtain ⟨v1, v2, v3⟩ := lsM_val m k hfo
            by_cases hlt : (lsM F j m).2 < F m
            · simp only [if_pos (⟨hmj, Or.inr hlt⟩ : m ≠ j ∧ ((lsM F j m).1 = none ∨ (lsM F j m).2 < F m))] at ih
              rw [v1] at hlt
              refine st_iloadn O dX7_byWhom_19 rfl (q := 20) rfl ?_
              refine st_aloadn O dX7_byWhom_20 rfl (q := 21) rfl ?_
              refine st_geti O dX7_byWhom_21 fl_X7_59 rfl rfl rfl rfl (q := 24) rfl ?_
              refine sn_icmp_ge O dX7_byWhom_24 (t := 61) rfl (q := 27) rfl (by omega) (by omega) (fun c24 => ?_) (fun c24 => ?_)
              · omega
              refine st_iloadn O dX7_byWhom_27 rfl (q := 28) rfl ?_
              refine st_iloadn O dX7_byWhom_28 rfl (q := 29) rfl ?_
              refine sn_icmp_eq O dX7_byWhom_29 (t := 55) rfl (q := 32) rfl (by omega) (by omega) (fun c29 => ?_) (fun c29 => ?_)
              · exact absurd c29 hmj
              refine st_iloadn O dX7_byWhom_32 rfl (q := 33) rfl ?_
              refine st_bipush O dX7_byWhom_33 am_bipush_m9 (q := 35) rfl ?_
              refine st_icmp_eq O dX7_byWhom_35 (t := 53) rfl (q := 38) rfl (fun c35 => ?_) (fun c35 => ?_)
              · exact absurd c35 (nn9 _ (by omega))
              refine st_aloadn O dX7_byWhom_38 rfl (q := 39) rfl ?_
              refine st_iloadn O dX7_byWhom_39 rfl (q := 40) rfl ?_
              refine st_iloadn O dX7_byWhom_40 rfl (q := 41) rfl ?_
              refine st_call O dX7_byWhom_41 cs_X7_byWhom_41 (q := 44) rfl (am_siq rfl rfl rfl (Nat.le_of_ble_eq_true rfl) rfl ?_)
              refine ⟨σ, j, m, hI, hj9, by omega, fun e => hmj e.symm, rfl, fun D' hI' => ?_⟩
              refine am_nrm rfl (im_put hI hI') ?_
              rw [hF]
              obtain ⟨aT', iM', tU', aS', cH', lO', kA', fA', hA', lA', pA', tA', vA', oA', eA', xA', nA', gA', wA', uA', rfl, hI2⟩ := id hI'
              refine st_aloadn O dX7_byWhom_44 rfl (q := 45) rfl ?_
              refine st_iloadn O dX7_byWhom_45 rfl (q := 46) rfl ?_
              refine st_iloadn O dX7_byWhom_46 rfl (q := 47) rfl ?_
              refine st_call O dX7_byWhom_47 cs_X7_byWhom_47 (q := 50) rfl (am_siq rfl rfl rfl (Nat.le_of_ble_eq_true rfl) rfl ?_)
              refine ⟨σ, j, k, hI', hj9, by omega, fun e => v3 e.symm, rfl, fun D' hI'' => ?_⟩
              refine am_nrm rfl (im_put hI' hI'') ?_
              rw [hF]
              obtain ⟨aT'', iM'', tU'', aS'', cH'', lO'', kA'', fA'', hA'', lA'', pA'', tA'', vA'', oA'', eA'', xA'', nA'', gA'', wA'', uA'', rfl, hI3⟩ := id hI''
              refine st_icmp_le O dX7_byWhom_50 (t := 55) rfl (q := 53) rfl (fun c50 => ?_) (fun c50 => ?_)
              · exact absurd ((iI_le (hbd m).1 (hbd m).2 (hbd k).1 (hbd k).2).mp c50) (by omega)
              refine st_iloadn O dX7_byWhom_53 rfl (q := 54) rfl ?_
              refine st_istoren O dX7_byWhom_54 rfl (q := 55) rfl ?_
              refine st_iinc O dX7_byWhom_55 rfl (by first | exact am_ii1 _ | exact rfl) rfl (q := 58) rfl ?_
              refine st_goto O dX7_byWhom_58 (t := 19) rfl ?_
              exact ih _ _ _ _ _ _ _ _ _ _ _ _ _ _ _ _ _ _ _ _ hI''
            · simp only [if_neg (fun z => z.2.elim (fun e => by rw [hfo] at e; cases e) hlt : ¬ (m ≠ j ∧ ((lsM F j m).1 = none ∨ (lsM F j m).2 < F m)))] at ih
              rw [v1] at hlt
              rw [hfo] at ih
              refine st_iloadn O dX7_byWhom_19 rfl (q := 20) rfl ?_
              refine st_aloadn O dX7_byWhom_20 rfl (q := 21) rfl ?_
              refine st_geti O dX7_byWhom_21 fl_X7_59 rfl rfl rfl rfl (q := 24) rfl ?_
              refine sn_icmp_ge O dX7_byWhom_24 (t := 61) rfl (q := 27) rfl (by omega) (by omega) (fun c24 => ?_) (fun c24 => ?_)
              · omega
              refine st_iloadn O dX7_byWhom_27 rfl (q := 28) rfl ?_
              refine st_iloadn O dX7_byWhom_28 rfl (q := 29) rfl ?_
              refine sn_icmp_eq O dX7_byWhom_29 (t := 55) rfl (q := 32) rfl (by omega) (by omega) (fun c29 => ?_) (fun c29 => ?_)
              · exact absurd c29 hmj
              refine st_iloadn O dX7_byWhom_32 rfl (q := 33) rfl ?_
              refine st_bipush O dX7_byWhom_33 am_bipush_m9 (q := 35) rfl ?_
              refine st_icmp_eq O dX7_byWhom_35 (t := 53) rfl (q := 38) rfl (fun c35 => ?_) (fun c35 => ?_)
              · exact absurd c35 (nn9 _ (by omega))
              refine st_aloadn O dX7_byWhom_38 rfl (q := 39) rfl ?_
              refine st_iloadn O dX7_byWhom_39 rfl (q := 40) rfl ?_
              refine st_iloadn O dX7_byWhom_40 rfl (q := 41) rfl ?_
              refine st_call O dX7_byWhom_41 cs_X7_byWhom_41 (q := 44) rfl (am_siq rfl rfl rfl (Nat.le_of_ble_eq_true rfl) rfl ?_)
              refine ⟨σ, j, m, hI, hj9, by omega, fun e => hmj e.symm, rfl, fun D' hI' => ?_⟩
              refine am_nrm rfl (im_put hI hI') ?_
              rw [hF]
              obtain ⟨aT', iM', tU', aS', cH', lO', kA', fA', hA', lA', pA', tA', vA', oA', eA', xA', nA', gA', wA', uA', rfl, hI2⟩ := id hI'
              refine st_aloadn O dX7_byWhom_44 rfl (q := 45) rfl ?_
              refine st_iloadn O dX7_byWhom_45 rfl (q := 46) rfl ?_
              refine st_iloadn O dX7_byWhom_46 rfl (q := 47) rfl ?_
              refine st_call O dX7_byWhom_47 cs_X7_byWhom_47 (q := 50) rfl (am_siq rfl rfl rfl (Nat.le_of_ble_eq_true rfl) rfl ?_)
              refine ⟨σ, j, k, hI', hj9, by omega, fun e => v3 e.symm, rfl, fun D' hI'' => ?_⟩
              refine am_nrm rfl (im_put hI' hI'') ?_
              rw [hF]
              obtain ⟨aT'', iM'', tU'', aS'', cH'', lO'', kA'', fA'', hA'', lA'', pA'', tA'', vA'', oA'', eA'', xA'', nA'', gA'', wA'', uA'', rfl, hI3⟩ := id hI''
              refine st_icmp_le O dX7_byWhom_50 (t := 55) rfl (q := 53) rfl (fun c50 => ?_) (fun c50 => ?_)
              · refine st_iinc O dX7_byWhom_55 rfl (by first | exact am_ii1 _ | exact rfl) rfl (q := 58) rfl ?_
                refine st_goto O dX7_byWhom_58 (t := 19) rfl ?_
                exact ih _ _ _ _ _ _ _ _ _ _ _ _ _ _ _ _ _ _ _ _ hI''
              exact absurd ((iI_lt (hbd k).1 (hbd k).2 (hbd m).1 (hbd m).2).mp (Int32.not_le.mp c50)) hlt
    refine am_begin rfl ?_
    refine st_aloadn O dX7_byWhom_0 rfl (q := 1) rfl ?_
    refine st_iloadn O dX7_byWhom_1 rfl (q := 2) rfl ?_
    refine st_call O dX7_byWhom_2 cs_X7_byWhom_2 (q := 5) rfl (am_sipq rfl rfl rfl (Nat.le_of_ble_eq_true rfl) rfl (r := 1) ⟨_, gN σ, _, hn, rfl, rfl, by rw [hx]; rfl⟩ ?_)
    refine st_if_ne O dX7_byWhom_5 (t := 14) rfl (q := 8) rfl (fun c5 => ?_) (fun c5 => ?_)
    · refine st_bipush O dX7_byWhom_14 am_bipush_m9 (q := 16) rfl ?_
      refine st_istoren O dX7_byWhom_16 rfl (q := 17) rfl ?_
      refine st_iconst O dX7_byWhom_17 am_iconst_0 (q := 18) rfl ?_
      refine st_istoren O dX7_byWhom_18 rfl (q := 19) rfl ?_
      exact loop (gN σ) 0 _ _ _ _ _ _ _ _ _ _ _ _ _ _ _ _ _ _ _ _ ⟨_, _, _, _, _, _, _, _, _, _, _, _, _, _, _, _, _, _, _, _, rfl, hR, ht, ho, hk⟩ rfl (Nat.zero_le _)
    exact absurd c5 (by decide)
theorem C_X7_byWhom : am_ctr yX7_byWhom cX7_byWhom 4 (some .int) 4 98 sh_Mod [some 0, none] T_X7_byWhom := am_mk (by decide) (Or.inr (Or.inl ⟨rfl, rfl⟩)) (by decide) (by decide) (by decide) fl_X7_ok kc_X7_ok ck_X7_byWhom B_X7_byWhom
