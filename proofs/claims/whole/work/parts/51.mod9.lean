/-! the reference's calls: spoil, mend -/
def cs_X7_fewest : Nat → List am_V → am_D → am_K → Prop := am_cs [(6, am_site 1 [some 0] T_X7_seconds [0, 1, 2, 4, 5, 13, 14, 15] [0, 1, 2, 4, 5, 13, 14, 15, 3, 6, 7, 8, 9, 10, 11, 12]), (13, am_site 1 [some 0] T_X7_cost [0, 1, 2, 3, 4, 5, 13, 14, 15] [0, 1, 2, 3, 4, 5, 13, 14, 15, 6, 7, 8, 9, 10, 11, 12]), (26, am_site 2 [some 0, some 6] T_X7_keep_ [0, 1, 2, 3, 4, 5, 12] [0, 1, 2, 3, 4, 5, 12, 6, 7, 8, 9, 10, 11, 12, 13, 14, 15]), (52, am_site 1 [none] T_J6_bitCount_0f7a4 [] []), (57, am_site 1 [none] T_J6_bitCount_0f7a4 [] []), (109, am_site 1 [some 0] T_X7_seconds [0, 1, 2, 4, 5, 13, 14, 15] [0, 1, 2, 4, 5, 13, 14, 15, 3, 6, 7, 8, 9, 10, 11, 12]), (125, am_site 1 [some 0] T_X7_cost [0, 1, 2, 3, 4, 5, 13, 14, 15] [0, 1, 2, 3, 4, 5, 13, 14, 15, 6, 7, 8, 9, 10, 11, 12]), (144, am_site 2 [some 0, some 6] T_X7_again [0, 1, 2, 3, 4, 5, 12] [0, 1, 2, 3, 4, 5, 12, 6, 7, 8, 9, 10, 11, 12, 13, 14, 15]), (180, am_site 1 [none] T_J6_bitCount_0f7a4 [] [])]
theorem cs_X7_fewest_6 : cs_X7_fewest 6 = am_site 1 [some 0] T_X7_seconds [0, 1, 2, 4, 5, 13, 14, 15] [0, 1, 2, 4, 5, 13, 14, 15, 3, 6, 7, 8, 9, 10, 11, 12] := rfl
theorem cs_X7_fewest_13 : cs_X7_fewest 13 = am_site 1 [some 0] T_X7_cost [0, 1, 2, 3, 4, 5, 13, 14, 15] [0, 1, 2, 3, 4, 5, 13, 14, 15, 6, 7, 8, 9, 10, 11, 12] := rfl
theorem cs_X7_fewest_26 : cs_X7_fewest 26 = am_site 2 [some 0, some 6] T_X7_keep_ [0, 1, 2, 3, 4, 5, 12] [0, 1, 2, 3, 4, 5, 12, 6, 7, 8, 9, 10, 11, 12, 13, 14, 15] := rfl
theorem cs_X7_fewest_52 : cs_X7_fewest 52 = am_site 1 [none] T_J6_bitCount_0f7a4 [] [] := rfl
theorem cs_X7_fewest_57 : cs_X7_fewest 57 = am_site 1 [none] T_J6_bitCount_0f7a4 [] [] := rfl
theorem cs_X7_fewest_109 : cs_X7_fewest 109 = am_site 1 [some 0] T_X7_seconds [0, 1, 2, 4, 5, 13, 14, 15] [0, 1, 2, 4, 5, 13, 14, 15, 3, 6, 7, 8, 9, 10, 11, 12] := rfl
theorem cs_X7_fewest_125 : cs_X7_fewest 125 = am_site 1 [some 0] T_X7_cost [0, 1, 2, 3, 4, 5, 13, 14, 15] [0, 1, 2, 3, 4, 5, 13, 14, 15, 6, 7, 8, 9, 10, 11, 12] := rfl
theorem cs_X7_fewest_144 : cs_X7_fewest 144 = am_site 2 [some 0, some 6] T_X7_again [0, 1, 2, 3, 4, 5, 12] [0, 1, 2, 3, 4, 5, 12, 6, 7, 8, 9, 10, 11, 12, 13, 14, 15] := rfl
theorem cs_X7_fewest_180 : cs_X7_fewest 180 = am_site 1 [none] T_J6_bitCount_0f7a4 [] [] := rfl
theorem ck_X7_fewest : ∀ X : am_X, am_cx X RX7 cX7_fewest 7 4 97 → ∀ pc, am_csok X 7 sh_Mod pc (cs_X7_fewest pc) := fun X hX => am_cs_ok (List.forall_mem_cons.mpr ⟨am_callV hX C_X7_seconds mo_X7_seconds rfl lk_X7_164 dX7_fewest_6 rfl rfl rfl (by decide), List.forall_mem_cons.mpr ⟨am_callV hX C_X7_cost mo_X7_cost rfl lk_X7_168 dX7_fewest_13 rfl rfl rfl (by decide), List.forall_mem_cons.mpr ⟨am_callV hX C_X7_keep_ mo_X7_keep_ rfl lk_X7_116 dX7_fewest_26 rfl rfl rfl (by decide), List.forall_mem_cons.mpr ⟨am_callS hX C_J6_bitCount_0f7a4 mo_J6_bitCount_0f7a4 rfl lk_X7_175 dX7_fewest_52 rfl (by decide), List.forall_mem_cons.mpr ⟨am_callS hX C_J6_bitCount_0f7a4 mo_J6_bitCount_0f7a4 rfl lk_X7_175 dX7_fewest_57 rfl (by decide), List.forall_mem_cons.mpr ⟨am_callV hX C_X7_seconds mo_X7_seconds rfl lk_X7_164 dX7_fewest_109 rfl rfl rfl (by decide), List.forall_mem_cons.mpr ⟨am_callV hX C_X7_cost mo_X7_cost rfl lk_X7_168 dX7_fewest_125 rfl rfl rfl (by decide), List.forall_mem_cons.mpr ⟨am_callV hX C_X7_again mo_X7_again rfl lk_X7_120 dX7_fewest_144 rfl rfl rfl (by decide), List.forall_mem_cons.mpr ⟨am_callS hX C_J6_bitCount_0f7a4 mo_J6_bitCount_0f7a4 rfl lk_X7_175 dX7_fewest_180 rfl (by decide), fun _ h => absurd h List.not_mem_nil⟩⟩⟩⟩⟩⟩⟩⟩⟩)
abbrev ok_X7_fewest (X : am_X) (K : List Int32 → am_D → Prop) : Prop := am_ok X RX7 cX7_fewest 7 sh_Mod fl_X7 kc_X7 none 1 cs_X7_fewest K
abbrev aw_X7_fewest (X : am_X) (pc : Nat) (ls : am_L) (st : List am_V) (D : am_D) : Prop := am_aw X 7 sh_Mod pc ls st D
abbrev T_X7_fewest : am_TT := fun is D K => ∃ σ md w, IM σ D ∧ is = [nI (if md = true then 5 else 2), w] ∧ (w = 0 ∨ w = 1) ∧ ∀ D', IM σ D' → K [boh (ffS (fun s a => decide (pc a = s) && rch (gN σ) (gb σ) (gw σ) (gk σ) (gf σ) (gl σ) (gh σ) (gq σ) md a) 1 (2 ^ gN σ - 1) 1 (gN σ)) w] D'
theorem kdS_0 (kd : Nat → Nat) (k n : Nat) : kdS kd k 0 n = kd := by
  funext c
  unfold kdS
  rw [if_neg (fun z => by rw [Nat.zero_testBit] at z; exact absurd z.2 (by decide))]
theorem rch_0 (n b w : Nat) (kd fg la hu : Nat → Nat) (li : List Nat) (md : Bool) : rch n b w kd fg la hu li md 0 = false := by
  unfold rch
  rw [kdS_0, kdS_0]
  cases md
  · exact decide_eq_false (Nat.lt_irrefl _)
  · exact decide_eq_false (Nat.lt_irrefl _)
set_option maxHeartbeats 200000 in
theorem B_X7_fewest : ∀ (X : am_X) (is : List Int32) (D : am_D) (K : List Int32 → am_D → Prop), ok_X7_fewest X K → T_X7_fewest is D K → is.length = (List.filter Option.isNone ([some 0, none, none] : List (Option Nat))).length → D.length = sh_Mod.length → am_aw X 7 sh_Mod 0 (am_l0 7 [some 0, none, none] is) [] D := by
  intro X is D K O hT _ _
  obtain ⟨σ, md, w, ⟨aT, iM, tU, aS, cH, lO, kA, fA, hA, lA, pA, tA, vA, oA, eA, xA, nA, gA, wA, uA, rfl, hR, ht, ho, hk⟩, rfl, hw01, hK⟩ := hT
  obtain ⟨hb, hw, hp, hj, hL⟩ := id hR
  have hn : gN σ ≤ 9 := hL.1
  have eN : gN σ = σ.1.1 := rfl
  have hC : gC σ ≤ 30000 := c_bd hR _ _ _ _ _ hp 0
  have hS : tot (gL σ) ≤ 117 := (simA_bd (n := gN σ) (hu := gh σ) hn hw (fun c hc => (hj c hc).2.2.1.2) hp 0).1
  obtain ⟨as, has⟩ : ∃ as, as = if md = true then 5 else 2 := ⟨_, rfl⟩
  obtain ⟨be, hbe⟩ : ∃ be, be = bef (gb σ) (gw σ) (gk σ) (gf σ) (gl σ) (gh σ) (gq σ) md := ⟨_, rfl⟩
  have hbe3 : be ≤ 30000 := by rw [hbe]; unfold bef; cases md; exact Nat.le_trans hS (by decide); exact hC
  have has5 : as ≤ 5 := by rw [has]; split <;> decide
  have hrc : ∀ s, rch (gN σ) (gb σ) (gw σ) (gk σ) (gf σ) (gl σ) (gh σ) (gq σ) md s = if md = true then decide (cst (gh σ) (simA (gb σ) (gw σ) (kdS (gk σ) as s (gN σ)) (gf σ) (gl σ) (gq σ) 0) < be) else decide (be < tot (simA (gb σ) (gw σ) (kdS (gk σ) as s (gN σ)) (gf σ) (gl σ) (gq σ) 0)) := by
    intro s
    rw [has, hbe]
    unfold rch bef
    cases md <;> rfl
  have hp0 := rch_0 (gN σ) (gb σ) (gw σ) (gk σ) (gf σ) (gl σ) (gh σ) (gq σ) md
  have hK : ∀ D', IM σ D' → K [boh (fdM (rch (gN σ) (gb σ) (gw σ) (gk σ) (gf σ) (gl σ) (gh σ) (gq σ) md) (2 ^ gN σ)) w] D' := by rw [fd_ff hn hp0]; exact hK
  generalize hF : rch (gN σ) (gb σ) (gw σ) (gk σ) (gf σ) (gl σ) (gh σ) (gq σ) md = p at hK hrc
  obtain ⟨p21, p22⟩ := p2_le (gN σ) (by omega)
  have hsh := sh_tab2 (gN σ) (by omega)
  have hfd : ∀ m, m ≤ 2 ^ gN σ → ∀ c, fdM p m = some c → c < 512 := fun m hm c hc => by have := ((fdM_spec (p := p) m).1 c hc).1; omega
  rw [← has]
  have loop : ∀ d s tU aS cH lO kA fA hA lA pA nA gA wA uA y6 k0 f0 h0 l0 p0, mR σ.1 kA fA hA lA pA → mR σ.1 k0 f0 h0 l0 p0 → kpy (gN σ) (gb σ) (gw σ) k0 f0 h0 l0 p0 nA → 2 ^ gN σ - s = d → s ≤ 2 ^ gN σ → am_aw X 7 sh_Mod 32 [some (.inr 0), some (.inl (nI as)), some (.inl w), some (.inl (nI be)), some (.inl (oI (fdM p s))), some (.inl (nI s)), y6] [] [.inl [nI (gN σ), nI (gb σ), nI (gw σ), nI σ.2.2.1.length, aT, nI σ.2.2.2.1.length, iM, tU, aS, cH, lO, bI false], .inr kA, .inr fA, .inr hA, .inr lA, .inr pA, .inr tA, .inr vA, .inr oA, .inr σ.2.2.2.2, .inr eA, .inr xA, .inr nA, .inr gA, .inr wA, .inr uA] := by
    intro d
    induction d with
    | zero =>
      intro s tU aS cH lO kA fA hA lA pA nA gA wA uA y6 k0 f0 h0 l0 p0 hR h00 hc0 hd hm
      have e : s = 2 ^ gN σ := by omega
      subst e
      have hno := oI_none (o := fdM p (2 ^ gN σ)) (fun c hc => by have := hfd _ (Nat.le_refl _) c hc; omega)
      cases hfo : fdM p (2 ^ gN σ) with
      | none =>
        rw [hfo] at hK
        refine st_iload O dX7_fewest_32 rfl (q := 34) rfl ?_
        refine st_iconst O dX7_fewest_34 am_iconst_1 (q := 35) rfl ?_
        refine st_aloadn O dX7_fewest_35 rfl (q := 36) rfl ?_
        refine st_geti O dX7_fewest_36 fl_X7_59 rfl rfl rfl rfl (q := 39) rfl ?_
        refine st_ishl O dX7_fewest_39 hsh (q := 40) rfl ?_
        refine sn_icmp_ge O dX7_fewest_40 (t := 162) rfl (q := 43) rfl (by omega) (by omega) (fun c40 => ?_) (fun c40 => ?_)
        · refine st_iload O dX7_fewest_162 rfl (q := 164) rfl ?_
          refine st_bipush O dX7_fewest_164 am_bipush_m9 (q := 166) rfl ?_
          refine st_icmp_eq O dX7_fewest_166 (t := 173) rfl (q := 169) rfl (fun c166 => ?_) (fun c166 => ?_)
          · refine st_iload O dX7_fewest_173 rfl (q := 175) rfl ?_
            refine st_goto O dX7_fewest_175 (t := 183) rfl ?_
            refine st_ireturn O dX7_fewest_183 ?_
            exact hK _ ⟨_, _, _, _, _, _, _, _, _, _, _, _, _, _, _, _, _, _, _, _, rfl, hR, ht, ho, hk⟩
          exact absurd rfl c166
        omega
      | some f =>
        have hf5 := hfd _ (Nat.le_refl _) f hfo
        rw [hfo] at hK hno
        have hK : ∀ D', IM σ D' → K [if w = 0 then nI f else nI (pc f)] D' := hK
        refine st_iload O dX7_fewest_32 rfl (q := 34) rfl ?_
        refine st_iconst O dX7_fewest_34 am_iconst_1 (q := 35) rfl ?_
        refine st_aloadn O dX7_fewest_35 rfl (q := 36) rfl ?_
        refine st_geti O dX7_fewest_36 fl_X7_59 rfl rfl rfl rfl (q := 39) rfl ?_
        refine st_ishl O dX7_fewest_39 hsh (q := 40) rfl ?_
        refine sn_icmp_ge O dX7_fewest_40 (t := 162) rfl (q := 43) rfl (by omega) (by omega) (fun c40 => ?_) (fun c40 => ?_)
        · refine st_iload O dX7_fewest_162 rfl (q := 164) rfl ?_
          refine st_bipush O dX7_fewest_164 am_bipush_m9 (q := 166) rfl ?_
          refine st_icmp_eq O dX7_fewest_166 (t := 173) rfl (q := 169) rfl (fun c166 => ?_) (fun c166 => ?_)
          · exact absurd (hno.mp c166) (by simp)
          refine st_iloadn O dX7_fewest_169 rfl (q := 170) rfl ?_
          refine st_if_ne O dX7_fewest_170 (t := 178) rfl (q := 173) rfl (fun c170 => ?_) (fun c170 => ?_)
          · refine st_iload O dX7_fewest_178 rfl (q := 180) rfl ?_
            refine st_callS O dX7_fewest_180 cs_X7_fewest_180 (q := 183) rfl (am_sipq rfl rfl rfl (Nat.le_of_ble_eq_true rfl) rfl (r := nI (pc f)) ⟨f, hf5, rfl, rfl⟩ ?_)
            refine st_ireturn O dX7_fewest_183 ?_
            first | (rw [if_pos (by first | exact c170 | exact Decidable.of_not_not c170)] at hK; exact hK _ ⟨_, _, _, _, _, _, _, _, _, _, _, _, _, _, _, _, _, _, _, _, rfl, hR, ht, ho, hk⟩) | (rw [if_neg c170] at hK; exact hK _ ⟨_, _, _, _, _, _, _, _, _, _, _, _, _, _, _, _, _, _, _, _, rfl, hR, ht, ho, hk⟩)
          refine st_iload O dX7_fewest_173 rfl (q := 175) rfl ?_
          refine st_goto O dX7_fewest_175 (t := 183) rfl ?_
          refine st_ireturn O dX7_fewest_183 ?_
          first | (rw [if_pos (by first | exact c170 | exact Decidable.of_not_not c170)] at hK; exact hK _ ⟨_, _, _, _, _, _, _, _, _, _, _, _, _, _, _, _, _, _, _, _, rfl, hR, ht, ho, hk⟩) | (rw [if_neg c170] at hK; exact hK _ ⟨_, _, _, _, _, _, _, _, _, _, _, _, _, _, _, _, _, _, _, _, rfl, hR, ht, ho, hk⟩)
        omega
    | succ d ih =>
      intro s tU aS cH lO kA fA hA lA pA nA gA wA uA y6 k0 f0 h0 l0 p0 hR h00 hc0 hd hm
      obtain ⟨-, -, -, hj, hL⟩ := id hR
      have hs2 : s < 2 ^ gN σ := by omega
      have hs5 : s < 512 := by omega
      have hfds := hfd s (by omega)
      have pc9 := pc_le s
      have ih := fun tU aS cH lO kA fA hA lA pA nA gA wA uA y6 h => ih (s + 1) tU aS cH lO kA fA hA lA pA nA gA wA uA y6 k0 f0 h0 l0 p0 h h00
      -- behind the compare of counts
      have main : (∀ o', o' = (if p s = true then some s else fdM p s) → fdM p (s + 1) = o') → am_aw X 7 sh_Mod 66 [some (.inr 0), some (.inl (nI as)), some (.inl w), some (.inl (nI be)), some (.inl (oI (fdM p s))), some (.inl (nI s)), y6] [] [.inl [nI (gN σ), nI (gb σ), nI (gw σ), nI σ.2.2.1.length, aT, nI σ.2.2.2.1.length, iM, tU, aS, cH, lO, bI false], .inr kA, .inr fA, .inr hA, .inr lA, .inr pA, .inr tA, .inr vA, .inr oA, .inr σ.2.2.2.2, .inr eA, .inr xA, .inr nA, .inr gA, .inr wA, .inr uA] := by
        intro hst
        have fin : ∀ tU aS cH lO kA fA hA lA pA gA wA uA, am_aw X 7 sh_Mod 139 [some (.inr 0), some (.inl (nI as)), some (.inl w), some (.inl (nI be)), some (.inl (oI (fdM p s))), some (.inl (nI s)), some (.inl (bI (p s)))] [] [.inl [nI (gN σ), nI (gb σ), nI (gw σ), nI σ.2.2.1.length, aT, nI σ.2.2.2.1.length, iM, tU, aS, cH, lO, bI false], .inr kA, .inr fA, .inr hA, .inr lA, .inr pA, .inr tA, .inr vA, .inr oA, .inr σ.2.2.2.2, .inr eA, .inr xA, .inr nA, .inr gA, .inr wA, .inr uA] := by
          intro tU aS cH lO kA fA hA lA pA gA wA uA
          have hst := hst _ rfl
          cases hps : p s with
          | true =>
            rw [hps, if_pos rfl] at hst
            rw [hst] at ih
            refine st_aloadn O dX7_fewest_139 rfl (q := 140) rfl ?_
            refine st_aloadn O dX7_fewest_140 rfl (q := 141) rfl ?_
            refine st_getr O dX7_fewest_141 fl_X7_43 rfl rfl rfl (q := 144) rfl ?_
            refine st_call O dX7_fewest_144 cs_X7_fewest_144 (q := 147) rfl (am_siq rfl rfl rfl (Nat.le_of_ble_eq_true rfl) rfl ?_)
            refine ⟨gN σ, gb σ, gw σ, _, _, _, _, k0, f0, h0, l0, p0, _, _, _, _, _, _, rfl, rfl, hc0, fun kC fC hC lC pC hcc => ?_⟩
            refine am_nrp rfl rfl rfl rfl ?_
            refine st_iload O dX7_fewest_147 rfl (q := 149) rfl ?_
            refine st_if_eq O dX7_fewest_149 (t := 156) rfl (q := 152) rfl (fun c149 => ?_) (fun c149 => ?_)
            · exact absurd c149 (by decide)
            refine st_iload O dX7_fewest_152 rfl (q := 154) rfl ?_
            refine st_istore O dX7_fewest_154 rfl (q := 156) rfl ?_
            refine st_iinc O dX7_fewest_156 rfl (by first | exact am_ii1 _ | exact rfl) rfl (q := 159) rfl ?_
            refine st_goto O dX7_fewest_159 (t := 32) rfl ?_
            exact ih _ _ _ _ _ _ _ _ _ _ _ _ _ _ (mR_congr h00 hcc) hc0 (by omega) (by omega)
          | false =>
            rw [hps, if_neg (by decide)] at hst
            rw [hst] at ih
            refine st_aloadn O dX7_fewest_139 rfl (q := 140) rfl ?_
            refine st_aloadn O dX7_fewest_140 rfl (q := 141) rfl ?_
            refine st_getr O dX7_fewest_141 fl_X7_43 rfl rfl rfl (q := 144) rfl ?_
            refine st_call O dX7_fewest_144 cs_X7_fewest_144 (q := 147) rfl (am_siq rfl rfl rfl (Nat.le_of_ble_eq_true rfl) rfl ?_)
            refine ⟨gN σ, gb σ, gw σ, _, _, _, _, k0, f0, h0, l0, p0, _, _, _, _, _, _, rfl, rfl, hc0, fun kC fC hC lC pC hcc => ?_⟩
            refine am_nrp rfl rfl rfl rfl ?_
            refine st_iload O dX7_fewest_147 rfl (q := 149) rfl ?_
            refine st_if_eq O dX7_fewest_149 (t := 156) rfl (q := 152) rfl (fun c149 => ?_) (fun c149 => ?_)
            · refine st_iinc O dX7_fewest_156 rfl (by first | exact am_ii1 _ | exact rfl) rfl (q := 159) rfl ?_
              refine st_goto O dX7_fewest_159 (t := 32) rfl ?_
              exact ih _ _ _ _ _ _ _ _ _ _ _ _ _ _ (mR_congr h00 hcc) hc0 (by omega) (by omega)
            exact absurd c149 (by decide)
        have inner : ∀ d c kB, gN σ - c = d → c ≤ gN σ → (∀ x, x < gN σ → kB x = nI (kdS (gk σ) as s c x)) → am_aw X 7 sh_Mod 69 [some (.inr 0), some (.inl (nI as)), some (.inl w), some (.inl (nI be)), some (.inl (oI (fdM p s))), some (.inl (nI s)), some (.inl (nI c))] [] [.inl [nI (gN σ), nI (gb σ), nI (gw σ), nI σ.2.2.1.length, aT, nI σ.2.2.2.1.length, iM, tU, aS, cH, lO, bI false], .inr kB, .inr fA, .inr hA, .inr lA, .inr pA, .inr tA, .inr vA, .inr oA, .inr σ.2.2.2.2, .inr eA, .inr xA, .inr nA, .inr gA, .inr wA, .inr uA] := by
          intro d
          induction d with
          | zero =>
            intro c kB hd hc hkB
            have e : c = gN σ := by omega
            subst e
            have hk6 : ∀ x, x < gN σ → kdS (gk σ) as s (gN σ) x < 6 := by
              intro x hx
              unfold kdS
              split
              · omega
              · exact (hj x hx).1.2
            have hk2 : mK2 (gN σ) (kdS (gk σ) as s (gN σ)) (gf σ) kB fA := fun x hx => ⟨⟨hkB x hx, hk6 x hx⟩, (hj x hx).2.1⟩
            have h3 : smw false (gb σ) (gw σ) (kdS (gk σ) as s (gN σ)) (gf σ) (fun z => qu (gl σ) (gq σ) z 0) = simA (gb σ) (gw σ) (kdS (gk σ) as s (gN σ)) (gf σ) (gl σ) (gq σ) 0 := smw_A (fun _ _ => rfl)
            have hb3 := simA_bd (n := gN σ) (hu := gh σ) (b := gb σ) (w := gw σ) (kd := kdS (gk σ) as s (gN σ)) (fg := gf σ) (la := gl σ) (li := gq σ) hn hw (fun c hc => (hj c hc).2.2.1.2) hp 0
            have hrs := hrc s
            cases md with
            | true =>
              have ea : as = 5 := has
              subst ea
              rw [if_pos rfl] at hrs
              refine st_iload O dX7_fewest_69 rfl (q := 71) rfl ?_
              refine st_aloadn O dX7_fewest_71 rfl (q := 72) rfl ?_
              refine st_geti O dX7_fewest_72 fl_X7_59 rfl rfl rfl rfl (q := 75) rfl ?_
              refine sn_icmp_ge O dX7_fewest_75 (t := 103) rfl (q := 78) rfl (by omega) (by omega) (fun c75 => ?_) (fun c75 => ?_)
              · refine st_iloadn O dX7_fewest_103 rfl (q := 104) rfl ?_
                refine st_iconst O dX7_fewest_104 am_iconst_2 (q := 105) rfl ?_
                refine sn_icmp_ne O dX7_fewest_105 (t := 124) rfl (q := 108) rfl (by omega) (by omega) (fun c105 => ?_) (fun c105 => ?_)
                · refine st_aloadn O dX7_fewest_124 rfl (q := 125) rfl ?_
                  refine st_call O dX7_fewest_125 cs_X7_fewest_125 (q := 128) rfl (am_siq rfl rfl rfl (Nat.le_of_ble_eq_true rfl) rfl ?_)
                  refine ⟨gN σ, gb σ, gw σ, _, _, _, _, _, _, _, _, false, kdS (gk σ) 5 s (gN σ), gf σ, gh σ, (fun z => qu (gl σ) (gq σ) z 0), _, _, _, _, _, _, _, _, rfl, rfl, hb, hk2, hR.h2, hL, fun t1 t2 t3 t4 g1 g2 g3 => ?_⟩
                  refine am_nrp rfl rfl rfl rfl ?_
                  rw [h3]
                  refine st_iloadn O dX7_fewest_128 rfl (q := 129) rfl ?_
                  refine sn_icmp_ge O dX7_fewest_129 (t := 136) rfl (q := 132) rfl (by omega) (by omega) (fun c129 => ?_) (fun c129 => ?_)
                  · refine st_iconst O dX7_fewest_136 am_iconst_0 (q := 137) rfl ?_
                    refine st_istore O dX7_fewest_137 rfl (q := 139) rfl ?_
                    first | (have := fin _ _ _ _ _ _ _ _ _ _ _ _; rw [hrs, decide_eq_true (by omega)] at this; exact this _ _ _ _ _ _ _ _ _ _ _ _) | (have := fin; rw [hrs, decide_eq_false (by omega)] at this; exact this _ _ _ _ _ _ _ _ _ _ _ _) | (have := fin; rw [hrs, decide_eq_true (by omega)] at this; exact this _ _ _ _ _ _ _ _ _ _ _ _)
                  refine st_iconst O dX7_fewest_132 am_iconst_1 (q := 133) rfl ?_
                  refine st_goto O dX7_fewest_133 (t := 137) rfl ?_
                  refine st_istore O dX7_fewest_137 rfl (q := 139) rfl ?_
                  first | (have := fin _ _ _ _ _ _ _ _ _ _ _ _; rw [hrs, decide_eq_true (by omega)] at this; exact this _ _ _ _ _ _ _ _ _ _ _ _) | (have := fin; rw [hrs, decide_eq_false (by omega)] at this; exact this _ _ _ _ _ _ _ _ _ _ _ _) | (have := fin; rw [hrs, decide_eq_true (by omega)] at this; exact this _ _ _ _ _ _ _ _ _ _ _ _)
                exact absurd c105 (by decide)
              omega
            | false =>
              have ea : as = 2 := has
              subst ea
              rw [if_neg (by decide)] at hrs
              refine st_iload O dX7_fewest_69 rfl (q := 71) rfl ?_
              refine st_aloadn O dX7_fewest_71 rfl (q := 72) rfl ?_
              refine st_geti O dX7_fewest_72 fl_X7_59 rfl rfl rfl rfl (q := 75) rfl ?_
              refine sn_icmp_ge O dX7_fewest_75 (t := 103) rfl (q := 78) rfl (by omega) (by omega) (fun c75 => ?_) (fun c75 => ?_)
              · refine st_iloadn O dX7_fewest_103 rfl (q := 104) rfl ?_
                refine st_iconst O dX7_fewest_104 am_iconst_2 (q := 105) rfl ?_
                refine sn_icmp_ne O dX7_fewest_105 (t := 124) rfl (q := 108) rfl (by omega) (by omega) (fun c105 => ?_) (fun c105 => ?_)
                · exact absurd rfl c105
                refine st_aloadn O dX7_fewest_108 rfl (q := 109) rfl ?_
                refine st_call O dX7_fewest_109 cs_X7_fewest_109 (q := 112) rfl (am_siq rfl rfl rfl (Nat.le_of_ble_eq_true rfl) rfl ?_)
                refine ⟨gN σ, gb σ, gw σ, _, _, _, _, _, _, _, _, false, kdS (gk σ) 2 s (gN σ), gf σ, (fun z => qu (gl σ) (gq σ) z 0), _, _, _, _, _, _, _, rfl, rfl, hb, hk2, hL, fun t1 t2 t3 t4 g1 g2 g3 => ?_⟩
                refine am_nrp rfl rfl rfl rfl ?_
                rw [h3]
                refine st_iloadn O dX7_fewest_112 rfl (q := 113) rfl ?_
                refine sn_icmp_le O dX7_fewest_113 (t := 120) rfl (q := 116) rfl (by omega) (by omega) (fun c113 => ?_) (fun c113 => ?_)
                · refine st_iconst O dX7_fewest_120 am_iconst_0 (q := 121) rfl ?_
                  refine st_goto O dX7_fewest_121 (t := 137) rfl ?_
                  refine st_istore O dX7_fewest_137 rfl (q := 139) rfl ?_
                  first | (have := fin; rw [hrs, decide_eq_false (by omega)] at this; exact this _ _ _ _ _ _ _ _ _ _ _ _) | (have := fin; rw [hrs, decide_eq_true (by omega)] at this; exact this _ _ _ _ _ _ _ _ _ _ _ _)
                refine st_iconst O dX7_fewest_116 am_iconst_1 (q := 117) rfl ?_
                refine st_goto O dX7_fewest_117 (t := 137) rfl ?_
                refine st_istore O dX7_fewest_137 rfl (q := 139) rfl ?_
                first | (have := fin; rw [hrs, decide_eq_false (by omega)] at this; exact this _ _ _ _ _ _ _ _ _ _ _ _) | (have := fin; rw [hrs, decide_eq_true (by omega)] at this; exact this _ _ _ _ _ _ _ _ _ _ _ _)
              omega
          | succ d ih2 =>
            intro c kB hd hc hkB
            have hbt := bt_tab s hs5 c (by omega)
            have ih2 := fun kB => ih2 (c + 1) kB (by omega) (by omega)
            rw [kdS_s] at ih2
            by_cases hb : s.testBit c = true
            · rw [if_pos hb] at hbt ih2
              refine st_iload O dX7_fewest_69 rfl (q := 71) rfl ?_
              refine st_aloadn O dX7_fewest_71 rfl (q := 72) rfl ?_
              refine st_geti O dX7_fewest_72 fl_X7_59 rfl rfl rfl rfl (q := 75) rfl ?_
              refine sn_icmp_ge O dX7_fewest_75 (t := 103) rfl (q := 78) rfl (by omega) (by omega) (fun c75 => ?_) (fun c75 => ?_)
              · omega
              refine st_iload O dX7_fewest_78 rfl (q := 80) rfl ?_
              refine st_iload O dX7_fewest_80 rfl (q := 82) rfl ?_
              refine st_ishr O dX7_fewest_82 rfl (q := 83) rfl ?_
              refine st_iconst O dX7_fewest_83 am_iconst_1 (q := 84) rfl ?_
              refine st_iand O dX7_fewest_84 hbt (q := 85) rfl ?_
              refine st_iconst O dX7_fewest_85 am_iconst_1 (q := 86) rfl ?_
              refine sn_icmp_ne O dX7_fewest_86 (t := 97) rfl (q := 89) rfl (by omega) (by omega) (fun c86 => ?_) (fun c86 => ?_)
              · exact absurd rfl c86
              refine st_aloadn O dX7_fewest_89 rfl (q := 90) rfl ?_
              refine st_getr O dX7_fewest_90 fl_X7_7 rfl rfl rfl (q := 93) rfl ?_
              refine st_iload O dX7_fewest_93 rfl (q := 95) rfl ?_
              refine st_iloadn O dX7_fewest_95 rfl (q := 96) rfl ?_
              refine sn_ast O dX7_fewest_96 rfl rfl rfl ⟨by omega, by decide⟩ rfl rfl (q := 97) rfl ?_
              refine st_iinc O dX7_fewest_97 rfl (by first | exact am_ii1 _ | exact rfl) rfl (q := 100) rfl ?_
              refine st_goto O dX7_fewest_100 (t := 69) rfl ?_
              refine ih2 _ (fun x hx => ?_)
              by_cases e : x = c
              · rw [e, pk_us, va_s]
              · rw [pk_un e, va_o _ _ e]; exact hkB x hx
            · rw [if_neg hb] at hbt ih2
              refine st_iload O dX7_fewest_69 rfl (q := 71) rfl ?_
              refine st_aloadn O dX7_fewest_71 rfl (q := 72) rfl ?_
              refine st_geti O dX7_fewest_72 fl_X7_59 rfl rfl rfl rfl (q := 75) rfl ?_
              refine sn_icmp_ge O dX7_fewest_75 (t := 103) rfl (q := 78) rfl (by omega) (by omega) (fun c75 => ?_) (fun c75 => ?_)
              · omega
              refine st_iload O dX7_fewest_78 rfl (q := 80) rfl ?_
              refine st_iload O dX7_fewest_80 rfl (q := 82) rfl ?_
              refine st_ishr O dX7_fewest_82 rfl (q := 83) rfl ?_
              refine st_iconst O dX7_fewest_83 am_iconst_1 (q := 84) rfl ?_
              refine st_iand O dX7_fewest_84 hbt (q := 85) rfl ?_
              refine st_iconst O dX7_fewest_85 am_iconst_1 (q := 86) rfl ?_
              refine sn_icmp_ne O dX7_fewest_86 (t := 97) rfl (q := 89) rfl (by omega) (by omega) (fun c86 => ?_) (fun c86 => ?_)
              · refine st_iinc O dX7_fewest_97 rfl (by first | exact am_ii1 _ | exact rfl) rfl (q := 100) rfl ?_
                refine st_goto O dX7_fewest_100 (t := 69) rfl ?_
                exact ih2 _ hkB
              exact absurd c86 (by decide)
        refine st_iconst O dX7_fewest_66 am_iconst_0 (q := 67) rfl ?_
        refine st_istore O dX7_fewest_67 rfl (q := 69) rfl ?_
        refine inner (gN σ) 0 _ rfl (Nat.zero_le _) (fun x hx => ?_)
        unfold kdS
        rw [if_neg (fun z => Nat.not_lt_zero _ z.1)]
        exact (hj x hx).1.1
      cases hfo : fdM p s with
      | none =>
        have main := main (fun o' ho' => by rw [fdM, hfo]; rw [hfo] at ho'; exact ho'.symm)
        rw [hfo] at main
        refine st_iload O dX7_fewest_32 rfl (q := 34) rfl ?_
        refine st_iconst O dX7_fewest_34 am_iconst_1 (q := 35) rfl ?_
        refine st_aloadn O dX7_fewest_35 rfl (q := 36) rfl ?_
        refine st_geti O dX7_fewest_36 fl_X7_59 rfl rfl rfl rfl (q := 39) rfl ?_
        refine st_ishl O dX7_fewest_39 hsh (q := 40) rfl ?_
        refine sn_icmp_ge O dX7_fewest_40 (t := 162) rfl (q := 43) rfl (by omega) (by omega) (fun c40 => ?_) (fun c40 => ?_)
        · omega
        refine st_iload O dX7_fewest_43 rfl (q := 45) rfl ?_
        refine st_bipush O dX7_fewest_45 am_bipush_m9 (q := 47) rfl ?_
        refine st_icmp_eq O dX7_fewest_47 (t := 66) rfl (q := 50) rfl (fun c47 => ?_) (fun c47 => ?_)
        · exact main
        exact absurd c47 (by decide)
      | some f =>
        have hf5 := hfds f hfo
        have hno := oI_none (o := fdM p s) (fun c hc => by have := hfds c hc; omega)
        rw [hfo] at hno
        have pcf := pc_le f
        by_cases hlt : pc s < pc f
        · have main := main (fun o' ho' => by
            rw [fdM, hfo, ho', hfo]
            by_cases hps : p s = true
            · simp only [if_pos hps, if_pos (⟨hlt, hps⟩ : pc s < pc f ∧ p s = true)]
            · simp only [if_neg hps, if_neg (fun z => hps z.2 : ¬ (pc s < pc f ∧ p s = true))])
          rw [hfo] at main
          refine st_iload O dX7_fewest_32 rfl (q := 34) rfl ?_
          refine st_iconst O dX7_fewest_34 am_iconst_1 (q := 35) rfl ?_
          refine st_aloadn O dX7_fewest_35 rfl (q := 36) rfl ?_
          refine st_geti O dX7_fewest_36 fl_X7_59 rfl rfl rfl rfl (q := 39) rfl ?_
          refine st_ishl O dX7_fewest_39 hsh (q := 40) rfl ?_
          refine sn_icmp_ge O dX7_fewest_40 (t := 162) rfl (q := 43) rfl (by omega) (by omega) (fun c40 => ?_) (fun c40 => ?_)
          · omega
          refine st_iload O dX7_fewest_43 rfl (q := 45) rfl ?_
          refine st_bipush O dX7_fewest_45 am_bipush_m9 (q := 47) rfl ?_
          refine st_icmp_eq O dX7_fewest_47 (t := 66) rfl (q := 50) rfl (fun c47 => ?_) (fun c47 => ?_)
          · exact absurd (hno.mp c47) (by simp)
          refine st_iload O dX7_fewest_50 rfl (q := 52) rfl ?_
          refine st_callS O dX7_fewest_52 cs_X7_fewest_52 (q := 55) rfl (am_sipq rfl rfl rfl (Nat.le_of_ble_eq_true rfl) rfl (r := nI (pc s)) ⟨s, hs5, rfl, rfl⟩ ?_)
          refine st_iload O dX7_fewest_55 rfl (q := 57) rfl ?_
          refine st_callS O dX7_fewest_57 cs_X7_fewest_57 (q := 60) rfl (am_sipq rfl rfl rfl (Nat.le_of_ble_eq_true rfl) rfl (r := nI (pc f)) ⟨f, hf5, rfl, rfl⟩ ?_)
          refine sn_icmp_lt O dX7_fewest_60 (t := 66) rfl (q := 63) rfl (by omega) (by omega) (fun c60 => ?_) (fun c60 => ?_)
          · exact main
          omega
        · have hst : fdM p (s + 1) = some f := by
            rw [fdM, hfo]
            simp only [if_neg (fun z => hlt z.1 : ¬ (pc s < pc f ∧ p s = true))]
          rw [hst] at ih
          refine st_iload O dX7_fewest_32 rfl (q := 34) rfl ?_
          refine st_iconst O dX7_fewest_34 am_iconst_1 (q := 35) rfl ?_
          refine st_aloadn O dX7_fewest_35 rfl (q := 36) rfl ?_
          refine st_geti O dX7_fewest_36 fl_X7_59 rfl rfl rfl rfl (q := 39) rfl ?_
          refine st_ishl O dX7_fewest_39 hsh (q := 40) rfl ?_
          refine sn_icmp_ge O dX7_fewest_40 (t := 162) rfl (q := 43) rfl (by omega) (by omega) (fun c40 => ?_) (fun c40 => ?_)
          · omega
          refine st_iload O dX7_fewest_43 rfl (q := 45) rfl ?_
          refine st_bipush O dX7_fewest_45 am_bipush_m9 (q := 47) rfl ?_
          refine st_icmp_eq O dX7_fewest_47 (t := 66) rfl (q := 50) rfl (fun c47 => ?_) (fun c47 => ?_)
          · exact absurd (hno.mp c47) (by simp)
          refine st_iload O dX7_fewest_50 rfl (q := 52) rfl ?_
          refine st_callS O dX7_fewest_52 cs_X7_fewest_52 (q := 55) rfl (am_sipq rfl rfl rfl (Nat.le_of_ble_eq_true rfl) rfl (r := nI (pc s)) ⟨s, hs5, rfl, rfl⟩ ?_)
          refine st_iload O dX7_fewest_55 rfl (q := 57) rfl ?_
          refine st_callS O dX7_fewest_57 cs_X7_fewest_57 (q := 60) rfl (am_sipq rfl rfl rfl (Nat.le_of_ble_eq_true rfl) rfl (r := nI (pc f)) ⟨f, hf5, rfl, rfl⟩ ?_)
          refine sn_icmp_lt O dX7_fewest_60 (t := 66) rfl (q := 63) rfl (by omega) (by omega) (fun c60 => ?_) (fun c60 => ?_)
          · omega
          refine st_goto O dX7_fewest_63 (t := 156) rfl ?_
          refine st_iinc O dX7_fewest_156 rfl (by first | exact am_ii1 _ | exact rfl) rfl (q := 159) rfl ?_
          refine st_goto O dX7_fewest_159 (t := 32) rfl ?_
          exact ih _ _ _ _ _ _ _ _ _ _ _ _ _ _ hR hc0 (by omega) (by omega)
  have start : ∀ tU aS cH lO gA wA uA, am_aw X 7 sh_Mod 16 [some (.inr 0), some (.inl (nI as)), some (.inl w), none, none, none, none] [.inl (nI be)] [.inl [nI (gN σ), nI (gb σ), nI (gw σ), nI σ.2.2.1.length, aT, nI σ.2.2.2.1.length, iM, tU, aS, cH, lO, bI false], .inr kA, .inr fA, .inr hA, .inr lA, .inr pA, .inr tA, .inr vA, .inr oA, .inr σ.2.2.2.2, .inr eA, .inr xA, .inr nA, .inr gA, .inr wA, .inr uA] := by
    intro tU aS cH lO gA wA uA
    refine st_istoren O dX7_fewest_16 rfl (q := 17) rfl ?_
    refine st_bipush O dX7_fewest_17 am_bipush_m9 (q := 19) rfl ?_
    refine st_istore O dX7_fewest_19 rfl (q := 21) rfl ?_
    refine st_aloadn O dX7_fewest_21 rfl (q := 22) rfl ?_
    refine st_aloadn O dX7_fewest_22 rfl (q := 23) rfl ?_
    refine st_getr O dX7_fewest_23 fl_X7_43 rfl rfl rfl (q := 26) rfl ?_
    refine st_call O dX7_fewest_26 cs_X7_fewest_26 (q := 29) rfl (am_siq rfl rfl rfl (Nat.le_of_ble_eq_true rfl) rfl ?_)
    refine ⟨gN σ, gb σ, gw σ, _, kA, fA, hA, lA, pA, _, rfl, rfl, fun e he => ?_⟩
    refine am_nrp rfl rfl rfl rfl ?_
    refine st_iconst O dX7_fewest_29 am_iconst_0 (q := 30) rfl ?_
    refine st_istore O dX7_fewest_30 rfl (q := 32) rfl ?_
    exact loop (2 ^ gN σ) 0 _ _ _ _ _ _ _ _ _ _ _ _ _ _ kA fA hA lA pA hR hR he rfl (Nat.zero_le _)
  cases md with
  | true =>
    have ea : as = 5 := has
    subst ea
    have eb : be = gC σ := hbe
    subst eb
    refine am_begin rfl ?_
    refine st_iloadn O dX7_fewest_0 rfl (q := 1) rfl ?_
    refine st_iconst O dX7_fewest_1 am_iconst_2 (q := 2) rfl ?_
    refine sn_icmp_ne O dX7_fewest_2 (t := 12) rfl (q := 5) rfl (by omega) (by omega) (fun c2 => ?_) (fun c2 => ?_)
    · refine st_aloadn O dX7_fewest_12 rfl (q := 13) rfl ?_
      refine st_call O dX7_fewest_13 cs_X7_fewest_13 (q := 16) rfl (am_siq rfl rfl rfl (Nat.le_of_ble_eq_true rfl) rfl ?_)
      refine ⟨gN σ, gb σ, gw σ, _, _, _, _, _, _, _, _, false, gk σ, gf σ, gh σ, (fun z => qu (gl σ) (gq σ) z 0), _, _, _, _, _, _, _, _, rfl, rfl, hb, hR.k2, hR.h2, hL, fun t1 t2 t3 t4 g1 g2 g3 => ?_⟩
      refine am_nrp rfl rfl rfl rfl ?_
      rw [gL_smw σ]
      exact start _ _ _ _ _ _ _
    exact absurd c2 (by decide)
  | false =>
    have ea : as = 2 := has
    subst ea
    have eb : be = tot (gL σ) := hbe
    subst eb
    refine am_begin rfl ?_
    refine st_iloadn O dX7_fewest_0 rfl (q := 1) rfl ?_
    refine st_iconst O dX7_fewest_1 am_iconst_2 (q := 2) rfl ?_
    refine sn_icmp_ne O dX7_fewest_2 (t := 12) rfl (q := 5) rfl (by omega) (by omega) (fun c2 => ?_) (fun c2 => ?_)
    · exact absurd rfl c2
    refine st_aloadn O dX7_fewest_5 rfl (q := 6) rfl ?_
    refine st_call O dX7_fewest_6 cs_X7_fewest_6 (q := 9) rfl (am_siq rfl rfl rfl (Nat.le_of_ble_eq_true rfl) rfl ?_)
    refine ⟨gN σ, gb σ, gw σ, _, _, _, _, _, _, _, _, false, gk σ, gf σ, (fun z => qu (gl σ) (gq σ) z 0), _, _, _, _, _, _, _, rfl, rfl, hb, hR.k2, hL, fun t1 t2 t3 t4 g1 g2 g3 => ?_⟩
    refine am_nrp rfl rfl rfl rfl ?_
    rw [gL_smw σ]
    refine st_goto O dX7_fewest_9 (t := 16) rfl ?_
    exact start _ _ _ _ _ _ _
theorem C_X7_fewest : am_ctr yX7_fewest cX7_fewest 7 (some .int) 4 97 sh_Mod [some 0, none, none] T_X7_fewest := am_mk (by decide) (Or.inr (Or.inl ⟨rfl, rfl⟩)) (by decide) (by decide) (by decide) fl_X7_ok kc_X7_ok ck_X7_fewest B_X7_fewest
def cs_X7_spoil : Nat → List am_V → am_D → am_K → Prop := am_cs [(3, am_site 3 [none, none, none] T_X7_within [] []), (12, am_site 3 [some 0, none, none] T_X7_fewest [0, 1, 2, 3, 4, 5, 6, 7, 8, 9, 10, 11, 12, 13, 14, 15] [0, 1, 2, 3, 4, 5, 6, 7, 8, 9, 10, 11, 12, 13, 14, 15]), (21, am_site 2 [some 0, none] T_X7_no [0, 9] [0, 9, 1, 2, 3, 4, 5, 6, 7, 8, 10, 11, 12, 13, 14, 15])]
theorem cs_X7_spoil_3 : cs_X7_spoil 3 = am_site 3 [none, none, none] T_X7_within [] [] := rfl
theorem cs_X7_spoil_12 : cs_X7_spoil 12 = am_site 3 [some 0, none, none] T_X7_fewest [0, 1, 2, 3, 4, 5, 6, 7, 8, 9, 10, 11, 12, 13, 14, 15] [0, 1, 2, 3, 4, 5, 6, 7, 8, 9, 10, 11, 12, 13, 14, 15] := rfl
theorem cs_X7_spoil_21 : cs_X7_spoil 21 = am_site 2 [some 0, none] T_X7_no [0, 9] [0, 9, 1, 2, 3, 4, 5, 6, 7, 8, 10, 11, 12, 13, 14, 15] := rfl
theorem ck_X7_spoil : ∀ X : am_X, am_cx X RX7 cX7_spoil 2 5 123 → ∀ pc, am_csok X 2 sh_Mod pc (cs_X7_spoil pc) := fun X hX => am_cs_ok (List.forall_mem_cons.mpr ⟨am_callS hX C_X7_within mo_X7_within rfl lk_X7_62 dX7_spoil_3 rfl (by decide), List.forall_mem_cons.mpr ⟨am_callV hX C_X7_fewest mo_X7_fewest rfl lk_X7_180 dX7_spoil_12 rfl rfl rfl (by decide), List.forall_mem_cons.mpr ⟨am_callV hX C_X7_no mo_X7_no rfl lk_X7_66 dX7_spoil_21 rfl rfl rfl (by decide), fun _ h => absurd h List.not_mem_nil⟩⟩⟩)
abbrev ok_X7_spoil (X : am_X) (K : List Int32 → am_D → Prop) : Prop := am_ok X RX7 cX7_spoil 2 sh_Mod fl_X7 kc_X7 none 1 cs_X7_spoil K
abbrev aw_X7_spoil (X : am_X) (pc : Nat) (ls : am_L) (st : List am_V) (D : am_D) : Prop := am_aw X 2 sh_Mod pc ls st D
abbrev T_X7_spoil : am_TT := am_s1 IM (f_few false)
set_option maxHeartbeats 200000 in
theorem B_X7_spoil : ∀ (X : am_X) (is : List Int32) (D : am_D) (K : List Int32 → am_D → Prop), ok_X7_spoil X K → T_X7_spoil is D K → is.length = (List.filter Option.isNone ([some 0, none] : List (Option Nat))).length → D.length = sh_Mod.length → am_aw X 2 sh_Mod 0 (am_l0 2 [some 0, none] is) [] D := by
  intro X is D K O hT _ _
  obtain ⟨σ, a, ⟨aT, iM, tU, aS, cH, lO, kA, fA, hA, lA, pA, tA, vA, oA, eA, xA, nA, gA, wA, uA, rfl, hR, ht, ho, hk⟩, rfl, hK⟩ := hT
  obtain ⟨hb, hw, hp, hj, hL⟩ := id hR
  have hn : gN σ ≤ 9 := hL.1
  have eN : gN σ = σ.1.1 := rfl
  have hI : IM σ [.inl [nI (gN σ), nI (gb σ), nI (gw σ), nI σ.2.2.1.length, aT, nI σ.2.2.2.1.length, iM, tU, aS, cH, lO, bI false], .inr kA, .inr fA, .inr hA, .inr lA, .inr pA, .inr tA, .inr vA, .inr oA, .inr σ.2.2.2.2, .inr eA, .inr xA, .inr nA, .inr gA, .inr wA, .inr uA] := ⟨_, _, _, _, _, _, _, _, _, _, _, _, _, _, _, _, _, _, _, _, rfl, hR, ht, ho, hk⟩
  by_cases h01 : a = 0 ∨ a = 1
  · rw [show f_few false a σ = (boh (ffS (fun s a => decide (pc a = s) && rch (gN σ) (gb σ) (gw σ) (gk σ) (gf σ) (gl σ) (gh σ) (gq σ) false a) 1 (2 ^ gN σ - 1) 1 (gN σ)) a, σ) from if_pos h01] at hK
    refine am_begin rfl ?_
    refine st_iloadn O dX7_spoil_0 rfl (q := 1) rfl ?_
    refine st_iconst O dX7_spoil_1 am_iconst_0 (q := 2) rfl ?_
    refine st_iconst O dX7_spoil_2 am_iconst_1 (q := 3) rfl ?_
    refine st_callS O dX7_spoil_3 cs_X7_spoil_3 (q := 6) rfl (am_sipq rfl rfl rfl (Nat.le_of_ble_eq_true rfl) rfl (r := 1) ⟨_, _, _, rfl, wiT h01⟩ ?_)
    refine st_if_eq O dX7_spoil_6 (t := 18) rfl (q := 9) rfl (fun c6 => ?_) (fun c6 => ?_)
    · exact absurd c6 (by decide)
    refine st_aloadn O dX7_spoil_9 rfl (q := 10) rfl ?_
    refine st_iconst O dX7_spoil_10 am_iconst_2 (q := 11) rfl ?_
    refine st_iloadn O dX7_spoil_11 rfl (q := 12) rfl ?_
    refine st_call O dX7_spoil_12 cs_X7_spoil_12 (q := 15) rfl (am_siq rfl rfl rfl (Nat.le_of_ble_eq_true rfl) rfl ?_)
    refine ⟨σ, false, a, hI, rfl, h01, fun D' hI' => ?_⟩
    refine am_nrm rfl (im_put hI hI') ?_
    refine st_goto O dX7_spoil_15 (t := 24) rfl ?_
    exact st_ireturn O dX7_spoil_24 (hK _ hI')
  · refine am_begin rfl ?_
    refine st_iloadn O dX7_spoil_0 rfl (q := 1) rfl ?_
    refine st_iconst O dX7_spoil_1 am_iconst_0 (q := 2) rfl ?_
    refine st_iconst O dX7_spoil_2 am_iconst_1 (q := 3) rfl ?_
    refine st_callS O dX7_spoil_3 cs_X7_spoil_3 (q := 6) rfl (am_sipq rfl rfl rfl (Nat.le_of_ble_eq_true rfl) rfl (r := 0) ⟨_, _, _, rfl, wiF h01⟩ ?_)
    refine st_if_eq O dX7_spoil_6 (t := 18) rfl (q := 9) rfl (fun c6 => ?_) (fun c6 => ?_)
    · refine st_aloadn O dX7_spoil_18 rfl (q := 19) rfl ?_
      refine st_bipush O dX7_spoil_19 am_bipush_m2 (q := 21) rfl ?_
      refine st_call O dX7_spoil_21 cs_X7_spoil_21 (q := 24) rfl (am_siq rfl rfl rfl (Nat.le_of_ble_eq_true rfl) rfl ?_)
      refine ⟨_, _, 2, by decide, by decide, rfl, rfl, ?_⟩
      refine am_nrq rfl rfl ?_
      rw [show f_few false a σ = rfs 2 σ from if_neg h01] at hK
      exact st_ireturn O dX7_spoil_24 (hK _ ⟨_, _, _, _, _, _, _, _, _, _, _, _, _, _, _, _, _, _, _, _, rfl, hR, ht, ho, hk⟩)
    exact absurd c6 (by decide)
theorem C_X7_spoil : am_ctr yX7_spoil cX7_spoil 2 (some .int) 5 123 sh_Mod [some 0, none] T_X7_spoil := am_mk (by decide) (Or.inr (Or.inl ⟨rfl, rfl⟩)) (by decide) (by decide) (by decide) fl_X7_ok kc_X7_ok ck_X7_spoil B_X7_spoil
def cs_X7_mend : Nat → List am_V → am_D → am_K → Prop := am_cs [(3, am_site 3 [none, none, none] T_X7_within [] []), (12, am_site 3 [some 0, none, none] T_X7_fewest [0, 1, 2, 3, 4, 5, 6, 7, 8, 9, 10, 11, 12, 13, 14, 15] [0, 1, 2, 3, 4, 5, 6, 7, 8, 9, 10, 11, 12, 13, 14, 15]), (21, am_site 2 [some 0, none] T_X7_no [0, 9] [0, 9, 1, 2, 3, 4, 5, 6, 7, 8, 10, 11, 12, 13, 14, 15])]
theorem cs_X7_mend_3 : cs_X7_mend 3 = am_site 3 [none, none, none] T_X7_within [] [] := rfl
theorem cs_X7_mend_12 : cs_X7_mend 12 = am_site 3 [some 0, none, none] T_X7_fewest [0, 1, 2, 3, 4, 5, 6, 7, 8, 9, 10, 11, 12, 13, 14, 15] [0, 1, 2, 3, 4, 5, 6, 7, 8, 9, 10, 11, 12, 13, 14, 15] := rfl
theorem cs_X7_mend_21 : cs_X7_mend 21 = am_site 2 [some 0, none] T_X7_no [0, 9] [0, 9, 1, 2, 3, 4, 5, 6, 7, 8, 10, 11, 12, 13, 14, 15] := rfl
theorem ck_X7_mend : ∀ X : am_X, am_cx X RX7 cX7_mend 2 5 123 → ∀ pc, am_csok X 2 sh_Mod pc (cs_X7_mend pc) := fun X hX => am_cs_ok (List.forall_mem_cons.mpr ⟨am_callS hX C_X7_within mo_X7_within rfl lk_X7_62 dX7_mend_3 rfl (by decide), List.forall_mem_cons.mpr ⟨am_callV hX C_X7_fewest mo_X7_fewest rfl lk_X7_180 dX7_mend_12 rfl rfl rfl (by decide), List.forall_mem_cons.mpr ⟨am_callV hX C_X7_no mo_X7_no rfl lk_X7_66 dX7_mend_21 rfl rfl rfl (by decide), fun _ h => absurd h List.not_mem_nil⟩⟩⟩)
abbrev ok_X7_mend (X : am_X) (K : List Int32 → am_D → Prop) : Prop := am_ok X RX7 cX7_mend 2 sh_Mod fl_X7 kc_X7 none 1 cs_X7_mend K
abbrev aw_X7_mend (X : am_X) (pc : Nat) (ls : am_L) (st : List am_V) (D : am_D) : Prop := am_aw X 2 sh_Mod pc ls st D
abbrev T_X7_mend : am_TT := am_s1 IM (f_few true)
set_option maxHeartbeats 200000 in
theorem B_X7_mend : ∀ (X : am_X) (is : List Int32) (D : am_D) (K : List Int32 → am_D → Prop), ok_X7_mend X K → T_X7_mend is D K → is.length = (List.filter Option.isNone ([some 0, none] : List (Option Nat))).length → D.length = sh_Mod.length → am_aw X 2 sh_Mod 0 (am_l0 2 [some 0, none] is) [] D := by
  intro X is D K O hT _ _
  obtain ⟨σ, a, ⟨aT, iM, tU, aS, cH, lO, kA, fA, hA, lA, pA, tA, vA, oA, eA, xA, nA, gA, wA, uA, rfl, hR, ht, ho, hk⟩, rfl, hK⟩ := hT
  obtain ⟨hb, hw, hp, hj, hL⟩ := id hR
  have hn : gN σ ≤ 9 := hL.1
  have eN : gN σ = σ.1.1 := rfl
  have hI : IM σ [.inl [nI (gN σ), nI (gb σ), nI (gw σ), nI σ.2.2.1.length, aT, nI σ.2.2.2.1.length, iM, tU, aS, cH, lO, bI false], .inr kA, .inr fA, .inr hA, .inr lA, .inr pA, .inr tA, .inr vA, .inr oA, .inr σ.2.2.2.2, .inr eA, .inr xA, .inr nA, .inr gA, .inr wA, .inr uA] := ⟨_, _, _, _, _, _, _, _, _, _, _, _, _, _, _, _, _, _, _, _, rfl, hR, ht, ho, hk⟩
  by_cases h01 : a = 0 ∨ a = 1
  · rw [show f_few true a σ = (boh (ffS (fun s a => decide (pc a = s) && rch (gN σ) (gb σ) (gw σ) (gk σ) (gf σ) (gl σ) (gh σ) (gq σ) true a) 1 (2 ^ gN σ - 1) 1 (gN σ)) a, σ) from if_pos h01] at hK
    refine am_begin rfl ?_
    refine st_iloadn O dX7_mend_0 rfl (q := 1) rfl ?_
    refine st_iconst O dX7_mend_1 am_iconst_0 (q := 2) rfl ?_
    refine st_iconst O dX7_mend_2 am_iconst_1 (q := 3) rfl ?_
    refine st_callS O dX7_mend_3 cs_X7_mend_3 (q := 6) rfl (am_sipq rfl rfl rfl (Nat.le_of_ble_eq_true rfl) rfl (r := 1) ⟨_, _, _, rfl, wiT h01⟩ ?_)
    refine st_if_eq O dX7_mend_6 (t := 18) rfl (q := 9) rfl (fun c6 => ?_) (fun c6 => ?_)
    · exact absurd c6 (by decide)
    refine st_aloadn O dX7_mend_9 rfl (q := 10) rfl ?_
    refine st_iconst O dX7_mend_10 am_iconst_5 (q := 11) rfl ?_
    refine st_iloadn O dX7_mend_11 rfl (q := 12) rfl ?_
    refine st_call O dX7_mend_12 cs_X7_mend_12 (q := 15) rfl (am_siq rfl rfl rfl (Nat.le_of_ble_eq_true rfl) rfl ?_)
    refine ⟨σ, true, a, hI, rfl, h01, fun D' hI' => ?_⟩
    refine am_nrm rfl (im_put hI hI') ?_
    refine st_goto O dX7_mend_15 (t := 24) rfl ?_
    exact st_ireturn O dX7_mend_24 (hK _ hI')
  · refine am_begin rfl ?_
    refine st_iloadn O dX7_mend_0 rfl (q := 1) rfl ?_
    refine st_iconst O dX7_mend_1 am_iconst_0 (q := 2) rfl ?_
    refine st_iconst O dX7_mend_2 am_iconst_1 (q := 3) rfl ?_
    refine st_callS O dX7_mend_3 cs_X7_mend_3 (q := 6) rfl (am_sipq rfl rfl rfl (Nat.le_of_ble_eq_true rfl) rfl (r := 0) ⟨_, _, _, rfl, wiF h01⟩ ?_)
    refine st_if_eq O dX7_mend_6 (t := 18) rfl (q := 9) rfl (fun c6 => ?_) (fun c6 => ?_)
    · refine st_aloadn O dX7_mend_18 rfl (q := 19) rfl ?_
      refine st_bipush O dX7_mend_19 am_bipush_m2 (q := 21) rfl ?_
      refine st_call O dX7_mend_21 cs_X7_mend_21 (q := 24) rfl (am_siq rfl rfl rfl (Nat.le_of_ble_eq_true rfl) rfl ?_)
      refine ⟨_, _, 2, by decide, by decide, rfl, rfl, ?_⟩
      refine am_nrq rfl rfl ?_
      rw [show f_few true a σ = rfs 2 σ from if_neg h01] at hK
      exact st_ireturn O dX7_mend_24 (hK _ ⟨_, _, _, _, _, _, _, _, _, _, _, _, _, _, _, _, _, _, _, _, rfl, hR, ht, ho, hk⟩)
    exact absurd c6 (by decide)
theorem C_X7_mend : am_ctr yX7_mend cX7_mend 2 (some .int) 5 123 sh_Mod [some 0, none] T_X7_mend := am_mk (by decide) (Or.inr (Or.inl ⟨rfl, rfl⟩)) (by decide) (by decide) (by decide) fl_X7_ok kc_X7_ok ck_X7_mend B_X7_mend
