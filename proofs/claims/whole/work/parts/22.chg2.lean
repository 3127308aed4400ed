/-! Changes: moves, kinds -/
def cs_X0_cheapestMove : Nat → List am_V → am_D → am_K → Prop := am_cs [(6, am_site 2 [some 0, some 7] T_X0_costOf [0, 7, 8, 9, 10, 11, 12, 13, 14, 15, 16, 17, 18] [0, 7, 8, 9, 10, 11, 12, 13, 14, 15, 16, 17, 18, 1]), (28, am_site 2 [some 0, some 6] T_X4_copyFrom [1, 2, 3, 4, 5, 6, 13, 14, 15, 16, 17, 18] [1, 2, 3, 4, 5, 6, 13, 14, 15, 16, 17, 18]), (41, am_site 2 [some 0, none] T_X4_moveToFront [1, 2, 3, 4, 5, 6] [1, 2, 3, 4, 5, 6]), (54, am_site 2 [some 0, none] T_X4_crossOver [1, 2, 3, 4, 5, 6] [1, 2, 3, 4, 5, 6]), (63, am_site 2 [some 0, some 7] T_X0_costOf [0, 7, 8, 9, 10, 11, 12, 1, 2, 3, 4, 5, 6] [0, 7, 8, 9, 10, 11, 12, 1, 2, 3, 4, 5, 6, 1])]
theorem cs_X0_cheapestMove_6 : cs_X0_cheapestMove 6 = am_site 2 [some 0, some 7] T_X0_costOf [0, 7, 8, 9, 10, 11, 12, 13, 14, 15, 16, 17, 18] [0, 7, 8, 9, 10, 11, 12, 13, 14, 15, 16, 17, 18, 1] := rfl
theorem cs_X0_cheapestMove_28 : cs_X0_cheapestMove 28 = am_site 2 [some 0, some 6] T_X4_copyFrom [1, 2, 3, 4, 5, 6, 13, 14, 15, 16, 17, 18] [1, 2, 3, 4, 5, 6, 13, 14, 15, 16, 17, 18] := rfl
theorem cs_X0_cheapestMove_41 : cs_X0_cheapestMove 41 = am_site 2 [some 0, none] T_X4_moveToFront [1, 2, 3, 4, 5, 6] [1, 2, 3, 4, 5, 6] := rfl
theorem cs_X0_cheapestMove_54 : cs_X0_cheapestMove 54 = am_site 2 [some 0, none] T_X4_crossOver [1, 2, 3, 4, 5, 6] [1, 2, 3, 4, 5, 6] := rfl
theorem cs_X0_cheapestMove_63 : cs_X0_cheapestMove 63 = am_site 2 [some 0, some 7] T_X0_costOf [0, 7, 8, 9, 10, 11, 12, 1, 2, 3, 4, 5, 6] [0, 7, 8, 9, 10, 11, 12, 1, 2, 3, 4, 5, 6, 1] := rfl
theorem ck_X0_cheapestMove : ∀ X : am_X, am_cx X RX0 cX0_cheapestMove 8 5 112 → ∀ pc, am_csok X 8 sh_CX pc (cs_X0_cheapestMove pc) := fun X hX => am_cs_ok (List.forall_mem_cons.mpr ⟨am_callV hX C_X0_costOf mo_X0_costOf rfl lk_X0_41 dX0_cheapestMove_6 rfl rfl rfl (by decide), List.forall_mem_cons.mpr ⟨am_callV hX C_X4_copyFrom mo_X4_copyFrom rfl lk_X0_33 dX0_cheapestMove_28 rfl rfl rfl (by decide), List.forall_mem_cons.mpr ⟨am_callV hX C_X4_moveToFront mo_X4_moveToFront rfl lk_X0_47 dX0_cheapestMove_41 rfl rfl rfl (by decide), List.forall_mem_cons.mpr ⟨am_callV hX C_X4_crossOver mo_X4_crossOver rfl lk_X0_51 dX0_cheapestMove_54 rfl rfl rfl (by decide), List.forall_mem_cons.mpr ⟨am_callV hX C_X0_costOf mo_X0_costOf rfl lk_X0_41 dX0_cheapestMove_63 rfl rfl rfl (by decide), fun _ h => absurd h List.not_mem_nil⟩⟩⟩⟩⟩)
abbrev ok_X0_cheapestMove (X : am_X) (K : List Int32 → am_D → Prop) : Prop := am_ok X RX0 cX0_cheapestMove 8 sh_CX fl_X0 kc_X0 none 1 cs_X0_cheapestMove K
abbrev aw_X0_cheapestMove (X : am_X) (pc : Nat) (ls : am_L) (st : List am_V) (D : am_D) : Prop := am_aw X 8 sh_CX pc ls st D
/-- cost when a car goes over, or stands first -/
def cMv (b w : Nat) (kd fg la hu : Nat → Nat) (li : List Nat) (fr : Bool) (c : Nat) : Nat := if fr then cst hu (simA b w kd fg la (c :: li.erase c) 0) else cst hu (simA b w kd fg (va_up la c (1 - la c)) (li.erase c ++ [c]) 0)
def oC (x : Option Nat × Nat) (m : Bool) : Int32 := match x.1 with
  | some c => if m then nI x.2 else nI c
  | none => -9
abbrev T_X0_cheapestMove : am_TT := fun is D K => ∃ n b w kd fg la hu li dt dp dr fr wc, is = [bI fr, bI wc] ∧ D = .inl [] :: (dt ++ (dp ++ dr)) ∧ rF dt ∧ pF dp ∧ rA n b w kd fg la hu li dr ∧ ∀ dt' dp', rF dt' → pF dp' → K [oC (lsF (cMv b w kd fg la hu li fr) (cst hu (simA b w kd fg la li 0)) n) wc] (.inl [] :: (dt' ++ (dp' ++ dr)))
theorem er_perm {li : List Nat} {n c : Nat} (hp : li.Perm (List.range n)) (hc : c < n) : (li.erase c ++ [c]).Perm (List.range n) := (((List.perm_cons_erase ((pl_mem hp).mpr hc)).symm.trans hp).symm.trans (List.perm_append_comm (l₁ := [c]))).symm
theorem er_perm2 {li : List Nat} {n c : Nat} (hp : li.Perm (List.range n)) (hc : c < n) : (c :: li.erase c).Perm (List.range n) := (List.perm_cons_erase ((pl_mem hp).mpr hc)).symm.trans hp
theorem B_X0_cheapestMove : ∀ (X : am_X) (is : List Int32) (D : am_D) (K : List Int32 → am_D → Prop), ok_X0_cheapestMove X K → T_X0_cheapestMove is D K → is.length = (List.filter Option.isNone ([some 0, some 13, none, none] : List (Option Nat))).length → D.length = sh_CX.length → am_aw X 8 sh_CX 0 (am_l0 8 [some 0, some 13, none, none] is) [] D := by
  intro X is D K O hT _ _
  obtain ⟨n, b, w, kd, fg, la, hu, li, dt, dp, dr, fr, wc, rfl, rfl, hG, hF, hR, hK⟩ := hT
  obtain ⟨kk, ff, ll, hh, ii, rfl, hn, hb, hw, hj, hp, hi⟩ := id hR
  obtain ⟨f, hf⟩ : ∃ f : Nat → Nat, f = cMv b w kd fg la hu li fr := ⟨_, rfl⟩
  obtain ⟨c0, hc0⟩ : ∃ c0 : Nat, c0 = cst hu (simA b w kd fg la li 0) := ⟨_, rfl⟩
  have hh2 : ∀ c, c < n → hu c ≤ 20 := fun c hc => (hj c hc).2.2.2.2
  have hcb : c0 ≤ 30000 := by rw [hc0]; exact (simA_bd hn hw hh2 hp 0).2
  have hfb : ∀ j, j < n → f j ≤ 30000 := fun j hjn => by
    rw [hf]
    unfold cMv
    split
    · exact (simA_bd hn hw hh2 (er_perm2 hp hjn) 0).2
    · exact (simA_bd hn hw hh2 (er_perm hp hjn) 0).2
  rw [← hf, ← hc0] at hK
  have loop : ∀ d m x7 (dt dp : am_D), n - m = d → m ≤ n → rF dt → pF dp → am_aw X 8 sh_CX 14 [some (.inr 0), some (.inr 13), some (.inl (bI fr)), some (.inl (bI wc)), some (.inl (oI (lsF f c0 m).1)), some (.inl (nI (lsF f c0 m).2)), some (.inl (nI m)), x7] [] (.inl [] :: (dt ++ (dp ++ [.inl [nI n, nI b, nI w], .inr kk, .inr ff, .inr ll, .inr hh, .inr ii]))) := by
    intro d
    induction d with
    | zero =>
      intro m x7 dt dp hd hm hG hF
      have e : m = n := by omega
      subst e
      have hK := hK dt dp hG hF
      obtain ⟨j0, j1, j2, j3, j4, j5, j6, j7, j8, o, wt, tn, r0, l1, rfl⟩ := hF
      obtain ⟨a0, b0, q0, k0, f0, l0, h0, i0, rfl⟩ := hG
      have hon := oI_none (o := (lsF f c0 m).1) (fun c hc => by have := lsF_lt m c hc; omega)
      rcases hx : lsF f c0 m with ⟨_ | c, v⟩
      · rw [hx] at hK hon
        refine st_iload O dX0_cheapestMove_14 rfl (q := 16) rfl ?_
        refine st_aloadn O dX0_cheapestMove_16 rfl (q := 17) rfl ?_
        refine st_geti O dX0_cheapestMove_17 fl_X0_44 rfl rfl rfl rfl (q := 20) rfl ?_
        refine sn_icmp_ge O dX0_cheapestMove_20 (t := 89) rfl (q := 23) rfl (by omega) (by omega) (fun c20 => ?_) (fun c20 => ?_)
        · refine st_iload O dX0_cheapestMove_89 rfl (q := 91) rfl ?_
          refine st_bipush O dX0_cheapestMove_91 am_bipush_m9 (q := 93) rfl ?_
          refine st_icmp_eq O dX0_cheapestMove_93 (t := 105) rfl (q := 96) rfl (fun c93 => ?_) (fun c93 => ?_)
          · refine st_iload O dX0_cheapestMove_105 rfl (q := 107) rfl ?_
            refine st_ireturn O dX0_cheapestMove_107 ?_
            exact hK
          exact absurd rfl c93
        omega
      · rw [hx] at hK hon
        cases wc with
        | true =>
          refine st_iload O dX0_cheapestMove_14 rfl (q := 16) rfl ?_
          refine st_aloadn O dX0_cheapestMove_16 rfl (q := 17) rfl ?_
          refine st_geti O dX0_cheapestMove_17 fl_X0_44 rfl rfl rfl rfl (q := 20) rfl ?_
          refine sn_icmp_ge O dX0_cheapestMove_20 (t := 89) rfl (q := 23) rfl (by omega) (by omega) (fun c20 => ?_) (fun c20 => ?_)
          · refine st_iload O dX0_cheapestMove_89 rfl (q := 91) rfl ?_
            refine st_bipush O dX0_cheapestMove_91 am_bipush_m9 (q := 93) rfl ?_
            refine st_icmp_eq O dX0_cheapestMove_93 (t := 105) rfl (q := 96) rfl (fun c93 => ?_) (fun c93 => ?_)
            · exact absurd (hon.mp c93) (by simp)
            refine st_iloadn O dX0_cheapestMove_96 rfl (q := 97) rfl ?_
            refine st_if_eq O dX0_cheapestMove_97 (t := 105) rfl (q := 100) rfl (fun c97 => ?_) (fun c97 => ?_)
            · exact absurd c97 (by decide)
            refine st_iload O dX0_cheapestMove_100 rfl (q := 102) rfl ?_
            refine st_goto O dX0_cheapestMove_102 (t := 107) rfl ?_
            refine st_ireturn O dX0_cheapestMove_107 ?_
            exact hK
          omega
        | false =>
          refine st_iload O dX0_cheapestMove_14 rfl (q := 16) rfl ?_
          refine st_aloadn O dX0_cheapestMove_16 rfl (q := 17) rfl ?_
          refine st_geti O dX0_cheapestMove_17 fl_X0_44 rfl rfl rfl rfl (q := 20) rfl ?_
          refine sn_icmp_ge O dX0_cheapestMove_20 (t := 89) rfl (q := 23) rfl (by omega) (by omega) (fun c20 => ?_) (fun c20 => ?_)
          · refine st_iload O dX0_cheapestMove_89 rfl (q := 91) rfl ?_
            refine st_bipush O dX0_cheapestMove_91 am_bipush_m9 (q := 93) rfl ?_
            refine st_icmp_eq O dX0_cheapestMove_93 (t := 105) rfl (q := 96) rfl (fun c93 => ?_) (fun c93 => ?_)
            · exact absurd (hon.mp c93) (by simp)
            refine st_iloadn O dX0_cheapestMove_96 rfl (q := 97) rfl ?_
            refine st_if_eq O dX0_cheapestMove_97 (t := 105) rfl (q := 100) rfl (fun c97 => ?_) (fun c97 => ?_)
            · refine st_iload O dX0_cheapestMove_105 rfl (q := 107) rfl ?_
              refine st_ireturn O dX0_cheapestMove_107 ?_
              exact hK
            exact absurd c97 (by decide)
          omega
    | succ d ih =>
      intro m x7 dt dp hd hm hG hF
      have hF' := hF
      have hG' := hG
      have hb1 := hfb m (by omega)
      have hb2 := lsF_le (f := f) hcb m (fun j hjm => hfb j (by omega))
      have ih := fun x7 dt dp => ih (m + 1) x7 dt dp (by omega) (by omega)
      rw [lsF] at ih
      obtain ⟨j0, j1, j2, j3, j4, j5, j6, j7, j8, o, wt, tn, r0, l1, rfl⟩ := hF
      obtain ⟨a0, b0, q0, k0, f0, l0, h0, i0, rfl⟩ := hG
      cases fr with
      | true =>
        refine st_iload O dX0_cheapestMove_14 rfl (q := 16) rfl ?_
        refine st_aloadn O dX0_cheapestMove_16 rfl (q := 17) rfl ?_
        refine st_geti O dX0_cheapestMove_17 fl_X0_44 rfl rfl rfl rfl (q := 20) rfl ?_
        refine sn_icmp_ge O dX0_cheapestMove_20 (t := 89) rfl (q := 23) rfl (by omega) (by omega) (fun c20 => ?_) (fun c20 => ?_)
        · omega
        refine st_aloadn O dX0_cheapestMove_23 rfl (q := 24) rfl ?_
        refine st_getr O dX0_cheapestMove_24 fl_X0_12 rfl rfl rfl (q := 27) rfl ?_
        refine st_aloadn O dX0_cheapestMove_27 rfl (q := 28) rfl ?_
        refine st_call O dX0_cheapestMove_28 cs_X0_cheapestMove_28 (q := 31) rfl (am_si rfl rfl rfl (Nat.le_of_ble_eq_true rfl) rfl ?_)
        refine ⟨n, b, w, kd, fg, la, hu, li, _, _, rfl, (by exact rfl), hG', hR, fun d hd => ?_⟩
        have hd' := hd
        obtain ⟨k0, f0, l0, h0, i0, rfl, -, -, -, -, -, -⟩ := hd
        refine am_norm rfl rfl ?_
        refine st_iloadn O dX0_cheapestMove_31 rfl (q := 32) rfl ?_
        refine st_if_eq O dX0_cheapestMove_32 (t := 48) rfl (q := 35) rfl (fun c32 => ?_) (fun c32 => ?_)
        · exact absurd c32 (by decide)
        refine st_aloadn O dX0_cheapestMove_35 rfl (q := 36) rfl ?_
        refine st_getr O dX0_cheapestMove_36 fl_X0_12 rfl rfl rfl (q := 39) rfl ?_
        refine st_iload O dX0_cheapestMove_39 rfl (q := 41) rfl ?_
        refine st_call O dX0_cheapestMove_41 cs_X0_cheapestMove_41 (q := 44) rfl (am_si rfl rfl rfl (Nat.le_of_ble_eq_true rfl) rfl ?_)
        refine ⟨n, b, w, kd, fg, la, hu, li, _, hd', rfl, Or.inl ⟨m, by omega, rfl, fun D' hD' => ?_⟩⟩
        have hD2 := hD'
        obtain ⟨k0, f0, l0, h0, i0, rfl, -, -, -, -, -, -⟩ := hD'
        refine am_norm rfl rfl ?_
        refine st_pop O dX0_cheapestMove_44 (q := 45) rfl ?_
        refine st_goto O dX0_cheapestMove_45 (t := 58) rfl ?_
        refine st_aloadn O dX0_cheapestMove_58 rfl (q := 59) rfl ?_
        refine st_aloadn O dX0_cheapestMove_59 rfl (q := 60) rfl ?_
        refine st_getr O dX0_cheapestMove_60 fl_X0_12 rfl rfl rfl (q := 63) rfl ?_
        refine st_call O dX0_cheapestMove_63 cs_X0_cheapestMove_63 (q := 66) rfl (am_si rfl rfl rfl (Nat.le_of_ble_eq_true rfl) rfl ?_)
        refine ⟨n, b, w, kd, fg, la, hu, _, _, _, rfl, (by exact rfl), hF', hD2, fun dp' hF2 => ?_⟩
        rw [show cst hu (simA b w kd fg la (m :: li.erase m) 0) = f m by rw [hf]; rfl]
        have ih := fun x7 => ih x7 _ dp' hD2.form hF2
        obtain ⟨j0, j1, j2, j3, j4, j5, j6, j7, j8, o, wt, tn, r0, l1, rfl⟩ := hF2
        refine am_norm rfl rfl ?_
        refine st_istore O dX0_cheapestMove_66 rfl (q := 68) rfl ?_
        refine st_iload O dX0_cheapestMove_68 rfl (q := 70) rfl ?_
        refine st_iload O dX0_cheapestMove_70 rfl (q := 72) rfl ?_
        refine sn_icmp_ge O dX0_cheapestMove_72 (t := 83) rfl (q := 75) rfl (by omega) (by omega) (fun c72 => ?_) (fun c72 => ?_)
        · refine st_iinc O dX0_cheapestMove_83 rfl (by first | exact am_ii1 _ | exact rfl) rfl (q := 86) rfl ?_
          refine st_goto O dX0_cheapestMove_86 (t := 14) rfl ?_
          first | (rw [if_pos (by omega)] at ih; exact ih _) | (rw [if_neg (by omega)] at ih; exact ih _)
        refine st_iload O dX0_cheapestMove_75 rfl (q := 77) rfl ?_
        refine st_istore O dX0_cheapestMove_77 rfl (q := 79) rfl ?_
        refine st_iload O dX0_cheapestMove_79 rfl (q := 81) rfl ?_
        refine st_istore O dX0_cheapestMove_81 rfl (q := 83) rfl ?_
        refine st_iinc O dX0_cheapestMove_83 rfl (by first | exact am_ii1 _ | exact rfl) rfl (q := 86) rfl ?_
        refine st_goto O dX0_cheapestMove_86 (t := 14) rfl ?_
        first | (rw [if_pos (by omega)] at ih; exact ih _) | (rw [if_neg (by omega)] at ih; exact ih _)
      | false =>
        refine st_iload O dX0_cheapestMove_14 rfl (q := 16) rfl ?_
        refine st_aloadn O dX0_cheapestMove_16 rfl (q := 17) rfl ?_
        refine st_geti O dX0_cheapestMove_17 fl_X0_44 rfl rfl rfl rfl (q := 20) rfl ?_
        refine sn_icmp_ge O dX0_cheapestMove_20 (t := 89) rfl (q := 23) rfl (by omega) (by omega) (fun c20 => ?_) (fun c20 => ?_)
        · omega
        refine st_aloadn O dX0_cheapestMove_23 rfl (q := 24) rfl ?_
        refine st_getr O dX0_cheapestMove_24 fl_X0_12 rfl rfl rfl (q := 27) rfl ?_
        refine st_aloadn O dX0_cheapestMove_27 rfl (q := 28) rfl ?_
        refine st_call O dX0_cheapestMove_28 cs_X0_cheapestMove_28 (q := 31) rfl (am_si rfl rfl rfl (Nat.le_of_ble_eq_true rfl) rfl ?_)
        refine ⟨n, b, w, kd, fg, la, hu, li, _, _, rfl, (by exact rfl), hG', hR, fun d hd => ?_⟩
        have hd' := hd
        obtain ⟨k0, f0, l0, h0, i0, rfl, -, -, -, -, -, -⟩ := hd
        refine am_norm rfl rfl ?_
        refine st_iloadn O dX0_cheapestMove_31 rfl (q := 32) rfl ?_
        refine st_if_eq O dX0_cheapestMove_32 (t := 48) rfl (q := 35) rfl (fun c32 => ?_) (fun c32 => ?_)
        · refine st_aloadn O dX0_cheapestMove_48 rfl (q := 49) rfl ?_
          refine st_getr O dX0_cheapestMove_49 fl_X0_12 rfl rfl rfl (q := 52) rfl ?_
          refine st_iload O dX0_cheapestMove_52 rfl (q := 54) rfl ?_
          refine st_call O dX0_cheapestMove_54 cs_X0_cheapestMove_54 (q := 57) rfl (am_si rfl rfl rfl (Nat.le_of_ble_eq_true rfl) rfl ?_)
          refine ⟨n, b, w, kd, fg, la, hu, li, _, hd', rfl, Or.inl ⟨m, by omega, rfl, fun D' hD' => ?_⟩⟩
          have hD2 := hD'
          obtain ⟨k0, f0, l0, h0, i0, rfl, -, -, -, -, -, -⟩ := hD'
          refine am_norm rfl rfl ?_
          refine st_pop O dX0_cheapestMove_57 (q := 58) rfl ?_
          refine st_aloadn O dX0_cheapestMove_58 rfl (q := 59) rfl ?_
          refine st_aloadn O dX0_cheapestMove_59 rfl (q := 60) rfl ?_
          refine st_getr O dX0_cheapestMove_60 fl_X0_12 rfl rfl rfl (q := 63) rfl ?_
          refine st_call O dX0_cheapestMove_63 cs_X0_cheapestMove_63 (q := 66) rfl (am_si rfl rfl rfl (Nat.le_of_ble_eq_true rfl) rfl ?_)
          refine ⟨n, b, w, kd, fg, _, hu, _, _, _, rfl, (by exact rfl), hF', hD2, fun dp' hF2 => ?_⟩
          rw [show cst hu (simA b w kd fg (va_up la m (1 - la m)) (li.erase m ++ [m]) 0) = f m by rw [hf]; rfl]
          have ih := fun x7 => ih x7 _ dp' hD2.form hF2
          obtain ⟨j0, j1, j2, j3, j4, j5, j6, j7, j8, o, wt, tn, r0, l1, rfl⟩ := hF2
          refine am_norm rfl rfl ?_
          refine st_istore O dX0_cheapestMove_66 rfl (q := 68) rfl ?_
          refine st_iload O dX0_cheapestMove_68 rfl (q := 70) rfl ?_
          refine st_iload O dX0_cheapestMove_70 rfl (q := 72) rfl ?_
          refine sn_icmp_ge O dX0_cheapestMove_72 (t := 83) rfl (q := 75) rfl (by omega) (by omega) (fun c72 => ?_) (fun c72 => ?_)
          · refine st_iinc O dX0_cheapestMove_83 rfl (by first | exact am_ii1 _ | exact rfl) rfl (q := 86) rfl ?_
            refine st_goto O dX0_cheapestMove_86 (t := 14) rfl ?_
            first | (rw [if_pos (by omega)] at ih; exact ih _) | (rw [if_neg (by omega)] at ih; exact ih _)
          refine st_iload O dX0_cheapestMove_75 rfl (q := 77) rfl ?_
          refine st_istore O dX0_cheapestMove_77 rfl (q := 79) rfl ?_
          refine st_iload O dX0_cheapestMove_79 rfl (q := 81) rfl ?_
          refine st_istore O dX0_cheapestMove_81 rfl (q := 83) rfl ?_
          refine st_iinc O dX0_cheapestMove_83 rfl (by first | exact am_ii1 _ | exact rfl) rfl (q := 86) rfl ?_
          refine st_goto O dX0_cheapestMove_86 (t := 14) rfl ?_
          first | (rw [if_pos (by omega)] at ih; exact ih _) | (rw [if_neg (by omega)] at ih; exact ih _)
        exact absurd c32 (by decide)
  have hF' := hF
  have hG' := hG
  obtain ⟨j0, j1, j2, j3, j4, j5, j6, j7, j8, o, wt, tn, r0, l1, rfl⟩ := hF
  obtain ⟨a0, b0, q0, k0, f0, l0, h0, i0, rfl⟩ := hG
  refine am_begin rfl ?_
  refine st_bipush O dX0_cheapestMove_0 am_bipush_m9 (q := 2) rfl ?_
  refine st_istore O dX0_cheapestMove_2 rfl (q := 4) rfl ?_
  refine st_aloadn O dX0_cheapestMove_4 rfl (q := 5) rfl ?_
  refine st_aloadn O dX0_cheapestMove_5 rfl (q := 6) rfl ?_
  refine st_call O dX0_cheapestMove_6 cs_X0_cheapestMove_6 (q := 9) rfl (am_si rfl rfl rfl (Nat.le_of_ble_eq_true rfl) rfl ?_)
  refine ⟨n, b, w, kd, fg, la, hu, li, _, _, rfl, (by exact rfl), hF', hR, fun dp' hF2 => ?_⟩
  rw [← hc0]
  have loop := loop n 0 none _ dp' rfl (by omega) hG' hF2
  obtain ⟨j0, j1, j2, j3, j4, j5, j6, j7, j8, o, wt, tn, r0, l1, rfl⟩ := hF2
  refine am_norm rfl rfl ?_
  refine st_istore O dX0_cheapestMove_9 rfl (q := 11) rfl ?_
  refine st_iconst O dX0_cheapestMove_11 am_iconst_0 (q := 12) rfl ?_
  refine st_istore O dX0_cheapestMove_12 rfl (q := 14) rfl ?_
  exact loop
theorem C_X0_cheapestMove : am_ctr yX0_cheapestMove cX0_cheapestMove 8 (some .int) 5 112 sh_CX [some 0, some 13, none, none] T_X0_cheapestMove := am_mk (by decide) (Or.inr (Or.inl ⟨rfl, rfl⟩)) (by decide) (by decide) (by decide) fl_X0_ok kc_X0_ok ck_X0_cheapestMove B_X0_cheapestMove
def cs_X0_cheapestWithout : Nat → List am_V → am_D → am_K → Prop := am_cs [(26, am_site 3 [some 0, some 6, none] T_X3_drive [1, 2, 3, 4, 5, 6, 7, 8, 9, 10, 11, 12] [1, 2, 3, 4, 5, 6, 7, 8, 9, 10, 11, 12]), (34, am_site 2 [some 0, some 6] T_X3_cost [1, 2, 3, 4, 5, 6, 7, 8, 9, 10, 11, 12] [1, 2, 3, 4, 5, 6, 7, 8, 9, 10, 11, 12])]
theorem cs_X0_cheapestWithout_26 : cs_X0_cheapestWithout 26 = am_site 3 [some 0, some 6, none] T_X3_drive [1, 2, 3, 4, 5, 6, 7, 8, 9, 10, 11, 12] [1, 2, 3, 4, 5, 6, 7, 8, 9, 10, 11, 12] := rfl
theorem cs_X0_cheapestWithout_34 : cs_X0_cheapestWithout 34 = am_site 2 [some 0, some 6] T_X3_cost [1, 2, 3, 4, 5, 6, 7, 8, 9, 10, 11, 12] [1, 2, 3, 4, 5, 6, 7, 8, 9, 10, 11, 12] := rfl
theorem ck_X0_cheapestWithout : ∀ X : am_X, am_cx X RX0 cX0_cheapestWithout 6 4 91 → ∀ pc, am_csok X 6 sh_CPR pc (cs_X0_cheapestWithout pc) := fun X hX => am_cs_ok (List.forall_mem_cons.mpr ⟨am_callV hX C_X3_drive mo_X3_drive rfl lk_X0_25 dX0_cheapestWithout_26 rfl rfl rfl (by decide), List.forall_mem_cons.mpr ⟨am_callV hX C_X3_cost mo_X3_cost rfl lk_X0_29 dX0_cheapestWithout_34 rfl rfl rfl (by decide), fun _ h => absurd h List.not_mem_nil⟩⟩)
abbrev ok_X0_cheapestWithout (X : am_X) (K : List Int32 → am_D → Prop) : Prop := am_ok X RX0 cX0_cheapestWithout 6 sh_CPR fl_X0 kc_X0 none 1 cs_X0_cheapestWithout K
abbrev aw_X0_cheapestWithout (X : am_X) (pc : Nat) (ls : am_L) (st : List am_V) (D : am_D) : Prop := am_aw X 6 sh_CPR pc ls st D
theorem sh_tab : ∀ c, c < 9 → nI 1 <<< (nI c &&& 31) = nI (2 ^ c) := by decide +kernel
theorem p2_lt : ∀ c, c < 9 → 2 ^ c < 512 := by decide +kernel
abbrev T_X0_cheapestWithout : am_TT := fun is D K => ∃ n b w kd fg la hu li dp dr, is = [] ∧ D = .inl [] :: (dp ++ dr) ∧ pF dp ∧ rA n b w kd fg la hu li dr ∧ ∀ dp', pF dp' → K [oI (lsN (fun c => cst hu (simA b w kd fg la li (2 ^ c))) n).1] (.inl [] :: (dp' ++ dr))
theorem B_X0_cheapestWithout : ∀ (X : am_X) (is : List Int32) (D : am_D) (K : List Int32 → am_D → Prop), ok_X0_cheapestWithout X K → T_X0_cheapestWithout is D K → is.length = (List.filter Option.isNone ([some 0, some 7] : List (Option Nat))).length → D.length = sh_CPR.length → am_aw X 6 sh_CPR 0 (am_l0 6 [some 0, some 7] is) [] D := by
  intro X is D K O hT _ _
  obtain ⟨n, b, w, kd, fg, la, hu, li, dp, dr, rfl, rfl, hF, hR, hK⟩ := hT
  obtain ⟨kk, ff, ll, hh, ii, rfl, hn, hb, hw, hj, hp, hi⟩ := id hR
  obtain ⟨f, hf⟩ : ∃ f : Nat → Nat, f = fun c => cst hu (simA b w kd fg la li (2 ^ c)) := ⟨_, rfl⟩
  have hh2 : ∀ c, c < n → hu c ≤ 20 := fun c hc => (hj c hc).2.2.2.2
  have hfb : ∀ j, j < n → f j ≤ 30000 := fun j hjn => by
    rw [hf]
    exact (simA_bd hn hw hh2 hp _).2
  rw [← hf] at hK
  have loop : ∀ d m x5 (dp : am_D), n - m = d → m ≤ n → pF dp → am_aw X 6 sh_CPR 8 [some (.inr 0), some (.inr 7), some (.inl (oI (lsN f m).1)), some (.inl (nI (lsN f m).2)), some (.inl (nI m)), x5] [] (.inl [] :: (dp ++ [.inl [nI n, nI b, nI w], .inr kk, .inr ff, .inr ll, .inr hh, .inr ii])) := by
    intro d
    induction d with
    | zero =>
      intro m x5 dp hd hm hF
      have e : m = n := by omega
      subst e
      have hK := hK dp hF
      obtain ⟨j0, j1, j2, j3, j4, j5, j6, j7, j8, o, wt, tn, r0, l1, rfl⟩ := hF
      refine st_iload O dX0_cheapestWithout_8 rfl (q := 10) rfl ?_
      refine st_aloadn O dX0_cheapestWithout_10 rfl (q := 11) rfl ?_
      refine st_geti O dX0_cheapestWithout_11 fl_X0_44 rfl rfl rfl rfl (q := 14) rfl ?_
      refine sn_icmp_ge O dX0_cheapestWithout_14 (t := 63) rfl (q := 17) rfl (by omega) (by omega) (fun c14 => ?_) (fun c14 => ?_)
      · refine st_iloadn O dX0_cheapestWithout_63 rfl (q := 64) rfl ?_
        refine st_ireturn O dX0_cheapestWithout_64 ?_
        exact hK
      omega
    | succ d ih =>
      intro m x5 dp hd hm hF
      have hF' := hF
      have hb1 := hfb m (by omega)
      have hb2 := lsN_le (f := f) m (fun j hjm => hfb j (by omega))
      have hon := oI_none (o := (lsN f m).1) (fun c hc => by have := lsN_lt m c hc; omega)
      have ih := fun x5 dp => ih (m + 1) x5 dp (by omega) (by omega)
      rw [lsN] at ih
      obtain ⟨j0, j1, j2, j3, j4, j5, j6, j7, j8, o, wt, tn, r0, l1, rfl⟩ := hF
      refine st_iload O dX0_cheapestWithout_8 rfl (q := 10) rfl ?_
      refine st_aloadn O dX0_cheapestWithout_10 rfl (q := 11) rfl ?_
      refine st_geti O dX0_cheapestWithout_11 fl_X0_44 rfl rfl rfl rfl (q := 14) rfl ?_
      refine sn_icmp_ge O dX0_cheapestWithout_14 (t := 63) rfl (q := 17) rfl (by omega) (by omega) (fun c14 => ?_) (fun c14 => ?_)
      · omega
      refine st_aloadn O dX0_cheapestWithout_17 rfl (q := 18) rfl ?_
      refine st_getr O dX0_cheapestWithout_18 fl_X0_21 rfl rfl rfl (q := 21) rfl ?_
      refine st_aloadn O dX0_cheapestWithout_21 rfl (q := 22) rfl ?_
      refine st_iconst O dX0_cheapestWithout_22 am_iconst_1 (q := 23) rfl ?_
      refine st_iload O dX0_cheapestWithout_23 rfl (q := 25) rfl ?_
      refine st_ishl O dX0_cheapestWithout_25 (sh_tab m (by omega)) (q := 26) rfl ?_
      refine st_call O dX0_cheapestWithout_26 cs_X0_cheapestWithout_26 (q := 29) rfl (am_si rfl rfl rfl (Nat.le_of_ble_eq_true rfl) rfl ?_)
      refine ⟨n, b, w, kd, fg, la, hu, li, _, _, 2 ^ m, rfl, p2_lt m (by omega), (by exact rfl), hF', hR, fun d hd => ?_⟩
      have ih := fun x5 => ih x5 d hd.form
      obtain ⟨j2, j3, j4, j5, j6, j7, j8, o, wt, tn, rr, l, rfl, hO⟩ := id hd
      refine am_norm rfl rfl ?_
      refine st_aloadn O dX0_cheapestWithout_29 rfl (q := 30) rfl ?_
      refine st_getr O dX0_cheapestWithout_30 fl_X0_21 rfl rfl rfl (q := 33) rfl ?_
      refine st_aloadn O dX0_cheapestWithout_33 rfl (q := 34) rfl ?_
      refine st_call O dX0_cheapestWithout_34 cs_X0_cheapestWithout_34 (q := 37) rfl (am_sip rfl rfl rfl (Nat.le_of_ble_eq_true rfl) rfl (r := nI (f m)) ⟨_, n, b, w, kd, fg, la, hu, li, _, _, (by exact rfl), hd, hR, sim_ok hn hp, rfl, by rw [hf]⟩ ?_)
      refine st_istore O dX0_cheapestWithout_37 rfl (q := 39) rfl ?_
      refine st_iloadn O dX0_cheapestWithout_39 rfl (q := 40) rfl ?_
      refine st_bipush O dX0_cheapestWithout_40 am_bipush_m9 (q := 42) rfl ?_
      refine st_icmp_eq O dX0_cheapestWithout_42 (t := 51) rfl (q := 45) rfl (fun c42 => ?_) (fun c42 => ?_)
      · refine st_iload O dX0_cheapestWithout_51 rfl (q := 53) rfl ?_
        refine st_istoren O dX0_cheapestWithout_53 rfl (q := 54) rfl ?_
        refine st_iload O dX0_cheapestWithout_54 rfl (q := 56) rfl ?_
        refine st_istoren O dX0_cheapestWithout_56 rfl (q := 57) rfl ?_
        refine st_iinc O dX0_cheapestWithout_57 rfl (by first | exact am_ii1 _ | exact rfl) rfl (q := 60) rfl ?_
        refine st_goto O dX0_cheapestWithout_60 (t := 8) rfl ?_
        first | (rw [if_pos (Or.inl (hon.mp c42))] at ih; exact ih _) | (rw [if_pos (by omega)] at ih; exact ih _) | (rw [if_neg (fun q => q.elim (fun q => c42 (hon.mpr q)) (by omega))] at ih; exact ih _)
      refine st_iload O dX0_cheapestWithout_45 rfl (q := 47) rfl ?_
      refine st_iloadn O dX0_cheapestWithout_47 rfl (q := 48) rfl ?_
      refine sn_icmp_ge O dX0_cheapestWithout_48 (t := 57) rfl (q := 51) rfl (by omega) (by omega) (fun c48 => ?_) (fun c48 => ?_)
      · refine st_iinc O dX0_cheapestWithout_57 rfl (by first | exact am_ii1 _ | exact rfl) rfl (q := 60) rfl ?_
        refine st_goto O dX0_cheapestWithout_60 (t := 8) rfl ?_
        first | (rw [if_pos (Or.inl (hon.mp c42))] at ih; exact ih _) | (rw [if_pos (by omega)] at ih; exact ih _) | (rw [if_neg (fun q => q.elim (fun q => c42 (hon.mpr q)) (by omega))] at ih; exact ih _)
      refine st_iload O dX0_cheapestWithout_51 rfl (q := 53) rfl ?_
      refine st_istoren O dX0_cheapestWithout_53 rfl (q := 54) rfl ?_
      refine st_iload O dX0_cheapestWithout_54 rfl (q := 56) rfl ?_
      refine st_istoren O dX0_cheapestWithout_56 rfl (q := 57) rfl ?_
      refine st_iinc O dX0_cheapestWithout_57 rfl (by first | exact am_ii1 _ | exact rfl) rfl (q := 60) rfl ?_
      refine st_goto O dX0_cheapestWithout_60 (t := 8) rfl ?_
      first | (rw [if_pos (Or.inl (hon.mp c42))] at ih; exact ih _) | (rw [if_pos (by omega)] at ih; exact ih _) | (rw [if_neg (fun q => q.elim (fun q => c42 (hon.mpr q)) (by omega))] at ih; exact ih _)
  have hF' := hF
  obtain ⟨j0, j1, j2, j3, j4, j5, j6, j7, j8, o, wt, tn, r0, l1, rfl⟩ := hF
  have loop := loop n 0 none _ rfl (by omega) hF'
  refine am_begin rfl ?_
  refine st_bipush O dX0_cheapestWithout_0 am_bipush_m9 (q := 2) rfl ?_
  refine st_istoren O dX0_cheapestWithout_2 rfl (q := 3) rfl ?_
  refine st_iconst O dX0_cheapestWithout_3 am_iconst_0 (q := 4) rfl ?_
  refine st_istoren O dX0_cheapestWithout_4 rfl (q := 5) rfl ?_
  refine st_iconst O dX0_cheapestWithout_5 am_iconst_0 (q := 6) rfl ?_
  refine st_istore O dX0_cheapestWithout_6 rfl (q := 8) rfl ?_
  exact loop
theorem C_X0_cheapestWithout : am_ctr yX0_cheapestWithout cX0_cheapestWithout 6 (some .int) 4 91 sh_CPR [some 0, some 7] T_X0_cheapestWithout := am_mk (by decide) (Or.inr (Or.inl ⟨rfl, rfl⟩)) (by decide) (by decide) (by decide) fl_X0_ok kc_X0_ok ck_X0_cheapestWithout B_X0_cheapestWithout
