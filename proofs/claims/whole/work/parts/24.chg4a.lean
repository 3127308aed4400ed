/-! Changes: the fewest cars that spoil it, mend it, must go -/
def kdS (kd : Nat → Nat) (k s m : Nat) : Nat → Nat := fun c => if c < m ∧ s.testBit c = true then k else kd c
/-- whether the cars of bits s, being turned, make it worse (better) than before -/
def rch (n b w : Nat) (kd fg la hu : Nat → Nat) (li : List Nat) (md : Bool) (s : Nat) : Bool := if md then decide (cst hu (simA b w (kdS kd 5 s n) fg la li 0) < cst hu (simA b w kd fg la li 0)) else decide (tot (simA b w kd fg la li 0) < tot (simA b w (kdS kd 2 s n) fg la li 0))
def bef (b w : Nat) (kd fg la hu : Nat → Nat) (li : List Nat) (md : Bool) : Nat := if md then cst hu (simA b w kd fg la li 0) else tot (simA b w kd fg la li 0)
def cs_X0_isReached : Nat → List am_V → am_D → am_K → Prop := am_cs [(16, am_site 2 [some 0, some 6] T_X4_copyFrom [1, 2, 3, 4, 5, 6, 13, 14, 15, 16, 17, 18] [1, 2, 3, 4, 5, 6, 13, 14, 15, 16, 17, 18]), (67, am_site 3 [some 0, some 7, none] T_X0_measured [0, 7, 8, 9, 10, 11, 12, 1, 2, 3, 4, 5, 6] [0, 7, 8, 9, 10, 11, 12, 1, 2, 3, 4, 5, 6, 1])]
theorem cs_X0_isReached_16 : cs_X0_isReached 16 = am_site 2 [some 0, some 6] T_X4_copyFrom [1, 2, 3, 4, 5, 6, 13, 14, 15, 16, 17, 18] [1, 2, 3, 4, 5, 6, 13, 14, 15, 16, 17, 18] := rfl
theorem cs_X0_isReached_67 : cs_X0_isReached 67 = am_site 3 [some 0, some 7, none] T_X0_measured [0, 7, 8, 9, 10, 11, 12, 1, 2, 3, 4, 5, 6] [0, 7, 8, 9, 10, 11, 12, 1, 2, 3, 4, 5, 6, 1] := rfl
theorem ck_X0_isReached : ∀ X : am_X, am_cx X RX0 cX0_isReached 7 5 113 → ∀ pc, am_csok X 7 sh_CX pc (cs_X0_isReached pc) := fun X hX => am_cs_ok (List.forall_mem_cons.mpr ⟨am_callV hX C_X4_copyFrom mo_X4_copyFrom rfl lk_X0_33 dX0_isReached_16 rfl rfl rfl (by decide), List.forall_mem_cons.mpr ⟨am_callV hX C_X0_measured mo_X0_measured rfl lk_X0_69 dX0_isReached_67 rfl rfl rfl (by decide), fun _ h => absurd h List.not_mem_nil⟩⟩)
abbrev ok_X0_isReached (X : am_X) (K : List Int32 → am_D → Prop) : Prop := am_ok X RX0 cX0_isReached 7 sh_CX fl_X0 kc_X0 none 2 cs_X0_isReached K
abbrev aw_X0_isReached (X : am_X) (pc : Nat) (ls : am_L) (st : List am_V) (D : am_D) : Prop := am_aw X 7 sh_CX pc ls st D
abbrev T_X0_isReached : am_TT := fun is D K => ∃ n b w kd fg la hu li dt dp dr s md, is = [nI s, bI md, nI (bef b w kd fg la hu li md)] ∧ s < 512 ∧ D = .inl [] :: (dt ++ (dp ++ dr)) ∧ rF dt ∧ pF dp ∧ rA n b w kd fg la hu li dr ∧ ∀ dt' dp', rF dt' → pF dp' → K [bI (rch n b w kd fg la hu li md s)] (.inl [] :: (dt' ++ (dp' ++ dr)))
theorem kdS_s {kd : Nat → Nat} {k s m : Nat} : kdS kd k s (m + 1) = if s.testBit m = true then va_up (kdS kd k s m) m k else kdS kd k s m := by
  funext c
  have e1 : ∀ z, kdS kd k s z c = if c < z ∧ s.testBit c = true then k else kd c := fun z => rfl
  by_cases h : s.testBit m = true
  · rw [if_pos h]
    by_cases e : c = m
    · subst e
      rw [e1, if_pos ⟨by omega, h⟩]
      exact (if_pos rfl).symm
    · rw [show va_up (kdS kd k s m) m k c = kdS kd k s m c from if_neg e, e1, e1]
      by_cases q : c < m ∧ s.testBit c = true
      · rw [if_pos q, if_pos ⟨by omega, q.2⟩]
      · rw [if_neg q, if_neg (fun z => q ⟨by omega, z.2⟩)]
  · rw [if_neg h, e1, e1]
    by_cases q : c < m ∧ s.testBit c = true
    · rw [if_pos q, if_pos ⟨by omega, q.2⟩]
    · rw [if_neg q, if_neg (fun z => q ⟨(by
        rcases (show c < m ∨ c = m by omega) with z2 | z2
        · exact z2
        · rw [z2] at z; exact absurd z.2 h), z.2⟩)]
set_option maxHeartbeats 8000000 in
theorem B_X0_isReached : ∀ (X : am_X) (is : List Int32) (D : am_D) (K : List Int32 → am_D → Prop), ok_X0_isReached X K → T_X0_isReached is D K → is.length = (List.filter Option.isNone ([some 0, some 13, none, none, none] : List (Option Nat))).length → D.length = sh_CX.length → am_aw X 7 sh_CX 0 (am_l0 7 [some 0, some 13, none, none, none] is) [] D := by
  intro X is D K O hT _ _
  obtain ⟨n, b, w, kd, fg, la, hu, li, dt, dp, dr, s, md, rfl, hs, rfl, hG, hF, hR, hK⟩ := hT
  obtain ⟨kk, ff, ll, hh, ii, rfl, hn, hb, hw, hj, hp, hi⟩ := id hR
  have hh2 : ∀ c, c < n → hu c ≤ 20 := fun c hc => (hj c hc).2.2.2.2
  obtain ⟨k, hk⟩ : ∃ k : Nat, k = if md then 5 else 2 := ⟨_, rfl⟩
  have hk6 : k < 6 := by rw [hk]; cases md <;> decide
  have hbd := fun kd' => simA_bd (b := b) (kd := kd') (fg := fg) (la := la) hn hw hh2 hp 0
  simp only [simA, rch, bef] at hbd hK ⊢
  have loop : ∀ d m (k0 f0 l0 h0 i0 : Nat → Int32) (dp : am_D), n - m = d → m ≤ n → rA n b w (kdS kd k s m) fg la hu li [.inl [nI n, nI b, nI w], .inr k0, .inr f0, .inr l0, .inr h0, .inr i0] → pF dp → am_aw X 7 sh_CX 22 [some (.inr 0), some (.inr 13), some (.inl (nI s)), some (.inl (bI md)), some (.inl (nI (if md = true then cst hu (sim b w kd fg (qu la li 0 0) (qu la li 1 0)) else tot (sim b w kd fg (qu la li 0 0) (qu la li 1 0))))), some (.inl (nI k)), some (.inl (nI m))] [] (.inl [] :: ([.inl [nI n, nI b, nI w], .inr k0, .inr f0, .inr l0, .inr h0, .inr i0] ++ (dp ++ [.inl [nI n, nI b, nI w], .inr kk, .inr ff, .inr ll, .inr hh, .inr ii]))) := by
    intro d
    induction d with
    | zero =>
      intro m k0 f0 l0 h0 i0 dp hd hm hA hF
      have e : m = n := by omega
      subst e
      have hF' := hF
      have hb1 := hbd kd
      have hb2 := hbd (kdS kd k s m)
      obtain ⟨j0, j1, j2, j3, j4, j5, j6, j7, j8, o, wt, tn, r0, l1, rfl⟩ := hF
      cases md with
      | true =>
        have hk : k = 5 := hk
        subst hk
        simp only [if_true] at hK ⊢
        refine am_norm rfl rfl ?_
        refine st_iload O dX0_isReached_22 rfl (q := 24) rfl ?_
        refine st_aloadn O dX0_isReached_24 rfl (q := 25) rfl ?_
        refine st_getr O dX0_isReached_25 fl_X0_12 rfl rfl rfl (q := 28) rfl ?_
        refine st_geti O dX0_isReached_28 fl_X0_44 rfl rfl rfl rfl (q := 31) rfl ?_
        refine sn_icmp_ge O dX0_isReached_31 (t := 61) rfl (q := 34) rfl (by omega) (by omega) (fun c31 => ?_) (fun c31 => ?_)
        · refine st_aloadn O dX0_isReached_61 rfl (q := 62) rfl ?_
          refine st_aloadn O dX0_isReached_62 rfl (q := 63) rfl ?_
          refine st_getr O dX0_isReached_63 fl_X0_12 rfl rfl rfl (q := 66) rfl ?_
          refine st_iloadn O dX0_isReached_66 rfl (q := 67) rfl ?_
          refine st_call O dX0_isReached_67 cs_X0_isReached_67 (q := 70) rfl (am_si rfl rfl rfl (Nat.le_of_ble_eq_true rfl) rfl ?_)
          refine ⟨m, b, w, _, fg, la, hu, li, _, _, true, rfl, (by exact rfl), hF', hA, fun dp' hF2 => ?_⟩
          have hK := hK _ dp' hA.form hF2
          obtain ⟨j0, j1, j2, j3, j4, j5, j6, j7, j8, o, wt, tn, r0, l1, rfl⟩ := hF2
          simp only [if_true, simA]
          refine am_norm rfl rfl ?_
          refine st_istore O dX0_isReached_70 rfl (q := 72) rfl ?_
          refine st_iloadn O dX0_isReached_72 rfl (q := 73) rfl ?_
          refine st_if_eq O dX0_isReached_73 (t := 91) rfl (q := 76) rfl (fun c73 => ?_) (fun c73 => ?_)
          · exact absurd c73 (by decide)
          refine st_iload O dX0_isReached_76 rfl (q := 78) rfl ?_
          refine st_iload O dX0_isReached_78 rfl (q := 80) rfl ?_
          refine sn_icmp_ge O dX0_isReached_80 (t := 87) rfl (q := 83) rfl (by omega) (by omega) (fun c80 => ?_) (fun c80 => ?_)
          · refine st_iconst O dX0_isReached_87 am_iconst_0 (q := 88) rfl ?_
            refine st_goto O dX0_isReached_88 (t := 103) rfl ?_
            refine st_zreturn O dX0_isReached_103 (by first | exact Or.inl rfl | exact Or.inr rfl | assumption) ?_
            first | (rw [decide_eq_true (by omega)] at hK; exact hK) | (rw [decide_eq_false (by omega)] at hK; exact hK)
          refine st_iconst O dX0_isReached_83 am_iconst_1 (q := 84) rfl ?_
          refine st_goto O dX0_isReached_84 (t := 103) rfl ?_
          refine st_zreturn O dX0_isReached_103 (by first | exact Or.inl rfl | exact Or.inr rfl | assumption) ?_
          first | (rw [decide_eq_true (by omega)] at hK; exact hK) | (rw [decide_eq_false (by omega)] at hK; exact hK)
        omega
      | false =>
        have hk : k = 2 := hk
        subst hk
        simp only [Bool.false_eq_true, if_false] at hK ⊢
        refine am_norm rfl rfl ?_
        refine st_iload O dX0_isReached_22 rfl (q := 24) rfl ?_
        refine st_aloadn O dX0_isReached_24 rfl (q := 25) rfl ?_
        refine st_getr O dX0_isReached_25 fl_X0_12 rfl rfl rfl (q := 28) rfl ?_
        refine st_geti O dX0_isReached_28 fl_X0_44 rfl rfl rfl rfl (q := 31) rfl ?_
        refine sn_icmp_ge O dX0_isReached_31 (t := 61) rfl (q := 34) rfl (by omega) (by omega) (fun c31 => ?_) (fun c31 => ?_)
        · refine st_aloadn O dX0_isReached_61 rfl (q := 62) rfl ?_
          refine st_aloadn O dX0_isReached_62 rfl (q := 63) rfl ?_
          refine st_getr O dX0_isReached_63 fl_X0_12 rfl rfl rfl (q := 66) rfl ?_
          refine st_iloadn O dX0_isReached_66 rfl (q := 67) rfl ?_
          refine st_call O dX0_isReached_67 cs_X0_isReached_67 (q := 70) rfl (am_si rfl rfl rfl (Nat.le_of_ble_eq_true rfl) rfl ?_)
          refine ⟨m, b, w, _, fg, la, hu, li, _, _, false, rfl, (by exact rfl), hF', hA, fun dp' hF2 => ?_⟩
          have hK := hK _ dp' hA.form hF2
          obtain ⟨j0, j1, j2, j3, j4, j5, j6, j7, j8, o, wt, tn, r0, l1, rfl⟩ := hF2
          simp only [Bool.false_eq_true, if_false, simA]
          refine am_norm rfl rfl ?_
          refine st_istore O dX0_isReached_70 rfl (q := 72) rfl ?_
          refine st_iloadn O dX0_isReached_72 rfl (q := 73) rfl ?_
          refine st_if_eq O dX0_isReached_73 (t := 91) rfl (q := 76) rfl (fun c73 => ?_) (fun c73 => ?_)
          · refine st_iload O dX0_isReached_91 rfl (q := 93) rfl ?_
            refine st_iload O dX0_isReached_93 rfl (q := 95) rfl ?_
            refine sn_icmp_le O dX0_isReached_95 (t := 102) rfl (q := 98) rfl (by omega) (by omega) (fun c95 => ?_) (fun c95 => ?_)
            · refine st_iconst O dX0_isReached_102 am_iconst_0 (q := 103) rfl ?_
              refine st_zreturn O dX0_isReached_103 (by first | exact Or.inl rfl | exact Or.inr rfl | assumption) ?_
              first | (rw [decide_eq_true (by omega)] at hK; exact hK) | (rw [decide_eq_false (by omega)] at hK; exact hK)
            refine st_iconst O dX0_isReached_98 am_iconst_1 (q := 99) rfl ?_
            refine st_goto O dX0_isReached_99 (t := 103) rfl ?_
            refine st_zreturn O dX0_isReached_103 (by first | exact Or.inl rfl | exact Or.inr rfl | assumption) ?_
            first | (rw [decide_eq_true (by omega)] at hK; exact hK) | (rw [decide_eq_false (by omega)] at hK; exact hK)
          exact absurd c73 (by decide)
        omega
    | succ d ih =>
      intro m k0 f0 l0 h0 i0 dp hd hm hA hF
      have hF' := hF
      have hbt := bt_tab s hs m (by omega)
      obtain ⟨j0, j1, j2, j3, j4, j5, j6, j7, j8, o, wt, tn, r0, l1, rfl⟩ := hF
      by_cases q : s.testBit m = true
      · rw [if_pos q] at hbt
        refine am_norm rfl rfl ?_
        refine st_iload O dX0_isReached_22 rfl (q := 24) rfl ?_
        refine st_aloadn O dX0_isReached_24 rfl (q := 25) rfl ?_
        refine st_getr O dX0_isReached_25 fl_X0_12 rfl rfl rfl (q := 28) rfl ?_
        refine st_geti O dX0_isReached_28 fl_X0_44 rfl rfl rfl rfl (q := 31) rfl ?_
        refine sn_icmp_ge O dX0_isReached_31 (t := 61) rfl (q := 34) rfl (by omega) (by omega) (fun c31 => ?_) (fun c31 => ?_)
        · omega
        refine st_iloadn O dX0_isReached_34 rfl (q := 35) rfl ?_
        refine st_iload O dX0_isReached_35 rfl (q := 37) rfl ?_
        refine st_ishr O dX0_isReached_37 rfl (q := 38) rfl ?_
        refine st_iconst O dX0_isReached_38 am_iconst_1 (q := 39) rfl ?_
        refine st_iand O dX0_isReached_39 hbt (q := 40) rfl ?_
        refine sn_if_eq O dX0_isReached_40 (t := 55) rfl (q := 43) rfl (by omega) (fun c40 => ?_) (fun c40 => ?_)
        · omega
        refine st_aloadn O dX0_isReached_43 rfl (q := 44) rfl ?_
        refine st_getr O dX0_isReached_44 fl_X0_12 rfl rfl rfl (q := 47) rfl ?_
        refine st_getr O dX0_isReached_47 fl_X0_54 rfl rfl rfl (q := 50) rfl ?_
        refine st_iload O dX0_isReached_50 rfl (q := 52) rfl ?_
        refine st_iload O dX0_isReached_52 rfl (q := 54) rfl ?_
        refine sn_ast O dX0_isReached_54 rfl rfl rfl ⟨by omega, by decide⟩ rfl rfl (q := 55) rfl ?_
        refine st_iinc O dX0_isReached_55 rfl (by first | exact am_ii1 _ | exact rfl) rfl (q := 58) rfl ?_
        refine st_goto O dX0_isReached_58 (t := 22) rfl ?_
        refine ih (m + 1) _ f0 l0 h0 i0 _ (by omega) (by omega) ?_ hF'
        rw [kdS_s, if_pos q]
        obtain ⟨k0', f0', l0', h0', i0', e0, -, -, -, hj0, -, hi0⟩ := hA
        simp only [List.cons.injEq, Sum.inr.injEq] at e0
        obtain ⟨-, rfl, rfl, rfl, rfl, rfl, -⟩ := e0
        refine ⟨_, _, _, _, _, rfl, hn, hb, hw, fun j hjn => ?_, hp, hi0⟩
        by_cases e : j = m
        · subst e; simp only [pk_us, va_up, if_true]; exact ⟨⟨trivial, hk6⟩, (hj0 j hjn).2⟩
        · simp only [pk_un e, va_up, if_neg e]; exact hj0 j hjn
      · rw [if_neg q] at hbt
        refine am_norm rfl rfl ?_
        refine st_iload O dX0_isReached_22 rfl (q := 24) rfl ?_
        refine st_aloadn O dX0_isReached_24 rfl (q := 25) rfl ?_
        refine st_getr O dX0_isReached_25 fl_X0_12 rfl rfl rfl (q := 28) rfl ?_
        refine st_geti O dX0_isReached_28 fl_X0_44 rfl rfl rfl rfl (q := 31) rfl ?_
        refine sn_icmp_ge O dX0_isReached_31 (t := 61) rfl (q := 34) rfl (by omega) (by omega) (fun c31 => ?_) (fun c31 => ?_)
        · omega
        refine st_iloadn O dX0_isReached_34 rfl (q := 35) rfl ?_
        refine st_iload O dX0_isReached_35 rfl (q := 37) rfl ?_
        refine st_ishr O dX0_isReached_37 rfl (q := 38) rfl ?_
        refine st_iconst O dX0_isReached_38 am_iconst_1 (q := 39) rfl ?_
        refine st_iand O dX0_isReached_39 hbt (q := 40) rfl ?_
        refine sn_if_eq O dX0_isReached_40 (t := 55) rfl (q := 43) rfl (by omega) (fun c40 => ?_) (fun c40 => ?_)
        · refine st_iinc O dX0_isReached_55 rfl (by first | exact am_ii1 _ | exact rfl) rfl (q := 58) rfl ?_
          refine st_goto O dX0_isReached_58 (t := 22) rfl ?_
          refine ih (m + 1) _ f0 l0 h0 i0 _ (by omega) (by omega) ?_ hF'
          rw [kdS_s, if_neg q]
          exact hA
        omega
  have hF' := hF
  have hG' := hG
  obtain ⟨j0, j1, j2, j3, j4, j5, j6, j7, j8, o, wt, tn, r0, l1, rfl⟩ := hF
  obtain ⟨a0, b0, q0, k0, f0, l0, h0, i0, rfl⟩ := hG
  have k0e : ∀ k, kdS kd k s 0 = kd := fun k => by
    funext c
    unfold kdS
    rw [if_neg (fun z => Nat.not_lt_zero c z.1)]
  cases md with
  | true =>
    have hk : k = 5 := hk
    subst hk
    refine am_begin rfl ?_
    refine am_norm rfl rfl ?_
    refine st_iloadn O dX0_isReached_0 rfl (q := 1) rfl ?_
    refine st_if_eq O dX0_isReached_1 (t := 8) rfl (q := 4) rfl (fun c1 => ?_) (fun c1 => ?_)
    · exact absurd c1 (by decide)
    refine st_iconst O dX0_isReached_4 am_iconst_5 (q := 5) rfl ?_
    refine st_goto O dX0_isReached_5 (t := 9) rfl ?_
    refine st_istore O dX0_isReached_9 rfl (q := 11) rfl ?_
    refine st_aloadn O dX0_isReached_11 rfl (q := 12) rfl ?_
    refine st_getr O dX0_isReached_12 fl_X0_12 rfl rfl rfl (q := 15) rfl ?_
    refine st_aloadn O dX0_isReached_15 rfl (q := 16) rfl ?_
    refine st_call O dX0_isReached_16 cs_X0_isReached_16 (q := 19) rfl (am_si rfl rfl rfl (Nat.le_of_ble_eq_true rfl) rfl ?_)
    refine ⟨n, b, w, kd, fg, la, hu, li, _, _, rfl, (by exact rfl), hG', hR, fun d hd => ?_⟩
    rw [← k0e 5] at hd
    obtain ⟨k0, f0, l0, h0, i0, rfl, -⟩ := id hd
    have loop := loop n 0 k0 f0 l0 h0 i0 _ rfl (by omega) hd hF'
    refine am_norm rfl rfl ?_
    refine st_iconst O dX0_isReached_19 am_iconst_0 (q := 20) rfl ?_
    refine st_istore O dX0_isReached_20 rfl (q := 22) rfl ?_
    exact loop
  | false =>
    have hk : k = 2 := hk
    subst hk
    refine am_begin rfl ?_
    refine am_norm rfl rfl ?_
    refine st_iloadn O dX0_isReached_0 rfl (q := 1) rfl ?_
    refine st_if_eq O dX0_isReached_1 (t := 8) rfl (q := 4) rfl (fun c1 => ?_) (fun c1 => ?_)
    · refine st_iconst O dX0_isReached_8 am_iconst_2 (q := 9) rfl ?_
      refine st_istore O dX0_isReached_9 rfl (q := 11) rfl ?_
      refine st_aloadn O dX0_isReached_11 rfl (q := 12) rfl ?_
      refine st_getr O dX0_isReached_12 fl_X0_12 rfl rfl rfl (q := 15) rfl ?_
      refine st_aloadn O dX0_isReached_15 rfl (q := 16) rfl ?_
      refine st_call O dX0_isReached_16 cs_X0_isReached_16 (q := 19) rfl (am_si rfl rfl rfl (Nat.le_of_ble_eq_true rfl) rfl ?_)
      refine ⟨n, b, w, kd, fg, la, hu, li, _, _, rfl, (by exact rfl), hG', hR, fun d hd => ?_⟩
      rw [← k0e 2] at hd
      obtain ⟨k0, f0, l0, h0, i0, rfl, -⟩ := id hd
      have loop := loop n 0 k0 f0 l0 h0 i0 _ rfl (by omega) hd hF'
      refine am_norm rfl rfl ?_
      refine st_iconst O dX0_isReached_19 am_iconst_0 (q := 20) rfl ?_
      refine st_istore O dX0_isReached_20 rfl (q := 22) rfl ?_
      exact loop
    exact absurd c1 (by decide)
theorem C_X0_isReached : am_ctr yX0_isReached cX0_isReached 7 (some .boolean) 5 113 sh_CX [some 0, some 13, none, none, none] T_X0_isReached := am_mk (by decide) (Or.inr (Or.inr ⟨rfl, rfl⟩)) (by decide) (by decide) (by decide) fl_X0_ok kc_X0_ok ck_X0_isReached B_X0_isReached
