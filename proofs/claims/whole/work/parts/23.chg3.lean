/-! Changes: kinds and figures, waves, sets of cars -/
theorem upd_upd (f : Nat → Int32) (k : Nat) (x y : Int32) : upd (upd f k x) k y = upd f k y := by
  funext j
  unfold upd
  split <;> rfl
def ffU (p : Nat → Bool) : Nat → Nat → Option Nat
  | _, 0 => none
  | m, k + 1 => if p m then some m else ffU p (m + 1) k
def ffS (p : Nat → Nat → Bool) (lo cnt : Nat) : Nat → Nat → Option Nat
  | _, 0 => none
  | s, k + 1 => match ffU (p s) lo cnt with
    | some b => some b
    | none => ffS p lo cnt (s + 1) k
def pc (a : Nat) : Nat := ((List.range 9).filter a.testBit).length
def bcE (x0 : Int32) : Int32 :=
  let x1 := x0 - ((x0.toUInt32 >>> ((nI 1).toUInt32 &&& Int32.toUInt32 31)).toInt32 &&& 1431655765)
  let x2 := (x1 &&& 858993459) + ((x1.toUInt32 >>> ((nI 2).toUInt32 &&& Int32.toUInt32 31)).toInt32 &&& 858993459)
  let x3 := (x2 + (x2.toUInt32 >>> ((nI 4).toUInt32 &&& Int32.toUInt32 31)).toInt32) &&& 252645135
  let x4 := x3 + (x3.toUInt32 >>> ((nI 8).toUInt32 &&& Int32.toUInt32 31)).toInt32
  let x5 := x4 + (x4.toUInt32 >>> ((nI 16).toUInt32 &&& Int32.toUInt32 31)).toInt32
  x5 &&& nI 63
theorem bc_tab : ∀ a, a < 512 → bcE (nI a) = nI (pc a) := by decide +kernel
def cs_J6_bitCount_0f7a4 : Nat → List am_V → am_D → am_K → Prop := am_cs []
theorem ck_J6_bitCount_0f7a4 : ∀ X : am_X, am_cx X RJ6 cJ6_bitCount_0f7a4 1 0 0 → ∀ pc, am_csok X 1 sh_None pc (cs_J6_bitCount_0f7a4 pc) := fun X hX => am_cs_ok (fun _ h => absurd h List.not_mem_nil)
abbrev ok_J6_bitCount_0f7a4 (X : am_X) (K : List Int32 → am_D → Prop) : Prop := am_ok X RJ6 cJ6_bitCount_0f7a4 1 sh_None fl_J6 kc_J6 none 1 cs_J6_bitCount_0f7a4 K
abbrev aw_J6_bitCount_0f7a4 (X : am_X) (pc : Nat) (ls : am_L) (st : List am_V) (D : am_D) : Prop := am_aw X 1 sh_None pc ls st D
abbrev T_J6_bitCount_0f7a4 : am_TT := am_pure (fun is _ r => ∃ a, a < 512 ∧ is = [nI a] ∧ r = nI (pc a))
theorem B_J6_bitCount_0f7a4 : ∀ (X : am_X) (is : List Int32) (D : am_D) (K : List Int32 → am_D → Prop), ok_J6_bitCount_0f7a4 X K → T_J6_bitCount_0f7a4 is D K → is.length = (List.filter Option.isNone ([none] : List (Option Nat))).length → D.length = sh_None.length → am_aw X 1 sh_None 0 (am_l0 1 [none] is) [] D := by
  intro X is D K O hT _ _
  obtain ⟨r, ⟨a, ha, rfl, rfl⟩, hK⟩ := hT
  rw [← bc_tab a ha] at hK
  generalize nI a = x at hK ⊢
  refine am_begin rfl ?_
  refine st_iloadn O dJ6_bitCount_0f7a4_0 rfl (q := 1) rfl ?_
  refine st_iloadn O dJ6_bitCount_0f7a4_1 rfl (q := 2) rfl ?_
  refine st_iconst O dJ6_bitCount_0f7a4_2 am_iconst_1 (q := 3) rfl ?_
  refine st_iushr O dJ6_bitCount_0f7a4_3 rfl (q := 4) rfl ?_
  refine st_ldcw O dJ6_bitCount_0f7a4_4 kc_J6_265 (q := 7) rfl ?_
  refine st_iand O dJ6_bitCount_0f7a4_7 rfl (q := 8) rfl ?_
  refine st_isub O dJ6_bitCount_0f7a4_8 rfl (q := 9) rfl ?_
  refine st_istoren O dJ6_bitCount_0f7a4_9 rfl (q := 10) rfl ?_
  refine st_iloadn O dJ6_bitCount_0f7a4_10 rfl (q := 11) rfl ?_
  refine st_ldcw O dJ6_bitCount_0f7a4_11 kc_J6_266 (q := 14) rfl ?_
  refine st_iand O dJ6_bitCount_0f7a4_14 rfl (q := 15) rfl ?_
  refine st_iloadn O dJ6_bitCount_0f7a4_15 rfl (q := 16) rfl ?_
  refine st_iconst O dJ6_bitCount_0f7a4_16 am_iconst_2 (q := 17) rfl ?_
  refine st_iushr O dJ6_bitCount_0f7a4_17 rfl (q := 18) rfl ?_
  refine st_ldcw O dJ6_bitCount_0f7a4_18 kc_J6_266 (q := 21) rfl ?_
  refine st_iand O dJ6_bitCount_0f7a4_21 rfl (q := 22) rfl ?_
  refine st_iadd O dJ6_bitCount_0f7a4_22 rfl (q := 23) rfl ?_
  refine st_istoren O dJ6_bitCount_0f7a4_23 rfl (q := 24) rfl ?_
  refine st_iloadn O dJ6_bitCount_0f7a4_24 rfl (q := 25) rfl ?_
  refine st_iloadn O dJ6_bitCount_0f7a4_25 rfl (q := 26) rfl ?_
  refine st_iconst O dJ6_bitCount_0f7a4_26 am_iconst_4 (q := 27) rfl ?_
  refine st_iushr O dJ6_bitCount_0f7a4_27 rfl (q := 28) rfl ?_
  refine st_iadd O dJ6_bitCount_0f7a4_28 rfl (q := 29) rfl ?_
  refine st_ldcw O dJ6_bitCount_0f7a4_29 kc_J6_267 (q := 32) rfl ?_
  refine st_iand O dJ6_bitCount_0f7a4_32 rfl (q := 33) rfl ?_
  refine st_istoren O dJ6_bitCount_0f7a4_33 rfl (q := 34) rfl ?_
  refine st_iloadn O dJ6_bitCount_0f7a4_34 rfl (q := 35) rfl ?_
  refine st_iloadn O dJ6_bitCount_0f7a4_35 rfl (q := 36) rfl ?_
  refine st_bipush O dJ6_bitCount_0f7a4_36 am_bipush_8 (q := 38) rfl ?_
  refine st_iushr O dJ6_bitCount_0f7a4_38 rfl (q := 39) rfl ?_
  refine st_iadd O dJ6_bitCount_0f7a4_39 rfl (q := 40) rfl ?_
  refine st_istoren O dJ6_bitCount_0f7a4_40 rfl (q := 41) rfl ?_
  refine st_iloadn O dJ6_bitCount_0f7a4_41 rfl (q := 42) rfl ?_
  refine st_iloadn O dJ6_bitCount_0f7a4_42 rfl (q := 43) rfl ?_
  refine st_bipush O dJ6_bitCount_0f7a4_43 am_bipush_16 (q := 45) rfl ?_
  refine st_iushr O dJ6_bitCount_0f7a4_45 rfl (q := 46) rfl ?_
  refine st_iadd O dJ6_bitCount_0f7a4_46 rfl (q := 47) rfl ?_
  refine st_istoren O dJ6_bitCount_0f7a4_47 rfl (q := 48) rfl ?_
  refine st_iloadn O dJ6_bitCount_0f7a4_48 rfl (q := 49) rfl ?_
  refine st_bipush O dJ6_bitCount_0f7a4_49 am_bipush_63 (q := 51) rfl ?_
  refine st_iand O dJ6_bitCount_0f7a4_51 rfl (q := 52) rfl ?_
  refine st_ireturn O dJ6_bitCount_0f7a4_52 ?_
  exact hK
theorem C_J6_bitCount_0f7a4 : am_ctr yJ6_bitCount_0f7a4 cJ6_bitCount_0f7a4 1 (some .int) 0 0 sh_None [none] T_J6_bitCount_0f7a4 := am_mk (by decide) (Or.inr (Or.inl ⟨rfl, rfl⟩)) (by decide) (by decide) (by decide) fl_J6_ok kc_J6_ok ck_J6_bitCount_0f7a4 B_J6_bitCount_0f7a4
def cs_X0_cheapestKindOne : Nat → List am_V → am_D → am_K → Prop := am_cs [(5, am_site 2 [some 0, some 7] T_X0_costOf [0, 7, 8, 9, 10, 11, 12, 13, 14, 15, 16, 17, 18] [0, 7, 8, 9, 10, 11, 12, 13, 14, 15, 16, 17, 18, 1]), (26, am_site 2 [some 0, some 6] T_X4_copyFrom [1, 2, 3, 4, 5, 6, 13, 14, 15, 16, 17, 18] [1, 2, 3, 4, 5, 6, 13, 14, 15, 16, 17, 18]), (67, am_site 2 [some 0, some 7] T_X0_costOf [0, 7, 8, 9, 10, 11, 12, 1, 2, 3, 4, 5, 6] [0, 7, 8, 9, 10, 11, 12, 1, 2, 3, 4, 5, 6, 1])]
theorem cs_X0_cheapestKindOne_5 : cs_X0_cheapestKindOne 5 = am_site 2 [some 0, some 7] T_X0_costOf [0, 7, 8, 9, 10, 11, 12, 13, 14, 15, 16, 17, 18] [0, 7, 8, 9, 10, 11, 12, 13, 14, 15, 16, 17, 18, 1] := rfl
theorem cs_X0_cheapestKindOne_26 : cs_X0_cheapestKindOne 26 = am_site 2 [some 0, some 6] T_X4_copyFrom [1, 2, 3, 4, 5, 6, 13, 14, 15, 16, 17, 18] [1, 2, 3, 4, 5, 6, 13, 14, 15, 16, 17, 18] := rfl
theorem cs_X0_cheapestKindOne_67 : cs_X0_cheapestKindOne 67 = am_site 2 [some 0, some 7] T_X0_costOf [0, 7, 8, 9, 10, 11, 12, 1, 2, 3, 4, 5, 6] [0, 7, 8, 9, 10, 11, 12, 1, 2, 3, 4, 5, 6, 1] := rfl
theorem ck_X0_cheapestKindOne : ∀ X : am_X, am_cx X RX0 cX0_cheapestKindOne 7 5 112 → ∀ pc, am_csok X 7 sh_CX pc (cs_X0_cheapestKindOne pc) := fun X hX => am_cs_ok (List.forall_mem_cons.mpr ⟨am_callV hX C_X0_costOf mo_X0_costOf rfl lk_X0_41 dX0_cheapestKindOne_5 rfl rfl rfl (by decide), List.forall_mem_cons.mpr ⟨am_callV hX C_X4_copyFrom mo_X4_copyFrom rfl lk_X0_33 dX0_cheapestKindOne_26 rfl rfl rfl (by decide), List.forall_mem_cons.mpr ⟨am_callV hX C_X0_costOf mo_X0_costOf rfl lk_X0_41 dX0_cheapestKindOne_67 rfl rfl rfl (by decide), fun _ h => absurd h List.not_mem_nil⟩⟩⟩)
abbrev ok_X0_cheapestKindOne (X : am_X) (K : List Int32 → am_D → Prop) : Prop := am_ok X RX0 cX0_cheapestKindOne 7 sh_CX fl_X0 kc_X0 none 1 cs_X0_cheapestKindOne K
abbrev aw_X0_cheapestKindOne (X : am_X) (pc : Nat) (ls : am_L) (st : List am_V) (D : am_D) : Prop := am_aw X 7 sh_CX pc ls st D
def cKf (b w : Nat) (kd fg la hu : Nat → Nat) (li : List Nat) (j : Nat) : Nat := cst hu (simA b w (va_up kd (j / 10) 1) (va_up fg (j / 10) (j % 10)) la li 0)
abbrev T_X0_cheapestKindOne : am_TT := fun is D K => ∃ n b w kd fg la hu li dt dp dr, is = [] ∧ D = .inl [] :: (dt ++ (dp ++ dr)) ∧ rF dt ∧ pF dp ∧ rA n b w kd fg la hu li dr ∧ ∀ dt' dp', rF dt' → pF dp' → K [oI (lsF (cKf b w kd fg la hu li) (cst hu (simA b w kd fg la li 0)) (10 * n)).1] (.inl [] :: (dt' ++ (dp' ++ dr)))
theorem B_X0_cheapestKindOne : ∀ (X : am_X) (is : List Int32) (D : am_D) (K : List Int32 → am_D → Prop), ok_X0_cheapestKindOne X K → T_X0_cheapestKindOne is D K → is.length = (List.filter Option.isNone ([some 0, some 13] : List (Option Nat))).length → D.length = sh_CX.length → am_aw X 7 sh_CX 0 (am_l0 7 [some 0, some 13] is) [] D := by
  intro X is D K O hT _ _
  obtain ⟨n, b, w, kd, fg, la, hu, li, dt, dp, dr, rfl, rfl, hG, hF, hR, hK⟩ := hT
  obtain ⟨kk, ff, ll, hh, ii, rfl, hn, hb, hw, hj, hp, hi⟩ := id hR
  obtain ⟨f, hf⟩ : ∃ f : Nat → Nat, f = cKf b w kd fg la hu li := ⟨_, rfl⟩
  obtain ⟨c0, hc0⟩ : ∃ c0 : Nat, c0 = cst hu (simA b w kd fg la li 0) := ⟨_, rfl⟩
  have hh2 : ∀ c, c < n → hu c ≤ 20 := fun c hc => (hj c hc).2.2.2.2
  have hcb : c0 ≤ 30000 := by rw [hc0]; exact (simA_bd hn hw hh2 hp 0).2
  have hfb : ∀ j, f j ≤ 30000 := fun j => by
    rw [hf]
    exact (simA_bd hn hw hh2 hp 0).2
  rw [← hf, ← hc0] at hK
  have outer : ∀ d m x5 x6 (dt dp : am_D), n - m = d → m ≤ n → rF dt → pF dp → am_aw X 7 sh_CX 12 [some (.inr 0), some (.inr 13), some (.inl (oI (lsF f c0 (10 * m)).1)), some (.inl (nI (lsF f c0 (10 * m)).2)), some (.inl (nI m)), x5, x6] [] (.inl [] :: (dt ++ (dp ++ [.inl [nI n, nI b, nI w], .inr kk, .inr ff, .inr ll, .inr hh, .inr ii]))) := by
    intro d
    induction d with
    | zero =>
      intro m x5 x6 dt dp hd hm hG hF
      have e : m = n := by omega
      subst e
      have hK := hK dt dp hG hF
      obtain ⟨j0, j1, j2, j3, j4, j5, j6, j7, j8, o, wt, tn, r0, l1, rfl⟩ := hF
      obtain ⟨a0, b0, q0, k0, f0, l0, h0, i0, rfl⟩ := hG
      refine st_iload O dX0_cheapestKindOne_12 rfl (q := 14) rfl ?_
      refine st_aloadn O dX0_cheapestKindOne_14 rfl (q := 15) rfl ?_
      refine st_geti O dX0_cheapestKindOne_15 fl_X0_44 rfl rfl rfl rfl (q := 18) rfl ?_
      refine sn_icmp_ge O dX0_cheapestKindOne_18 (t := 102) rfl (q := 21) rfl (by omega) (by omega) (fun c18 => ?_) (fun c18 => ?_)
      · refine st_iloadn O dX0_cheapestKindOne_102 rfl (q := 103) rfl ?_
        refine st_ireturn O dX0_cheapestKindOne_103 ?_
        exact hK
      omega
    | succ d ih =>
      intro m x5 x6 dt dp hd hm hG hF
      have ih := fun x5 x6 dt dp => ih (m + 1) x5 x6 dt dp (by omega) (by omega)
      have inner : ∀ e v x6 (k1 f0 l0 h0 i0 : Nat → Int32) (dp : am_D), 10 - v = e → v ≤ 10 → (∀ v, v < 10 → rA n b w (va_up kd m 1) (va_up fg m v) la hu li [.inl [nI n, nI b, nI w], .inr k1, .inr (upd f0 m (nI v)), .inr l0, .inr h0, .inr i0]) → pF dp → am_aw X 7 sh_CX 43 [some (.inr 0), some (.inr 13), some (.inl (oI (lsF f c0 (10 * m + v)).1)), some (.inl (nI (lsF f c0 (10 * m + v)).2)), some (.inl (nI m)), some (.inl (nI v)), x6] [] (.inl [] :: ([.inl [nI n, nI b, nI w], .inr k1, .inr f0, .inr l0, .inr h0, .inr i0] ++ (dp ++ [.inl [nI n, nI b, nI w], .inr kk, .inr ff, .inr ll, .inr hh, .inr ii]))) := by
        intro e
        induction e with
        | zero =>
          intro v x6 k1 f0 l0 h0 i0 dp he hv hA hF
          have e : v = 10 := by omega
          subst e
          have ih := ih (some (.inl (nI 10))) x6 [.inl [nI n, nI b, nI w], .inr k1, .inr f0, .inr l0, .inr h0, .inr i0] dp ⟨_, _, _, _, _, _, _, _, rfl⟩ hF
          rw [show 10 * (m + 1) = 10 * m + 10 by omega] at ih
          obtain ⟨j0, j1, j2, j3, j4, j5, j6, j7, j8, o, wt, tn, r0, l1, rfl⟩ := hF
          refine st_iload O dX0_cheapestKindOne_43 rfl (q := 45) rfl ?_
          refine st_bipush O dX0_cheapestKindOne_45 am_bipush_9 (q := 47) rfl ?_
          refine sn_icmp_gt O dX0_cheapestKindOne_47 (t := 96) rfl (q := 50) rfl (by omega) (by omega) (fun c47 => ?_) (fun c47 => ?_)
          · refine st_iinc O dX0_cheapestKindOne_96 rfl (by first | exact am_ii1 _ | exact rfl) rfl (q := 99) rfl ?_
            refine st_goto O dX0_cheapestKindOne_99 (t := 12) rfl ?_
            exact ih
          omega
        | succ e ih2 =>
          intro v x6 k1 f0 l0 h0 i0 dp he hv hA hF
          have hF' := hF
          have hb1 := hfb (10 * m + v)
          have hb2 := lsF_le (f := f) hcb (10 * m + v) (fun j _ => hfb j)
          have ih2 := fun x6 dp hF => ih2 (v + 1) x6 k1 (upd f0 m (nI v)) l0 h0 i0 dp (by omega) (by omega) (fun v' hv' => by rw [upd_upd]; exact hA v' hv') hF
          rw [show 10 * m + (v + 1) = 10 * m + v + 1 by omega, lsF] at ih2
          obtain ⟨j0, j1, j2, j3, j4, j5, j6, j7, j8, o, wt, tn, r0, l1, rfl⟩ := hF
          refine st_iload O dX0_cheapestKindOne_43 rfl (q := 45) rfl ?_
          refine st_bipush O dX0_cheapestKindOne_45 am_bipush_9 (q := 47) rfl ?_
          refine sn_icmp_gt O dX0_cheapestKindOne_47 (t := 96) rfl (q := 50) rfl (by omega) (by omega) (fun c47 => ?_) (fun c47 => ?_)
          · omega
          refine st_aloadn O dX0_cheapestKindOne_50 rfl (q := 51) rfl ?_
          refine st_getr O dX0_cheapestKindOne_51 fl_X0_12 rfl rfl rfl (q := 54) rfl ?_
          refine st_getr O dX0_cheapestKindOne_54 fl_X0_60 rfl rfl rfl (q := 57) rfl ?_
          refine st_iload O dX0_cheapestKindOne_57 rfl (q := 59) rfl ?_
          refine st_iload O dX0_cheapestKindOne_59 rfl (q := 61) rfl ?_
          refine sn_ast O dX0_cheapestKindOne_61 rfl rfl rfl ⟨by omega, by decide⟩ rfl rfl (q := 62) rfl ?_
          refine st_aloadn O dX0_cheapestKindOne_62 rfl (q := 63) rfl ?_
          refine st_aloadn O dX0_cheapestKindOne_63 rfl (q := 64) rfl ?_
          refine st_getr O dX0_cheapestKindOne_64 fl_X0_12 rfl rfl rfl (q := 67) rfl ?_
          refine st_call O dX0_cheapestKindOne_67 cs_X0_cheapestKindOne_67 (q := 70) rfl (am_si rfl rfl rfl (Nat.le_of_ble_eq_true rfl) rfl ?_)
          refine ⟨n, b, w, _, _, la, hu, li, _, _, rfl, (by exact rfl), hF', hA v (by omega), fun dp' hF2 => ?_⟩
          rw [show cst hu (simA b w (va_up kd m 1) (va_up fg m v) la li 0) = f (10 * m + v) by rw [hf]; unfold cKf; rw [show (10 * m + v) / 10 = m by omega, show (10 * m + v) % 10 = v by omega]]
          have ih2 := fun x6 => ih2 x6 dp' hF2
          obtain ⟨j0, j1, j2, j3, j4, j5, j6, j7, j8, o, wt, tn, r0, l1, rfl⟩ := hF2
          refine am_norm rfl rfl ?_
          refine st_istore O dX0_cheapestKindOne_70 rfl (q := 72) rfl ?_
          refine st_iload O dX0_cheapestKindOne_72 rfl (q := 74) rfl ?_
          refine st_iloadn O dX0_cheapestKindOne_74 rfl (q := 75) rfl ?_
          refine sn_icmp_ge O dX0_cheapestKindOne_75 (t := 90) rfl (q := 78) rfl (by omega) (by omega) (fun c75 => ?_) (fun c75 => ?_)
          · refine st_iinc O dX0_cheapestKindOne_90 rfl (by first | exact am_ii1 _ | exact rfl) rfl (q := 93) rfl ?_
            refine st_goto O dX0_cheapestKindOne_93 (t := 43) rfl ?_
            first | (rw [if_pos (by omega)] at ih2; exact ih2 _) | (rw [if_neg (by omega)] at ih2; exact ih2 _)
          refine st_bipush O dX0_cheapestKindOne_78 am_bipush_10 (q := 80) rfl ?_
          refine st_iload O dX0_cheapestKindOne_80 rfl (q := 82) rfl ?_
          refine st_imul O dX0_cheapestKindOne_82 (by first | exact pk_mul _ _ | exact rfl) (q := 83) rfl ?_
          refine st_iload O dX0_cheapestKindOne_83 rfl (q := 85) rfl ?_
          refine st_iadd O dX0_cheapestKindOne_85 (by first | exact nI_add _ _ | exact rfl) (q := 86) rfl ?_
          refine st_istoren O dX0_cheapestKindOne_86 rfl (q := 87) rfl ?_
          refine st_iload O dX0_cheapestKindOne_87 rfl (q := 89) rfl ?_
          refine st_istoren O dX0_cheapestKindOne_89 rfl (q := 90) rfl ?_
          refine st_iinc O dX0_cheapestKindOne_90 rfl (by first | exact am_ii1 _ | exact rfl) rfl (q := 93) rfl ?_
          refine st_goto O dX0_cheapestKindOne_93 (t := 43) rfl ?_
          first | (rw [if_pos (by omega)] at ih2; exact ih2 _) | (rw [if_neg (by omega)] at ih2; exact ih2 _)
      have hF' := hF
      have hG' := hG
      obtain ⟨j0, j1, j2, j3, j4, j5, j6, j7, j8, o, wt, tn, r0, l1, rfl⟩ := hF
      obtain ⟨a0, b0, q0, k0, f0, l0, h0, i0, rfl⟩ := hG
      refine st_iload O dX0_cheapestKindOne_12 rfl (q := 14) rfl ?_
      refine st_aloadn O dX0_cheapestKindOne_14 rfl (q := 15) rfl ?_
      refine st_geti O dX0_cheapestKindOne_15 fl_X0_44 rfl rfl rfl rfl (q := 18) rfl ?_
      refine sn_icmp_ge O dX0_cheapestKindOne_18 (t := 102) rfl (q := 21) rfl (by omega) (by omega) (fun c18 => ?_) (fun c18 => ?_)
      · omega
      refine st_aloadn O dX0_cheapestKindOne_21 rfl (q := 22) rfl ?_
      refine st_getr O dX0_cheapestKindOne_22 fl_X0_12 rfl rfl rfl (q := 25) rfl ?_
      refine st_aloadn O dX0_cheapestKindOne_25 rfl (q := 26) rfl ?_
      refine st_call O dX0_cheapestKindOne_26 cs_X0_cheapestKindOne_26 (q := 29) rfl (am_si rfl rfl rfl (Nat.le_of_ble_eq_true rfl) rfl ?_)
      refine ⟨n, b, w, kd, fg, la, hu, li, _, _, rfl, (by exact rfl), hG', hR, fun d hd => ?_⟩
      obtain ⟨k0, f0, l0, h0, i0, rfl, -, -, -, hj0, -, hi0⟩ := hd
      have inner := inner 10 0 x6 (upd k0 m (nI 1)) f0 l0 h0 i0 _ rfl (by omega) (fun v hv => ⟨_, _, _, _, _, rfl, hn, hb, hw, fun j hjn => by
        by_cases e : j = m
        · subst e; simp only [pk_us, va_up, if_true]; exact ⟨⟨trivial, by decide⟩, ⟨trivial, hv⟩, (hj0 j hjn).2.2⟩
        · simp only [pk_un e, va_up, if_neg e]; exact hj0 j hjn, hp, hi0⟩) hF'
      refine am_norm rfl rfl ?_
      refine st_aloadn O dX0_cheapestKindOne_29 rfl (q := 30) rfl ?_
      refine st_getr O dX0_cheapestKindOne_30 fl_X0_12 rfl rfl rfl (q := 33) rfl ?_
      refine st_getr O dX0_cheapestKindOne_33 fl_X0_54 rfl rfl rfl (q := 36) rfl ?_
      refine st_iload O dX0_cheapestKindOne_36 rfl (q := 38) rfl ?_
      refine st_iconst O dX0_cheapestKindOne_38 am_iconst_1 (q := 39) rfl ?_
      refine sn_ast O dX0_cheapestKindOne_39 rfl rfl rfl ⟨by omega, by decide⟩ rfl rfl (q := 40) rfl ?_
      refine st_iconst O dX0_cheapestKindOne_40 am_iconst_0 (q := 41) rfl ?_
      refine st_istore O dX0_cheapestKindOne_41 rfl (q := 43) rfl ?_
      exact inner
  have hF' := hF
  have hG' := hG
  obtain ⟨j0, j1, j2, j3, j4, j5, j6, j7, j8, o, wt, tn, r0, l1, rfl⟩ := hF
  obtain ⟨a0, b0, q0, k0, f0, l0, h0, i0, rfl⟩ := hG
  refine am_begin rfl ?_
  refine st_bipush O dX0_cheapestKindOne_0 am_bipush_m9 (q := 2) rfl ?_
  refine st_istoren O dX0_cheapestKindOne_2 rfl (q := 3) rfl ?_
  refine st_aloadn O dX0_cheapestKindOne_3 rfl (q := 4) rfl ?_
  refine st_aloadn O dX0_cheapestKindOne_4 rfl (q := 5) rfl ?_
  refine st_call O dX0_cheapestKindOne_5 cs_X0_cheapestKindOne_5 (q := 8) rfl (am_si rfl rfl rfl (Nat.le_of_ble_eq_true rfl) rfl ?_)
  refine ⟨n, b, w, kd, fg, la, hu, li, _, _, rfl, (by exact rfl), hF', hR, fun dp' hF2 => ?_⟩
  rw [← hc0]
  have outer := outer n 0 none none _ dp' rfl (by omega) hG' hF2
  obtain ⟨j0, j1, j2, j3, j4, j5, j6, j7, j8, o, wt, tn, r0, l1, rfl⟩ := hF2
  refine am_norm rfl rfl ?_
  refine st_istoren O dX0_cheapestKindOne_8 rfl (q := 9) rfl ?_
  refine st_iconst O dX0_cheapestKindOne_9 am_iconst_0 (q := 10) rfl ?_
  refine st_istore O dX0_cheapestKindOne_10 rfl (q := 12) rfl ?_
  exact outer
theorem C_X0_cheapestKindOne : am_ctr yX0_cheapestKindOne cX0_cheapestKindOne 7 (some .int) 5 112 sh_CX [some 0, some 13] T_X0_cheapestKindOne := am_mk (by decide) (Or.inr (Or.inl ⟨rfl, rfl⟩)) (by decide) (by decide) (by decide) fl_X0_ok kc_X0_ok ck_X0_cheapestKindOne B_X0_cheapestKindOne
def cs_X0_leastWave : Nat → List am_V → am_D → am_K → Prop := am_cs [(5, am_site 2 [some 0, some 6] T_X4_copyFrom [1, 2, 3, 4, 5, 6, 13, 14, 15, 16, 17, 18] [1, 2, 3, 4, 5, 6, 13, 14, 15, 16, 17, 18]), (33, am_site 3 [some 0, some 6, none] T_X3_drive [7, 8, 9, 10, 11, 12, 1, 2, 3, 4, 5, 6] [7, 8, 9, 10, 11, 12, 1, 2, 3, 4, 5, 6])]
theorem cs_X0_leastWave_5 : cs_X0_leastWave 5 = am_site 2 [some 0, some 6] T_X4_copyFrom [1, 2, 3, 4, 5, 6, 13, 14, 15, 16, 17, 18] [1, 2, 3, 4, 5, 6, 13, 14, 15, 16, 17, 18] := rfl
theorem cs_X0_leastWave_33 : cs_X0_leastWave 33 = am_site 3 [some 0, some 6, none] T_X3_drive [7, 8, 9, 10, 11, 12, 1, 2, 3, 4, 5, 6] [7, 8, 9, 10, 11, 12, 1, 2, 3, 4, 5, 6] := rfl
theorem ck_X0_leastWave : ∀ X : am_X, am_cx X RX0 cX0_leastWave 4 4 91 → ∀ pc, am_csok X 4 sh_CX pc (cs_X0_leastWave pc) := fun X hX => am_cs_ok (List.forall_mem_cons.mpr ⟨am_callV hX C_X4_copyFrom mo_X4_copyFrom rfl lk_X0_33 dX0_leastWave_5 rfl rfl rfl (by decide), List.forall_mem_cons.mpr ⟨am_callV hX C_X3_drive mo_X3_drive rfl lk_X0_25 dX0_leastWave_33 rfl rfl rfl (by decide), fun _ h => absurd h List.not_mem_nil⟩⟩)
abbrev ok_X0_leastWave (X : am_X) (K : List Int32 → am_D → Prop) : Prop := am_ok X RX0 cX0_leastWave 4 sh_CX fl_X0 kc_X0 none 1 cs_X0_leastWave K
abbrev aw_X0_leastWave (X : am_X) (pc : Nat) (ls : am_L) (st : List am_V) (D : am_D) : Prop := am_aw X 4 sh_CX pc ls st D
abbrev T_X0_leastWave : am_TT := fun is D K => ∃ n b w kd fg la hu li dt dp dr v, is = [nI v] ∧ v < 2 ^ 31 ∧ D = .inl [] :: (dt ++ (dp ++ dr)) ∧ rF dt ∧ pF dp ∧ rA n b w kd fg la hu li dr ∧ ∀ dt' dp', rF dt' → pF dp' → K [oI (ffU (fun x => decide (v ≤ tot (simA b x kd fg la li 0))) 0 10)] (.inl [] :: (dt' ++ (dp' ++ dr)))
theorem B_X0_leastWave : ∀ (X : am_X) (is : List Int32) (D : am_D) (K : List Int32 → am_D → Prop), ok_X0_leastWave X K → T_X0_leastWave is D K → is.length = (List.filter Option.isNone ([some 0, some 13, none] : List (Option Nat))).length → D.length = sh_CX.length → am_aw X 4 sh_CX 0 (am_l0 4 [some 0, some 13, none] is) [] D := by
  intro X is D K O hT _ _
  obtain ⟨n, b, w, kd, fg, la, hu, li, dt, dp, dr, v, rfl, hv, rfl, hG, hF, hR, hK⟩ := hT
  obtain ⟨kk, ff, ll, hh, ii, rfl, hn, hb, hw, hj, hp, hi⟩ := id hR
  have hh2 : ∀ c, c < n → hu c ≤ 20 := fun c hc => (hj c hc).2.2.2.2
  have hbd : ∀ x, x ≤ 9 → tot (simA b x kd fg la li 0) ≤ 117 := fun x hx => (simA_bd hn hx hh2 hp 0).1
  simp only [simA] at hbd hK
  have loop : ∀ d m w0 (k0 f0 l0 h0 i0 : Nat → Int32) (dp : am_D), 10 - m = d → m ≤ 10 → (∀ w', w' ≤ 9 → rA n b w' kd fg la hu li [.inl [nI n, nI b, nI w'], .inr k0, .inr f0, .inr l0, .inr h0, .inr i0]) → pF dp → (∀ dt' dp', rF dt' → pF dp' → K [oI (ffU (fun x => decide (v ≤ tot (sim b x kd fg (qu la li 0 0) (qu la li 1 0)))) m d)] (.inl [] :: (dt' ++ (dp' ++ [.inl [nI n, nI b, nI w], .inr kk, .inr ff, .inr ll, .inr hh, .inr ii])))) → am_aw X 4 sh_CX 10 [some (.inr 0), some (.inr 13), some (.inl (nI v)), some (.inl (nI m))] [] (.inl [] :: ([.inl [nI n, nI b, w0], .inr k0, .inr f0, .inr l0, .inr h0, .inr i0] ++ (dp ++ [.inl [nI n, nI b, nI w], .inr kk, .inr ff, .inr ll, .inr hh, .inr ii]))) := by
    intro d
    induction d with
    | zero =>
      intro m w0 k0 f0 l0 h0 i0 dp hd hm hA hF hK
      have hK := hK [.inl [nI n, nI b, w0], .inr k0, .inr f0, .inr l0, .inr h0, .inr i0] dp ⟨_, _, _, _, _, _, _, _, rfl⟩ hF
      obtain ⟨j0, j1, j2, j3, j4, j5, j6, j7, j8, o, wt, tn, r0, l1, rfl⟩ := hF
      refine st_iloadn O dX0_leastWave_10 rfl (q := 11) rfl ?_
      refine st_bipush O dX0_leastWave_11 am_bipush_9 (q := 13) rfl ?_
      refine sn_icmp_gt O dX0_leastWave_13 (t := 55) rfl (q := 16) rfl (by omega) (by omega) (fun c13 => ?_) (fun c13 => ?_)
      · refine st_bipush O dX0_leastWave_55 am_bipush_m9 (q := 57) rfl ?_
        refine st_ireturn O dX0_leastWave_57 ?_
        exact hK
      omega
    | succ d ih =>
      intro m w0 k0 f0 l0 h0 i0 dp hd hm hA hF hK
      have hF' := hF
      have hb1 := hbd m (by omega)
      rw [ffU] at hK
      obtain ⟨j0, j1, j2, j3, j4, j5, j6, j7, j8, o, wt, tn, r0, l1, rfl⟩ := hF
      refine st_iloadn O dX0_leastWave_10 rfl (q := 11) rfl ?_
      refine st_bipush O dX0_leastWave_11 am_bipush_9 (q := 13) rfl ?_
      refine sn_icmp_gt O dX0_leastWave_13 (t := 55) rfl (q := 16) rfl (by omega) (by omega) (fun c13 => ?_) (fun c13 => ?_)
      · omega
      refine st_aloadn O dX0_leastWave_16 rfl (q := 17) rfl ?_
      refine st_getr O dX0_leastWave_17 fl_X0_12 rfl rfl rfl (q := 20) rfl ?_
      refine st_iloadn O dX0_leastWave_20 rfl (q := 21) rfl ?_
      refine st_puti O dX0_leastWave_21 fl_X0_63 rfl rfl rfl rfl rfl (q := 24) rfl ?_
      refine st_aloadn O dX0_leastWave_24 rfl (q := 25) rfl ?_
      refine st_getr O dX0_leastWave_25 fl_X0_21 rfl rfl rfl (q := 28) rfl ?_
      refine st_aloadn O dX0_leastWave_28 rfl (q := 29) rfl ?_
      refine st_getr O dX0_leastWave_29 fl_X0_12 rfl rfl rfl (q := 32) rfl ?_
      refine st_iconst O dX0_leastWave_32 am_iconst_0 (q := 33) rfl ?_
      refine st_call O dX0_leastWave_33 cs_X0_leastWave_33 (q := 36) rfl (am_si rfl rfl rfl (Nat.le_of_ble_eq_true rfl) rfl ?_)
      refine ⟨n, b, m, kd, fg, la, hu, li, _, _, 0, rfl, by omega, (by exact rfl), hF', hA m (by omega), fun d' hd' => ?_⟩
      have hdf := hd'.form
      obtain ⟨j2, j3, j4, j5, j6, j7, j8, o, wt, tn, rr, l, rfl, hO⟩ := id hd'
      refine am_norm rfl rfl ?_
      refine st_aloadn O dX0_leastWave_36 rfl (q := 37) rfl ?_
      refine st_getr O dX0_leastWave_37 fl_X0_21 rfl rfl rfl (q := 40) rfl ?_
      refine st_geti O dX0_leastWave_40 fl_X0_66 rfl rfl rfl rfl (q := 43) rfl ?_
      refine st_iloadn O dX0_leastWave_43 rfl (q := 44) rfl ?_
      refine sn_icmp_lt O dX0_leastWave_44 (t := 49) rfl (q := 47) rfl (by omega) (by omega) (fun c44 => ?_) (fun c44 => ?_)
      · refine st_iinc O dX0_leastWave_49 rfl (by first | exact am_ii1 _ | exact rfl) rfl (q := 52) rfl ?_
        refine st_goto O dX0_leastWave_52 (t := 10) rfl ?_
        rw [if_neg (by rw [decide_eq_true_eq]; omega)] at hK; exact ih (m + 1) _ k0 f0 l0 h0 i0 _ (by omega) (by omega) hA hdf hK
      refine st_iloadn O dX0_leastWave_47 rfl (q := 48) rfl ?_
      refine st_ireturn O dX0_leastWave_48 ?_
      rw [if_pos (decide_eq_true (by omega))] at hK; exact hK _ _ ⟨_, _, _, _, _, _, _, _, rfl⟩ hdf
  have hF' := hF
  have hG' := hG
  obtain ⟨j0, j1, j2, j3, j4, j5, j6, j7, j8, o, wt, tn, r0, l1, rfl⟩ := hF
  obtain ⟨a0, b0, q0, k0, f0, l0, h0, i0, rfl⟩ := hG
  refine am_begin rfl ?_
  refine st_aloadn O dX0_leastWave_0 rfl (q := 1) rfl ?_
  refine st_getr O dX0_leastWave_1 fl_X0_12 rfl rfl rfl (q := 4) rfl ?_
  refine st_aloadn O dX0_leastWave_4 rfl (q := 5) rfl ?_
  refine st_call O dX0_leastWave_5 cs_X0_leastWave_5 (q := 8) rfl (am_si rfl rfl rfl (Nat.le_of_ble_eq_true rfl) rfl ?_)
  refine ⟨n, b, w, kd, fg, la, hu, li, _, _, rfl, (by exact rfl), hG', hR, fun d hd => ?_⟩
  obtain ⟨k0, f0, l0, h0, i0, rfl, -, -, -, hj0, -, hi0⟩ := hd
  have loop := loop 10 0 (nI w) k0 f0 l0 h0 i0 _ rfl (by omega) (fun w' hw' => ⟨k0, f0, l0, h0, i0, rfl, hn, hb, hw', hj0, hp, hi0⟩) hF' hK
  refine am_norm rfl rfl ?_
  refine st_iconst O dX0_leastWave_8 am_iconst_0 (q := 9) rfl ?_
  refine st_istoren O dX0_leastWave_9 rfl (q := 10) rfl ?_
  exact loop
theorem C_X0_leastWave : am_ctr yX0_leastWave cX0_leastWave 4 (some .int) 4 91 sh_CX [some 0, some 13, none] T_X0_leastWave := am_mk (by decide) (Or.inr (Or.inl ⟨rfl, rfl⟩)) (by decide) (by decide) (by decide) fl_X0_ok kc_X0_ok ck_X0_leastWave B_X0_leastWave
