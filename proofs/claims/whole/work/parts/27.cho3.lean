/-! Choices: two choose a lane -/
theorem sr_tab : ∀ m, m < 4 → nI m >>> (nI 1 &&& 31) = nI (m / 2) := by decide +kernel
theorem an_tab : ∀ m, m < 4 → nI m &&& nI 1 = nI (m % 2) := by decide +kernel
theorem x2_tab : ∀ m, m < 4 → nI m ^^^ nI 2 = nI (m ^^^ 2) ∧ m ^^^ 2 < 4 := by decide +kernel
theorem x1_tab : ∀ m, m < 4 → nI m ^^^ nI 1 = nI (m ^^^ 1) ∧ m ^^^ 1 < 4 := by decide +kernel
def prI (o : Option Nat) : Int32 := match o with
  | some i => nI (10 * (i / 2) + i % 2)
  | none => -9
/-- the turns when a is at the end of lane i / 2 and then c at that of lane i % 2 -/
abbrev sim2 (b w : Nat) (kd fg la : Nat → Nat) (li : List Nat) (a c i : Nat) : List (Nat × Nat × Nat) := simA b w kd fg (va_up (va_up la a (i / 2)) c (i % 2)) ((li.erase a ++ [a]).erase c ++ [c]) 0
def stp (b w : Nat) (kd fg la : Nat → Nat) (li : List Nat) (a c i : Nat) : Bool := decide (wtc (sim2 b w kd fg la li a c i) a ≤ wtc (sim2 b w kd fg la li a c (i ^^^ 2)) a) && decide (wtc (sim2 b w kd fg la li a c i) c ≤ wtc (sim2 b w kd fg la li a c (i ^^^ 1)) c)
def cs_X1_steadyPair : Nat → List am_V → am_D → am_K → Prop := am_cs [(14, am_site 2 [some 0, some 6] T_X4_copyFrom [1, 2, 3, 4, 5, 6, 15, 16, 17, 18, 19, 20] [1, 2, 3, 4, 5, 6, 15, 16, 17, 18, 19, 20]), (26, am_site 3 [some 0, none, none] T_X4_moveToEndOf [1, 2, 3, 4, 5, 6] [1, 2, 3, 4, 5, 6]), (39, am_site 3 [some 0, none, none] T_X4_moveToEndOf [1, 2, 3, 4, 5, 6] [1, 2, 3, 4, 5, 6]), (52, am_site 3 [some 0, some 6, none] T_X3_drive [7, 8, 9, 10, 11, 12, 1, 2, 3, 4, 5, 6] [7, 8, 9, 10, 11, 12, 1, 2, 3, 4, 5, 6])]
theorem cs_X1_steadyPair_14 : cs_X1_steadyPair 14 = am_site 2 [some 0, some 6] T_X4_copyFrom [1, 2, 3, 4, 5, 6, 15, 16, 17, 18, 19, 20] [1, 2, 3, 4, 5, 6, 15, 16, 17, 18, 19, 20] := rfl
theorem cs_X1_steadyPair_26 : cs_X1_steadyPair 26 = am_site 3 [some 0, none, none] T_X4_moveToEndOf [1, 2, 3, 4, 5, 6] [1, 2, 3, 4, 5, 6] := rfl
theorem cs_X1_steadyPair_39 : cs_X1_steadyPair 39 = am_site 3 [some 0, none, none] T_X4_moveToEndOf [1, 2, 3, 4, 5, 6] [1, 2, 3, 4, 5, 6] := rfl
theorem cs_X1_steadyPair_52 : cs_X1_steadyPair 52 = am_site 3 [some 0, some 6, none] T_X3_drive [7, 8, 9, 10, 11, 12, 1, 2, 3, 4, 5, 6] [7, 8, 9, 10, 11, 12, 1, 2, 3, 4, 5, 6] := rfl
theorem ck_X1_steadyPair : ∀ X : am_X, am_cx X RX1 cX1_steadyPair 7 4 91 → ∀ pc, am_csok X 7 sh_HX pc (cs_X1_steadyPair pc) := fun X hX => am_cs_ok (List.forall_mem_cons.mpr ⟨am_callV hX C_X4_copyFrom mo_X4_copyFrom rfl lk_X1_50 dX1_steadyPair_14 rfl rfl rfl (by decide), List.forall_mem_cons.mpr ⟨am_callV hX C_X4_moveToEndOf mo_X4_moveToEndOf rfl lk_X1_54 dX1_steadyPair_26 rfl rfl rfl (by decide), List.forall_mem_cons.mpr ⟨am_callV hX C_X4_moveToEndOf mo_X4_moveToEndOf rfl lk_X1_54 dX1_steadyPair_39 rfl rfl rfl (by decide), List.forall_mem_cons.mpr ⟨am_callV hX C_X3_drive mo_X3_drive rfl lk_X1_36 dX1_steadyPair_52 rfl rfl rfl (by decide), fun _ h => absurd h List.not_mem_nil⟩⟩⟩⟩)
abbrev ok_X1_steadyPair (X : am_X) (K : List Int32 → am_D → Prop) : Prop := am_ok X RX1 cX1_steadyPair 7 sh_HX fl_X1 kc_X1 none 1 cs_X1_steadyPair K
abbrev aw_X1_steadyPair (X : am_X) (pc : Nat) (ls : am_L) (st : List am_V) (D : am_D) : Prop := am_aw X 7 sh_HX pc ls st D
abbrev T_X1_steadyPair : am_TT := fun is D K => ∃ n b w kd fg la hu li dt dp dr sd w1 w2 a c, is = [nI a, nI c] ∧ a < n ∧ c < n ∧ D = .inl [sd] :: (dt ++ (dp ++ (.inr w1 :: .inr w2 :: dr))) ∧ rF dt ∧ pF dp ∧ rA n b w kd fg la hu li dr ∧ ∀ dt' dp' w1' w2', rF dt' → pF dp' → K [prI (ffU (stp b w kd fg la li a c) 0 4)] (.inl [sd] :: (dt' ++ (dp' ++ (.inr w1' :: .inr w2' :: dr))))
set_option maxHeartbeats 4000000 in
theorem B_X1_steadyPair : ∀ (X : am_X) (is : List Int32) (D : am_D) (K : List Int32 → am_D → Prop), ok_X1_steadyPair X K → T_X1_steadyPair is D K → is.length = (List.filter Option.isNone ([some 0, some 15, none, none] : List (Option Nat))).length → D.length = sh_HX.length → am_aw X 7 sh_HX 0 (am_l0 7 [some 0, some 15, none, none] is) [] D := by
  intro X is D K O hT _ _
  obtain ⟨n, b, w, kd, fg, la, hu, li, dt, dp, dr, sd, w1, w2, a, c, rfl, ha, hc, rfl, hG, hF, hR, hK⟩ := hT
  obtain ⟨kk, ff, ll, hh, ii, rfl, hn, hb, hw, hj, hp, hi⟩ := id hR
  have hp1 := er_perm hp ha
  have hp2 := er_perm hp1 hc
  obtain ⟨wF, hwF⟩ : ∃ wF : Nat → Nat, wF = fun i => wtc (sim2 b w kd fg la li a c i) a := ⟨_, rfl⟩
  obtain ⟨wO, hwO⟩ : ∃ wO : Nat → Nat, wO = fun i => wtc (sim2 b w kd fg la li a c i) c := ⟨_, rfl⟩
  have bF : ∀ i, wF i ≤ 117 := fun i => by rw [hwF]; exact wtc_le (simA_117 hn hw hp2 0) a
  have bO : ∀ i, wO i ≤ 117 := fun i => by rw [hwO]; exact wtc_le (simA_117 hn hw hp2 0) c
  have hst : ∀ i, stp b w kd fg la li a c i = (decide (wF i ≤ wF (i ^^^ 2)) && decide (wO i ≤ wO (i ^^^ 1))) := fun i => by rw [hwF, hwO]; rfl
  have second : ∀ d m x5 x6 (w1 w2 : Nat → Int32) (dt dp : am_D), 4 - m = d → m ≤ 4 → rF dt → pF dp → (∀ j, j < 4 → w1 j = nI (wF j) ∧ w2 j = nI (wO j)) → (∀ dt' dp' w1' w2', rF dt' → pF dp' → K [prI (ffU (stp b w kd fg la li a c) m d)] (.inl [sd] :: (dt' ++ (dp' ++ (.inr w1' :: .inr w2' :: [.inl [nI n, nI b, nI w], .inr kk, .inr ff, .inr ll, .inr hh, .inr ii]))))) → am_aw X 7 sh_HX 96 [some (.inr 0), some (.inr 15), some (.inl (nI a)), some (.inl (nI c)), some (.inl (nI m)), x5, x6] [] (.inl [sd] :: (dt ++ (dp ++ (.inr w1 :: .inr w2 :: [.inl [nI n, nI b, nI w], .inr kk, .inr ff, .inr ll, .inr hh, .inr ii])))) := by
    intro d
    induction d with
    | zero =>
      intro m x5 x6 w1 w2 dt dp hd hm hG hF hq hK
      have hK := hK dt dp w1 w2 hG hF
      obtain ⟨j0, j1, j2, j3, j4, j5, j6, j7, j8, o, wt, tn, r0, l1, rfl⟩ := hF
      obtain ⟨a0, b0, q0, k0, f0, l0, h0, i0, rfl⟩ := hG
      refine am_norm rfl rfl ?_
      refine st_iload O dX1_steadyPair_96 rfl (q := 98) rfl ?_
      refine st_iconst O dX1_steadyPair_98 am_iconst_4 (q := 99) rfl ?_
      refine sn_icmp_ge O dX1_steadyPair_99 (t := 183) rfl (q := 102) rfl (by omega) (by omega) (fun c99 => ?_) (fun c99 => ?_)
      · refine st_bipush O dX1_steadyPair_183 am_bipush_m9 (q := 185) rfl ?_
        refine st_ireturn O dX1_steadyPair_185 ?_
        exact hK
      omega
    | succ d ih =>
      intro m x5 x6 w1 w2 dt dp hd hm hG hF hq hK
      have g2 := x2_tab m (by omega)
      have g1 := x1_tab m (by omega)
      have g21 := g2.2
      have g11 := g1.2
      have y0 := hq m (by omega)
      have y1 := hq (m ^^^ 2) g21
      have y2 := hq (m ^^^ 1) g11
      have z0 := bF m
      have z1 := bF (m ^^^ 2)
      have z2 := bO m
      have z3 := bO (m ^^^ 1)
      rw [ffU, hst m] at hK
      have ih := fun x5 x6 => ih (m + 1) x5 x6 w1 w2 dt dp (by omega) (by omega) hG hF hq
      have hG' := hG
      have hF' := hF
      obtain ⟨j0, j1, j2, j3, j4, j5, j6, j7, j8, o, wt, tn, r0, l1, rfl⟩ := hF
      obtain ⟨a0, b0, q0, k0, f0, l0, h0, i0, rfl⟩ := hG
      by_cases p1 : wF m ≤ wF (m ^^^ 2)
      · by_cases p2 : wO m ≤ wO (m ^^^ 1)
        · rw [decide_eq_true p1, decide_eq_true p2, Bool.and_self, if_pos rfl] at hK
          refine am_norm rfl rfl ?_
          refine st_iload O dX1_steadyPair_96 rfl (q := 98) rfl ?_
          refine st_iconst O dX1_steadyPair_98 am_iconst_4 (q := 99) rfl ?_
          refine sn_icmp_ge O dX1_steadyPair_99 (t := 183) rfl (q := 102) rfl (by omega) (by omega) (fun c99 => ?_) (fun c99 => ?_)
          · omega
          refine st_aloadn O dX1_steadyPair_102 rfl (q := 103) rfl ?_
          refine st_getr O dX1_steadyPair_103 fl_X1_25 rfl rfl rfl (q := 106) rfl ?_
          refine st_iload O dX1_steadyPair_106 rfl (q := 108) rfl ?_
          refine sn_ald O dX1_steadyPair_108 rfl rfl rfl ⟨by omega, by decide⟩ y0.1 (q := 109) rfl ?_
          refine st_aloadn O dX1_steadyPair_109 rfl (q := 110) rfl ?_
          refine st_getr O dX1_steadyPair_110 fl_X1_25 rfl rfl rfl (q := 113) rfl ?_
          refine st_iload O dX1_steadyPair_113 rfl (q := 115) rfl ?_
          refine st_iconst O dX1_steadyPair_115 am_iconst_2 (q := 116) rfl ?_
          refine st_ixor O dX1_steadyPair_116 g2.1 (q := 117) rfl ?_
          refine sn_ald O dX1_steadyPair_117 rfl rfl rfl ⟨by omega, by decide⟩ y1.1 (q := 118) rfl ?_
          refine sn_icmp_gt O dX1_steadyPair_118 (t := 125) rfl (q := 121) rfl (by omega) (by omega) (fun c118 => ?_) (fun c118 => ?_)
          · omega
          refine st_iconst O dX1_steadyPair_121 am_iconst_1 (q := 122) rfl ?_
          refine st_goto O dX1_steadyPair_122 (t := 126) rfl ?_
          refine st_istore O dX1_steadyPair_126 rfl (q := 128) rfl ?_
          refine st_aloadn O dX1_steadyPair_128 rfl (q := 129) rfl ?_
          refine st_getr O dX1_steadyPair_129 fl_X1_29 rfl rfl rfl (q := 132) rfl ?_
          refine st_iload O dX1_steadyPair_132 rfl (q := 134) rfl ?_
          refine sn_ald O dX1_steadyPair_134 rfl rfl rfl ⟨by omega, by decide⟩ y0.2 (q := 135) rfl ?_
          refine st_aloadn O dX1_steadyPair_135 rfl (q := 136) rfl ?_
          refine st_getr O dX1_steadyPair_136 fl_X1_29 rfl rfl rfl (q := 139) rfl ?_
          refine st_iload O dX1_steadyPair_139 rfl (q := 141) rfl ?_
          refine st_iconst O dX1_steadyPair_141 am_iconst_1 (q := 142) rfl ?_
          refine st_ixor O dX1_steadyPair_142 g1.1 (q := 143) rfl ?_
          refine sn_ald O dX1_steadyPair_143 rfl rfl rfl ⟨by omega, by decide⟩ y2.2 (q := 144) rfl ?_
          refine sn_icmp_gt O dX1_steadyPair_144 (t := 151) rfl (q := 147) rfl (by omega) (by omega) (fun c144 => ?_) (fun c144 => ?_)
          · omega
          refine st_iconst O dX1_steadyPair_147 am_iconst_1 (q := 148) rfl ?_
          refine st_goto O dX1_steadyPair_148 (t := 152) rfl ?_
          refine st_istore O dX1_steadyPair_152 rfl (q := 154) rfl ?_
          refine st_iload O dX1_steadyPair_154 rfl (q := 156) rfl ?_
          refine st_if_eq O dX1_steadyPair_156 (t := 177) rfl (q := 159) rfl (fun c156 => ?_) (fun c156 => ?_)
          · exact absurd c156 (by decide)
          refine st_iload O dX1_steadyPair_159 rfl (q := 161) rfl ?_
          refine st_if_eq O dX1_steadyPair_161 (t := 177) rfl (q := 164) rfl (fun c161 => ?_) (fun c161 => ?_)
          · exact absurd c161 (by decide)
          refine st_bipush O dX1_steadyPair_164 am_bipush_10 (q := 166) rfl ?_
          refine st_iload O dX1_steadyPair_166 rfl (q := 168) rfl ?_
          refine st_iconst O dX1_steadyPair_168 am_iconst_1 (q := 169) rfl ?_
          refine st_ishr O dX1_steadyPair_169 (sr_tab m (by omega)) (q := 170) rfl ?_
          refine st_imul O dX1_steadyPair_170 (by first | exact pk_mul _ _ | exact rfl) (q := 171) rfl ?_
          refine st_iload O dX1_steadyPair_171 rfl (q := 173) rfl ?_
          refine st_iconst O dX1_steadyPair_173 am_iconst_1 (q := 174) rfl ?_
          refine st_iand O dX1_steadyPair_174 (an_tab m (by omega)) (q := 175) rfl ?_
          refine st_iadd O dX1_steadyPair_175 (by first | exact nI_add _ _ | exact rfl) (q := 176) rfl ?_
          refine st_ireturn O dX1_steadyPair_176 ?_
          exact hK _ _ _ _ hG' hF'
        · rw [decide_eq_false p2, Bool.and_false, if_neg (by decide)] at hK
          have ih := fun x5 x6 => ih x5 x6 hK
          refine am_norm rfl rfl ?_
          refine st_iload O dX1_steadyPair_96 rfl (q := 98) rfl ?_
          refine st_iconst O dX1_steadyPair_98 am_iconst_4 (q := 99) rfl ?_
          refine sn_icmp_ge O dX1_steadyPair_99 (t := 183) rfl (q := 102) rfl (by omega) (by omega) (fun c99 => ?_) (fun c99 => ?_)
          · omega
          refine st_aloadn O dX1_steadyPair_102 rfl (q := 103) rfl ?_
          refine st_getr O dX1_steadyPair_103 fl_X1_25 rfl rfl rfl (q := 106) rfl ?_
          refine st_iload O dX1_steadyPair_106 rfl (q := 108) rfl ?_
          refine sn_ald O dX1_steadyPair_108 rfl rfl rfl ⟨by omega, by decide⟩ y0.1 (q := 109) rfl ?_
          refine st_aloadn O dX1_steadyPair_109 rfl (q := 110) rfl ?_
          refine st_getr O dX1_steadyPair_110 fl_X1_25 rfl rfl rfl (q := 113) rfl ?_
          refine st_iload O dX1_steadyPair_113 rfl (q := 115) rfl ?_
          refine st_iconst O dX1_steadyPair_115 am_iconst_2 (q := 116) rfl ?_
          refine st_ixor O dX1_steadyPair_116 g2.1 (q := 117) rfl ?_
          refine sn_ald O dX1_steadyPair_117 rfl rfl rfl ⟨by omega, by decide⟩ y1.1 (q := 118) rfl ?_
          refine sn_icmp_gt O dX1_steadyPair_118 (t := 125) rfl (q := 121) rfl (by omega) (by omega) (fun c118 => ?_) (fun c118 => ?_)
          · omega
          refine st_iconst O dX1_steadyPair_121 am_iconst_1 (q := 122) rfl ?_
          refine st_goto O dX1_steadyPair_122 (t := 126) rfl ?_
          refine st_istore O dX1_steadyPair_126 rfl (q := 128) rfl ?_
          refine st_aloadn O dX1_steadyPair_128 rfl (q := 129) rfl ?_
          refine st_getr O dX1_steadyPair_129 fl_X1_29 rfl rfl rfl (q := 132) rfl ?_
          refine st_iload O dX1_steadyPair_132 rfl (q := 134) rfl ?_
          refine sn_ald O dX1_steadyPair_134 rfl rfl rfl ⟨by omega, by decide⟩ y0.2 (q := 135) rfl ?_
          refine st_aloadn O dX1_steadyPair_135 rfl (q := 136) rfl ?_
          refine st_getr O dX1_steadyPair_136 fl_X1_29 rfl rfl rfl (q := 139) rfl ?_
          refine st_iload O dX1_steadyPair_139 rfl (q := 141) rfl ?_
          refine st_iconst O dX1_steadyPair_141 am_iconst_1 (q := 142) rfl ?_
          refine st_ixor O dX1_steadyPair_142 g1.1 (q := 143) rfl ?_
          refine sn_ald O dX1_steadyPair_143 rfl rfl rfl ⟨by omega, by decide⟩ y2.2 (q := 144) rfl ?_
          refine sn_icmp_gt O dX1_steadyPair_144 (t := 151) rfl (q := 147) rfl (by omega) (by omega) (fun c144 => ?_) (fun c144 => ?_)
          · refine st_iconst O dX1_steadyPair_151 am_iconst_0 (q := 152) rfl ?_
            refine st_istore O dX1_steadyPair_152 rfl (q := 154) rfl ?_
            refine st_iload O dX1_steadyPair_154 rfl (q := 156) rfl ?_
            refine st_if_eq O dX1_steadyPair_156 (t := 177) rfl (q := 159) rfl (fun c156 => ?_) (fun c156 => ?_)
            · exact absurd c156 (by decide)
            refine st_iload O dX1_steadyPair_159 rfl (q := 161) rfl ?_
            refine st_if_eq O dX1_steadyPair_161 (t := 177) rfl (q := 164) rfl (fun c161 => ?_) (fun c161 => ?_)
            · refine st_iinc O dX1_steadyPair_177 rfl (by first | exact am_ii1 _ | exact rfl) rfl (q := 180) rfl ?_
              refine st_goto O dX1_steadyPair_180 (t := 96) rfl ?_
              exact ih _ _
            exact absurd c161 (by decide)
          omega
      · rw [decide_eq_false p1, Bool.false_and, if_neg (by decide)] at hK
        have ih := fun x5 x6 => ih x5 x6 hK
        refine am_norm rfl rfl ?_
        refine st_iload O dX1_steadyPair_96 rfl (q := 98) rfl ?_
        refine st_iconst O dX1_steadyPair_98 am_iconst_4 (q := 99) rfl ?_
        refine sn_icmp_ge O dX1_steadyPair_99 (t := 183) rfl (q := 102) rfl (by omega) (by omega) (fun c99 => ?_) (fun c99 => ?_)
        · omega
        refine st_aloadn O dX1_steadyPair_102 rfl (q := 103) rfl ?_
        refine st_getr O dX1_steadyPair_103 fl_X1_25 rfl rfl rfl (q := 106) rfl ?_
        refine st_iload O dX1_steadyPair_106 rfl (q := 108) rfl ?_
        refine sn_ald O dX1_steadyPair_108 rfl rfl rfl ⟨by omega, by decide⟩ y0.1 (q := 109) rfl ?_
        refine st_aloadn O dX1_steadyPair_109 rfl (q := 110) rfl ?_
        refine st_getr O dX1_steadyPair_110 fl_X1_25 rfl rfl rfl (q := 113) rfl ?_
        refine st_iload O dX1_steadyPair_113 rfl (q := 115) rfl ?_
        refine st_iconst O dX1_steadyPair_115 am_iconst_2 (q := 116) rfl ?_
        refine st_ixor O dX1_steadyPair_116 g2.1 (q := 117) rfl ?_
        refine sn_ald O dX1_steadyPair_117 rfl rfl rfl ⟨by omega, by decide⟩ y1.1 (q := 118) rfl ?_
        refine sn_icmp_gt O dX1_steadyPair_118 (t := 125) rfl (q := 121) rfl (by omega) (by omega) (fun c118 => ?_) (fun c118 => ?_)
        · refine st_iconst O dX1_steadyPair_125 am_iconst_0 (q := 126) rfl ?_
          refine st_istore O dX1_steadyPair_126 rfl (q := 128) rfl ?_
          refine st_aloadn O dX1_steadyPair_128 rfl (q := 129) rfl ?_
          refine st_getr O dX1_steadyPair_129 fl_X1_29 rfl rfl rfl (q := 132) rfl ?_
          refine st_iload O dX1_steadyPair_132 rfl (q := 134) rfl ?_
          refine sn_ald O dX1_steadyPair_134 rfl rfl rfl ⟨by omega, by decide⟩ y0.2 (q := 135) rfl ?_
          refine st_aloadn O dX1_steadyPair_135 rfl (q := 136) rfl ?_
          refine st_getr O dX1_steadyPair_136 fl_X1_29 rfl rfl rfl (q := 139) rfl ?_
          refine st_iload O dX1_steadyPair_139 rfl (q := 141) rfl ?_
          refine st_iconst O dX1_steadyPair_141 am_iconst_1 (q := 142) rfl ?_
          refine st_ixor O dX1_steadyPair_142 g1.1 (q := 143) rfl ?_
          refine sn_ald O dX1_steadyPair_143 rfl rfl rfl ⟨by omega, by decide⟩ y2.2 (q := 144) rfl ?_
          refine sn_icmp_gt O dX1_steadyPair_144 (t := 151) rfl (q := 147) rfl (by omega) (by omega) (fun c144 => ?_) (fun c144 => ?_)
          · refine st_iconst O dX1_steadyPair_151 am_iconst_0 (q := 152) rfl ?_
            refine st_istore O dX1_steadyPair_152 rfl (q := 154) rfl ?_
            refine st_iload O dX1_steadyPair_154 rfl (q := 156) rfl ?_
            refine st_if_eq O dX1_steadyPair_156 (t := 177) rfl (q := 159) rfl (fun c156 => ?_) (fun c156 => ?_)
            · refine st_iinc O dX1_steadyPair_177 rfl (by first | exact am_ii1 _ | exact rfl) rfl (q := 180) rfl ?_
              refine st_goto O dX1_steadyPair_180 (t := 96) rfl ?_
              exact ih _ _
            exact absurd c156 (by decide)
          refine st_iconst O dX1_steadyPair_147 am_iconst_1 (q := 148) rfl ?_
          refine st_goto O dX1_steadyPair_148 (t := 152) rfl ?_
          refine st_istore O dX1_steadyPair_152 rfl (q := 154) rfl ?_
          refine st_iload O dX1_steadyPair_154 rfl (q := 156) rfl ?_
          refine st_if_eq O dX1_steadyPair_156 (t := 177) rfl (q := 159) rfl (fun c156 => ?_) (fun c156 => ?_)
          · refine st_iinc O dX1_steadyPair_177 rfl (by first | exact am_ii1 _ | exact rfl) rfl (q := 180) rfl ?_
            refine st_goto O dX1_steadyPair_180 (t := 96) rfl ?_
            exact ih _ _
          exact absurd c156 (by decide)
        omega
  have first : ∀ d m (w1 w2 : Nat → Int32) (dt dp : am_D), 4 - m = d → m ≤ 4 → rF dt → pF dp → (∀ j, j < m → w1 j = nI (wF j) ∧ w2 j = nI (wO j)) → am_aw X 7 sh_HX 3 [some (.inr 0), some (.inr 15), some (.inl (nI a)), some (.inl (nI c)), some (.inl (nI m)), none, none] [] (.inl [sd] :: (dt ++ (dp ++ (.inr w1 :: .inr w2 :: [.inl [nI n, nI b, nI w], .inr kk, .inr ff, .inr ll, .inr hh, .inr ii])))) := by
    intro d
    induction d with
    | zero =>
      intro m w1 w2 dt dp hd hm hG hF hq
      have e : m = 4 := by omega
      subst e
      have hse := second 4 0 none none w1 w2 dt dp rfl (by omega) hG hF hq hK
      obtain ⟨j0, j1, j2, j3, j4, j5, j6, j7, j8, o, wt, tn, r0, l1, rfl⟩ := hF
      obtain ⟨a0, b0, q0, k0, f0, l0, h0, i0, rfl⟩ := hG
      refine am_norm rfl rfl ?_
      refine st_iload O dX1_steadyPair_3 rfl (q := 5) rfl ?_
      refine st_iconst O dX1_steadyPair_5 am_iconst_4 (q := 6) rfl ?_
      refine sn_icmp_ge O dX1_steadyPair_6 (t := 93) rfl (q := 9) rfl (by omega) (by omega) (fun c6 => ?_) (fun c6 => ?_)
      · refine st_iconst O dX1_steadyPair_93 am_iconst_0 (q := 94) rfl ?_
        refine st_istore O dX1_steadyPair_94 rfl (q := 96) rfl ?_
        exact hse
      omega
    | succ d ih =>
      intro m w1 w2 dt dp hd hm hG hF hq
      have hG' := hG
      have hF' := hF
      obtain ⟨j0, j1, j2, j3, j4, j5, j6, j7, j8, o, wt, tn, r0, l1, rfl⟩ := hF
      obtain ⟨a0, b0, q0, k0, f0, l0, h0, i0, rfl⟩ := hG
      refine am_norm rfl rfl ?_
      refine st_iload O dX1_steadyPair_3 rfl (q := 5) rfl ?_
      refine st_iconst O dX1_steadyPair_5 am_iconst_4 (q := 6) rfl ?_
      refine sn_icmp_ge O dX1_steadyPair_6 (t := 93) rfl (q := 9) rfl (by omega) (by omega) (fun c6 => ?_) (fun c6 => ?_)
      · omega
      refine st_aloadn O dX1_steadyPair_9 rfl (q := 10) rfl ?_
      refine st_getr O dX1_steadyPair_10 fl_X1_12 rfl rfl rfl (q := 13) rfl ?_
      refine st_aloadn O dX1_steadyPair_13 rfl (q := 14) rfl ?_
      refine st_call O dX1_steadyPair_14 cs_X1_steadyPair_14 (q := 17) rfl (am_si rfl rfl rfl (Nat.le_of_ble_eq_true rfl) rfl ?_)
      refine ⟨n, b, w, kd, fg, la, hu, li, _, _, rfl, (by exact rfl), hG', hR, fun d hd => ?_⟩
      have hd' := hd
      obtain ⟨k0, f0, l0, h0, i0, rfl, -⟩ := hd
      refine am_norm rfl rfl ?_
      refine st_aloadn O dX1_steadyPair_17 rfl (q := 18) rfl ?_
      refine st_getr O dX1_steadyPair_18 fl_X1_12 rfl rfl rfl (q := 21) rfl ?_
      refine st_iload O dX1_steadyPair_21 rfl (q := 23) rfl ?_
      refine st_iconst O dX1_steadyPair_23 am_iconst_1 (q := 24) rfl ?_
      refine st_ishr O dX1_steadyPair_24 (sr_tab m (by omega)) (q := 25) rfl ?_
      refine st_iloadn O dX1_steadyPair_25 rfl (q := 26) rfl ?_
      refine st_call O dX1_steadyPair_26 cs_X1_steadyPair_26 (q := 29) rfl (am_si rfl rfl rfl (Nat.le_of_ble_eq_true rfl) rfl ?_)
      refine ⟨n, b, w, kd, fg, la, hu, li, m / 2, a, hd', by omega, ha, rfl, fun D' hD' => ?_⟩
      have hD2 := hD'
      obtain ⟨k0, f0, l0, h0, i0, rfl, -⟩ := hD'
      refine am_norm rfl rfl ?_
      refine st_pop O dX1_steadyPair_29 (q := 30) rfl ?_
      refine st_aloadn O dX1_steadyPair_30 rfl (q := 31) rfl ?_
      refine st_getr O dX1_steadyPair_31 fl_X1_12 rfl rfl rfl (q := 34) rfl ?_
      refine st_iload O dX1_steadyPair_34 rfl (q := 36) rfl ?_
      refine st_iconst O dX1_steadyPair_36 am_iconst_1 (q := 37) rfl ?_
      refine st_iand O dX1_steadyPair_37 (an_tab m (by omega)) (q := 38) rfl ?_
      refine st_iloadn O dX1_steadyPair_38 rfl (q := 39) rfl ?_
      refine st_call O dX1_steadyPair_39 cs_X1_steadyPair_39 (q := 42) rfl (am_si rfl rfl rfl (Nat.le_of_ble_eq_true rfl) rfl ?_)
      refine ⟨n, b, w, kd, fg, _, hu, _, m % 2, c, hD2, Nat.mod_lt _ (by decide), hc, rfl, fun D3 hD3 => ?_⟩
      have hD4 := hD3
      obtain ⟨k0, f0, l0, h0, i0, rfl, -, -, -, hj0, -, -⟩ := hD3
      refine am_norm rfl rfl ?_
      refine st_pop O dX1_steadyPair_42 (q := 43) rfl ?_
      refine st_aloadn O dX1_steadyPair_43 rfl (q := 44) rfl ?_
      refine st_getr O dX1_steadyPair_44 fl_X1_21 rfl rfl rfl (q := 47) rfl ?_
      refine st_aloadn O dX1_steadyPair_47 rfl (q := 48) rfl ?_
      refine st_getr O dX1_steadyPair_48 fl_X1_12 rfl rfl rfl (q := 51) rfl ?_
      refine st_iconst O dX1_steadyPair_51 am_iconst_0 (q := 52) rfl ?_
      refine st_call O dX1_steadyPair_52 cs_X1_steadyPair_52 (q := 55) rfl (am_si rfl rfl rfl (Nat.le_of_ble_eq_true rfl) rfl ?_)
      refine ⟨n, b, w, kd, fg, _, hu, _, _, _, 0, rfl, by omega, (by exact rfl), hF', hD4, fun d hd => ?_⟩
      have hdf := hd.form
      have hl2 : ∀ z, z < n → va_up (va_up la a (m / 2)) c (m % 2) z < 2 := fun z hz => (hj0 z hz).2.2.1.2
      have m1 := sim_all (b := b) (w := w) (a := 0) (kd := kd) (fg := fg) hp2 hl2 ha (Nat.zero_testBit a)
      have m2 := sim_all (b := b) (w := w) (a := 0) (kd := kd) (fg := fg) hp2 hl2 hc (Nat.zero_testBit c)
      obtain ⟨j2, j3, j4, j5, j6, j7, j8, o, wt, tn, rr, l, rfl, hO⟩ := id hd
      refine am_norm rfl rfl ?_
      refine st_aloadn O dX1_steadyPair_55 rfl (q := 56) rfl ?_
      refine st_getr O dX1_steadyPair_56 fl_X1_25 rfl rfl rfl (q := 59) rfl ?_
      refine st_iload O dX1_steadyPair_59 rfl (q := 61) rfl ?_
      refine st_aloadn O dX1_steadyPair_61 rfl (q := 62) rfl ?_
      refine st_getr O dX1_steadyPair_62 fl_X1_21 rfl rfl rfl (q := 65) rfl ?_
      refine st_getr O dX1_steadyPair_65 fl_X1_40 rfl rfl rfl (q := 68) rfl ?_
      refine st_iloadn O dX1_steadyPair_68 rfl (q := 69) rfl ?_
      refine sn_ald O dX1_steadyPair_69 rfl rfl rfl ⟨by omega, by decide⟩ (show wt a = nI (wF m) by rw [hwF]; exact tu_wt hO m1) (q := 70) rfl ?_
      refine sn_ast O dX1_steadyPair_70 rfl rfl rfl ⟨by omega, by decide⟩ rfl rfl (q := 71) rfl ?_
      refine st_aloadn O dX1_steadyPair_71 rfl (q := 72) rfl ?_
      refine st_getr O dX1_steadyPair_72 fl_X1_29 rfl rfl rfl (q := 75) rfl ?_
      refine st_iload O dX1_steadyPair_75 rfl (q := 77) rfl ?_
      refine st_aloadn O dX1_steadyPair_77 rfl (q := 78) rfl ?_
      refine st_getr O dX1_steadyPair_78 fl_X1_21 rfl rfl rfl (q := 81) rfl ?_
      refine st_getr O dX1_steadyPair_81 fl_X1_40 rfl rfl rfl (q := 84) rfl ?_
      refine st_iloadn O dX1_steadyPair_84 rfl (q := 85) rfl ?_
      refine sn_ald O dX1_steadyPair_85 rfl rfl rfl ⟨by omega, by decide⟩ (show wt c = nI (wO m) by rw [hwO]; exact tu_wt hO m2) (q := 86) rfl ?_
      refine sn_ast O dX1_steadyPair_86 rfl rfl rfl ⟨by omega, by decide⟩ rfl rfl (q := 87) rfl ?_
      refine st_iinc O dX1_steadyPair_87 rfl (by first | exact am_ii1 _ | exact rfl) rfl (q := 90) rfl ?_
      refine st_goto O dX1_steadyPair_90 (t := 3) rfl ?_
      refine ih (m + 1) _ _ _ _ (by omega) (by omega) hD4.form hdf (fun j hjm => ?_)
      by_cases e : j = m
      · subst e; exact ⟨pk_us, pk_us⟩
      · rw [pk_un e, pk_un e]; exact hq j (by omega)
  have hfi := first 4 0 w1 w2 dt dp rfl (by omega) hG hF (fun j h => absurd h (Nat.not_lt_zero j))
  obtain ⟨j0, j1, j2, j3, j4, j5, j6, j7, j8, o, wt, tn, r0, l1, rfl⟩ := hF
  obtain ⟨a0, b0, q0, k0, f0, l0, h0, i0, rfl⟩ := hG
  refine am_begin rfl ?_
  refine am_norm rfl rfl ?_
  refine st_iconst O dX1_steadyPair_0 am_iconst_0 (q := 1) rfl ?_
  refine st_istore O dX1_steadyPair_1 rfl (q := 3) rfl ?_
  exact hfi
theorem C_X1_steadyPair : am_ctr yX1_steadyPair cX1_steadyPair 7 (some .int) 4 91 sh_HX [some 0, some 15, none, none] T_X1_steadyPair := am_mk (by decide) (Or.inr (Or.inl ⟨rfl, rfl⟩)) (by decide) (by decide) (by decide) fl_X1_ok kc_X1_ok ck_X1_steadyPair B_X1_steadyPair
