/-! the class's own methods: who, count -/
def V_U (o : Int32) (σ : Sg) (D : am_D) : Prop := ∃ n0 n1 n2 n3 n4 n5 u0 r0 r1 r2 r3 r4 r5 p0 p1 p2 p3 p4 p5, D = [.inl [o, nI σ.2.2.2.1.length], n0, n1, n2, n3, n4, n5, .inr u0, .inr σ.2.2.2.2, r0, r1, r2, r3, r4, r5, p0, p1, p2, p3, p4, p5] ∧ rS σ.1 [n0, n1, n2, n3, n4, n5] ∧ tdX σ.2.2.2.1 u0 ∧ rF [r0, r1, r2, r3, r4, r5] ∧ pF [p0, p1, p2, p3, p4, p5]
theorem or_tab : ∀ k, k < 10 → ∀ a, a < 2 ^ k → nI a ||| nI (2 ^ k) = nI (a + 2 ^ k) := by decide +kernel
theorem wbt_lt (p : Nat → Bool) : ∀ m, wbt p m < 2 ^ m
  | 0 => Nat.zero_lt_one
  | m + 1 => by
    have ih := wbt_lt p m
    show wbt p m + (if p m = true then 2 ^ m else 0) < 2 ^ (m + 1)
    rw [Nat.pow_succ]
    split <;> omega
theorem fns_none {to : List Nat} {L : List (Nat × Nat × Nat)} (h : to.length ≤ 12) : oI (fns to L) = -9 ↔ fns to L = none := oI_none (fun c hc => by have := (ffU_lt _ _ _ hc).2; omega)
def cs_X6_who : Nat → List am_V → am_D → am_K → Prop := am_cs [(5, am_site 2 [some 0, none] T_X4_has [1] [1, 2, 3, 4, 5, 6]), (13, am_site 2 [some 0, none] T_X6_refuse [0, 8] [0, 8, 1, 21, 22, 7, 9, 15, 23, 24]), (29, am_site 2 [some 0, none] T_X6_refuse [0, 8] [0, 8, 1, 21, 22, 7, 9, 15, 23, 24]), (65, am_site 2 [some 0, some 6] T_X4_copyFrom [9, 10, 11, 12, 13, 14, 1, 2, 3, 4, 5, 6] [9, 10, 11, 12, 13, 14, 1, 2, 3, 4, 5, 6]), (102, am_site 2 [some 0, some 8] T_X6_firstNotSo [0, 7, 15, 16, 17, 18, 19, 20, 9, 10, 11, 12, 13, 14] [0, 7, 15, 16, 17, 18, 19, 20, 9, 10, 11, 12, 13, 14, 1, 21, 22, 8, 9, 23, 24])]
theorem cs_X6_who_5 : cs_X6_who 5 = am_site 2 [some 0, none] T_X4_has [1] [1, 2, 3, 4, 5, 6] := rfl
theorem cs_X6_who_13 : cs_X6_who 13 = am_site 2 [some 0, none] T_X6_refuse [0, 8] [0, 8, 1, 21, 22, 7, 9, 15, 23, 24] := rfl
theorem cs_X6_who_29 : cs_X6_who 29 = am_site 2 [some 0, none] T_X6_refuse [0, 8] [0, 8, 1, 21, 22, 7, 9, 15, 23, 24] := rfl
theorem cs_X6_who_65 : cs_X6_who 65 = am_site 2 [some 0, some 6] T_X4_copyFrom [9, 10, 11, 12, 13, 14, 1, 2, 3, 4, 5, 6] [9, 10, 11, 12, 13, 14, 1, 2, 3, 4, 5, 6] := rfl
theorem cs_X6_who_102 : cs_X6_who 102 = am_site 2 [some 0, some 8] T_X6_firstNotSo [0, 7, 15, 16, 17, 18, 19, 20, 9, 10, 11, 12, 13, 14] [0, 7, 15, 16, 17, 18, 19, 20, 9, 10, 11, 12, 13, 14, 1, 21, 22, 8, 9, 23, 24] := rfl
theorem ck_X6_who : ∀ X : am_X, am_cx X RX6 cX6_who 6 5 113 → ∀ pc, am_csok X 6 sh_VU pc (cs_X6_who pc) := fun X hX => am_cs_ok (List.forall_mem_cons.mpr ⟨am_callV hX C_X4_has mo_X4_has rfl lk_X6_83 dX6_who_5 rfl rfl rfl (by decide), List.forall_mem_cons.mpr ⟨am_callV hX C_X6_refuse mo_X6_refuse rfl lk_X6_65 dX6_who_13 rfl rfl rfl (by decide), List.forall_mem_cons.mpr ⟨am_callV hX C_X6_refuse mo_X6_refuse rfl lk_X6_65 dX6_who_29 rfl rfl rfl (by decide), List.forall_mem_cons.mpr ⟨am_callV hX C_X4_copyFrom mo_X4_copyFrom rfl lk_X6_224 dX6_who_65 rfl rfl rfl (by decide), List.forall_mem_cons.mpr ⟨am_callV hX C_X6_firstNotSo mo_X6_firstNotSo rfl lk_X6_228 dX6_who_102 rfl rfl rfl (by decide), fun _ h => absurd h List.not_mem_nil⟩⟩⟩⟩⟩)
abbrev ok_X6_who (X : am_X) (K : List Int32 → am_D → Prop) : Prop := am_ok X RX6 cX6_who 6 sh_VU fl_X6 kc_X6 none 1 cs_X6_who K
abbrev aw_X6_who (X : am_X) (pc : Nat) (ls : am_L) (st : List am_V) (D : am_D) : Prop := am_aw X 6 sh_VU pc ls st D
abbrev T_X6_who : am_TT := am_v2f V_U f_who
set_option maxHeartbeats 200000 in
theorem B_X6_who : ∀ (X : am_X) (is : List Int32) (D : am_D) (K : List Int32 → am_D → Prop), ok_X6_who X K → T_X6_who is D K → is.length = (List.filter Option.isNone ([some 0, none, none] : List (Option Nat))).length → D.length = sh_VU.length → am_aw X 6 sh_VU 0 (am_l0 6 [some 0, none, none] is) [] D := by
  intro X is D K O hT _ _
  obtain ⟨o, σ, a, b, ⟨n0, n1, n2, n3, n4, n5, u0, r0, r1, r2, r3, r4, r5, p0, p1, p2, p3, p4, p5, rfl, hn, hu, hr, hF⟩, rfl, hK⟩ := hT
  obtain ⟨kk, ff, ll, hh, ii, e, hn9, hb2, hw9, hj, hp, hi⟩ := id hn
  cases e
  have eN : gN σ = σ.1.1 := rfl
  cases hx : xi (gN σ) a with
  | none =>
    refine am_begin rfl ?_
    refine st_aloadn O dX6_who_0 rfl (q := 1) rfl ?_
    refine st_getr O dX6_who_1 fl_X6_10 rfl rfl rfl (q := 4) rfl ?_
    refine st_iloadn O dX6_who_4 rfl (q := 5) rfl ?_
    refine st_call O dX6_who_5 cs_X6_who_5 (q := 8) rfl (am_sipq rfl rfl rfl (Nat.le_of_ble_eq_true rfl) rfl (r := 0) ⟨a, gN σ, _, hn9, rfl, rfl, Or.inr ⟨xi_none hn9 hx, rfl⟩⟩ ?_)
    refine st_if_ne O dX6_who_8 (t := 17) rfl (q := 11) rfl (fun c8 => ?_) (fun c8 => ?_)
    · exact absurd c8 (by decide)
    refine st_aloadn O dX6_who_11 rfl (q := 12) rfl ?_
    refine st_iconst O dX6_who_12 am_iconst_m1 (q := 13) rfl ?_
    refine st_call O dX6_who_13 cs_X6_who_13 (q := 16) rfl (am_siq rfl rfl rfl (Nat.le_of_ble_eq_true rfl) rfl ?_)
    refine ⟨_, _, 1, by decide, by decide, rfl, rfl, ?_⟩
    refine am_nrq rfl rfl ?_
    rw [show f_who a b σ = rfs 1 σ from by unfold f_who; rw [hx]] at hK
    exact st_ireturn O dX6_who_16 (hK _ ⟨_, _, _, _, _, _, _, _, _, _, _, _, _, _, _, _, _, _, _, rfl, hn, hu, hr, hF⟩)
  | some j =>
    obtain ⟨hj9, rfl⟩ := xi_some hn9 hx
    have loop : ∀ M, (b = 0 ∧ M = 5 ∨ b = 1 ∧ M = 9) → f_who (nI j) b σ = (nI (wbt (wfn σ j b) (M + 1)), σ) → ∀ d m (r0 r1 r2 r3 r4 r5 p0 p1 p2 p3 p4 p5 : am_C), rF [r0, r1, r2, r3, r4, r5] → pF [p0, p1, p2, p3, p4, p5] → M + 1 - m = d → m ≤ M + 1 → am_aw X 6 sh_VU 50 [some (.inr 0), some (.inl (nI j)), some (.inl b), some (.inl (nI (wbt (wfn σ j b) m))), some (.inl (nI M)), some (.inl (nI m))] [] [.inl [o, nI σ.2.2.2.1.length], .inl [nI σ.1.1, nI σ.1.2.1, nI σ.1.2.2.1], .inr kk, .inr ff, .inr ll, .inr hh, .inr ii, .inr u0, .inr σ.2.2.2.2, r0, r1, r2, r3, r4, r5, p0, p1, p2, p3, p4, p5] := by
      intro M hM hfw d
      rw [hfw] at hK
      have hM9 : M ≤ 9 := by omega
      induction d with
      | zero =>
        intro m r0 r1 r2 r3 r4 r5 p0 p1 p2 p3 p4 p5 hr hF hdm hm
        have e : m = M + 1 := by omega
        subst e
        refine st_iload O dX6_who_50 rfl (q := 52) rfl ?_
        refine st_iload O dX6_who_52 rfl (q := 54) rfl ?_
        refine sn_icmp_gt O dX6_who_54 (t := 123) rfl (q := 57) rfl (by omega) (by omega) (fun c54 => ?_) (fun c54 => ?_)
        · refine st_iloadn O dX6_who_123 rfl (q := 124) rfl ?_
          refine st_ireturn O dX6_who_124 ?_
          exact hK _ ⟨_, _, _, _, _, _, _, _, _, _, _, _, _, _, _, _, _, _, _, rfl, hn, hu, hr, hF⟩
        omega
      | succ d ih =>
        intro m r0 r1 r2 r3 r4 r5 p0 p1 p2 p3 p4 p5 hr hF hdm hm
        have hm9 : m < 10 := by omega
        have hsh := sh_tab2 m hm9
        have hor := or_tab m hm9 (wbt (wfn σ j b) m) (wbt_lt _ _)
        have hfn := fun L => fns_none (to := σ.2.2.2.1) (L := L) hu.1
        have ih1 : ∀ (r0 r1 r2 r3 r4 r5 p0 p1 p2 p3 p4 p5 : am_C), rF [r0, r1, r2, r3, r4, r5] → pF [p0, p1, p2, p3, p4, p5] → am_aw X 6 sh_VU 50 [some (.inr 0), some (.inl (nI j)), some (.inl b), some (.inl (nI (wbt (wfn σ j b) m + (if wfn σ j b m = true then 2 ^ m else 0)))), some (.inl (nI M)), some (.inl (nI (m + 1)))] [] [.inl [o, nI σ.2.2.2.1.length], .inl [nI σ.1.1, nI σ.1.2.1, nI σ.1.2.2.1], .inr kk, .inr ff, .inr ll, .inr hh, .inr ii, .inr u0, .inr σ.2.2.2.2, r0, r1, r2, r3, r4, r5, p0, p1, p2, p3, p4, p5] := fun r0 r1 r2 r3 r4 r5 p0 p1 p2 p3 p4 p5 h1 h2 => ih (m + 1) r0 r1 r2 r3 r4 r5 p0 p1 p2 p3 p4 p5 h1 h2 (by omega) (by omega)
        -- behind the change
        have fin : ∀ (y : RS) (r0 r1 r2 r3 r4 r5 : am_C), rS y [r0, r1, r2, r3, r4, r5] → wfn σ j b m = decide (fns σ.2.2.2.1 (simA y.2.1 y.2.2.1 y.2.2.2.1 y.2.2.2.2.1 y.2.2.2.2.2.1 y.2.2.2.2.2.2.2 0) = none) → am_aw X 6 sh_VU 97 [some (.inr 0), some (.inl (nI j)), some (.inl b), some (.inl (nI (wbt (wfn σ j b) m))), some (.inl (nI M)), some (.inl (nI m))] [] [.inl [o, nI σ.2.2.2.1.length], .inl [nI σ.1.1, nI σ.1.2.1, nI σ.1.2.2.1], .inr kk, .inr ff, .inr ll, .inr hh, .inr ii, .inr u0, .inr σ.2.2.2.2, r0, r1, r2, r3, r4, r5, p0, p1, p2, p3, p4, p5] := by
          intro y r0 r1 r2 r3 r4 r5 hy hwf
          have hfn1 := hfn (simA y.2.1 y.2.2.1 y.2.2.2.1 y.2.2.2.2.1 y.2.2.2.2.2.1 y.2.2.2.2.2.2.2 0)
          refine st_aloadn O dX6_who_97 rfl (q := 98) rfl ?_
          refine st_aloadn O dX6_who_98 rfl (q := 99) rfl ?_
          refine st_getr O dX6_who_99 fl_X6_41 rfl rfl rfl (q := 102) rfl ?_
          refine st_call O dX6_who_102 cs_X6_who_102 (q := 105) rfl (am_siq rfl rfl rfl (Nat.le_of_ble_eq_true rfl) rfl ?_)
          refine ⟨o, u0, σ.2.2.2.1, y, _, _, _, _, _, _, _, rfl, rfl, hu, hF, hy, fun dd h => ?_⟩
          obtain ⟨q0, q1, q2, q3, q4, q5, rfl⟩ := pF_lit6 h
          refine am_nrp rfl rfl rfl rfl ?_
          refine st_bipush O dX6_who_105 am_bipush_m9 (q := 107) rfl ?_
          refine st_icmp_ne O dX6_who_107 (t := 117) rfl (q := 110) rfl (fun c107 => ?_) (fun c107 => ?_)
          · refine st_iinc O dX6_who_117 rfl (by first | exact am_ii1 _ | exact rfl) rfl (q := 120) rfl ?_
            refine st_goto O dX6_who_120 (t := 50) rfl ?_
            have ih2 := ih1 _ _ _ _ _ _ _ _ _ _ _ _ hy.form h
            first | (rw [if_neg (by rw [hwf, decide_eq_false (fun z => c107 (hfn1.mpr z))]; decide)] at ih2; exact ih2) | (rw [if_pos (by rw [hwf]; exact decide_eq_true (hfn1.mp (by first | exact c107 | exact Decidable.of_not_not c107)))] at ih2; exact ih2)
          refine st_iloadn O dX6_who_110 rfl (q := 111) rfl ?_
          refine st_iconst O dX6_who_111 am_iconst_1 (q := 112) rfl ?_
          refine st_iload O dX6_who_112 rfl (q := 114) rfl ?_
          refine st_ishl O dX6_who_114 hsh (q := 115) rfl ?_
          refine st_ior O dX6_who_115 hor (q := 116) rfl ?_
          refine st_istoren O dX6_who_116 rfl (q := 117) rfl ?_
          refine st_iinc O dX6_who_117 rfl (by first | exact am_ii1 _ | exact rfl) rfl (q := 120) rfl ?_
          refine st_goto O dX6_who_120 (t := 50) rfl ?_
          have ih2 := ih1 _ _ _ _ _ _ _ _ _ _ _ _ hy.form h
          first | (rw [if_neg (by rw [hwf, decide_eq_false (fun z => c107 (hfn1.mpr z))]; decide)] at ih2; exact ih2) | (rw [if_pos (by rw [hwf]; exact decide_eq_true (hfn1.mp (by first | exact c107 | exact Decidable.of_not_not c107)))] at ih2; exact ih2)
        rcases hM with ⟨rfl, rfl⟩ | ⟨rfl, rfl⟩
        · refine st_iload O dX6_who_50 rfl (q := 52) rfl ?_
          refine st_iload O dX6_who_52 rfl (q := 54) rfl ?_
          refine sn_icmp_gt O dX6_who_54 (t := 123) rfl (q := 57) rfl (by omega) (by omega) (fun c54 => ?_) (fun c54 => ?_)
          · omega
          refine st_aloadn O dX6_who_57 rfl (q := 58) rfl ?_
          refine st_getr O dX6_who_58 fl_X6_41 rfl rfl rfl (q := 61) rfl ?_
          refine st_aloadn O dX6_who_61 rfl (q := 62) rfl ?_
          refine st_getr O dX6_who_62 fl_X6_10 rfl rfl rfl (q := 65) rfl ?_
          refine st_call O dX6_who_65 cs_X6_who_65 (q := 68) rfl (am_siq rfl rfl rfl (Nat.le_of_ble_eq_true rfl) rfl ?_)
          refine ⟨gN σ, gb σ, gw σ, gk σ, gf σ, gl σ, gh σ, gq σ, [_, _, _, _, _, _], _, rfl, rfl, hr, hn, fun d1 h1 => ?_⟩
          obtain ⟨k1, f1, l1, h1', i1, rfl, g1, g2, g3, g4, g5, g6⟩ := h1
          refine am_nrp rfl rfl rfl rfl ?_
          refine st_iloadn O dX6_who_68 rfl (q := 69) rfl ?_
          refine st_if_ne O dX6_who_69 (t := 86) rfl (q := 72) rfl (fun c69 => ?_) (fun c69 => ?_)
          · exact absurd c69 (by decide)
          refine st_aloadn O dX6_who_72 rfl (q := 73) rfl ?_
          refine st_getr O dX6_who_73 fl_X6_41 rfl rfl rfl (q := 76) rfl ?_
          refine st_getr O dX6_who_76 fl_X6_87 rfl rfl rfl (q := 79) rfl ?_
          refine st_iloadn O dX6_who_79 rfl (q := 80) rfl ?_
          refine st_iload O dX6_who_80 rfl (q := 82) rfl ?_
          refine sn_ast O dX6_who_82 rfl rfl rfl ⟨by omega, by decide⟩ rfl rfl (q := 83) rfl ?_
          refine st_goto O dX6_who_83 (t := 97) rfl ?_
          refine fin (gN σ, gb σ, gw σ, va_up (gk σ) j m, gf σ, gl σ, gh σ, gq σ) _ _ _ _ _ _ ⟨_, f1, l1, h1', i1, rfl, g1, g2, g3, fun i hi2 => ?_, g5, g6⟩ (by unfold wfn; rw [if_pos rfl])
          obtain ⟨e1, e2⟩ := g4 i hi2
          refine ⟨?_, e2⟩
          by_cases e : i = j
          · subst e; simp only [pk_us, va_up, if_true]; exact ⟨trivial, by omega⟩
          · simp only [pk_un e, va_up, if_neg e]; exact e1
        · refine st_iload O dX6_who_50 rfl (q := 52) rfl ?_
          refine st_iload O dX6_who_52 rfl (q := 54) rfl ?_
          refine sn_icmp_gt O dX6_who_54 (t := 123) rfl (q := 57) rfl (by omega) (by omega) (fun c54 => ?_) (fun c54 => ?_)
          · omega
          refine st_aloadn O dX6_who_57 rfl (q := 58) rfl ?_
          refine st_getr O dX6_who_58 fl_X6_41 rfl rfl rfl (q := 61) rfl ?_
          refine st_aloadn O dX6_who_61 rfl (q := 62) rfl ?_
          refine st_getr O dX6_who_62 fl_X6_10 rfl rfl rfl (q := 65) rfl ?_
          refine st_call O dX6_who_65 cs_X6_who_65 (q := 68) rfl (am_siq rfl rfl rfl (Nat.le_of_ble_eq_true rfl) rfl ?_)
          refine ⟨gN σ, gb σ, gw σ, gk σ, gf σ, gl σ, gh σ, gq σ, [_, _, _, _, _, _], _, rfl, rfl, hr, hn, fun d1 h1 => ?_⟩
          obtain ⟨k1, f1, l1, h1', i1, rfl, g1, g2, g3, g4, g5, g6⟩ := h1
          refine am_nrp rfl rfl rfl rfl ?_
          refine st_iloadn O dX6_who_68 rfl (q := 69) rfl ?_
          refine st_if_ne O dX6_who_69 (t := 86) rfl (q := 72) rfl (fun c69 => ?_) (fun c69 => ?_)
          · refine st_aloadn O dX6_who_86 rfl (q := 87) rfl ?_
            refine st_getr O dX6_who_87 fl_X6_41 rfl rfl rfl (q := 90) rfl ?_
            refine st_getr O dX6_who_90 fl_X6_90 rfl rfl rfl (q := 93) rfl ?_
            refine st_iloadn O dX6_who_93 rfl (q := 94) rfl ?_
            refine st_iload O dX6_who_94 rfl (q := 96) rfl ?_
            refine sn_ast O dX6_who_96 rfl rfl rfl ⟨by omega, by decide⟩ rfl rfl (q := 97) rfl ?_
            refine fin (gN σ, gb σ, gw σ, gk σ, va_up (gf σ) j m, gl σ, gh σ, gq σ) _ _ _ _ _ _ ⟨k1, _, l1, h1', i1, rfl, g1, g2, g3, fun i hi2 => ?_, g5, g6⟩ (by unfold wfn; rw [if_neg (by decide)])
            obtain ⟨e1, e2, e3⟩ := g4 i hi2
            refine ⟨e1, ?_, e3⟩
            by_cases e : i = j
            · subst e; simp only [pk_us, va_up, if_true]; exact ⟨trivial, by omega⟩
            · simp only [pk_un e, va_up, if_neg e]; exact e2
          exact absurd c69 (by decide)
    by_cases h0 : b = 0
    · subst h0
      refine am_begin rfl ?_
      refine st_aloadn O dX6_who_0 rfl (q := 1) rfl ?_
      refine st_getr O dX6_who_1 fl_X6_10 rfl rfl rfl (q := 4) rfl ?_
      refine st_iloadn O dX6_who_4 rfl (q := 5) rfl ?_
      refine st_call O dX6_who_5 cs_X6_who_5 (q := 8) rfl (am_sipq rfl rfl rfl (Nat.le_of_ble_eq_true rfl) rfl (r := 1) ⟨_, gN σ, _, hn9, rfl, rfl, Or.inl ⟨⟨j, hj9, rfl⟩, rfl⟩⟩ ?_)
      refine st_if_ne O dX6_who_8 (t := 17) rfl (q := 11) rfl (fun c8 => ?_) (fun c8 => ?_)
      · refine st_iloadn O dX6_who_17 rfl (q := 18) rfl ?_
        refine st_if_eq O dX6_who_18 (t := 33) rfl (q := 21) rfl (fun c18 => ?_) (fun c18 => ?_)
        · refine st_iconst O dX6_who_33 am_iconst_0 (q := 34) rfl ?_
          refine st_istoren O dX6_who_34 rfl (q := 35) rfl ?_
          refine st_iloadn O dX6_who_35 rfl (q := 36) rfl ?_
          refine st_if_ne O dX6_who_36 (t := 43) rfl (q := 39) rfl (fun c36 => ?_) (fun c36 => ?_)
          · exact absurd c36 (by decide)
          refine st_iconst O dX6_who_39 am_iconst_5 (q := 40) rfl ?_
          refine st_goto O dX6_who_40 (t := 45) rfl ?_
          refine st_istore O dX6_who_45 rfl (q := 47) rfl ?_
          refine st_iconst O dX6_who_47 am_iconst_0 (q := 48) rfl ?_
          refine st_istore O dX6_who_48 rfl (q := 50) rfl ?_
          exact loop 5 (Or.inl ⟨rfl, rfl⟩) (by unfold f_who; rw [hx]; rfl) 6 0 _ _ _ _ _ _ _ _ _ _ _ _ hr hF rfl (by decide)
        exact absurd c18 (by decide)
      exact absurd c8 (by decide)
    · by_cases h1 : b = 1
      · subst h1
        refine am_begin rfl ?_
        refine st_aloadn O dX6_who_0 rfl (q := 1) rfl ?_
        refine st_getr O dX6_who_1 fl_X6_10 rfl rfl rfl (q := 4) rfl ?_
        refine st_iloadn O dX6_who_4 rfl (q := 5) rfl ?_
        refine st_call O dX6_who_5 cs_X6_who_5 (q := 8) rfl (am_sipq rfl rfl rfl (Nat.le_of_ble_eq_true rfl) rfl (r := 1) ⟨_, gN σ, _, hn9, rfl, rfl, Or.inl ⟨⟨j, hj9, rfl⟩, rfl⟩⟩ ?_)
        refine st_if_ne O dX6_who_8 (t := 17) rfl (q := 11) rfl (fun c8 => ?_) (fun c8 => ?_)
        · refine st_iloadn O dX6_who_17 rfl (q := 18) rfl ?_
          refine st_if_eq O dX6_who_18 (t := 33) rfl (q := 21) rfl (fun c18 => ?_) (fun c18 => ?_)
          · exact absurd c18 (by decide)
          refine st_iloadn O dX6_who_21 rfl (q := 22) rfl ?_
          refine st_iconst O dX6_who_22 am_iconst_1 (q := 23) rfl ?_
          refine st_icmp_eq O dX6_who_23 (t := 33) rfl (q := 26) rfl (fun c23 => ?_) (fun c23 => ?_)
          · refine st_iconst O dX6_who_33 am_iconst_0 (q := 34) rfl ?_
            refine st_istoren O dX6_who_34 rfl (q := 35) rfl ?_
            refine st_iloadn O dX6_who_35 rfl (q := 36) rfl ?_
            refine st_if_ne O dX6_who_36 (t := 43) rfl (q := 39) rfl (fun c36 => ?_) (fun c36 => ?_)
            · refine st_bipush O dX6_who_43 am_bipush_9 (q := 45) rfl ?_
              refine st_istore O dX6_who_45 rfl (q := 47) rfl ?_
              refine st_iconst O dX6_who_47 am_iconst_0 (q := 48) rfl ?_
              refine st_istore O dX6_who_48 rfl (q := 50) rfl ?_
              exact loop 9 (Or.inr ⟨rfl, rfl⟩) (by unfold f_who; rw [hx]; rfl) 10 0 _ _ _ _ _ _ _ _ _ _ _ _ hr hF rfl (by decide)
            exact absurd c36 (by decide)
          exact absurd c23 (by decide)
        exact absurd c8 (by decide)
      · refine am_begin rfl ?_
        refine st_aloadn O dX6_who_0 rfl (q := 1) rfl ?_
        refine st_getr O dX6_who_1 fl_X6_10 rfl rfl rfl (q := 4) rfl ?_
        refine st_iloadn O dX6_who_4 rfl (q := 5) rfl ?_
        refine st_call O dX6_who_5 cs_X6_who_5 (q := 8) rfl (am_sipq rfl rfl rfl (Nat.le_of_ble_eq_true rfl) rfl (r := 1) ⟨_, gN σ, _, hn9, rfl, rfl, Or.inl ⟨⟨j, hj9, rfl⟩, rfl⟩⟩ ?_)
        refine st_if_ne O dX6_who_8 (t := 17) rfl (q := 11) rfl (fun c8 => ?_) (fun c8 => ?_)
        · refine st_iloadn O dX6_who_17 rfl (q := 18) rfl ?_
          refine st_if_eq O dX6_who_18 (t := 33) rfl (q := 21) rfl (fun c18 => ?_) (fun c18 => ?_)
          · exact absurd c18 h0
          refine st_iloadn O dX6_who_21 rfl (q := 22) rfl ?_
          refine st_iconst O dX6_who_22 am_iconst_1 (q := 23) rfl ?_
          refine st_icmp_eq O dX6_who_23 (t := 33) rfl (q := 26) rfl (fun c23 => ?_) (fun c23 => ?_)
          · exact absurd c23 h1
          refine st_aloadn O dX6_who_26 rfl (q := 27) rfl ?_
          refine st_bipush O dX6_who_27 am_bipush_m2 (q := 29) rfl ?_
          refine st_call O dX6_who_29 cs_X6_who_29 (q := 32) rfl (am_siq rfl rfl rfl (Nat.le_of_ble_eq_true rfl) rfl ?_)
          refine ⟨_, _, 2, by decide, by decide, rfl, rfl, ?_⟩
          refine am_nrq rfl rfl ?_
          rw [show f_who (nI j) b σ = rfs 2 σ from by unfold f_who; rw [hx]; exact if_neg (fun z => z.elim h0 h1)] at hK
          exact st_ireturn O dX6_who_32 (hK _ ⟨_, _, _, _, _, _, _, _, _, _, _, _, _, _, _, _, _, _, _, rfl, hn, hu, hr, hF⟩)
        exact absurd c8 (by decide)
theorem C_X6_who : am_ctr yX6_who cX6_who 6 (some .int) 5 113 sh_VU [some 0, none, none] T_X6_who := am_mk (by decide) (Or.inr (Or.inl ⟨rfl, rfl⟩)) (by decide) (by decide) (by decide) fl_X6_ok kc_X6_ok ck_X6_who B_X6_who
/-- the road, the letters -/
def V_Z (o : Int32) (σ : Sg) (D : am_D) : Prop := ∃ n0 n1 n2 n3 n4 n5 t0 t1, D = [.inl [o, nI σ.2.2.2.1.length], n0, n1, n2, n3, n4, n5, t0, t1, .inr σ.2.2.2.2] ∧ rS σ.1 [n0, n1, n2, n3, n4, n5] ∧ tX σ.2.2.1 [t0, t1]
theorem ct_val {w : Int32} (h : ¬ w ≤ nI 10) (h2' : ¬ nI 16 < w) : ∃ k, w = nI k ∧ 11 ≤ k ∧ k ≤ 16 := by
  obtain ⟨k, hk, rfl⟩ := (le_iff 16 (by decide)).mp ⟨Int32.le_trans (show (0 : Int32) ≤ nI 10 by decide) (Int32.le_of_lt (Int32.not_le.mp h)), Int32.not_lt.mp h2'⟩
  exact ⟨k, rfl, Nat.lt_of_not_le (fun z => h ((nI_leI (by omega) (by decide)).mpr z)), hk⟩
theorem ct_rest {w : Int32} {σ : Sg} (h0 : ¬ w = 0) (h1 : ¬ w = 1) (h2 : ¬ w = 2) (h3 : ¬ w = 3) (h4 : ¬ w = 4) (h5 : ¬ w = 5) (h6 : ¬ w = 6) (h7 : ¬ w = 7) (h8 : ¬ w = 8) : f_count w σ = if 11 ≤ w ∧ w ≤ 16 then (σ.2.2.2.2 (w.toNatClampNeg - 10), σ) else (-9, σ) := (if_neg h0).trans ((if_neg h1).trans ((if_neg h2).trans ((if_neg h3).trans ((if_neg h4).trans ((if_neg h5).trans ((if_neg h6).trans ((if_neg h7).trans (if_neg h8))))))))
def cs_X6_count : Nat → List am_V → am_D → am_K → Prop := am_cs [(65, am_site 2 [some 0, none] T_X4_standing [1, 2, 3, 4, 5, 6] [1, 2, 3, 4, 5, 6]), (74, am_site 2 [some 0, none] T_X4_standing [1, 2, 3, 4, 5, 6] [1, 2, 3, 4, 5, 6]), (98, am_site 1 [some 0] T_X4_allHurry [1, 2, 3, 4, 5, 6] [1, 2, 3, 4, 5, 6]), (106, am_site 1 [some 0] T_X4_secondsAlone [1, 2, 3, 4, 5, 6] [1, 2, 3, 4, 5, 6])]
theorem cs_X6_count_65 : cs_X6_count 65 = am_site 2 [some 0, none] T_X4_standing [1, 2, 3, 4, 5, 6] [1, 2, 3, 4, 5, 6] := rfl
theorem cs_X6_count_74 : cs_X6_count 74 = am_site 2 [some 0, none] T_X4_standing [1, 2, 3, 4, 5, 6] [1, 2, 3, 4, 5, 6] := rfl
theorem cs_X6_count_98 : cs_X6_count 98 = am_site 1 [some 0] T_X4_allHurry [1, 2, 3, 4, 5, 6] [1, 2, 3, 4, 5, 6] := rfl
theorem cs_X6_count_106 : cs_X6_count 106 = am_site 1 [some 0] T_X4_secondsAlone [1, 2, 3, 4, 5, 6] [1, 2, 3, 4, 5, 6] := rfl
theorem ck_X6_count : ∀ X : am_X, am_cx X RX6 cX6_count 2 2 42 → ∀ pc, am_csok X 2 sh_VZ pc (cs_X6_count pc) := fun X hX => am_cs_ok (List.forall_mem_cons.mpr ⟨am_callV hX C_X4_standing mo_X4_standing rfl lk_X6_161 dX6_count_65 rfl rfl rfl (by decide), List.forall_mem_cons.mpr ⟨am_callV hX C_X4_standing mo_X4_standing rfl lk_X6_161 dX6_count_74 rfl rfl rfl (by decide), List.forall_mem_cons.mpr ⟨am_callV hX C_X4_allHurry mo_X4_allHurry rfl lk_X6_235 dX6_count_98 rfl rfl rfl (by decide), List.forall_mem_cons.mpr ⟨am_callV hX C_X4_secondsAlone mo_X4_secondsAlone rfl lk_X6_238 dX6_count_106 rfl rfl rfl (by decide), fun _ h => absurd h List.not_mem_nil⟩⟩⟩⟩)
abbrev ok_X6_count (X : am_X) (K : List Int32 → am_D → Prop) : Prop := am_ok X RX6 cX6_count 2 sh_VZ fl_X6 kc_X6 none 1 cs_X6_count K
abbrev aw_X6_count (X : am_X) (pc : Nat) (ls : am_L) (st : List am_V) (D : am_D) : Prop := am_aw X 2 sh_VZ pc ls st D
abbrev T_X6_count : am_TT := am_v1f V_Z f_count
set_option maxHeartbeats 200000 in
theorem B_X6_count : ∀ (X : am_X) (is : List Int32) (D : am_D) (K : List Int32 → am_D → Prop), ok_X6_count X K → T_X6_count is D K → is.length = (List.filter Option.isNone ([some 0, none] : List (Option Nat))).length → D.length = sh_VZ.length → am_aw X 2 sh_VZ 0 (am_l0 2 [some 0, none] is) [] D := by
  intro X is D K O hT _ _
  obtain ⟨o, σ, a, ⟨n0, n1, n2, n3, n4, n5, t0, t1, rfl, hn, ht⟩, rfl, hK⟩ := hT
  obtain ⟨kk, ff, ll, hh, ii, e, hn9, hb2, hw9, hj, hp, hi⟩ := id hn
  cases e
  obtain ⟨f, e, hl, hf, hc⟩ := id ht
  cases e
  refine am_begin rfl ?_
  refine st_iloadn O dX6_count_0 rfl (q := 1) rfl ?_
  refine st_table O dX6_count_1 (os := [51, 59, 68, 77, 85, 93, 101, 109, 114]) rfl rfl ?_
  refine sw_consT (v := 0) (by decide) (t := 52) rfl (lo' := 1) rfl (fun c1_0 => ?_) (fun c1_0 => ?_)
  · refine st_aloadn O dX6_count_52 rfl (q := 53) rfl ?_
    refine st_getr O dX6_count_53 fl_X6_10 rfl rfl rfl (q := 56) rfl ?_
    refine st_geti O dX6_count_56 fl_X6_158 rfl rfl rfl rfl (q := 59) rfl ?_
    refine st_ireturn O dX6_count_59 ?_
    rw [show f_count a σ = (nI (gN σ), σ) from if_pos c1_0] at hK; exact hK _ ⟨_, _, _, _, _, _, _, _, rfl, hn, ht⟩
  refine sw_consT (v := 1) (by decide) (t := 60) rfl (lo' := 2) rfl (fun c1_1 => ?_) (fun c1_1 => ?_)
  · refine st_aloadn O dX6_count_60 rfl (q := 61) rfl ?_
    refine st_getr O dX6_count_61 fl_X6_10 rfl rfl rfl (q := 64) rfl ?_
    refine st_iconst O dX6_count_64 am_iconst_0 (q := 65) rfl ?_
    refine st_call O dX6_count_65 cs_X6_count_65 (q := 68) rfl (am_sipq rfl rfl rfl (Nat.le_of_ble_eq_true rfl) rfl (r := nI ((gq σ).filter (fun c => gl σ c = 0)).length) ⟨_, _, _, _, _, _, _, _, 0, hn, by decide, rfl, rfl⟩ ?_)
    refine st_ireturn O dX6_count_68 ?_
    rw [show f_count a σ = (nI ((gq σ).filter (fun c => gl σ c = 0)).length, σ) from (if_neg c1_0).trans (if_pos c1_1)] at hK; exact hK _ ⟨_, _, _, _, _, _, _, _, rfl, hn, ht⟩
  refine sw_consT (v := 2) (by decide) (t := 69) rfl (lo' := 3) rfl (fun c1_2 => ?_) (fun c1_2 => ?_)
  · refine st_aloadn O dX6_count_69 rfl (q := 70) rfl ?_
    refine st_getr O dX6_count_70 fl_X6_10 rfl rfl rfl (q := 73) rfl ?_
    refine st_iconst O dX6_count_73 am_iconst_1 (q := 74) rfl ?_
    refine st_call O dX6_count_74 cs_X6_count_74 (q := 77) rfl (am_sipq rfl rfl rfl (Nat.le_of_ble_eq_true rfl) rfl (r := nI ((gq σ).filter (fun c => gl σ c = 1)).length) ⟨_, _, _, _, _, _, _, _, 1, hn, by decide, rfl, rfl⟩ ?_)
    refine st_ireturn O dX6_count_77 ?_
    rw [show f_count a σ = (nI ((gq σ).filter (fun c => gl σ c = 1)).length, σ) from (if_neg c1_0).trans ((if_neg c1_1).trans (if_pos c1_2))] at hK; exact hK _ ⟨_, _, _, _, _, _, _, _, rfl, hn, ht⟩
  refine sw_consT (v := 3) (by decide) (t := 78) rfl (lo' := 4) rfl (fun c1_3 => ?_) (fun c1_3 => ?_)
  · refine st_aloadn O dX6_count_78 rfl (q := 79) rfl ?_
    refine st_getr O dX6_count_79 fl_X6_10 rfl rfl rfl (q := 82) rfl ?_
    refine st_geti O dX6_count_82 fl_X6_116 rfl rfl rfl rfl (q := 85) rfl ?_
    refine st_ireturn O dX6_count_85 ?_
    rw [show f_count a σ = (nI (gb σ), σ) from (if_neg c1_0).trans ((if_neg c1_1).trans ((if_neg c1_2).trans (if_pos c1_3)))] at hK; exact hK _ ⟨_, _, _, _, _, _, _, _, rfl, hn, ht⟩
  refine sw_consT (v := 4) (by decide) (t := 86) rfl (lo' := 5) rfl (fun c1_4 => ?_) (fun c1_4 => ?_)
  · refine st_aloadn O dX6_count_86 rfl (q := 87) rfl ?_
    refine st_getr O dX6_count_87 fl_X6_10 rfl rfl rfl (q := 90) rfl ?_
    refine st_geti O dX6_count_90 fl_X6_119 rfl rfl rfl rfl (q := 93) rfl ?_
    refine st_ireturn O dX6_count_93 ?_
    rw [show f_count a σ = (nI (gw σ), σ) from (if_neg c1_0).trans ((if_neg c1_1).trans ((if_neg c1_2).trans ((if_neg c1_3).trans (if_pos c1_4))))] at hK; exact hK _ ⟨_, _, _, _, _, _, _, _, rfl, hn, ht⟩
  refine sw_consT (v := 5) (by decide) (t := 94) rfl (lo' := 6) rfl (fun c1_5 => ?_) (fun c1_5 => ?_)
  · refine st_aloadn O dX6_count_94 rfl (q := 95) rfl ?_
    refine st_getr O dX6_count_95 fl_X6_10 rfl rfl rfl (q := 98) rfl ?_
    refine st_call O dX6_count_98 cs_X6_count_98 (q := 101) rfl (am_sipq rfl rfl rfl (Nat.le_of_ble_eq_true rfl) rfl (r := nI (sm (gh σ) (gN σ))) ⟨_, _, _, _, _, _, _, _, hn, rfl, rfl⟩ ?_)
    refine st_ireturn O dX6_count_101 ?_
    rw [show f_count a σ = (nI (sm (gh σ) (gN σ)), σ) from (if_neg c1_0).trans ((if_neg c1_1).trans ((if_neg c1_2).trans ((if_neg c1_3).trans ((if_neg c1_4).trans (if_pos c1_5)))))] at hK; exact hK _ ⟨_, _, _, _, _, _, _, _, rfl, hn, ht⟩
  refine sw_consT (v := 6) (by decide) (t := 102) rfl (lo' := 7) rfl (fun c1_6 => ?_) (fun c1_6 => ?_)
  · refine st_aloadn O dX6_count_102 rfl (q := 103) rfl ?_
    refine st_getr O dX6_count_103 fl_X6_10 rfl rfl rfl (q := 106) rfl ?_
    refine st_call O dX6_count_106 cs_X6_count_106 (q := 109) rfl (am_sipq rfl rfl rfl (Nat.le_of_ble_eq_true rfl) rfl (r := nI (sm (fun c => sc (gk σ c)) (gN σ))) ⟨_, _, _, _, _, _, _, _, hn, rfl, rfl⟩ ?_)
    refine st_ireturn O dX6_count_109 ?_
    rw [show f_count a σ = (nI (sm (fun c => sc (gk σ c)) (gN σ)), σ) from (if_neg c1_0).trans ((if_neg c1_1).trans ((if_neg c1_2).trans ((if_neg c1_3).trans ((if_neg c1_4).trans ((if_neg c1_5).trans (if_pos c1_6))))))] at hK; exact hK _ ⟨_, _, _, _, _, _, _, _, rfl, hn, ht⟩
  refine sw_consT (v := 7) (by decide) (t := 110) rfl (lo' := 8) rfl (fun c1_7 => ?_) (fun c1_7 => ?_)
  · refine st_aloadn O dX6_count_110 rfl (q := 111) rfl ?_
    refine st_geti O dX6_count_111 fl_X6_34 rfl rfl rfl rfl (q := 114) rfl ?_
    refine st_ireturn O dX6_count_114 ?_
    rw [show f_count a σ = (nI σ.2.2.2.1.length, σ) from (if_neg c1_0).trans ((if_neg c1_1).trans ((if_neg c1_2).trans ((if_neg c1_3).trans ((if_neg c1_4).trans ((if_neg c1_5).trans ((if_neg c1_6).trans (if_pos c1_7)))))))] at hK; exact hK _ ⟨_, _, _, _, _, _, _, _, rfl, hn, ht⟩
  refine sw_consT (v := 8) (by decide) (t := 115) rfl (lo' := 9) rfl (fun c1_8 => ?_) (fun c1_8 => ?_)
  · refine st_aloadn O dX6_count_115 rfl (q := 116) rfl ?_
    refine st_getr O dX6_count_116 fl_X6_26 rfl rfl rfl (q := 119) rfl ?_
    refine st_geti O dX6_count_119 fl_X6_241 rfl rfl rfl rfl (q := 122) rfl ?_
    refine st_ireturn O dX6_count_122 ?_
    rw [show f_count a σ = (nI σ.2.2.1.length, σ) from (if_neg c1_0).trans ((if_neg c1_1).trans ((if_neg c1_2).trans ((if_neg c1_3).trans ((if_neg c1_4).trans ((if_neg c1_5).trans ((if_neg c1_6).trans ((if_neg c1_7).trans (if_pos c1_8))))))))] at hK; exact hK _ ⟨_, _, _, _, _, _, _, _, rfl, hn, ht⟩
  refine sw_nilT (t := 123) rfl ?_
  refine st_iloadn O dX6_count_123 rfl (q := 124) rfl ?_
  refine st_bipush O dX6_count_124 am_bipush_10 (q := 126) rfl ?_
  refine st_icmp_le O dX6_count_126 (t := 147) rfl (q := 129) rfl (fun c126 => ?_) (fun c126 => ?_)
  · refine st_bipush O dX6_count_147 am_bipush_m9 (q := 149) rfl ?_
    refine st_ireturn O dX6_count_149 ?_
    rw [ct_rest c1_0 c1_1 c1_2 c1_3 c1_4 c1_5 c1_6 c1_7 c1_8] at hK
    first | (rw [if_neg (fun z => absurd (Int32.le_trans z.1 c126) (by decide))] at hK; exact hK _ ⟨_, _, _, _, _, _, _, _, rfl, hn, ht⟩) | (rw [if_neg (fun z => Int32.not_lt.mpr z.2 c132)] at hK; exact hK _ ⟨_, _, _, _, _, _, _, _, rfl, hn, ht⟩) | (rw [if_pos ⟨(nI_leI (a := 11) (by decide) (by omega)).mpr hk1, (nI_leI (b := 16) (by omega) (by decide)).mpr hk2⟩, nI_clamp (by omega)] at hK; exact hK _ ⟨_, _, _, _, _, _, _, _, rfl, hn, ht⟩)
  refine st_iloadn O dX6_count_129 rfl (q := 130) rfl ?_
  refine st_bipush O dX6_count_130 am_bipush_16 (q := 132) rfl ?_
  refine st_icmp_gt O dX6_count_132 (t := 147) rfl (q := 135) rfl (fun c132 => ?_) (fun c132 => ?_)
  · refine st_bipush O dX6_count_147 am_bipush_m9 (q := 149) rfl ?_
    refine st_ireturn O dX6_count_149 ?_
    rw [ct_rest c1_0 c1_1 c1_2 c1_3 c1_4 c1_5 c1_6 c1_7 c1_8] at hK
    first | (rw [if_neg (fun z => absurd (Int32.le_trans z.1 c126) (by decide))] at hK; exact hK _ ⟨_, _, _, _, _, _, _, _, rfl, hn, ht⟩) | (rw [if_neg (fun z => Int32.not_lt.mpr z.2 c132)] at hK; exact hK _ ⟨_, _, _, _, _, _, _, _, rfl, hn, ht⟩) | (rw [if_pos ⟨(nI_leI (a := 11) (by decide) (by omega)).mpr hk1, (nI_leI (b := 16) (by omega) (by decide)).mpr hk2⟩, nI_clamp (by omega)] at hK; exact hK _ ⟨_, _, _, _, _, _, _, _, rfl, hn, ht⟩)
  refine st_aloadn O dX6_count_135 rfl (q := 136) rfl ?_
  refine st_getr O dX6_count_136 fl_X6_38 rfl rfl rfl (q := 139) rfl ?_
  refine st_iloadn O dX6_count_139 rfl (q := 140) rfl ?_
  refine st_bipush O dX6_count_140 am_bipush_10 (q := 142) rfl ?_
  obtain ⟨k, rfl, hk1, hk2⟩ := ct_val c126 c132
  refine st_isub O dX6_count_142 (pk_sub (by omega)) (q := 143) rfl ?_
  refine sn_ald O dX6_count_143 rfl rfl rfl ⟨by omega, by decide⟩ rfl (q := 144) rfl ?_
  refine st_goto O dX6_count_144 (t := 149) rfl ?_
  refine st_ireturn O dX6_count_149 ?_
  rw [ct_rest c1_0 c1_1 c1_2 c1_3 c1_4 c1_5 c1_6 c1_7 c1_8] at hK
  first | (rw [if_neg (fun z => absurd (Int32.le_trans z.1 c126) (by decide))] at hK; exact hK _ ⟨_, _, _, _, _, _, _, _, rfl, hn, ht⟩) | (rw [if_neg (fun z => Int32.not_lt.mpr z.2 c132)] at hK; exact hK _ ⟨_, _, _, _, _, _, _, _, rfl, hn, ht⟩) | (rw [if_pos ⟨(nI_leI (a := 11) (by decide) (by omega)).mpr hk1, (nI_leI (b := 16) (by omega) (by decide)).mpr hk2⟩, nI_clamp (by omega)] at hK; exact hK _ ⟨_, _, _, _, _, _, _, _, rfl, hn, ht⟩)
theorem C_X6_count : am_ctr yX6_count cX6_count 2 (some .int) 2 42 sh_VZ [some 0, none] T_X6_count := am_mk (by decide) (Or.inr (Or.inl ⟨rfl, rfl⟩)) (by decide) (by decide) (by decide) fl_X6_ok kc_X6_ok ck_X6_count B_X6_count
