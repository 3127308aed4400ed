/-! all statements told -/
def tla (ls : List Nat) : Nat → Nat → Nat → RS → Nat ⊕ (Nat × RS)
  | 0, _, k, x => .inr (k, x)
  | f + 1, s, k, x => if s < ls.length then (match tl1 ls s x with
    | none => .inl s
    | some y => tla ls f (s + slN (ls.getD s 0)) (k + 1) y) else .inr (k, x)
/-- what a road told answers, and the road behind it -/
def rdR (ls : List Nat) (x : RS) : Int32 × RS := match ffl ls with
  | some p => (-1000 - nI p, x)
  | none => (match tla ls ls.length 0 0 x with
    | .inl s => (-2000 - nI s, x)
    | .inr q => (nI q.1, q.2))
theorem tla_s {ls : List Nat} {f s k : Nat} {x : RS} : tla ls (f + 1) s k x = if s < ls.length then (match tl1 ls s x with
    | none => .inl s
    | some y => tla ls f (s + slN (ls.getD s 0)) (k + 1) y) else .inr (k, x) := by rw [tla]
theorem tla_end {ls : List Nat} {f s k : Nat} {x : RS} (h : ls.length ≤ s) : tla ls f s k x = .inr (k, x) := by
  cases f with
  | zero => rfl
  | succ f => unfold tla; rw [if_neg (by omega)]
theorem scF_le {ls : List Nat} : ∀ (f s p q : Nat), p + f ≤ ls.length → scF ls f s p = some q → q ≤ ls.length
  | 0, s, p, q, h1, h => by
    unfold scF at h
    split at h
    · cases h
    · cases h; exact Nat.le_refl _
  | f + 1, s, p, q, h1, h => by
    unfold scF at h
    split at h
    · exact scF_le f _ (p + 1) q (by omega) h
    · cases h; omega
theorem am_oN {ls : List Nat} {p : Nat} (hl : ls.length < 2 ^ 31) (h : ffl ls = some p) : p < 2 ^ 31 := Nat.lt_of_le_of_lt (scF_le ls.length 0 0 p (by omega) h) hl
def cs_X5_tellTo : Nat → List am_V → am_D → am_K → Prop := am_cs [(1, am_site 1 [some 0] T_X5_formFault [0, 1] [0, 1]), (17, am_site 2 [some 0, some 6] T_X4_copyFrom [8, 9, 10, 11, 12, 13, 2, 3, 4, 5, 6, 7] [8, 9, 10, 11, 12, 13, 2, 3, 4, 5, 6, 7]), (49, am_site 3 [some 0, none, some 2] T_X5_tellStatement [0, 1, 8, 9, 10, 11, 12, 13] [0, 1, 8, 9, 10, 11, 12, 13]), (74, am_site 1 [none] T_X5_lengthOf [] []), (88, am_site 2 [some 0, some 6] T_X4_copyFrom [2, 3, 4, 5, 6, 7, 8, 9, 10, 11, 12, 13] [2, 3, 4, 5, 6, 7, 8, 9, 10, 11, 12, 13])]
theorem cs_X5_tellTo_1 : cs_X5_tellTo 1 = am_site 1 [some 0] T_X5_formFault [0, 1] [0, 1] := rfl
theorem cs_X5_tellTo_17 : cs_X5_tellTo 17 = am_site 2 [some 0, some 6] T_X4_copyFrom [8, 9, 10, 11, 12, 13, 2, 3, 4, 5, 6, 7] [8, 9, 10, 11, 12, 13, 2, 3, 4, 5, 6, 7] := rfl
theorem cs_X5_tellTo_49 : cs_X5_tellTo 49 = am_site 3 [some 0, none, some 2] T_X5_tellStatement [0, 1, 8, 9, 10, 11, 12, 13] [0, 1, 8, 9, 10, 11, 12, 13] := rfl
theorem cs_X5_tellTo_74 : cs_X5_tellTo 74 = am_site 1 [none] T_X5_lengthOf [] [] := rfl
theorem cs_X5_tellTo_88 : cs_X5_tellTo 88 = am_site 2 [some 0, some 6] T_X4_copyFrom [2, 3, 4, 5, 6, 7, 8, 9, 10, 11, 12, 13] [2, 3, 4, 5, 6, 7, 8, 9, 10, 11, 12, 13] := rfl
theorem ck_X5_tellTo : ∀ X : am_X, am_cx X RX5 cX5_tellTo 7 7 158 → ∀ pc, am_csok X 7 sh_TRR pc (cs_X5_tellTo pc) := fun X hX => am_cs_ok (List.forall_mem_cons.mpr ⟨am_callV hX C_X5_formFault mo_X5_formFault rfl lk_X5_23 dX5_tellTo_1 rfl rfl rfl (by decide), List.forall_mem_cons.mpr ⟨am_callV hX C_X4_copyFrom mo_X4_copyFrom rfl lk_X5_27 dX5_tellTo_17 rfl rfl rfl (by decide), List.forall_mem_cons.mpr ⟨am_callV hX C_X5_tellStatement mo_X5_tellStatement rfl lk_X5_33 dX5_tellTo_49 rfl rfl rfl (by decide), List.forall_mem_cons.mpr ⟨am_callS hX C_X5_lengthOf mo_X5_lengthOf rfl lk_X5_37 dX5_tellTo_74 rfl (by decide), List.forall_mem_cons.mpr ⟨am_callV hX C_X4_copyFrom mo_X4_copyFrom rfl lk_X5_27 dX5_tellTo_88 rfl rfl rfl (by decide), fun _ h => absurd h List.not_mem_nil⟩⟩⟩⟩⟩)
abbrev ok_X5_tellTo (X : am_X) (K : List Int32 → am_D → Prop) : Prop := am_ok X RX5 cX5_tellTo 7 sh_TRR fl_X5 kc_X5 none 1 cs_X5_tellTo K
abbrev aw_X5_tellTo (X : am_X) (pc : Nat) (ls : am_L) (st : List am_V) (D : am_D) : Prop := am_aw X 7 sh_TRR pc ls st D
abbrev T_X5_tellTo : am_TT := fun is D K => ∃ ls x d1 d2 d3, is = [] ∧ D = d1 ++ (d2 ++ d3) ∧ tX ls d1 ∧ rS x d2 ∧ rF d3 ∧ ∀ d2' d3', rS (rdR ls x).2 d2' → rF d3' → K [(rdR ls x).1] (d1 ++ (d2' ++ d3'))
theorem B_X5_tellTo : ∀ (X : am_X) (is : List Int32) (D : am_D) (K : List Int32 → am_D → Prop), ok_X5_tellTo X K → T_X5_tellTo is D K → is.length = (List.filter Option.isNone ([some 0, some 2, some 8] : List (Option Nat))).length → D.length = sh_TRR.length → am_aw X 7 sh_TRR 0 (am_l0 7 [some 0, some 2, some 8] is) [] D := by
  intro X is D K O hT _ _
  obtain ⟨ls, x, d1, d2, d3, rfl, rfl, ht, hR, h3, hK⟩ := hT
  obtain ⟨f, rfl, hl, hf, hc⟩ := id ht
  obtain ⟨k, fg, l, h, i, rfl, hn, hb, hw, hj, hp, hi⟩ := id hR
  obtain ⟨a0, b0, c0, k0, f0, l0, h0, i0, rfl⟩ := id h3
  unfold rdR at hK
  cases hff : ffl ls with
  | some p =>
    rw [hff] at hK
    refine am_begin rfl ?_
    refine st_aloadn O dX5_tellTo_0 rfl (q := 1) rfl ?_
    refine st_call O dX5_tellTo_1 cs_X5_tellTo_1 (q := 4) rfl (am_sip rfl rfl rfl (Nat.le_of_ble_eq_true rfl) rfl (r := nI p) ⟨ls, ht, rfl, by rw [hff]; rfl⟩ ?_)
    refine st_istoren O dX5_tellTo_4 rfl (q := 5) rfl ?_
    refine st_iloadn O dX5_tellTo_5 rfl (q := 6) rfl ?_
    refine sn_if_lt O dX5_tellTo_6 (t := 15) rfl (q := 9) rfl (am_oN (by omega) hff) (fun c6 => ?_) (fun c6 => ?_)
    · exact c6.elim
    refine st_sipush O dX5_tellTo_9 am_sipush_m1000 (q := 12) rfl ?_
    refine st_iloadn O dX5_tellTo_12 rfl (q := 13) rfl ?_
    refine st_isub O dX5_tellTo_13 rfl (q := 14) rfl ?_
    refine st_ireturn O dX5_tellTo_14 ?_
    exact hK _ _ hR h3
  | none =>
    rw [hff] at hK
    dsimp only at hK
    have loop : ∀ d m kk nx fu y (dd : am_D), ls.length - m = d → m ≤ nx → nx ≤ ls.length → kk ≤ nx → bnd ls nx → ls.length ≤ nx + fu → tla ls fu nx kk y = tla ls ls.length 0 0 x → rS y dd → am_aw X 7 sh_TRR 29 [some (.inr 0), some (.inr 2), some (.inr 8), some (.inl (-1)), some (.inl (nI kk)), some (.inl (nI nx)), some (.inl (nI m))] [] ([.inl [nI ls.length], .inr f, .inl [nI x.1, nI x.2.1, nI x.2.2.1], .inr k, .inr fg, .inr l, .inr h, .inr i] ++ dd) := by
      intro d
      induction d with
      | zero =>
        intro m kk nx fu y dd hd h1 h2 h2k h4 h5 hR1 hy
        obtain ⟨k1, f1, l1, h1', i1, rfl, -⟩ := id hy
        refine am_norm rfl rfl ?_
        rw [← hR1, tla_end (by omega)] at hK
        refine st_iload O dX5_tellTo_29 rfl (q := 31) rfl ?_
        refine st_aloadn O dX5_tellTo_31 rfl (q := 32) rfl ?_
        refine st_geti O dX5_tellTo_32 fl_X5_9 rfl rfl rfl rfl (q := 35) rfl ?_
        refine sn_icmp_ge O dX5_tellTo_35 (t := 86) rfl (q := 38) rfl (by omega) (by omega) (fun c35 => ?_) (fun c35 => ?_)
        · refine st_aloadn O dX5_tellTo_86 rfl (q := 87) rfl ?_
          refine st_aloadn O dX5_tellTo_87 rfl (q := 88) rfl ?_
          refine st_call O dX5_tellTo_88 cs_X5_tellTo_88 (q := 91) rfl (am_si rfl rfl rfl (Nat.le_of_ble_eq_true rfl) rfl ?_)
          refine ⟨y.1, y.2.1, y.2.2.1, y.2.2.2.1, y.2.2.2.2.1, y.2.2.2.2.2.1, y.2.2.2.2.2.2.1, y.2.2.2.2.2.2.2, _, _, rfl, (by exact rfl), hR.form, hy, fun d hd2 => ?_⟩
          have hK := hK d _ hd2 hy.form
          obtain ⟨k2, f2, l2, h2', i2, rfl, -⟩ := hd2
          refine am_norm rfl rfl ?_
          refine st_iload O dX5_tellTo_91 rfl (q := 93) rfl ?_
          refine st_ireturn O dX5_tellTo_93 ?_
          exact hK
        omega
      | succ d ih =>
        intro m kk nx fu y dd hd h1 h2 h2k h4 h5 hR1 hy
        obtain ⟨k1, f1, l1, h1', i1, rfl, -⟩ := id hy
        refine am_norm rfl rfl ?_
        by_cases e : m = nx
        · subst e
          have hm : m < ls.length := by omega
          obtain ⟨q1, q2, q3⟩ := bnd_go hm h4
          have q4 := slN_le (ls.getD m 0)
          have q5 := q1.1
          obtain ⟨fu', rfl⟩ : ∃ fu', fu = fu' + 1 := ⟨fu - 1, by omega⟩
          rw [tla_s, if_pos hm] at hR1
          cases ho : tl1 ls m y with
          | none =>
            rw [ho] at hR1
            rw [← hR1] at hK
            refine st_iload O dX5_tellTo_29 rfl (q := 31) rfl ?_
            refine st_aloadn O dX5_tellTo_31 rfl (q := 32) rfl ?_
            refine st_geti O dX5_tellTo_32 fl_X5_9 rfl rfl rfl rfl (q := 35) rfl ?_
            refine sn_icmp_ge O dX5_tellTo_35 (t := 86) rfl (q := 38) rfl (by omega) (by omega) (fun c35 => ?_) (fun c35 => ?_)
            · omega
            refine st_iload O dX5_tellTo_38 rfl (q := 40) rfl ?_
            refine st_iload O dX5_tellTo_40 rfl (q := 42) rfl ?_
            refine sn_icmp_ne O dX5_tellTo_42 (t := 80) rfl (q := 45) rfl (by omega) (by omega) (fun c42 => ?_) (fun c42 => ?_)
            · exact absurd rfl c42
            refine st_aloadn O dX5_tellTo_45 rfl (q := 46) rfl ?_
            refine st_iload O dX5_tellTo_46 rfl (q := 48) rfl ?_
            refine st_aloadn O dX5_tellTo_48 rfl (q := 49) rfl ?_
            refine st_call O dX5_tellTo_49 cs_X5_tellTo_49 (q := 52) rfl (am_si rfl rfl rfl (Nat.le_of_ble_eq_true rfl) rfl ?_)
            refine ⟨ls, m, y, [.inl [nI ls.length], .inr f], _, rfl, hm, (by exact rfl), ht, hy, q1, ?_⟩
            rw [ho]
            refine am_norm rfl rfl ?_
            refine st_if_ne O dX5_tellTo_52 (t := 62) rfl (q := 55) rfl (fun c52 => ?_) (fun c52 => ?_)
            · exact absurd c52 (by decide)
            refine st_sipush O dX5_tellTo_55 am_sipush_m2000 (q := 58) rfl ?_
            refine st_iload O dX5_tellTo_58 rfl (q := 60) rfl ?_
            refine st_isub O dX5_tellTo_60 rfl (q := 61) rfl ?_
            refine st_ireturn O dX5_tellTo_61 ?_
            exact hK _ _ hR hy.form
          | some z =>
            rw [ho] at hR1
            refine st_iload O dX5_tellTo_29 rfl (q := 31) rfl ?_
            refine st_aloadn O dX5_tellTo_31 rfl (q := 32) rfl ?_
            refine st_geti O dX5_tellTo_32 fl_X5_9 rfl rfl rfl rfl (q := 35) rfl ?_
            refine sn_icmp_ge O dX5_tellTo_35 (t := 86) rfl (q := 38) rfl (by omega) (by omega) (fun c35 => ?_) (fun c35 => ?_)
            · omega
            refine st_iload O dX5_tellTo_38 rfl (q := 40) rfl ?_
            refine st_iload O dX5_tellTo_40 rfl (q := 42) rfl ?_
            refine sn_icmp_ne O dX5_tellTo_42 (t := 80) rfl (q := 45) rfl (by omega) (by omega) (fun c42 => ?_) (fun c42 => ?_)
            · exact absurd rfl c42
            refine st_aloadn O dX5_tellTo_45 rfl (q := 46) rfl ?_
            refine st_iload O dX5_tellTo_46 rfl (q := 48) rfl ?_
            refine st_aloadn O dX5_tellTo_48 rfl (q := 49) rfl ?_
            refine st_call O dX5_tellTo_49 cs_X5_tellTo_49 (q := 52) rfl (am_si rfl rfl rfl (Nat.le_of_ble_eq_true rfl) rfl ?_)
            refine ⟨ls, m, y, [.inl [nI ls.length], .inr f], _, rfl, hm, (by exact rfl), ht, hy, q1, ?_⟩
            rw [ho]
            intro dz hz
            obtain ⟨k2, f2, l2, h2', i2, rfl, -⟩ := id hz
            refine am_norm rfl rfl ?_
            refine st_if_ne O dX5_tellTo_52 (t := 62) rfl (q := 55) rfl (fun c52 => ?_) (fun c52 => ?_)
            · refine st_iinc O dX5_tellTo_62 rfl (by first | exact am_ii1 _ | exact rfl) rfl (q := 65) rfl ?_
              refine st_iload O dX5_tellTo_65 rfl (q := 67) rfl ?_
              refine st_aloadn O dX5_tellTo_67 rfl (q := 68) rfl ?_
              refine st_getr O dX5_tellTo_68 fl_X5_15 rfl rfl rfl (q := 71) rfl ?_
              refine st_iload O dX5_tellTo_71 rfl (q := 73) rfl ?_
              refine sn_ald O dX5_tellTo_73 rfl rfl rfl ⟨by omega, by decide⟩ (hf m hm) (q := 74) rfl ?_
              refine st_callS O dX5_tellTo_74 cs_X5_tellTo_74 (q := 77) rfl (am_sip rfl rfl rfl (Nat.le_of_ble_eq_true rfl) rfl (r := nI (slN (ls.getD m 0))) ⟨_, tX_lt hc m, rfl, rfl⟩ ?_)
              refine st_iadd O dX5_tellTo_77 (by first | exact nI_add _ _ | exact rfl) (q := 78) rfl ?_
              refine st_istore O dX5_tellTo_78 rfl (q := 80) rfl ?_
              refine st_iinc O dX5_tellTo_80 rfl (by first | exact am_ii1 _ | exact rfl) rfl (q := 83) rfl ?_
              refine st_goto O dX5_tellTo_83 (t := 29) rfl ?_
              exact ih (m + 1) (kk + 1) (m + slN (ls.getD m 0)) fu' z _ (by omega) (by omega) q3 (by omega) q2 (by omega) hR1 hz
            exact absurd c52 (by decide)
        · refine st_iload O dX5_tellTo_29 rfl (q := 31) rfl ?_
          refine st_aloadn O dX5_tellTo_31 rfl (q := 32) rfl ?_
          refine st_geti O dX5_tellTo_32 fl_X5_9 rfl rfl rfl rfl (q := 35) rfl ?_
          refine sn_icmp_ge O dX5_tellTo_35 (t := 86) rfl (q := 38) rfl (by omega) (by omega) (fun c35 => ?_) (fun c35 => ?_)
          · omega
          refine st_iload O dX5_tellTo_38 rfl (q := 40) rfl ?_
          refine st_iload O dX5_tellTo_40 rfl (q := 42) rfl ?_
          refine sn_icmp_ne O dX5_tellTo_42 (t := 80) rfl (q := 45) rfl (by omega) (by omega) (fun c42 => ?_) (fun c42 => ?_)
          · refine st_iinc O dX5_tellTo_80 rfl (by first | exact am_ii1 _ | exact rfl) rfl (q := 83) rfl ?_
            refine st_goto O dX5_tellTo_83 (t := 29) rfl ?_
            exact ih (m + 1) kk nx fu y _ (by omega) (by omega) h2 h2k h4 h5 hR1 hy
          exact absurd c42 e
    refine am_begin rfl ?_
    refine st_aloadn O dX5_tellTo_0 rfl (q := 1) rfl ?_
    refine st_call O dX5_tellTo_1 cs_X5_tellTo_1 (q := 4) rfl (am_sip rfl rfl rfl (Nat.le_of_ble_eq_true rfl) rfl (r := -1) ⟨ls, ht, rfl, by rw [hff]; rfl⟩ ?_)
    refine st_istoren O dX5_tellTo_4 rfl (q := 5) rfl ?_
    refine st_iloadn O dX5_tellTo_5 rfl (q := 6) rfl ?_
    refine st_if_lt O dX5_tellTo_6 (t := 15) rfl (q := 9) rfl (fun c6 => ?_) (fun c6 => ?_)
    · refine st_aloadn O dX5_tellTo_15 rfl (q := 16) rfl ?_
      refine st_aloadn O dX5_tellTo_16 rfl (q := 17) rfl ?_
      refine st_call O dX5_tellTo_17 cs_X5_tellTo_17 (q := 20) rfl (am_si rfl rfl rfl (Nat.le_of_ble_eq_true rfl) rfl ?_)
      refine ⟨x.1, x.2.1, x.2.2.1, x.2.2.2.1, x.2.2.2.2.1, x.2.2.2.2.2.1, x.2.2.2.2.2.2.1, x.2.2.2.2.2.2.2, _, _, rfl, (by exact rfl), h3, hR, fun d hd => ?_⟩
      have hd' := id hd
      obtain ⟨k2, f2, l2, h2', i2, rfl, -⟩ := hd
      refine am_norm rfl rfl ?_
      refine st_iconst O dX5_tellTo_20 am_iconst_0 (q := 21) rfl ?_
      refine st_istore O dX5_tellTo_21 rfl (q := 23) rfl ?_
      refine st_iconst O dX5_tellTo_23 am_iconst_0 (q := 24) rfl ?_
      refine st_istore O dX5_tellTo_24 rfl (q := 26) rfl ?_
      refine st_iconst O dX5_tellTo_26 am_iconst_0 (q := 27) rfl ?_
      refine st_istore O dX5_tellTo_27 rfl (q := 29) rfl ?_
      exact loop ls.length 0 0 0 ls.length x _ (by omega) (by omega) (by omega) (by omega) (bnd_0 hff) (by omega) rfl hd'
    exact absurd c6 (by decide)
theorem C_X5_tellTo : am_ctr yX5_tellTo cX5_tellTo 7 (some .int) 7 158 sh_TRR [some 0, some 2, some 8] T_X5_tellTo := am_mk (by decide) (Or.inr (Or.inl ⟨rfl, rfl⟩)) (by decide) (by decide) (by decide) fl_X5_ok kc_X5_ok ck_X5_tellTo B_X5_tellTo
