/-! the reference reads its letters -/
abbrev sh_ML1 : am_S := [.inr (6, [.inl 0, .inr 2, .inr 3, .inr 4, .inr 5, .inr 6, .inl 1, .inl 2, .inl 3, .inr 1, .inl 4, .inr 7, .inl 5, .inr 8, .inr 9, .inl 6, .inr 10, .inr 11, .inr 12, .inl 7, .inr 13, .inr 14, .inr 15, .inl 8, .inl 9, .inl 10, .inl 11]), .inl 96]
abbrev sh_ML2 : am_S := [.inr (6, [.inl 0, .inr 3, .inr 4, .inr 5, .inr 6, .inr 7, .inl 1, .inl 2, .inl 3, .inr 1, .inl 4, .inr 2, .inl 5, .inr 8, .inr 9, .inl 6, .inr 10, .inr 11, .inr 12, .inl 7, .inr 13, .inr 14, .inr 15, .inl 8, .inl 9, .inl 10, .inl 11]), .inl 96, .inl 8]
abbrev sh_MV1 : am_S := [.inr (6, [.inl 0, .inr 2, .inr 3, .inr 4, .inr 5, .inr 6, .inl 1, .inl 2, .inl 3, .inr 7, .inl 4, .inr 1, .inl 5, .inr 8, .inr 9, .inl 6, .inr 10, .inr 11, .inr 12, .inl 7, .inr 13, .inr 14, .inr 15, .inl 8, .inl 9, .inl 10, .inl 11]), .inl 8]
def isD (ls : List Nat) (q : Nat) : Prop := q < ls.length ∧ 48 ≤ ls.getD q 0 ∧ ls.getD q 0 ≤ 57
def cs_X7_is : Nat → List am_V → am_D → am_K → Prop := am_cs []
theorem ck_X7_is : ∀ X : am_X, am_cx X RX7 cX7_is 2 0 0 → ∀ pc, am_csok X 2 sh_ML1 pc (cs_X7_is pc) := fun X hX => am_cs_ok (fun _ h => absurd h List.not_mem_nil)
abbrev ok_X7_is (X : am_X) (K : List Int32 → am_D → Prop) : Prop := am_ok X RX7 cX7_is 2 sh_ML1 fl_X7 kc_X7 none 2 cs_X7_is K
abbrev aw_X7_is (X : am_X) (pc : Nat) (ls : am_L) (st : List am_V) (D : am_D) : Prop := am_aw X 2 sh_ML1 pc ls st D
abbrev T_X7_is : am_TT := fun is D K => ∃ (ls : List Nat) (p s : Nat) (x0 x1 x2 x5 x6 x7 x8 x9 x10 x11 : Int32) (tA : Nat → Int32), D = [.inl [x0, x1, x2, nI ls.length, nI p, x5, x6, x7, x8, x9, x10, x11], .inr tA] ∧ mT ls tA ∧ p ≤ ls.length ∧ s < 256 ∧ is = [nI s] ∧ (p < ls.length → ls.getD p 0 = s → K [1] [.inl [x0, x1, x2, nI ls.length, nI (p + 1), x5, x6, x7, x8, x9, x10, x11], .inr tA]) ∧ (¬ (p < ls.length ∧ ls.getD p 0 = s) → K [0] [.inl [x0, x1, x2, nI ls.length, nI p, x5, x6, x7, x8, x9, x10, x11], .inr tA])
set_option maxHeartbeats 200000 in
theorem B_X7_is : ∀ (X : am_X) (is : List Int32) (D : am_D) (K : List Int32 → am_D → Prop), ok_X7_is X K → T_X7_is is D K → is.length = (List.filter Option.isNone ([some 0, none] : List (Option Nat))).length → D.length = sh_ML1.length → am_aw X 2 sh_ML1 0 (am_l0 2 [some 0, none] is) [] D := by
  intro X is D K O hT _ _
  obtain ⟨ls, p, s, x0, x1, x2, x5, x6, x7, x8, x9, x10, x11, tA, rfl, ht, hp, hs, rfl, hA, hB⟩ := hT
  obtain ⟨t1, t2, t3⟩ := ht
  have h256 := tX_lt t3 p
  rcases Nat.lt_or_ge p ls.length with q | q
  · by_cases he : ls.getD p 0 = s
    · have hA := hA q he
      refine am_begin rfl ?_
      refine st_aloadn O dX7_is_0 rfl (q := 1) rfl ?_
      refine st_geti O dX7_is_1 fl_X7_73 rfl rfl rfl rfl (q := 4) rfl ?_
      refine st_aloadn O dX7_is_4 rfl (q := 5) rfl ?_
      refine st_geti O dX7_is_5 fl_X7_70 rfl rfl rfl rfl (q := 8) rfl ?_
      refine sn_icmp_eq O dX7_is_8 (t := 24) rfl (q := 11) rfl (by omega) (by omega) (fun c8 => ?_) (fun c8 => ?_)
      · omega
      refine st_aloadn O dX7_is_11 rfl (q := 12) rfl ?_
      refine st_getr O dX7_is_12 fl_X7_25 rfl rfl rfl (q := 15) rfl ?_
      refine st_aloadn O dX7_is_15 rfl (q := 16) rfl ?_
      refine st_geti O dX7_is_16 fl_X7_73 rfl rfl rfl rfl (q := 19) rfl ?_
      refine sn_ald O dX7_is_19 rfl rfl rfl ⟨by omega, by decide⟩ (t2 p q) (q := 20) rfl ?_
      refine st_iloadn O dX7_is_20 rfl (q := 21) rfl ?_
      refine sn_icmp_eq O dX7_is_21 (t := 26) rfl (q := 24) rfl (by omega) (by omega) (fun c21 => ?_) (fun c21 => ?_)
      · refine st_aloadn O dX7_is_26 rfl (q := 27) rfl ?_
        refine st_dup O dX7_is_27 (q := 28) rfl ?_
        refine st_geti O dX7_is_28 fl_X7_73 rfl rfl rfl rfl (q := 31) rfl ?_
        refine st_iconst O dX7_is_31 am_iconst_1 (q := 32) rfl ?_
        refine st_iadd O dX7_is_32 (by first | exact nI_add _ _ | exact rfl) (q := 33) rfl ?_
        refine st_puti O dX7_is_33 fl_X7_73 rfl rfl rfl rfl rfl (q := 36) rfl ?_
        refine st_iconst O dX7_is_36 am_iconst_1 (q := 37) rfl ?_
        refine st_zreturn O dX7_is_37 (by first | exact Or.inl rfl | exact Or.inr rfl | assumption) ?_
        exact hA
      omega
    · have hB := hB (fun z => he z.2)
      refine am_begin rfl ?_
      refine st_aloadn O dX7_is_0 rfl (q := 1) rfl ?_
      refine st_geti O dX7_is_1 fl_X7_73 rfl rfl rfl rfl (q := 4) rfl ?_
      refine st_aloadn O dX7_is_4 rfl (q := 5) rfl ?_
      refine st_geti O dX7_is_5 fl_X7_70 rfl rfl rfl rfl (q := 8) rfl ?_
      refine sn_icmp_eq O dX7_is_8 (t := 24) rfl (q := 11) rfl (by omega) (by omega) (fun c8 => ?_) (fun c8 => ?_)
      · omega
      refine st_aloadn O dX7_is_11 rfl (q := 12) rfl ?_
      refine st_getr O dX7_is_12 fl_X7_25 rfl rfl rfl (q := 15) rfl ?_
      refine st_aloadn O dX7_is_15 rfl (q := 16) rfl ?_
      refine st_geti O dX7_is_16 fl_X7_73 rfl rfl rfl rfl (q := 19) rfl ?_
      refine sn_ald O dX7_is_19 rfl rfl rfl ⟨by omega, by decide⟩ (t2 p q) (q := 20) rfl ?_
      refine st_iloadn O dX7_is_20 rfl (q := 21) rfl ?_
      refine sn_icmp_eq O dX7_is_21 (t := 26) rfl (q := 24) rfl (by omega) (by omega) (fun c21 => ?_) (fun c21 => ?_)
      · omega
      refine st_iconst O dX7_is_24 am_iconst_0 (q := 25) rfl ?_
      refine st_zreturn O dX7_is_25 (by first | exact Or.inl rfl | exact Or.inr rfl | assumption) ?_
      exact hB
  · have hB := hB (fun z => by omega)
    refine am_begin rfl ?_
    refine st_aloadn O dX7_is_0 rfl (q := 1) rfl ?_
    refine st_geti O dX7_is_1 fl_X7_73 rfl rfl rfl rfl (q := 4) rfl ?_
    refine st_aloadn O dX7_is_4 rfl (q := 5) rfl ?_
    refine st_geti O dX7_is_5 fl_X7_70 rfl rfl rfl rfl (q := 8) rfl ?_
    refine sn_icmp_eq O dX7_is_8 (t := 24) rfl (q := 11) rfl (by omega) (by omega) (fun c8 => ?_) (fun c8 => ?_)
    · refine st_iconst O dX7_is_24 am_iconst_0 (q := 25) rfl ?_
      refine st_zreturn O dX7_is_25 (by first | exact Or.inl rfl | exact Or.inr rfl | assumption) ?_
      exact hB
    omega
theorem C_X7_is : am_ctr yX7_is cX7_is 2 (some .boolean) 0 0 sh_ML1 [some 0, none] T_X7_is := am_mk (by decide) (Or.inr (Or.inr ⟨rfl, rfl⟩)) (by decide) (by decide) (by decide) fl_X7_ok kc_X7_ok ck_X7_is B_X7_is
def cs_X7_digits : Nat → List am_V → am_D → am_K → Prop := am_cs []
theorem ck_X7_digits : ∀ X : am_X, am_cx X RX7 cX7_digits 3 0 0 → ∀ pc, am_csok X 3 sh_ML2 pc (cs_X7_digits pc) := fun X hX => am_cs_ok (fun _ h => absurd h List.not_mem_nil)
abbrev ok_X7_digits (X : am_X) (K : List Int32 → am_D → Prop) : Prop := am_ok X RX7 cX7_digits 3 sh_ML2 fl_X7 kc_X7 none 2 cs_X7_digits K
abbrev aw_X7_digits (X : am_X) (pc : Nat) (ls : am_L) (st : List am_V) (D : am_D) : Prop := am_aw X 3 sh_ML2 pc ls st D
abbrev T_X7_digits : am_TT := fun is D K => ∃ (ls : List Nat) (p m : Nat) (x0 x1 x2 x5 x6 x7 x8 x9 x10 x11 : Int32) (tA vA : Nat → Int32), D = [.inl [x0, x1, x2, nI ls.length, nI p, x5, x6, x7, x8, x9, x10, x11], .inr tA, .inr vA] ∧ mT ls tA ∧ p ≤ ls.length ∧ m ≤ 4 ∧ is = [nI m] ∧ ((∀ i, i < m → isD ls (p + i)) → ∀ vA', (∀ i, i < m → vA' i = nI (ls.getD (p + i) 0 - 48)) → K [1] [.inl [x0, x1, x2, nI ls.length, nI (p + m), x5, x6, x7, x8, x9, x10, x11], .inr tA, .inr vA']) ∧ (∀ f, f < m → (∀ i, i < f → isD ls (p + i)) → ¬ isD ls (p + f) → p + f ≤ ls.length → ∀ vA', K [0] [.inl [x0, x1, x2, nI ls.length, nI (p + f), x5, x6, x7, x8, x9, x10, x11], .inr tA, .inr vA'])
set_option maxHeartbeats 200000 in
theorem B_X7_digits : ∀ (X : am_X) (is : List Int32) (D : am_D) (K : List Int32 → am_D → Prop), ok_X7_digits X K → T_X7_digits is D K → is.length = (List.filter Option.isNone ([some 0, none] : List (Option Nat))).length → D.length = sh_ML2.length → am_aw X 3 sh_ML2 0 (am_l0 3 [some 0, none] is) [] D := by
  intro X is D K O hT _ _
  obtain ⟨ls, p, m, x0, x1, x2, x5, x6, x7, x8, x9, x10, x11, tA, vA, rfl, ht, hp, hm, rfl, hA, hB⟩ := hT
  obtain ⟨t1, t2, t3⟩ := ht
  have loop : ∀ d i vB, m - i = d → i ≤ m → (∀ x, x < i → isD ls (p + x)) → p + i ≤ ls.length → (∀ x, x < i → vB x = nI (ls.getD (p + x) 0 - 48)) → am_aw X 3 sh_ML2 2 [some (.inr 0), some (.inl (nI m)), some (.inl (nI i))] [] [.inl [x0, x1, x2, nI ls.length, nI (p + i), x5, x6, x7, x8, x9, x10, x11], .inr tA, .inr vB] := by
    intro d
    induction d with
    | zero =>
      intro i vB hd hi hD hl hv
      have e : i = m := by omega
      subst e
      refine st_iloadn O dX7_digits_2 rfl (q := 3) rfl ?_
      refine st_iloadn O dX7_digits_3 rfl (q := 4) rfl ?_
      refine sn_icmp_ge O dX7_digits_4 (t := 79) rfl (q := 7) rfl (by omega) (by omega) (fun c4 => ?_) (fun c4 => ?_)
      · refine st_iconst O dX7_digits_79 am_iconst_1 (q := 80) rfl ?_
        refine st_zreturn O dX7_digits_80 (by first | exact Or.inl rfl | exact Or.inr rfl | assumption) ?_
        exact hA hD _ hv
      omega
    | succ d ih =>
      intro i vB hd hi hD hl hv
      have h256 := tX_lt t3 (p + i)
      have hB := hB i (by omega) hD
      rcases Nat.lt_or_ge (p + i) ls.length with q | q
      · have ht := t2 (p + i) q
        by_cases h1 : 48 ≤ ls.getD (p + i) 0
        · by_cases h2 : ls.getD (p + i) 0 ≤ 57
          · refine st_iloadn O dX7_digits_2 rfl (q := 3) rfl ?_
            refine st_iloadn O dX7_digits_3 rfl (q := 4) rfl ?_
            refine sn_icmp_ge O dX7_digits_4 (t := 79) rfl (q := 7) rfl (by omega) (by omega) (fun c4 => ?_) (fun c4 => ?_)
            · omega
            refine st_aloadn O dX7_digits_7 rfl (q := 8) rfl ?_
            refine st_geti O dX7_digits_8 fl_X7_73 rfl rfl rfl rfl (q := 11) rfl ?_
            refine st_aloadn O dX7_digits_11 rfl (q := 12) rfl ?_
            refine st_geti O dX7_digits_12 fl_X7_70 rfl rfl rfl rfl (q := 15) rfl ?_
            refine sn_icmp_eq O dX7_digits_15 (t := 46) rfl (q := 18) rfl (by omega) (by omega) (fun c15 => ?_) (fun c15 => ?_)
            · omega
            refine st_aloadn O dX7_digits_18 rfl (q := 19) rfl ?_
            refine st_getr O dX7_digits_19 fl_X7_25 rfl rfl rfl (q := 22) rfl ?_
            refine st_aloadn O dX7_digits_22 rfl (q := 23) rfl ?_
            refine st_geti O dX7_digits_23 fl_X7_73 rfl rfl rfl rfl (q := 26) rfl ?_
            refine sn_ald O dX7_digits_26 rfl rfl rfl ⟨by omega, by decide⟩ ht (q := 27) rfl ?_
            refine st_bipush O dX7_digits_27 am_bipush_48 (q := 29) rfl ?_
            refine sn_icmp_lt O dX7_digits_29 (t := 46) rfl (q := 32) rfl (by omega) (by omega) (fun c29 => ?_) (fun c29 => ?_)
            · omega
            refine st_aloadn O dX7_digits_32 rfl (q := 33) rfl ?_
            refine st_getr O dX7_digits_33 fl_X7_25 rfl rfl rfl (q := 36) rfl ?_
            refine st_aloadn O dX7_digits_36 rfl (q := 37) rfl ?_
            refine st_geti O dX7_digits_37 fl_X7_73 rfl rfl rfl rfl (q := 40) rfl ?_
            refine sn_ald O dX7_digits_40 rfl rfl rfl ⟨by omega, by decide⟩ ht (q := 41) rfl ?_
            refine st_bipush O dX7_digits_41 am_bipush_57 (q := 43) rfl ?_
            refine sn_icmp_le O dX7_digits_43 (t := 48) rfl (q := 46) rfl (by omega) (by omega) (fun c43 => ?_) (fun c43 => ?_)
            · refine st_aloadn O dX7_digits_48 rfl (q := 49) rfl ?_
              refine st_getr O dX7_digits_49 fl_X7_28 rfl rfl rfl (q := 52) rfl ?_
              refine st_iloadn O dX7_digits_52 rfl (q := 53) rfl ?_
              refine st_aloadn O dX7_digits_53 rfl (q := 54) rfl ?_
              refine st_getr O dX7_digits_54 fl_X7_25 rfl rfl rfl (q := 57) rfl ?_
              refine st_aloadn O dX7_digits_57 rfl (q := 58) rfl ?_
              refine st_dup O dX7_digits_58 (q := 59) rfl ?_
              refine st_geti O dX7_digits_59 fl_X7_73 rfl rfl rfl rfl (q := 62) rfl ?_
              refine st_dup_x1 O dX7_digits_62 (q := 63) rfl ?_
              refine st_iconst O dX7_digits_63 am_iconst_1 (q := 64) rfl ?_
              refine st_iadd O dX7_digits_64 (by first | exact nI_add _ _ | exact rfl) (q := 65) rfl ?_
              refine st_puti O dX7_digits_65 fl_X7_73 rfl rfl rfl rfl rfl (q := 68) rfl ?_
              refine sn_ald O dX7_digits_68 rfl rfl rfl ⟨by omega, by decide⟩ ht (q := 69) rfl ?_
              refine st_bipush O dX7_digits_69 am_bipush_48 (q := 71) rfl ?_
              refine st_isub O dX7_digits_71 (show nI (ls.getD (p + i) 0) - nI 48 = nI (ls.getD (p + i) 0 - 48) from pk_sub h1) (q := 72) rfl ?_
              refine sn_ast O dX7_digits_72 rfl rfl rfl ⟨by omega, by decide⟩ rfl rfl (q := 73) rfl ?_
              refine st_iinc O dX7_digits_73 rfl (by first | exact am_ii1 _ | exact rfl) rfl (q := 76) rfl ?_
              refine st_goto O dX7_digits_76 (t := 2) rfl ?_
              refine ih (i + 1) _ (by omega) (by omega) (fun x hx => ?_) (by omega) (fun x hx => ?_)
              · by_cases e : x = i
                · rw [e]; exact ⟨q, h1, h2⟩
                · exact hD x (by omega)
              · by_cases e : x = i
                · rw [e, pk_us]
                · rw [pk_un e]; exact hv x (by omega)
            omega
          · have hB := hB (fun z => h2 z.2.2) hl
            refine st_iloadn O dX7_digits_2 rfl (q := 3) rfl ?_
            refine st_iloadn O dX7_digits_3 rfl (q := 4) rfl ?_
            refine sn_icmp_ge O dX7_digits_4 (t := 79) rfl (q := 7) rfl (by omega) (by omega) (fun c4 => ?_) (fun c4 => ?_)
            · omega
            refine st_aloadn O dX7_digits_7 rfl (q := 8) rfl ?_
            refine st_geti O dX7_digits_8 fl_X7_73 rfl rfl rfl rfl (q := 11) rfl ?_
            refine st_aloadn O dX7_digits_11 rfl (q := 12) rfl ?_
            refine st_geti O dX7_digits_12 fl_X7_70 rfl rfl rfl rfl (q := 15) rfl ?_
            refine sn_icmp_eq O dX7_digits_15 (t := 46) rfl (q := 18) rfl (by omega) (by omega) (fun c15 => ?_) (fun c15 => ?_)
            · omega
            refine st_aloadn O dX7_digits_18 rfl (q := 19) rfl ?_
            refine st_getr O dX7_digits_19 fl_X7_25 rfl rfl rfl (q := 22) rfl ?_
            refine st_aloadn O dX7_digits_22 rfl (q := 23) rfl ?_
            refine st_geti O dX7_digits_23 fl_X7_73 rfl rfl rfl rfl (q := 26) rfl ?_
            refine sn_ald O dX7_digits_26 rfl rfl rfl ⟨by omega, by decide⟩ ht (q := 27) rfl ?_
            refine st_bipush O dX7_digits_27 am_bipush_48 (q := 29) rfl ?_
            refine sn_icmp_lt O dX7_digits_29 (t := 46) rfl (q := 32) rfl (by omega) (by omega) (fun c29 => ?_) (fun c29 => ?_)
            · omega
            refine st_aloadn O dX7_digits_32 rfl (q := 33) rfl ?_
            refine st_getr O dX7_digits_33 fl_X7_25 rfl rfl rfl (q := 36) rfl ?_
            refine st_aloadn O dX7_digits_36 rfl (q := 37) rfl ?_
            refine st_geti O dX7_digits_37 fl_X7_73 rfl rfl rfl rfl (q := 40) rfl ?_
            refine sn_ald O dX7_digits_40 rfl rfl rfl ⟨by omega, by decide⟩ ht (q := 41) rfl ?_
            refine st_bipush O dX7_digits_41 am_bipush_57 (q := 43) rfl ?_
            refine sn_icmp_le O dX7_digits_43 (t := 48) rfl (q := 46) rfl (by omega) (by omega) (fun c43 => ?_) (fun c43 => ?_)
            · omega
            refine st_iconst O dX7_digits_46 am_iconst_0 (q := 47) rfl ?_
            refine st_zreturn O dX7_digits_47 (by first | exact Or.inl rfl | exact Or.inr rfl | assumption) ?_
            exact hB _
        · have hB := hB (fun z => h1 z.2.1) hl
          refine st_iloadn O dX7_digits_2 rfl (q := 3) rfl ?_
          refine st_iloadn O dX7_digits_3 rfl (q := 4) rfl ?_
          refine sn_icmp_ge O dX7_digits_4 (t := 79) rfl (q := 7) rfl (by omega) (by omega) (fun c4 => ?_) (fun c4 => ?_)
          · omega
          refine st_aloadn O dX7_digits_7 rfl (q := 8) rfl ?_
          refine st_geti O dX7_digits_8 fl_X7_73 rfl rfl rfl rfl (q := 11) rfl ?_
          refine st_aloadn O dX7_digits_11 rfl (q := 12) rfl ?_
          refine st_geti O dX7_digits_12 fl_X7_70 rfl rfl rfl rfl (q := 15) rfl ?_
          refine sn_icmp_eq O dX7_digits_15 (t := 46) rfl (q := 18) rfl (by omega) (by omega) (fun c15 => ?_) (fun c15 => ?_)
          · omega
          refine st_aloadn O dX7_digits_18 rfl (q := 19) rfl ?_
          refine st_getr O dX7_digits_19 fl_X7_25 rfl rfl rfl (q := 22) rfl ?_
          refine st_aloadn O dX7_digits_22 rfl (q := 23) rfl ?_
          refine st_geti O dX7_digits_23 fl_X7_73 rfl rfl rfl rfl (q := 26) rfl ?_
          refine sn_ald O dX7_digits_26 rfl rfl rfl ⟨by omega, by decide⟩ ht (q := 27) rfl ?_
          refine st_bipush O dX7_digits_27 am_bipush_48 (q := 29) rfl ?_
          refine sn_icmp_lt O dX7_digits_29 (t := 46) rfl (q := 32) rfl (by omega) (by omega) (fun c29 => ?_) (fun c29 => ?_)
          · refine st_iconst O dX7_digits_46 am_iconst_0 (q := 47) rfl ?_
            refine st_zreturn O dX7_digits_47 (by first | exact Or.inl rfl | exact Or.inr rfl | assumption) ?_
            exact hB _
          omega
      · have hB := hB (fun z => by have := z.1; omega) hl
        refine st_iloadn O dX7_digits_2 rfl (q := 3) rfl ?_
        refine st_iloadn O dX7_digits_3 rfl (q := 4) rfl ?_
        refine sn_icmp_ge O dX7_digits_4 (t := 79) rfl (q := 7) rfl (by omega) (by omega) (fun c4 => ?_) (fun c4 => ?_)
        · omega
        refine st_aloadn O dX7_digits_7 rfl (q := 8) rfl ?_
        refine st_geti O dX7_digits_8 fl_X7_73 rfl rfl rfl rfl (q := 11) rfl ?_
        refine st_aloadn O dX7_digits_11 rfl (q := 12) rfl ?_
        refine st_geti O dX7_digits_12 fl_X7_70 rfl rfl rfl rfl (q := 15) rfl ?_
        refine sn_icmp_eq O dX7_digits_15 (t := 46) rfl (q := 18) rfl (by omega) (by omega) (fun c15 => ?_) (fun c15 => ?_)
        · refine st_iconst O dX7_digits_46 am_iconst_0 (q := 47) rfl ?_
          refine st_zreturn O dX7_digits_47 (by first | exact Or.inl rfl | exact Or.inr rfl | assumption) ?_
          exact hB _
        omega
  refine am_begin rfl ?_
  refine st_iconst O dX7_digits_0 am_iconst_0 (q := 1) rfl ?_
  refine st_istoren O dX7_digits_1 rfl (q := 2) rfl ?_
  exact loop m 0 _ rfl (Nat.zero_le _) (fun x hx => absurd hx (Nat.not_lt_zero x)) hp (fun x hx => absurd hx (Nat.not_lt_zero x))
theorem C_X7_digits : am_ctr yX7_digits cX7_digits 3 (some .boolean) 0 0 sh_ML2 [some 0, none] T_X7_digits := am_mk (by decide) (Or.inr (Or.inr ⟨rfl, rfl⟩)) (by decide) (by decide) (by decide) fl_X7_ok kc_X7_ok ck_X7_digits B_X7_digits
def cs_X7_two : Nat → List am_V → am_D → am_K → Prop := am_cs []
theorem ck_X7_two : ∀ X : am_X, am_cx X RX7 cX7_two 2 0 0 → ∀ pc, am_csok X 2 sh_MV1 pc (cs_X7_two pc) := fun X hX => am_cs_ok (fun _ h => absurd h List.not_mem_nil)
abbrev ok_X7_two (X : am_X) (K : List Int32 → am_D → Prop) : Prop := am_ok X RX7 cX7_two 2 sh_MV1 fl_X7 kc_X7 none 1 cs_X7_two K
abbrev aw_X7_two (X : am_X) (pc : Nat) (ls : am_L) (st : List am_V) (D : am_D) : Prop := am_aw X 2 sh_MV1 pc ls st D
abbrev T_X7_two : am_TT := am_pure (fun is D r => ∃ i a b xs vA, D = [.inl xs, .inr vA] ∧ i < 7 ∧ vA i = nI a ∧ vA (i + 1) = nI b ∧ is = [nI i] ∧ r = nI (10 * a + b))
set_option maxHeartbeats 200000 in
theorem B_X7_two : ∀ (X : am_X) (is : List Int32) (D : am_D) (K : List Int32 → am_D → Prop), ok_X7_two X K → T_X7_two is D K → is.length = (List.filter Option.isNone ([some 0, none] : List (Option Nat))).length → D.length = sh_MV1.length → am_aw X 2 sh_MV1 0 (am_l0 2 [some 0, none] is) [] D := by
  intro X is D K O hT _ _
  obtain ⟨r, ⟨i, a, b, xs, vA, rfl, hi, h1, h2, rfl, rfl⟩, hK⟩ := hT
  refine am_begin rfl ?_
  refine st_bipush O dX7_two_0 am_bipush_10 (q := 2) rfl ?_
  refine st_aloadn O dX7_two_2 rfl (q := 3) rfl ?_
  refine st_getr O dX7_two_3 fl_X7_28 rfl rfl rfl (q := 6) rfl ?_
  refine st_iloadn O dX7_two_6 rfl (q := 7) rfl ?_
  refine sn_ald O dX7_two_7 rfl rfl rfl ⟨by omega, by decide⟩ h1 (q := 8) rfl ?_
  refine st_imul O dX7_two_8 (pk_mul 10 a) (q := 9) rfl ?_
  refine st_aloadn O dX7_two_9 rfl (q := 10) rfl ?_
  refine st_getr O dX7_two_10 fl_X7_28 rfl rfl rfl (q := 13) rfl ?_
  refine st_iloadn O dX7_two_13 rfl (q := 14) rfl ?_
  refine st_iconst O dX7_two_14 am_iconst_1 (q := 15) rfl ?_
  refine st_iadd O dX7_two_15 (by first | exact nI_add _ _ | exact rfl) (q := 16) rfl ?_
  refine sn_ald O dX7_two_16 rfl rfl rfl ⟨by omega, by decide⟩ h2 (q := 17) rfl ?_
  refine st_iadd O dX7_two_17 (by first | exact nI_add _ _ | exact rfl) (q := 18) rfl ?_
  refine st_ireturn O dX7_two_18 ?_
  exact hK
theorem C_X7_two : am_ctr yX7_two cX7_two 2 (some .int) 0 0 sh_MV1 [some 0, none] T_X7_two := am_mk (by decide) (Or.inr (Or.inl ⟨rfl, rfl⟩)) (by decide) (by decide) (by decide) fl_X7_ok kc_X7_ok ck_X7_two B_X7_two
theorem scF_walk {ls : List Nat} {s : Nat} : ∀ (d p q : Nat), p + d = q → s ≤ p → q ≤ ls.length → (∀ i, p ≤ i → i < q → inF ls s i = true ∧ ¬ i + 1 = s + slN (ls.getD s 0)) → scF ls (ls.length - p) s p = scF ls (ls.length - q) s q
  | 0, p, q, h1, _, _, _ => by rw [show p = q by omega]
  | d + 1, p, q, h1, h2, h3, h4 => by
    obtain ⟨a1, a2⟩ := h4 p (Nat.le_refl p) (by omega)
    rw [show ls.length - p = (ls.length - (p + 1)) + 1 by omega]
    rw [scF, if_pos a1, if_neg a2]
    exact scF_walk d (p + 1) q (by omega) (by omega) h3 (fun i h5 h6 => h4 i (by omega) h6)
theorem scF_fail {ls : List Nat} {s q : Nat} (hs : s ≤ q) (hq : q ≤ ls.length) (h0 : s < q ∨ ls.length = 0 ∨ q < ls.length) (hpre : ∀ i, s ≤ i → i < q → inF ls s i = true ∧ ¬ i + 1 = s + slN (ls.getD s 0)) (hbad : q < ls.length → inF ls s q = false) : scF ls (ls.length - s) s s = some q := by
  rw [scF_walk (q - s) s q (by omega) (Nat.le_refl s) hq hpre]
  rcases Nat.lt_or_ge q ls.length with h | h
  · rw [show ls.length - q = (ls.length - (q + 1)) + 1 by omega, scF, if_neg (by rw [hbad h]; decide)]
  · have e : q = ls.length := by omega
    rw [e, Nat.sub_self, scF, if_neg (by omega)]
theorem scF_next {ls : List Nat} {s : Nat} (h0 : 0 < slN (ls.getD s 0)) (hl : s + slN (ls.getD s 0) ≤ ls.length) (hpre : ∀ i, s ≤ i → i < s + slN (ls.getD s 0) → inF ls s i = true) : scF ls (ls.length - s) s s = scF ls (ls.length - (s + slN (ls.getD s 0))) (s + slN (ls.getD s 0)) (s + slN (ls.getD s 0)) := by
  rw [scF_walk (slN (ls.getD s 0) - 1) s (s + slN (ls.getD s 0) - 1) (by omega) (Nat.le_refl s) (by omega) (fun i h1 h2 => ⟨hpre i h1 (by omega), by omega⟩)]
  rw [show ls.length - (s + slN (ls.getD s 0) - 1) = (ls.length - (s + slN (ls.getD s 0))) + 1 by omega, scF, if_pos (hpre _ (by omega) (by omega)), if_pos (by omega)]
  rw [show s + slN (ls.getD s 0) - 1 + 1 = s + slN (ls.getD s 0) by omega]
theorem inF_dig {ls : List Nat} {s i : Nat} (h1 : 0 < i) (h2 : i + 1 < slN (ls.getD s 0)) (h3 : ls.getD s 0 = 99 → ¬ i = 1) : inF ls s (s + i) = decide (48 ≤ ls.getD (s + i) 0 ∧ ls.getD (s + i) 0 ≤ 57) := by
  unfold inF
  rw [if_neg (by omega), if_neg (by omega), if_neg (by intro z; exact h3 z.1 (by omega))]
theorem inF_kind {ls : List Nat} {s : Nat} (h : ls.getD s 0 = 99) : inF ls s (s + 1) = (kxf (ls.getD (s + 1) 0)).isSome := by
  unfold inF
  rw [if_neg (by omega), if_neg (by rw [h]; show ¬ s + 1 + 1 = s + 7; omega), if_pos ⟨h, rfl⟩]
theorem inF_0 {ls : List Nat} {s : Nat} : inF ls s s = decide (0 < slN (ls.getD s 0)) := by
  unfold inF
  rw [if_pos rfl]
theorem inF_end {ls : List Nat} {s p : Nat} (h : p + 1 = s + slN (ls.getD s 0)) (h2 : ¬ p = s) : inF ls s p = decide (ls.getD p 0 = 59) := by
  unfold inF
  rw [if_neg h2, if_pos h]
/-- a digit is wanting -/
theorem dig_fail {ls : List Nat} {s b m f : Nat} (hb : 0 < b) (hbm : b + m + 1 = slN (ls.getD s 0)) (h99 : ls.getD s 0 = 99 → 2 ≤ b) (hpre : ∀ i, s ≤ i → i < s + b → inF ls s i = true) (hf : f < m) (hD : ∀ i, i < f → isD ls (s + b + i)) (hno : ¬ isD ls (s + b + f)) (hl : s + b + f ≤ ls.length) : scF ls (ls.length - s) s s = some (s + b + f) := by
  refine scF_fail (by omega) hl (Or.inl (by omega)) (fun i h1 h2 => ⟨?_, by omega⟩) (fun h => ?_)
  · rcases Nat.lt_or_ge i (s + b) with q | q
    · exact hpre i h1 q
    · obtain ⟨x, rfl⟩ : ∃ x, i = s + (b + x) := ⟨i - s - b, by omega⟩
      rw [inF_dig (by omega) (by omega) (fun z => by have := h99 z; omega)]
      have := hD x (by omega)
      rw [Nat.add_assoc] at this
      exact decide_eq_true this.2
  · rw [show s + b + f = s + (b + f) by omega, inF_dig (by omega) (by omega) (fun z => by have := h99 z; omega)]
    rw [show s + (b + f) = s + b + f by omega]
    exact decide_eq_false (fun z => hno ⟨h, z⟩)
/-- all digits are there -/
theorem dig_all {ls : List Nat} {s b m : Nat} (hb : 0 < b) (hbm : b + m + 1 = slN (ls.getD s 0)) (h99 : ls.getD s 0 = 99 → 2 ≤ b) (hpre : ∀ i, s ≤ i → i < s + b → i < ls.length ∧ inF ls s i = true) (hD : ∀ i, i < m → isD ls (s + b + i)) : ∀ i, s ≤ i → i < s + slN (ls.getD s 0) - 1 → i < ls.length ∧ inF ls s i = true := by
  intro i h1 h2
  rcases Nat.lt_or_ge i (s + b) with q | q
  · exact hpre i h1 q
  · obtain ⟨x, rfl⟩ : ∃ x, i = s + (b + x) := ⟨i - s - b, by omega⟩
    have := hD x (by omega)
    rw [Nat.add_assoc] at this
    rw [inF_dig (by omega) (by omega) (fun z => by have := h99 z; omega)]
    exact ⟨this.1, decide_eq_true this.2⟩
