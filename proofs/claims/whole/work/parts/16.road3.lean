/-! Road: to an end of a lane, to its front, kinds exchanged -/
theorem er_get {c : Nat} : ∀ (li : List Nat) (j : Nat), c ∈ li → (li.erase c).getD j 0 = if j < li.idxOf c then li.getD j 0 else li.getD (j + 1) 0
  | [], _, h => by cases h
  | a :: r, j, h => by
    by_cases ha : a = c
    · subst ha
      rw [List.erase_cons_head, List.idxOf_cons_self, if_neg (Nat.not_lt_zero j), List.getD_cons_succ]
    · have hr : c ∈ r := by
        rcases List.mem_cons.mp h with e | e
        · exact absurd e.symm ha
        · exact e
      rw [List.erase_cons_tail (by simpa using ha), ix_ne ha]
      cases j with
      | zero => rw [if_pos (Nat.zero_lt_succ _)]; rfl
      | succ j =>
        rw [List.getD_cons_succ, er_get r j hr, List.getD_cons_succ, List.getD_cons_succ]
        by_cases q : j < r.idxOf c
        · rw [if_pos q, if_pos (by omega)]
        · rw [if_neg q, if_neg (by omega)]
theorem ga_left {l r : List Nat} {j : Nat} (h : j < l.length) : (l ++ r).getD j 0 = l.getD j 0 := by
  rw [List.getD_eq_getElem?_getD, List.getElem?_append_left h, List.getD_eq_getElem?_getD]
theorem ga_last {l : List Nat} {c j : Nat} (h : j = l.length) : (l ++ [c]).getD j 0 = c := by
  subst h
  rw [List.getD_eq_getElem?_getD, List.getElem?_append_right (Nat.le_refl _), Nat.sub_self]
  rfl
def cs_X4_moveToEndOf : Nat → List am_V → am_D → am_K → Prop := am_cs [(2, am_site 2 [some 0, none] T_X4_has [0] [0, 1, 2, 3, 4, 5]), (12, am_site 2 [some 0, none] T_X4_lineIndex [0, 1, 2, 3, 4, 5] [0, 1, 2, 3, 4, 5])]
theorem cs_X4_moveToEndOf_2 : cs_X4_moveToEndOf 2 = am_site 2 [some 0, none] T_X4_has [0] [0, 1, 2, 3, 4, 5] := rfl
theorem cs_X4_moveToEndOf_12 : cs_X4_moveToEndOf 12 = am_site 2 [some 0, none] T_X4_lineIndex [0, 1, 2, 3, 4, 5] [0, 1, 2, 3, 4, 5] := rfl
theorem ck_X4_moveToEndOf : ∀ X : am_X, am_cx X RX4 cX4_moveToEndOf 4 1 22 → ∀ pc, am_csok X 4 sh_Road pc (cs_X4_moveToEndOf pc) := fun X hX => am_cs_ok (List.forall_mem_cons.mpr ⟨am_callV hX C_X4_has mo_X4_has rfl lk_X4_37 dX4_moveToEndOf_2 rfl rfl rfl (by decide), List.forall_mem_cons.mpr ⟨am_callV hX C_X4_lineIndex mo_X4_lineIndex rfl lk_X4_45 dX4_moveToEndOf_12 rfl rfl rfl (by decide), fun _ h => absurd h List.not_mem_nil⟩⟩)
abbrev ok_X4_moveToEndOf (X : am_X) (K : List Int32 → am_D → Prop) : Prop := am_ok X RX4 cX4_moveToEndOf 4 sh_Road fl_X4 kc_X4 none 2 cs_X4_moveToEndOf K
abbrev aw_X4_moveToEndOf (X : am_X) (pc : Nat) (ls : am_L) (st : List am_V) (D : am_D) : Prop := am_aw X 4 sh_Road pc ls st D
abbrev T_X4_moveToEndOf : am_TT := fun is D K => ∃ n b w kd fg la hu li z c, rA n b w kd fg la hu li D ∧ z < 2 ∧ c < n ∧ is = [nI z, nI c] ∧ ∀ D', rA n b w kd fg (va_up la c z) hu (li.erase c ++ [c]) D' → K [1] D'
theorem B_X4_moveToEndOf : ∀ (X : am_X) (is : List Int32) (D : am_D) (K : List Int32 → am_D → Prop), ok_X4_moveToEndOf X K → T_X4_moveToEndOf is D K → is.length = (List.filter Option.isNone ([some 0, none, none] : List (Option Nat))).length → D.length = sh_Road.length → am_aw X 4 sh_Road 0 (am_l0 4 [some 0, none, none] is) [] D := by
  intro X is D K O hT _ _
  obtain ⟨n, b, w, kd, fg, la, hu, li, z, c, hR, hz, hc, rfl, hK⟩ := hT
  obtain ⟨k, f, l, h, i, rfl, hn, hb, hw, hj, hp, hi⟩ := id hR
  have h2 := pl_idx hp hc
  have hm := (pl_mem hp).mpr hc
  have hl := pl_len hp
  have loop : ∀ d m (i0 : Nat → Int32), n - m = d → li.idxOf c ≤ m → m < n → (∀ j, j < n → i0 j = if li.idxOf c ≤ j ∧ j < m then i (j + 1) else i j) → am_aw X 4 sh_Road 16 [some (.inr 0), some (.inl (nI z)), some (.inl (nI c)), some (.inl (nI m))] [] [.inl [nI n, nI b, nI w], .inr k, .inr f, .inr l, .inr h, .inr i0] := by
    intro d
    induction d with
    | zero => intro m i0 h1 h3 h4; omega
    | succ d ih =>
      intro m i0 hd h3 h4 hq
      refine st_iloadn O dX4_moveToEndOf_16 rfl (q := 17) rfl ?_
      refine st_iconst O dX4_moveToEndOf_17 am_iconst_1 (q := 18) rfl ?_
      refine st_iadd O dX4_moveToEndOf_18 (by first | exact nI_add _ _ | exact rfl) (q := 19) rfl ?_
      refine st_aloadn O dX4_moveToEndOf_19 rfl (q := 20) rfl ?_
      refine st_geti O dX4_moveToEndOf_20 fl_X4_9 rfl rfl rfl rfl (q := 23) rfl ?_
      refine sn_icmp_ge O dX4_moveToEndOf_23 (t := 46) rfl (q := 26) rfl (by omega) (by omega) (fun c23 => ?_) (fun c23 => ?_)
      · refine st_aloadn O dX4_moveToEndOf_46 rfl (q := 47) rfl ?_
        refine st_getr O dX4_moveToEndOf_47 fl_X4_34 rfl rfl rfl (q := 50) rfl ?_
        refine st_aloadn O dX4_moveToEndOf_50 rfl (q := 51) rfl ?_
        refine st_geti O dX4_moveToEndOf_51 fl_X4_9 rfl rfl rfl rfl (q := 54) rfl ?_
        refine st_iconst O dX4_moveToEndOf_54 am_iconst_1 (q := 55) rfl ?_
        refine st_isub O dX4_moveToEndOf_55 (by first | exact pk_sub (by omega) | exact rfl) (q := 56) rfl ?_
        refine st_iloadn O dX4_moveToEndOf_56 rfl (q := 57) rfl ?_
        refine sn_ast O dX4_moveToEndOf_57 rfl rfl rfl ⟨by omega, by decide⟩ rfl rfl (q := 58) rfl ?_
        refine st_aloadn O dX4_moveToEndOf_58 rfl (q := 59) rfl ?_
        refine st_getr O dX4_moveToEndOf_59 fl_X4_28 rfl rfl rfl (q := 62) rfl ?_
        refine st_iloadn O dX4_moveToEndOf_62 rfl (q := 63) rfl ?_
        refine st_iloadn O dX4_moveToEndOf_63 rfl (q := 64) rfl ?_
        refine sn_ast O dX4_moveToEndOf_64 rfl rfl rfl ⟨by omega, by decide⟩ rfl rfl (q := 65) rfl ?_
        refine st_iconst O dX4_moveToEndOf_65 am_iconst_1 (q := 66) rfl ?_
        refine st_zreturn O dX4_moveToEndOf_66 (by first | exact Or.inl rfl | exact Or.inr rfl | assumption) ?_
        have hle : (li.erase c).length = n - 1 := by rw [List.length_erase_of_mem hm, hl]
        refine hK _ ⟨k, f, _, h, _, rfl, hn, hb, hw, fun j hjn => ?_, ?_, fun j hjn => ?_⟩
        · obtain ⟨q1, q2, q3, q4⟩ := hj j hjn
          refine ⟨q1, q2, ?_, q4⟩
          by_cases e : j = c
          · subst e; simp only [pk_us, va_up, if_true]; exact ⟨trivial, hz⟩
          · simp only [pk_un e, va_up, if_neg e]; exact q3
        · exact (((List.perm_cons_erase hm).symm.trans hp).symm.trans (List.perm_append_comm (l₁ := [c]))).symm
        · by_cases e : j = n - 1
          · rw [e, pk_us, ga_last hle.symm]
          · rw [pk_un e, hq j hjn, ga_left (by omega), er_get li j hm]
            by_cases e2 : j < li.idxOf c
            · rw [if_pos e2, if_neg (by omega)]; exact hi j hjn
            · rw [if_neg e2, if_pos (by omega)]; exact hi (j + 1) (by omega)
      refine st_aloadn O dX4_moveToEndOf_26 rfl (q := 27) rfl ?_
      refine st_getr O dX4_moveToEndOf_27 fl_X4_34 rfl rfl rfl (q := 30) rfl ?_
      refine st_iloadn O dX4_moveToEndOf_30 rfl (q := 31) rfl ?_
      refine st_aloadn O dX4_moveToEndOf_31 rfl (q := 32) rfl ?_
      refine st_getr O dX4_moveToEndOf_32 fl_X4_34 rfl rfl rfl (q := 35) rfl ?_
      refine st_iloadn O dX4_moveToEndOf_35 rfl (q := 36) rfl ?_
      refine st_iconst O dX4_moveToEndOf_36 am_iconst_1 (q := 37) rfl ?_
      refine st_iadd O dX4_moveToEndOf_37 (by first | exact nI_add _ _ | exact rfl) (q := 38) rfl ?_
      refine sn_ald O dX4_moveToEndOf_38 rfl rfl rfl ⟨by omega, by decide⟩ rfl (q := 39) rfl ?_
      refine sn_ast O dX4_moveToEndOf_39 rfl rfl rfl ⟨by omega, by decide⟩ rfl rfl (q := 40) rfl ?_
      refine st_iinc O dX4_moveToEndOf_40 rfl (by first | exact am_ii1 _ | exact rfl) rfl (q := 43) rfl ?_
      refine st_goto O dX4_moveToEndOf_43 (t := 16) rfl ?_
      refine ih (m + 1) _ (by omega) (by omega) (by omega) (fun j hjn => ?_)
      by_cases e : j = m
      · subst e; rw [pk_us, hq (j + 1) (by omega), if_neg (by omega), if_pos (by omega)]
      · rw [pk_un e, hq j hjn]
        by_cases e2 : li.idxOf c ≤ j ∧ j < m
        · rw [if_pos e2, if_pos (by omega)]
        · rw [if_neg e2, if_neg (by omega)]
  refine am_begin rfl ?_
  refine st_aloadn O dX4_moveToEndOf_0 rfl (q := 1) rfl ?_
  refine st_iloadn O dX4_moveToEndOf_1 rfl (q := 2) rfl ?_
  refine st_call O dX4_moveToEndOf_2 cs_X4_moveToEndOf_2 (q := 5) rfl (am_sip rfl rfl rfl (Nat.le_of_ble_eq_true rfl) rfl (r := 1) ⟨nI c, n, _, hn, rfl, rfl, Or.inl ⟨⟨c, hc, rfl⟩, rfl⟩⟩ ?_)
  refine st_if_ne O dX4_moveToEndOf_5 (t := 10) rfl (q := 8) rfl (fun c5 => ?_) (fun c5 => ?_)
  · refine st_aloadn O dX4_moveToEndOf_10 rfl (q := 11) rfl ?_
    refine st_iloadn O dX4_moveToEndOf_11 rfl (q := 12) rfl ?_
    refine st_call O dX4_moveToEndOf_12 cs_X4_moveToEndOf_12 (q := 15) rfl (am_sip rfl rfl rfl (Nat.le_of_ble_eq_true rfl) rfl (r := nI (li.idxOf c)) ⟨n, b, w, kd, fg, la, hu, li, c, hR, hc, rfl, rfl⟩ ?_)
    refine st_istoren O dX4_moveToEndOf_15 rfl (q := 16) rfl ?_
    exact loop _ (li.idxOf c) i rfl (Nat.le_refl _) h2 (fun j _ => by rw [if_neg (by omega)])
  exact absurd c5 (by decide)
theorem C_X4_moveToEndOf : am_ctr yX4_moveToEndOf cX4_moveToEndOf 4 (some .boolean) 1 22 sh_Road [some 0, none, none] T_X4_moveToEndOf := am_mk (by decide) (Or.inr (Or.inr ⟨rfl, rfl⟩)) (by decide) (by decide) (by decide) fl_X4_ok kc_X4_ok ck_X4_moveToEndOf B_X4_moveToEndOf
def cs_X4_crossOver : Nat → List am_V → am_D → am_K → Prop := am_cs [(2, am_site 2 [some 0, none] T_X4_has [0] [0, 1, 2, 3, 4, 5]), (18, am_site 3 [some 0, none, none] T_X4_moveToEndOf [0, 1, 2, 3, 4, 5] [0, 1, 2, 3, 4, 5])]
theorem cs_X4_crossOver_2 : cs_X4_crossOver 2 = am_site 2 [some 0, none] T_X4_has [0] [0, 1, 2, 3, 4, 5] := rfl
theorem cs_X4_crossOver_18 : cs_X4_crossOver 18 = am_site 3 [some 0, none, none] T_X4_moveToEndOf [0, 1, 2, 3, 4, 5] [0, 1, 2, 3, 4, 5] := rfl
theorem ck_X4_crossOver : ∀ X : am_X, am_cx X RX4 cX4_crossOver 2 2 45 → ∀ pc, am_csok X 2 sh_Road pc (cs_X4_crossOver pc) := fun X hX => am_cs_ok (List.forall_mem_cons.mpr ⟨am_callV hX C_X4_has mo_X4_has rfl lk_X4_37 dX4_crossOver_2 rfl rfl rfl (by decide), List.forall_mem_cons.mpr ⟨am_callV hX C_X4_moveToEndOf mo_X4_moveToEndOf rfl lk_X4_41 dX4_crossOver_18 rfl rfl rfl (by decide), fun _ h => absurd h List.not_mem_nil⟩⟩)
abbrev ok_X4_crossOver (X : am_X) (K : List Int32 → am_D → Prop) : Prop := am_ok X RX4 cX4_crossOver 2 sh_Road fl_X4 kc_X4 none 2 cs_X4_crossOver K
abbrev aw_X4_crossOver (X : am_X) (pc : Nat) (ls : am_L) (st : List am_V) (D : am_D) : Prop := am_aw X 2 sh_Road pc ls st D
abbrev T_X4_crossOver : am_TT := fun is D K => ∃ n b w kd fg la hu li x, rA n b w kd fg la hu li D ∧ is = [x] ∧ ((∃ c, c < n ∧ x = nI c ∧ ∀ D', rA n b w kd fg (va_up la c (1 - la c)) hu (li.erase c ++ [c]) D' → K [1] D') ∨ ((¬ ∃ c, c < n ∧ x = nI c) ∧ K [0] D))
theorem B_X4_crossOver : ∀ (X : am_X) (is : List Int32) (D : am_D) (K : List Int32 → am_D → Prop), ok_X4_crossOver X K → T_X4_crossOver is D K → is.length = (List.filter Option.isNone ([some 0, none] : List (Option Nat))).length → D.length = sh_Road.length → am_aw X 2 sh_Road 0 (am_l0 2 [some 0, none] is) [] D := by
  intro X is D K O hT _ _
  obtain ⟨n, b, w, kd, fg, la, hu, li, x, hR, rfl, hK⟩ := hT
  obtain ⟨k, f, l, h, i, rfl, hn, hb, hw, hj, hp, hi⟩ := id hR
  rcases hK with ⟨c, hc, rfl, hK⟩ | ⟨hx, hK⟩
  · have h3 := (hj c hc).2.2.1
    have h4 := h3.2
    refine am_begin rfl ?_
    refine st_aloadn O dX4_crossOver_0 rfl (q := 1) rfl ?_
    refine st_iloadn O dX4_crossOver_1 rfl (q := 2) rfl ?_
    refine st_call O dX4_crossOver_2 cs_X4_crossOver_2 (q := 5) rfl (am_sip rfl rfl rfl (Nat.le_of_ble_eq_true rfl) rfl (r := 1) ⟨nI c, n, _, hn, rfl, rfl, Or.inl ⟨⟨c, hc, rfl⟩, rfl⟩⟩ ?_)
    refine st_if_eq O dX4_crossOver_5 (t := 28) rfl (q := 8) rfl (fun c5 => ?_) (fun c5 => ?_)
    · exact absurd c5 (by decide)
    refine st_aloadn O dX4_crossOver_8 rfl (q := 9) rfl ?_
    refine st_iconst O dX4_crossOver_9 am_iconst_1 (q := 10) rfl ?_
    refine st_aloadn O dX4_crossOver_10 rfl (q := 11) rfl ?_
    refine st_getr O dX4_crossOver_11 fl_X4_28 rfl rfl rfl (q := 14) rfl ?_
    refine st_iloadn O dX4_crossOver_14 rfl (q := 15) rfl ?_
    refine sn_ald O dX4_crossOver_15 rfl rfl rfl ⟨by omega, by decide⟩ h3.1 (q := 16) rfl ?_
    refine st_isub O dX4_crossOver_16 (by first | exact pk_sub (by omega) | exact rfl) (q := 17) rfl ?_
    refine st_iloadn O dX4_crossOver_17 rfl (q := 18) rfl ?_
    refine st_call O dX4_crossOver_18 cs_X4_crossOver_18 (q := 21) rfl (am_si rfl rfl rfl (Nat.le_of_ble_eq_true rfl) rfl ?_)
    refine ⟨n, b, w, kd, fg, la, hu, li, 1 - la c, c, hR, by omega, hc, rfl, fun D' hR' => ?_⟩
    have hK := hK D' hR'
    obtain ⟨k', f', l', h', i', rfl, -⟩ := hR'
    refine am_norm rfl rfl ?_
    refine st_if_eq O dX4_crossOver_21 (t := 28) rfl (q := 24) rfl (fun c21 => ?_) (fun c21 => ?_)
    · exact absurd c21 (by decide)
    refine st_iconst O dX4_crossOver_24 am_iconst_1 (q := 25) rfl ?_
    refine st_goto O dX4_crossOver_25 (t := 29) rfl ?_
    refine st_zreturn O dX4_crossOver_29 (by first | exact Or.inl rfl | exact Or.inr rfl | assumption) ?_
    exact hK
  · refine am_begin rfl ?_
    refine st_aloadn O dX4_crossOver_0 rfl (q := 1) rfl ?_
    refine st_iloadn O dX4_crossOver_1 rfl (q := 2) rfl ?_
    refine st_call O dX4_crossOver_2 cs_X4_crossOver_2 (q := 5) rfl (am_sip rfl rfl rfl (Nat.le_of_ble_eq_true rfl) rfl (r := 0) ⟨x, n, _, hn, rfl, rfl, Or.inr ⟨hx, rfl⟩⟩ ?_)
    refine st_if_eq O dX4_crossOver_5 (t := 28) rfl (q := 8) rfl (fun c5 => ?_) (fun c5 => ?_)
    · refine st_iconst O dX4_crossOver_28 am_iconst_0 (q := 29) rfl ?_
      refine st_zreturn O dX4_crossOver_29 (by first | exact Or.inl rfl | exact Or.inr rfl | assumption) ?_
      exact hK
    exact absurd c5 (by decide)
theorem C_X4_crossOver : am_ctr yX4_crossOver cX4_crossOver 2 (some .boolean) 2 45 sh_Road [some 0, none] T_X4_crossOver := am_mk (by decide) (Or.inr (Or.inr ⟨rfl, rfl⟩)) (by decide) (by decide) (by decide) fl_X4_ok kc_X4_ok ck_X4_crossOver B_X4_crossOver
def cs_X4_moveToFront : Nat → List am_V → am_D → am_K → Prop := am_cs [(2, am_site 2 [some 0, none] T_X4_has [0] [0, 1, 2, 3, 4, 5]), (12, am_site 2 [some 0, none] T_X4_lineIndex [0, 1, 2, 3, 4, 5] [0, 1, 2, 3, 4, 5])]
theorem cs_X4_moveToFront_2 : cs_X4_moveToFront 2 = am_site 2 [some 0, none] T_X4_has [0] [0, 1, 2, 3, 4, 5] := rfl
theorem cs_X4_moveToFront_12 : cs_X4_moveToFront 12 = am_site 2 [some 0, none] T_X4_lineIndex [0, 1, 2, 3, 4, 5] [0, 1, 2, 3, 4, 5] := rfl
theorem ck_X4_moveToFront : ∀ X : am_X, am_cx X RX4 cX4_moveToFront 3 1 22 → ∀ pc, am_csok X 3 sh_Road pc (cs_X4_moveToFront pc) := fun X hX => am_cs_ok (List.forall_mem_cons.mpr ⟨am_callV hX C_X4_has mo_X4_has rfl lk_X4_37 dX4_moveToFront_2 rfl rfl rfl (by decide), List.forall_mem_cons.mpr ⟨am_callV hX C_X4_lineIndex mo_X4_lineIndex rfl lk_X4_45 dX4_moveToFront_12 rfl rfl rfl (by decide), fun _ h => absurd h List.not_mem_nil⟩⟩)
abbrev ok_X4_moveToFront (X : am_X) (K : List Int32 → am_D → Prop) : Prop := am_ok X RX4 cX4_moveToFront 3 sh_Road fl_X4 kc_X4 none 2 cs_X4_moveToFront K
abbrev aw_X4_moveToFront (X : am_X) (pc : Nat) (ls : am_L) (st : List am_V) (D : am_D) : Prop := am_aw X 3 sh_Road pc ls st D
abbrev T_X4_moveToFront : am_TT := fun is D K => ∃ n b w kd fg la hu li x, rA n b w kd fg la hu li D ∧ is = [x] ∧ ((∃ c, c < n ∧ x = nI c ∧ ∀ D', rA n b w kd fg la hu (c :: li.erase c) D' → K [1] D') ∨ ((¬ ∃ c, c < n ∧ x = nI c) ∧ K [0] D))
theorem B_X4_moveToFront : ∀ (X : am_X) (is : List Int32) (D : am_D) (K : List Int32 → am_D → Prop), ok_X4_moveToFront X K → T_X4_moveToFront is D K → is.length = (List.filter Option.isNone ([some 0, none] : List (Option Nat))).length → D.length = sh_Road.length → am_aw X 3 sh_Road 0 (am_l0 3 [some 0, none] is) [] D := by
  intro X is D K O hT _ _
  obtain ⟨n, b, w, kd, fg, la, hu, li, x, hR, rfl, hK⟩ := hT
  obtain ⟨k, f, l, h, i, rfl, hn, hb, hw, hj, hp, hi⟩ := id hR
  rcases hK with ⟨c, hc, rfl, hK⟩ | ⟨hx, hK⟩
  · have h2 := pl_idx hp hc
    have hm := (pl_mem hp).mpr hc
    have hl := pl_len hp
    have loop : ∀ m (i0 : Nat → Int32), m ≤ li.idxOf c → (∀ j, j < n → i0 j = if m < j ∧ j ≤ li.idxOf c then i (j - 1) else i j) → am_aw X 3 sh_Road 16 [some (.inr 0), some (.inl (nI c)), some (.inl (nI m))] [] [.inl [nI n, nI b, nI w], .inr k, .inr f, .inr l, .inr h, .inr i0] := by
      intro m
      induction m with
      | zero =>
        intro i0 h1 hq
        refine st_iloadn O dX4_moveToFront_16 rfl (q := 17) rfl ?_
        refine sn_if_le O dX4_moveToFront_17 (t := 40) rfl (q := 20) rfl (by omega) (fun c17 => ?_) (fun c17 => ?_)
        · refine st_aloadn O dX4_moveToFront_40 rfl (q := 41) rfl ?_
          refine st_getr O dX4_moveToFront_41 fl_X4_34 rfl rfl rfl (q := 44) rfl ?_
          refine st_iconst O dX4_moveToFront_44 am_iconst_0 (q := 45) rfl ?_
          refine st_iloadn O dX4_moveToFront_45 rfl (q := 46) rfl ?_
          refine sn_ast O dX4_moveToFront_46 rfl rfl rfl ⟨by omega, by decide⟩ rfl rfl (q := 47) rfl ?_
          refine st_iconst O dX4_moveToFront_47 am_iconst_1 (q := 48) rfl ?_
          refine st_zreturn O dX4_moveToFront_48 (by first | exact Or.inl rfl | exact Or.inr rfl | assumption) ?_
          refine hK _ ⟨k, f, l, h, _, rfl, hn, hb, hw, hj, ((List.perm_cons_erase hm).symm.trans hp), fun j hjn => ?_⟩
          cases j with
          | zero => rw [pk_us]; rfl
          | succ j =>
            rw [pk_un (by omega), hq (j + 1) hjn, List.getD_cons_succ, er_get li j hm]
            by_cases e : j < li.idxOf c
            · rw [if_pos (by omega), if_pos e]; exact hi j (by omega)
            · rw [if_neg (by omega), if_neg e]; exact hi (j + 1) hjn
        omega
      | succ m ih =>
        intro i0 h1 hq
        refine st_iloadn O dX4_moveToFront_16 rfl (q := 17) rfl ?_
        refine sn_if_le O dX4_moveToFront_17 (t := 40) rfl (q := 20) rfl (by omega) (fun c17 => ?_) (fun c17 => ?_)
        · omega
        refine st_aloadn O dX4_moveToFront_20 rfl (q := 21) rfl ?_
        refine st_getr O dX4_moveToFront_21 fl_X4_34 rfl rfl rfl (q := 24) rfl ?_
        refine st_iloadn O dX4_moveToFront_24 rfl (q := 25) rfl ?_
        refine st_aloadn O dX4_moveToFront_25 rfl (q := 26) rfl ?_
        refine st_getr O dX4_moveToFront_26 fl_X4_34 rfl rfl rfl (q := 29) rfl ?_
        refine st_iloadn O dX4_moveToFront_29 rfl (q := 30) rfl ?_
        refine st_iconst O dX4_moveToFront_30 am_iconst_1 (q := 31) rfl ?_
        refine st_isub O dX4_moveToFront_31 (by first | exact pk_sub (by omega) | exact rfl) (q := 32) rfl ?_
        refine sn_ald O dX4_moveToFront_32 rfl rfl rfl ⟨by omega, by decide⟩ rfl (q := 33) rfl ?_
        refine sn_ast O dX4_moveToFront_33 rfl rfl rfl ⟨by omega, by decide⟩ rfl rfl (q := 34) rfl ?_
        refine st_iinc O dX4_moveToFront_34 rfl (by first | exact am_iim (by omega) | exact rfl) rfl (q := 37) rfl ?_
        refine st_goto O dX4_moveToFront_37 (t := 16) rfl ?_
        refine ih _ (by omega) (fun j hjn => ?_)
        by_cases e : j = m + 1
        · subst e; rw [pk_us, Nat.add_sub_cancel, hq m (by omega), if_neg (by omega), if_pos (by omega)]
        · rw [pk_un e, hq j hjn]
          by_cases e2 : m + 1 < j ∧ j ≤ li.idxOf c
          · rw [if_pos e2, if_pos (by omega)]
          · rw [if_neg e2, if_neg (by omega)]
    refine am_begin rfl ?_
    refine st_aloadn O dX4_moveToFront_0 rfl (q := 1) rfl ?_
    refine st_iloadn O dX4_moveToFront_1 rfl (q := 2) rfl ?_
    refine st_call O dX4_moveToFront_2 cs_X4_moveToFront_2 (q := 5) rfl (am_sip rfl rfl rfl (Nat.le_of_ble_eq_true rfl) rfl (r := 1) ⟨nI c, n, _, hn, rfl, rfl, Or.inl ⟨⟨c, hc, rfl⟩, rfl⟩⟩ ?_)
    refine st_if_ne O dX4_moveToFront_5 (t := 10) rfl (q := 8) rfl (fun c5 => ?_) (fun c5 => ?_)
    · refine st_aloadn O dX4_moveToFront_10 rfl (q := 11) rfl ?_
      refine st_iloadn O dX4_moveToFront_11 rfl (q := 12) rfl ?_
      refine st_call O dX4_moveToFront_12 cs_X4_moveToFront_12 (q := 15) rfl (am_sip rfl rfl rfl (Nat.le_of_ble_eq_true rfl) rfl (r := nI (li.idxOf c)) ⟨n, b, w, kd, fg, la, hu, li, c, hR, hc, rfl, rfl⟩ ?_)
      refine st_istoren O dX4_moveToFront_15 rfl (q := 16) rfl ?_
      exact loop (li.idxOf c) i (Nat.le_refl _) (fun j _ => by rw [if_neg (by omega)])
    exact absurd c5 (by decide)
  · refine am_begin rfl ?_
    refine st_aloadn O dX4_moveToFront_0 rfl (q := 1) rfl ?_
    refine st_iloadn O dX4_moveToFront_1 rfl (q := 2) rfl ?_
    refine st_call O dX4_moveToFront_2 cs_X4_moveToFront_2 (q := 5) rfl (am_sip rfl rfl rfl (Nat.le_of_ble_eq_true rfl) rfl (r := 0) ⟨x, n, _, hn, rfl, rfl, Or.inr ⟨hx, rfl⟩⟩ ?_)
    refine st_if_ne O dX4_moveToFront_5 (t := 10) rfl (q := 8) rfl (fun c5 => ?_) (fun c5 => ?_)
    · exact absurd c5 (by decide)
    refine st_iconst O dX4_moveToFront_8 am_iconst_0 (q := 9) rfl ?_
    refine st_zreturn O dX4_moveToFront_9 (by first | exact Or.inl rfl | exact Or.inr rfl | assumption) ?_
    exact hK
theorem C_X4_moveToFront : am_ctr yX4_moveToFront cX4_moveToFront 3 (some .boolean) 1 22 sh_Road [some 0, none] T_X4_moveToFront := am_mk (by decide) (Or.inr (Or.inr ⟨rfl, rfl⟩)) (by decide) (by decide) (by decide) fl_X4_ok kc_X4_ok ck_X4_moveToFront B_X4_moveToFront
def cs_X4_exchangeKinds : Nat → List am_V → am_D → am_K → Prop := am_cs [(3, am_site 3 [some 0, none, none] T_X4_areTwo [0] [0, 1, 2, 3, 4, 5])]
theorem cs_X4_exchangeKinds_3 : cs_X4_exchangeKinds 3 = am_site 3 [some 0, none, none] T_X4_areTwo [0] [0, 1, 2, 3, 4, 5] := rfl
theorem ck_X4_exchangeKinds : ∀ X : am_X, am_cx X RX4 cX4_exchangeKinds 5 2 43 → ∀ pc, am_csok X 5 sh_Road pc (cs_X4_exchangeKinds pc) := fun X hX => am_cs_ok (List.forall_mem_cons.mpr ⟨am_callV hX C_X4_areTwo mo_X4_areTwo rfl lk_X4_49 dX4_exchangeKinds_3 rfl rfl rfl (by decide), fun _ h => absurd h List.not_mem_nil⟩)
abbrev ok_X4_exchangeKinds (X : am_X) (K : List Int32 → am_D → Prop) : Prop := am_ok X RX4 cX4_exchangeKinds 5 sh_Road fl_X4 kc_X4 none 2 cs_X4_exchangeKinds K
abbrev aw_X4_exchangeKinds (X : am_X) (pc : Nat) (ls : am_L) (st : List am_V) (D : am_D) : Prop := am_aw X 5 sh_Road pc ls st D
abbrev T_X4_exchangeKinds : am_TT := fun is D K => ∃ n b w kd fg la hu li x y, rA n b w kd fg la hu li D ∧ is = [x, y] ∧ ((∃ p q, p < n ∧ q < n ∧ p ≠ q ∧ x = nI p ∧ y = nI q ∧ ∀ D', rA n b w (va_up (va_up kd p (kd q)) q (kd p)) (va_up (va_up fg p (fg q)) q (fg p)) la hu li D' → K [1] D') ∨ ((¬ ∃ p q, p < n ∧ q < n ∧ p ≠ q ∧ x = nI p ∧ y = nI q) ∧ K [0] D))
theorem B_X4_exchangeKinds : ∀ (X : am_X) (is : List Int32) (D : am_D) (K : List Int32 → am_D → Prop), ok_X4_exchangeKinds X K → T_X4_exchangeKinds is D K → is.length = (List.filter Option.isNone ([some 0, none, none] : List (Option Nat))).length → D.length = sh_Road.length → am_aw X 5 sh_Road 0 (am_l0 5 [some 0, none, none] is) [] D := by
  intro X is D K O hT _ _
  obtain ⟨n, b, w, kd, fg, la, hu, li, x, y, hR, rfl, hK⟩ := hT
  obtain ⟨k, f, l, h, i, rfl, hn, hb, hw, hj, hp, hi⟩ := id hR
  rcases hK with ⟨p, q, hp1, hq1, hpq, rfl, rfl, hK⟩ | ⟨hx, hK⟩
  · refine am_begin rfl ?_
    refine st_aloadn O dX4_exchangeKinds_0 rfl (q := 1) rfl ?_
    refine st_iloadn O dX4_exchangeKinds_1 rfl (q := 2) rfl ?_
    refine st_iloadn O dX4_exchangeKinds_2 rfl (q := 3) rfl ?_
    refine st_call O dX4_exchangeKinds_3 cs_X4_exchangeKinds_3 (q := 6) rfl (am_sip rfl rfl rfl (Nat.le_of_ble_eq_true rfl) rfl (r := 1) ⟨nI p, nI q, n, _, hn, rfl, rfl, Or.inl ⟨⟨p, q, hp1, hq1, hpq, rfl, rfl⟩, rfl⟩⟩ ?_)
    refine st_if_ne O dX4_exchangeKinds_6 (t := 11) rfl (q := 9) rfl (fun c6 => ?_) (fun c6 => ?_)
    · refine st_aloadn O dX4_exchangeKinds_11 rfl (q := 12) rfl ?_
      refine st_getr O dX4_exchangeKinds_12 fl_X4_21 rfl rfl rfl (q := 15) rfl ?_
      refine st_iloadn O dX4_exchangeKinds_15 rfl (q := 16) rfl ?_
      refine sn_ald O dX4_exchangeKinds_16 rfl rfl rfl ⟨by omega, by decide⟩ rfl (q := 17) rfl ?_
      refine st_istoren O dX4_exchangeKinds_17 rfl (q := 18) rfl ?_
      refine st_aloadn O dX4_exchangeKinds_18 rfl (q := 19) rfl ?_
      refine st_getr O dX4_exchangeKinds_19 fl_X4_25 rfl rfl rfl (q := 22) rfl ?_
      refine st_iloadn O dX4_exchangeKinds_22 rfl (q := 23) rfl ?_
      refine sn_ald O dX4_exchangeKinds_23 rfl rfl rfl ⟨by omega, by decide⟩ rfl (q := 24) rfl ?_
      refine st_istore O dX4_exchangeKinds_24 rfl (q := 26) rfl ?_
      refine st_aloadn O dX4_exchangeKinds_26 rfl (q := 27) rfl ?_
      refine st_getr O dX4_exchangeKinds_27 fl_X4_21 rfl rfl rfl (q := 30) rfl ?_
      refine st_iloadn O dX4_exchangeKinds_30 rfl (q := 31) rfl ?_
      refine st_aloadn O dX4_exchangeKinds_31 rfl (q := 32) rfl ?_
      refine st_getr O dX4_exchangeKinds_32 fl_X4_21 rfl rfl rfl (q := 35) rfl ?_
      refine st_iloadn O dX4_exchangeKinds_35 rfl (q := 36) rfl ?_
      refine sn_ald O dX4_exchangeKinds_36 rfl rfl rfl ⟨by omega, by decide⟩ rfl (q := 37) rfl ?_
      refine sn_ast O dX4_exchangeKinds_37 rfl rfl rfl ⟨by omega, by decide⟩ rfl rfl (q := 38) rfl ?_
      refine st_aloadn O dX4_exchangeKinds_38 rfl (q := 39) rfl ?_
      refine st_getr O dX4_exchangeKinds_39 fl_X4_25 rfl rfl rfl (q := 42) rfl ?_
      refine st_iloadn O dX4_exchangeKinds_42 rfl (q := 43) rfl ?_
      refine st_aloadn O dX4_exchangeKinds_43 rfl (q := 44) rfl ?_
      refine st_getr O dX4_exchangeKinds_44 fl_X4_25 rfl rfl rfl (q := 47) rfl ?_
      refine st_iloadn O dX4_exchangeKinds_47 rfl (q := 48) rfl ?_
      refine sn_ald O dX4_exchangeKinds_48 rfl rfl rfl ⟨by omega, by decide⟩ rfl (q := 49) rfl ?_
      refine sn_ast O dX4_exchangeKinds_49 rfl rfl rfl ⟨by omega, by decide⟩ rfl rfl (q := 50) rfl ?_
      refine st_aloadn O dX4_exchangeKinds_50 rfl (q := 51) rfl ?_
      refine st_getr O dX4_exchangeKinds_51 fl_X4_21 rfl rfl rfl (q := 54) rfl ?_
      refine st_iloadn O dX4_exchangeKinds_54 rfl (q := 55) rfl ?_
      refine st_iloadn O dX4_exchangeKinds_55 rfl (q := 56) rfl ?_
      refine sn_ast O dX4_exchangeKinds_56 rfl rfl rfl ⟨by omega, by decide⟩ rfl rfl (q := 57) rfl ?_
      refine st_aloadn O dX4_exchangeKinds_57 rfl (q := 58) rfl ?_
      refine st_getr O dX4_exchangeKinds_58 fl_X4_25 rfl rfl rfl (q := 61) rfl ?_
      refine st_iloadn O dX4_exchangeKinds_61 rfl (q := 62) rfl ?_
      refine st_iload O dX4_exchangeKinds_62 rfl (q := 64) rfl ?_
      refine sn_ast O dX4_exchangeKinds_64 rfl rfl rfl ⟨by omega, by decide⟩ rfl rfl (q := 65) rfl ?_
      refine st_iconst O dX4_exchangeKinds_65 am_iconst_1 (q := 66) rfl ?_
      refine st_zreturn O dX4_exchangeKinds_66 (by first | exact Or.inl rfl | exact Or.inr rfl | assumption) ?_
      refine hK _ ⟨_, _, l, h, i, rfl, hn, hb, hw, fun j hjn => ?_, hp, hi⟩
      obtain ⟨q1, q2, q3, q4⟩ := hj j hjn
      obtain ⟨p1, p2, -, -⟩ := hj p hp1
      obtain ⟨r1, r2, -, -⟩ := hj q hq1
      refine ⟨?_, ?_, q3, q4⟩
      · by_cases e : j = q
        · subst e; simp only [pk_us, va_up, if_true]; exact p1
        · by_cases e2 : j = p
          · subst e2; simp only [pk_un e, pk_us, va_up, if_neg e, if_true]; exact r1
          · simp only [pk_un e, pk_un e2, va_up, if_neg e, if_neg e2]; exact q1
      · by_cases e : j = q
        · subst e; simp only [pk_us, va_up, if_true]; exact p2
        · by_cases e2 : j = p
          · subst e2; simp only [pk_un e, pk_us, va_up, if_neg e, if_true]; exact r2
          · simp only [pk_un e, pk_un e2, va_up, if_neg e, if_neg e2]; exact q2
    exact absurd c6 (by decide)
  · refine am_begin rfl ?_
    refine st_aloadn O dX4_exchangeKinds_0 rfl (q := 1) rfl ?_
    refine st_iloadn O dX4_exchangeKinds_1 rfl (q := 2) rfl ?_
    refine st_iloadn O dX4_exchangeKinds_2 rfl (q := 3) rfl ?_
    refine st_call O dX4_exchangeKinds_3 cs_X4_exchangeKinds_3 (q := 6) rfl (am_sip rfl rfl rfl (Nat.le_of_ble_eq_true rfl) rfl (r := 0) ⟨x, y, n, _, hn, rfl, rfl, Or.inr ⟨hx, rfl⟩⟩ ?_)
    refine st_if_ne O dX4_exchangeKinds_6 (t := 11) rfl (q := 9) rfl (fun c6 => ?_) (fun c6 => ?_)
    · exact absurd c6 (by decide)
    refine st_iconst O dX4_exchangeKinds_9 am_iconst_0 (q := 10) rfl ?_
    refine st_zreturn O dX4_exchangeKinds_10 (by first | exact Or.inl rfl | exact Or.inr rfl | assumption) ?_
    exact hK
theorem C_X4_exchangeKinds : am_ctr yX4_exchangeKinds cX4_exchangeKinds 5 (some .boolean) 2 43 sh_Road [some 0, none, none] T_X4_exchangeKinds := am_mk (by decide) (Or.inr (Or.inr ⟨rfl, rfl⟩)) (by decide) (by decide) (by decide) fl_X4_ok kc_X4_ok ck_X4_exchangeKinds B_X4_exchangeKinds
