/-! the line of a road as a list -/
theorem pl_len {li : List Nat} {n : Nat} (hp : li.Perm (List.range n)) : li.length = n := by
  have := hp.length_eq
  rwa [List.length_range] at this
theorem pl_mem {li : List Nat} {n : Nat} (hp : li.Perm (List.range n)) {c : Nat} : c ∈ li ↔ c < n := by rw [hp.mem_iff, List.mem_range]
theorem pl_gm {li : List Nat} {j : Nat} (h : j < li.length) : li.getD j 0 ∈ li := by
  rw [List.getD_eq_getElem?_getD, List.getElem?_eq_getElem h]
  exact List.getElem_mem h
theorem pl_get {li : List Nat} {n : Nat} (hp : li.Perm (List.range n)) {j : Nat} (h : j < n) : li.getD j 0 < n := (pl_mem hp).mp (pl_gm (by rw [pl_len hp]; exact h))
theorem pl_nd {li : List Nat} {n : Nat} (hp : li.Perm (List.range n)) : li.Nodup := hp.nodup_iff.mpr List.nodup_range
theorem pl_idx {li : List Nat} {n : Nat} (hp : li.Perm (List.range n)) {c : Nat} (h : c < n) : li.idxOf c < n := by
  have := List.idxOf_lt_length_of_mem ((pl_mem hp).mpr h)
  rwa [pl_len hp] at this
theorem pl_at {li : List Nat} {n : Nat} (hp : li.Perm (List.range n)) {c : Nat} (h : c < n) : li.getD (li.idxOf c) 0 = c := by
  have hl := List.idxOf_lt_length_of_mem ((pl_mem hp).mpr h)
  rw [List.getD_eq_getElem?_getD, List.getElem?_eq_getElem hl]
  exact List.getElem_idxOf hl
theorem pl_inj {li : List Nat} {n : Nat} (hp : li.Perm (List.range n)) {i j : Nat} (hi : i < n) (hj : j < n) (e : li.getD i 0 = li.getD j 0) : i = j := by
  have h1 : i < li.length := by rw [pl_len hp]; exact hi
  have h2 : j < li.length := by rw [pl_len hp]; exact hj
  rw [List.getD_eq_getElem?_getD, List.getD_eq_getElem?_getD, List.getElem?_eq_getElem h1, List.getElem?_eq_getElem h2] at e
  exact (List.getElem_inj (h₀ := h1) (h₁ := h2) (pl_nd hp)).mp e
theorem pl_first {li : List Nat} {n : Nat} (hp : li.Perm (List.range n)) {c m : Nat} (hc : c < n) (h : ∀ j, j < m → ¬ li.getD j 0 = c) : m ≤ li.idxOf c := by
  rcases Nat.lt_or_ge (li.idxOf c) m with q | q
  · exact absurd (pl_at hp hc) (h _ q)
  · exact q
def sm (f : Nat → Nat) : Nat → Nat
  | 0 => 0
  | n + 1 => sm f n + f n
def cs_X4_lineIndex : Nat → List am_V → am_D → am_K → Prop := am_cs []
theorem ck_X4_lineIndex : ∀ X : am_X, am_cx X RX4 cX4_lineIndex 3 0 0 → ∀ pc, am_csok X 3 sh_Road pc (cs_X4_lineIndex pc) := fun X hX => am_cs_ok (fun _ h => absurd h List.not_mem_nil)
abbrev ok_X4_lineIndex (X : am_X) (K : List Int32 → am_D → Prop) : Prop := am_ok X RX4 cX4_lineIndex 3 sh_Road fl_X4 kc_X4 none 1 cs_X4_lineIndex K
abbrev aw_X4_lineIndex (X : am_X) (pc : Nat) (ls : am_L) (st : List am_V) (D : am_D) : Prop := am_aw X 3 sh_Road pc ls st D
abbrev T_X4_lineIndex : am_TT := am_pure (fun is D r => ∃ n b w kd fg la hu li c, rA n b w kd fg la hu li D ∧ c < n ∧ is = [nI c] ∧ r = nI (li.idxOf c))
theorem B_X4_lineIndex : ∀ (X : am_X) (is : List Int32) (D : am_D) (K : List Int32 → am_D → Prop), ok_X4_lineIndex X K → T_X4_lineIndex is D K → is.length = (List.filter Option.isNone ([some 0, none] : List (Option Nat))).length → D.length = sh_Road.length → am_aw X 3 sh_Road 0 (am_l0 3 [some 0, none] is) [] D := by
  intro X is D K O hT _ _
  obtain ⟨r, ⟨n, b, w, kd, fg, la, hu, li, c, hR, hc, rfl, rfl⟩, hK⟩ := hT
  obtain ⟨k, f, l, h, i, rfl, hn, hb, hw, hj, hp, hi⟩ := hR
  have loop : ∀ d m, n - m = d → m < n → (∀ j, j < m → ¬ li.getD j 0 = c) → am_aw X 3 sh_Road 2 [some (.inr 0), some (.inl (nI c)), some (.inl (nI m))] [] [.inl [nI n, nI b, nI w], .inr k, .inr f, .inr l, .inr h, .inr i] := by
    intro d
    induction d with
    | zero => intro m h1 h2; omega
    | succ d ih =>
      intro m hd hm hne
      have h1 := pl_first hp hc hne
      have h2 := pl_idx hp hc
      have h3 := pl_get hp hm
      refine st_iloadn O dX4_lineIndex_2 rfl (q := 3) rfl ?_
      refine st_iconst O dX4_lineIndex_3 am_iconst_1 (q := 4) rfl ?_
      refine st_iadd O dX4_lineIndex_4 (by first | exact nI_add _ _ | exact rfl) (q := 5) rfl ?_
      refine st_aloadn O dX4_lineIndex_5 rfl (q := 6) rfl ?_
      refine st_geti O dX4_lineIndex_6 fl_X4_9 rfl rfl rfl rfl (q := 9) rfl ?_
      refine sn_icmp_ge O dX4_lineIndex_9 (t := 28) rfl (q := 12) rfl (by omega) (by omega) (fun c9 => ?_) (fun c9 => ?_)
      · refine st_iloadn O dX4_lineIndex_28 rfl (q := 29) rfl ?_
        refine st_ireturn O dX4_lineIndex_29 ?_
        rw [show m = li.idxOf c by first | omega | exact pl_inj hp hm h2 (by rw [c19, pl_at hp hc])]; exact hK
      refine st_aloadn O dX4_lineIndex_12 rfl (q := 13) rfl ?_
      refine st_getr O dX4_lineIndex_13 fl_X4_34 rfl rfl rfl (q := 16) rfl ?_
      refine st_iloadn O dX4_lineIndex_16 rfl (q := 17) rfl ?_
      refine sn_ald O dX4_lineIndex_17 rfl rfl rfl ⟨by omega, by decide⟩ (hi m hm) (q := 18) rfl ?_
      refine st_iloadn O dX4_lineIndex_18 rfl (q := 19) rfl ?_
      refine sn_icmp_eq O dX4_lineIndex_19 (t := 28) rfl (q := 22) rfl (by omega) (by omega) (fun c19 => ?_) (fun c19 => ?_)
      · refine st_iloadn O dX4_lineIndex_28 rfl (q := 29) rfl ?_
        refine st_ireturn O dX4_lineIndex_29 ?_
        rw [show m = li.idxOf c by first | omega | exact pl_inj hp hm h2 (by rw [c19, pl_at hp hc])]; exact hK
      refine st_iinc O dX4_lineIndex_22 rfl (by first | exact am_ii1 _ | exact rfl) rfl (q := 25) rfl ?_
      refine st_goto O dX4_lineIndex_25 (t := 2) rfl ?_
      exact ih (m + 1) (by omega) (by omega) (lt_s hne c19)
  refine am_begin rfl ?_
  refine st_iconst O dX4_lineIndex_0 am_iconst_0 (q := 1) rfl ?_
  refine st_istoren O dX4_lineIndex_1 rfl (q := 2) rfl ?_
  exact loop n 0 (by omega) (by omega) lt_0
theorem C_X4_lineIndex : am_ctr yX4_lineIndex cX4_lineIndex 3 (some .int) 0 0 sh_Road [some 0, none] T_X4_lineIndex := am_mk (by decide) (Or.inr (Or.inl ⟨rfl, rfl⟩)) (by decide) (by decide) (by decide) fl_X4_ok kc_X4_ok ck_X4_lineIndex B_X4_lineIndex
def cs_X4_areTwo : Nat → List am_V → am_D → am_K → Prop := am_cs [(2, am_site 2 [some 0, none] T_X4_has [0] [0, 1, 2, 3, 4, 5]), (10, am_site 2 [some 0, none] T_X4_has [0] [0, 1, 2, 3, 4, 5])]
theorem cs_X4_areTwo_2 : cs_X4_areTwo 2 = am_site 2 [some 0, none] T_X4_has [0] [0, 1, 2, 3, 4, 5] := rfl
theorem cs_X4_areTwo_10 : cs_X4_areTwo 10 = am_site 2 [some 0, none] T_X4_has [0] [0, 1, 2, 3, 4, 5] := rfl
theorem ck_X4_areTwo : ∀ X : am_X, am_cx X RX4 cX4_areTwo 3 1 21 → ∀ pc, am_csok X 3 sh_R1 pc (cs_X4_areTwo pc) := fun X hX => am_cs_ok (List.forall_mem_cons.mpr ⟨am_callV hX C_X4_has mo_X4_has rfl lk_X4_37 dX4_areTwo_2 rfl rfl rfl (by decide), List.forall_mem_cons.mpr ⟨am_callV hX C_X4_has mo_X4_has rfl lk_X4_37 dX4_areTwo_10 rfl rfl rfl (by decide), fun _ h => absurd h List.not_mem_nil⟩⟩)
abbrev ok_X4_areTwo (X : am_X) (K : List Int32 → am_D → Prop) : Prop := am_ok X RX4 cX4_areTwo 3 sh_R1 fl_X4 kc_X4 none 2 cs_X4_areTwo K
abbrev aw_X4_areTwo (X : am_X) (pc : Nat) (ls : am_L) (st : List am_V) (D : am_D) : Prop := am_aw X 3 sh_R1 pc ls st D
abbrev T_X4_areTwo : am_TT := am_pure (fun is D r => ∃ x y n xs, n ≤ 9 ∧ is = [x, y] ∧ D = [.inl (nI n :: xs)] ∧ (((∃ i j, i < n ∧ j < n ∧ i ≠ j ∧ x = nI i ∧ y = nI j) ∧ r = 1) ∨ ((¬ ∃ i j, i < n ∧ j < n ∧ i ≠ j ∧ x = nI i ∧ y = nI j) ∧ r = 0)))
theorem B_X4_areTwo : ∀ (X : am_X) (is : List Int32) (D : am_D) (K : List Int32 → am_D → Prop), ok_X4_areTwo X K → T_X4_areTwo is D K → is.length = (List.filter Option.isNone ([some 0, none, none] : List (Option Nat))).length → D.length = sh_R1.length → am_aw X 3 sh_R1 0 (am_l0 3 [some 0, none, none] is) [] D := by
  intro X is D K O hT _ _
  obtain ⟨r, ⟨x, y, n, xs, hn, rfl, rfl, hr⟩, hK⟩ := hT
  by_cases hx : ∃ i, i < n ∧ x = nI i
  · by_cases hy : ∃ i, i < n ∧ y = nI i
    · refine am_begin rfl ?_
      refine st_aloadn O dX4_areTwo_0 rfl (q := 1) rfl ?_
      refine st_iloadn O dX4_areTwo_1 rfl (q := 2) rfl ?_
      refine st_call O dX4_areTwo_2 cs_X4_areTwo_2 (q := 5) rfl (am_sip rfl rfl rfl (Nat.le_of_ble_eq_true rfl) rfl (r := 1) ⟨x, n, _, hn, rfl, rfl, Or.inl ⟨hx, rfl⟩⟩ ?_)
      refine st_if_eq O dX4_areTwo_5 (t := 25) rfl (q := 8) rfl (fun c5 => ?_) (fun c5 => ?_)
      · exact absurd c5 (by decide)
      refine st_aloadn O dX4_areTwo_8 rfl (q := 9) rfl ?_
      refine st_iloadn O dX4_areTwo_9 rfl (q := 10) rfl ?_
      refine st_call O dX4_areTwo_10 cs_X4_areTwo_10 (q := 13) rfl (am_sip rfl rfl rfl (Nat.le_of_ble_eq_true rfl) rfl (r := 1) ⟨y, n, _, hn, rfl, rfl, Or.inl ⟨hy, rfl⟩⟩ ?_)
      refine st_if_eq O dX4_areTwo_13 (t := 25) rfl (q := 16) rfl (fun c13 => ?_) (fun c13 => ?_)
      · exact absurd c13 (by decide)
      refine st_iloadn O dX4_areTwo_16 rfl (q := 17) rfl ?_
      refine st_iloadn O dX4_areTwo_17 rfl (q := 18) rfl ?_
      refine st_icmp_eq O dX4_areTwo_18 (t := 25) rfl (q := 21) rfl (fun c18 => ?_) (fun c18 => ?_)
      · refine st_iconst O dX4_areTwo_25 am_iconst_0 (q := 26) rfl ?_
        refine st_zreturn O dX4_areTwo_26 (by first | exact Or.inl rfl | exact Or.inr rfl | assumption) ?_
        rcases hr with ⟨h, rfl⟩ | ⟨h, rfl⟩
        · first | exact hK | (obtain ⟨i, j, h1, h2, h3, rfl, rfl⟩ := h; exact absurd ((nI_eq (by omega) (by omega)).mp c18) h3)
        · first | exact hK | (obtain ⟨i, h1, rfl⟩ := hx; obtain ⟨j, h2, rfl⟩ := hy; exact absurd ⟨i, j, h1, h2, fun e => c18 (by rw [e]), rfl, rfl⟩ h)
      refine st_iconst O dX4_areTwo_21 am_iconst_1 (q := 22) rfl ?_
      refine st_goto O dX4_areTwo_22 (t := 26) rfl ?_
      refine st_zreturn O dX4_areTwo_26 (by first | exact Or.inl rfl | exact Or.inr rfl | assumption) ?_
      rcases hr with ⟨h, rfl⟩ | ⟨h, rfl⟩
      · first | exact hK | (obtain ⟨i, j, h1, h2, h3, rfl, rfl⟩ := h; exact absurd ((nI_eq (by omega) (by omega)).mp c18) h3)
      · first | exact hK | (obtain ⟨i, h1, rfl⟩ := hx; obtain ⟨j, h2, rfl⟩ := hy; exact absurd ⟨i, j, h1, h2, fun e => c18 (by rw [e]), rfl, rfl⟩ h)
    · rcases hr with ⟨⟨i, j, h1, h2, h3, rfl, rfl⟩, rfl⟩ | ⟨h, rfl⟩
      · exact absurd ⟨j, h2, rfl⟩ hy
      · refine am_begin rfl ?_
        refine st_aloadn O dX4_areTwo_0 rfl (q := 1) rfl ?_
        refine st_iloadn O dX4_areTwo_1 rfl (q := 2) rfl ?_
        refine st_call O dX4_areTwo_2 cs_X4_areTwo_2 (q := 5) rfl (am_sip rfl rfl rfl (Nat.le_of_ble_eq_true rfl) rfl (r := 1) ⟨x, n, _, hn, rfl, rfl, Or.inl ⟨hx, rfl⟩⟩ ?_)
        refine st_if_eq O dX4_areTwo_5 (t := 25) rfl (q := 8) rfl (fun c5 => ?_) (fun c5 => ?_)
        · exact absurd c5 (by decide)
        refine st_aloadn O dX4_areTwo_8 rfl (q := 9) rfl ?_
        refine st_iloadn O dX4_areTwo_9 rfl (q := 10) rfl ?_
        refine st_call O dX4_areTwo_10 cs_X4_areTwo_10 (q := 13) rfl (am_sip rfl rfl rfl (Nat.le_of_ble_eq_true rfl) rfl (r := 0) ⟨y, n, _, hn, rfl, rfl, Or.inr ⟨hy, rfl⟩⟩ ?_)
        refine st_if_eq O dX4_areTwo_13 (t := 25) rfl (q := 16) rfl (fun c13 => ?_) (fun c13 => ?_)
        · refine st_iconst O dX4_areTwo_25 am_iconst_0 (q := 26) rfl ?_
          refine st_zreturn O dX4_areTwo_26 (by first | exact Or.inl rfl | exact Or.inr rfl | assumption) ?_
          exact hK
        exact absurd c13 (by decide)
  · rcases hr with ⟨⟨i, j, h1, h2, h3, rfl, rfl⟩, rfl⟩ | ⟨h, rfl⟩
    · exact absurd ⟨i, h1, rfl⟩ hx
    · refine am_begin rfl ?_
      refine st_aloadn O dX4_areTwo_0 rfl (q := 1) rfl ?_
      refine st_iloadn O dX4_areTwo_1 rfl (q := 2) rfl ?_
      refine st_call O dX4_areTwo_2 cs_X4_areTwo_2 (q := 5) rfl (am_sip rfl rfl rfl (Nat.le_of_ble_eq_true rfl) rfl (r := 0) ⟨x, n, _, hn, rfl, rfl, Or.inr ⟨hx, rfl⟩⟩ ?_)
      refine st_if_eq O dX4_areTwo_5 (t := 25) rfl (q := 8) rfl (fun c5 => ?_) (fun c5 => ?_)
      · refine st_iconst O dX4_areTwo_25 am_iconst_0 (q := 26) rfl ?_
        refine st_zreturn O dX4_areTwo_26 (by first | exact Or.inl rfl | exact Or.inr rfl | assumption) ?_
        exact hK
      exact absurd c5 (by decide)
theorem C_X4_areTwo : am_ctr yX4_areTwo cX4_areTwo 3 (some .boolean) 1 21 sh_R1 [some 0, none, none] T_X4_areTwo := am_mk (by decide) (Or.inr (Or.inr ⟨rfl, rfl⟩)) (by decide) (by decide) (by decide) fl_X4_ok kc_X4_ok ck_X4_areTwo B_X4_areTwo
/-! counting and adding over the cars -/
def cs_X4_standing : Nat → List am_V → am_D → am_K → Prop := am_cs []
theorem ck_X4_standing : ∀ X : am_X, am_cx X RX4 cX4_standing 4 0 0 → ∀ pc, am_csok X 4 sh_Road pc (cs_X4_standing pc) := fun X hX => am_cs_ok (fun _ h => absurd h List.not_mem_nil)
abbrev ok_X4_standing (X : am_X) (K : List Int32 → am_D → Prop) : Prop := am_ok X RX4 cX4_standing 4 sh_Road fl_X4 kc_X4 none 1 cs_X4_standing K
abbrev aw_X4_standing (X : am_X) (pc : Nat) (ls : am_L) (st : List am_V) (D : am_D) : Prop := am_aw X 4 sh_Road pc ls st D
abbrev T_X4_standing : am_TT := am_pure (fun is D r => ∃ n b w kd fg la hu li z, rA n b w kd fg la hu li D ∧ z < 2 ∧ is = [nI z] ∧ r = nI (li.filter (fun c => la c = z)).length)
theorem pl_cnt {li : List Nat} {n : Nat} (hp : li.Perm (List.range n)) (p : Nat → Bool) : (li.filter p).length = ((List.range n).filter p).length := (hp.filter p).length_eq
theorem rg_cnt (p : Nat → Bool) (m : Nat) : ((List.range (m + 1)).filter p).length = ((List.range m).filter p).length + (if p m then 1 else 0) := by
  rw [List.range_succ, List.filter_append, List.length_append]
  congr 1
  by_cases h : p m = true
  · rw [List.filter_cons_of_pos h, if_pos h]; rfl
  · rw [List.filter_cons_of_neg h, if_neg h]; rfl
theorem B_X4_standing : ∀ (X : am_X) (is : List Int32) (D : am_D) (K : List Int32 → am_D → Prop), ok_X4_standing X K → T_X4_standing is D K → is.length = (List.filter Option.isNone ([some 0, none] : List (Option Nat))).length → D.length = sh_Road.length → am_aw X 4 sh_Road 0 (am_l0 4 [some 0, none] is) [] D := by
  intro X is D K O hT _ _
  obtain ⟨r, ⟨n, b, w, kd, fg, la, hu, li, z, hR, hz, rfl, rfl⟩, hK⟩ := hT
  obtain ⟨k, f, l, h, i, rfl, hn, hb, hw, hj, hp, hi⟩ := hR
  rw [pl_cnt hp] at hK
  have loop : ∀ d m, n - m = d → m ≤ n → am_aw X 4 sh_Road 4 [some (.inr 0), some (.inl (nI z)), some (.inl (nI ((List.range m).filter (fun c => decide (la c = z))).length)), some (.inl (nI m))] [] [.inl [nI n, nI b, nI w], .inr k, .inr f, .inr l, .inr h, .inr i] := by
    intro d
    induction d with
    | zero =>
      intro m hd hm
      have e : m = n := by omega
      subst e
      refine st_iloadn O dX4_standing_4 rfl (q := 5) rfl ?_
      refine st_aloadn O dX4_standing_5 rfl (q := 6) rfl ?_
      refine st_geti O dX4_standing_6 fl_X4_9 rfl rfl rfl rfl (q := 9) rfl ?_
      refine sn_icmp_ge O dX4_standing_9 (t := 31) rfl (q := 12) rfl (by omega) (by omega) (fun c9 => ?_) (fun c9 => ?_)
      · refine st_iloadn O dX4_standing_31 rfl (q := 32) rfl ?_
        refine st_ireturn O dX4_standing_32 ?_
        exact hK
      omega
    | succ d ih =>
      intro m hd hm
      have h3 := (hj m (by omega)).2.2.1
      have ih := ih (m + 1) (by omega) (by omega)
      rw [rg_cnt] at ih
      refine st_iloadn O dX4_standing_4 rfl (q := 5) rfl ?_
      refine st_aloadn O dX4_standing_5 rfl (q := 6) rfl ?_
      refine st_geti O dX4_standing_6 fl_X4_9 rfl rfl rfl rfl (q := 9) rfl ?_
      refine sn_icmp_ge O dX4_standing_9 (t := 31) rfl (q := 12) rfl (by omega) (by omega) (fun c9 => ?_) (fun c9 => ?_)
      · omega
      refine st_aloadn O dX4_standing_12 rfl (q := 13) rfl ?_
      refine st_getr O dX4_standing_13 fl_X4_28 rfl rfl rfl (q := 16) rfl ?_
      refine st_iloadn O dX4_standing_16 rfl (q := 17) rfl ?_
      refine sn_ald O dX4_standing_17 rfl rfl rfl ⟨by omega, by decide⟩ h3.1 (q := 18) rfl ?_
      refine st_iloadn O dX4_standing_18 rfl (q := 19) rfl ?_
      refine sn_icmp_ne O dX4_standing_19 (t := 25) rfl (q := 22) rfl (by omega) (by omega) (fun c19 => ?_) (fun c19 => ?_)
      · refine st_iinc O dX4_standing_25 rfl (by first | exact am_ii1 _ | exact rfl) rfl (q := 28) rfl ?_
        refine st_goto O dX4_standing_28 (t := 4) rfl ?_
        first | (rw [if_pos (by simpa using c19)] at ih; exact ih) | (rw [if_neg (by simpa using c19)] at ih; exact ih)
      refine st_iinc O dX4_standing_22 rfl (by first | exact am_ii1 _ | exact rfl) rfl (q := 25) rfl ?_
      refine st_iinc O dX4_standing_25 rfl (by first | exact am_ii1 _ | exact rfl) rfl (q := 28) rfl ?_
      refine st_goto O dX4_standing_28 (t := 4) rfl ?_
      first | (rw [if_pos (by simpa using c19)] at ih; exact ih) | (rw [if_neg (by simpa using c19)] at ih; exact ih)
  refine am_begin rfl ?_
  refine st_iconst O dX4_standing_0 am_iconst_0 (q := 1) rfl ?_
  refine st_istoren O dX4_standing_1 rfl (q := 2) rfl ?_
  refine st_iconst O dX4_standing_2 am_iconst_0 (q := 3) rfl ?_
  refine st_istoren O dX4_standing_3 rfl (q := 4) rfl ?_
  exact loop n 0 (by omega) (by omega)
theorem C_X4_standing : am_ctr yX4_standing cX4_standing 4 (some .int) 0 0 sh_Road [some 0, none] T_X4_standing := am_mk (by decide) (Or.inr (Or.inl ⟨rfl, rfl⟩)) (by decide) (by decide) (by decide) fl_X4_ok kc_X4_ok ck_X4_standing B_X4_standing
def cs_X4_allHurry : Nat → List am_V → am_D → am_K → Prop := am_cs []
theorem ck_X4_allHurry : ∀ X : am_X, am_cx X RX4 cX4_allHurry 3 0 0 → ∀ pc, am_csok X 3 sh_Road pc (cs_X4_allHurry pc) := fun X hX => am_cs_ok (fun _ h => absurd h List.not_mem_nil)
abbrev ok_X4_allHurry (X : am_X) (K : List Int32 → am_D → Prop) : Prop := am_ok X RX4 cX4_allHurry 3 sh_Road fl_X4 kc_X4 none 1 cs_X4_allHurry K
abbrev aw_X4_allHurry (X : am_X) (pc : Nat) (ls : am_L) (st : List am_V) (D : am_D) : Prop := am_aw X 3 sh_Road pc ls st D
abbrev T_X4_allHurry : am_TT := am_pure (fun is D r => ∃ n b w kd fg la hu li, rA n b w kd fg la hu li D ∧ is = [] ∧ r = nI (sm hu n))
theorem B_X4_allHurry : ∀ (X : am_X) (is : List Int32) (D : am_D) (K : List Int32 → am_D → Prop), ok_X4_allHurry X K → T_X4_allHurry is D K → is.length = (List.filter Option.isNone ([some 0] : List (Option Nat))).length → D.length = sh_Road.length → am_aw X 3 sh_Road 0 (am_l0 3 [some 0] is) [] D := by
  intro X is D K O hT _ _
  obtain ⟨r, ⟨n, b, w, kd, fg, la, hu, li, hR, rfl, rfl⟩, hK⟩ := hT
  obtain ⟨k, f, l, h, i, rfl, hn, hb, hw, hj, hp, hi⟩ := hR
  have loop : ∀ d m, n - m = d → m ≤ n → am_aw X 3 sh_Road 4 [some (.inr 0), some (.inl (nI (sm hu m))), some (.inl (nI m))] [] [.inl [nI n, nI b, nI w], .inr k, .inr f, .inr l, .inr h, .inr i] := by
    intro d
    induction d with
    | zero =>
      intro m hd hm
      have e : m = n := by omega
      subst e
      refine st_iloadn O dX4_allHurry_4 rfl (q := 5) rfl ?_
      refine st_aloadn O dX4_allHurry_5 rfl (q := 6) rfl ?_
      refine st_geti O dX4_allHurry_6 fl_X4_9 rfl rfl rfl rfl (q := 9) rfl ?_
      refine sn_icmp_ge O dX4_allHurry_9 (t := 27) rfl (q := 12) rfl (by omega) (by omega) (fun c9 => ?_) (fun c9 => ?_)
      · refine st_iloadn O dX4_allHurry_27 rfl (q := 28) rfl ?_
        refine st_ireturn O dX4_allHurry_28 ?_
        exact hK
      omega
    | succ d ih =>
      intro m hd hm
      have h3 := (hj m (by omega)).2.2.2
      refine st_iloadn O dX4_allHurry_4 rfl (q := 5) rfl ?_
      refine st_aloadn O dX4_allHurry_5 rfl (q := 6) rfl ?_
      refine st_geti O dX4_allHurry_6 fl_X4_9 rfl rfl rfl rfl (q := 9) rfl ?_
      refine sn_icmp_ge O dX4_allHurry_9 (t := 27) rfl (q := 12) rfl (by omega) (by omega) (fun c9 => ?_) (fun c9 => ?_)
      · omega
      refine st_iloadn O dX4_allHurry_12 rfl (q := 13) rfl ?_
      refine st_aloadn O dX4_allHurry_13 rfl (q := 14) rfl ?_
      refine st_getr O dX4_allHurry_14 fl_X4_31 rfl rfl rfl (q := 17) rfl ?_
      refine st_iloadn O dX4_allHurry_17 rfl (q := 18) rfl ?_
      refine sn_ald O dX4_allHurry_18 rfl rfl rfl ⟨by omega, by decide⟩ h3.1 (q := 19) rfl ?_
      refine st_iadd O dX4_allHurry_19 (by first | exact nI_add _ _ | exact rfl) (q := 20) rfl ?_
      refine st_istoren O dX4_allHurry_20 rfl (q := 21) rfl ?_
      refine st_iinc O dX4_allHurry_21 rfl (by first | exact am_ii1 _ | exact rfl) rfl (q := 24) rfl ?_
      refine st_goto O dX4_allHurry_24 (t := 4) rfl ?_
      exact ih (m + 1) (by omega) (by omega)
  refine am_begin rfl ?_
  refine st_iconst O dX4_allHurry_0 am_iconst_0 (q := 1) rfl ?_
  refine st_istoren O dX4_allHurry_1 rfl (q := 2) rfl ?_
  refine st_iconst O dX4_allHurry_2 am_iconst_0 (q := 3) rfl ?_
  refine st_istoren O dX4_allHurry_3 rfl (q := 4) rfl ?_
  exact loop n 0 (by omega) (by omega)
theorem C_X4_allHurry : am_ctr yX4_allHurry cX4_allHurry 3 (some .int) 0 0 sh_Road [some 0] T_X4_allHurry := am_mk (by decide) (Or.inr (Or.inl ⟨rfl, rfl⟩)) (by decide) (by decide) (by decide) fl_X4_ok kc_X4_ok ck_X4_allHurry B_X4_allHurry
def cs_X4_secondsAlone : Nat → List am_V → am_D → am_K → Prop := am_cs [(19, am_site 1 [none] T_X2_secondsOf [] [])]
theorem cs_X4_secondsAlone_19 : cs_X4_secondsAlone 19 = am_site 1 [none] T_X2_secondsOf [] [] := rfl
theorem ck_X4_secondsAlone : ∀ X : am_X, am_cx X RX4 cX4_secondsAlone 3 1 20 → ∀ pc, am_csok X 3 sh_Road pc (cs_X4_secondsAlone pc) := fun X hX => am_cs_ok (List.forall_mem_cons.mpr ⟨am_callS hX C_X2_secondsOf mo_X2_secondsOf rfl lk_X4_58 dX4_secondsAlone_19 rfl (by decide), fun _ h => absurd h List.not_mem_nil⟩)
abbrev ok_X4_secondsAlone (X : am_X) (K : List Int32 → am_D → Prop) : Prop := am_ok X RX4 cX4_secondsAlone 3 sh_Road fl_X4 kc_X4 none 1 cs_X4_secondsAlone K
abbrev aw_X4_secondsAlone (X : am_X) (pc : Nat) (ls : am_L) (st : List am_V) (D : am_D) : Prop := am_aw X 3 sh_Road pc ls st D
abbrev T_X4_secondsAlone : am_TT := am_pure (fun is D r => ∃ n b w kd fg la hu li, rA n b w kd fg la hu li D ∧ is = [] ∧ r = nI (sm (fun c => sc (kd c)) n))
theorem B_X4_secondsAlone : ∀ (X : am_X) (is : List Int32) (D : am_D) (K : List Int32 → am_D → Prop), ok_X4_secondsAlone X K → T_X4_secondsAlone is D K → is.length = (List.filter Option.isNone ([some 0] : List (Option Nat))).length → D.length = sh_Road.length → am_aw X 3 sh_Road 0 (am_l0 3 [some 0] is) [] D := by
  intro X is D K O hT _ _
  obtain ⟨r, ⟨n, b, w, kd, fg, la, hu, li, hR, rfl, rfl⟩, hK⟩ := hT
  obtain ⟨k, f, l, h, i, rfl, hn, hb, hw, hj, hp, hi⟩ := hR
  have loop : ∀ d m, n - m = d → m ≤ n → am_aw X 3 sh_Road 4 [some (.inr 0), some (.inl (nI (sm (fun c => sc (kd c)) m))), some (.inl (nI m))] [] [.inl [nI n, nI b, nI w], .inr k, .inr f, .inr l, .inr h, .inr i] := by
    intro d
    induction d with
    | zero =>
      intro m hd hm
      have e : m = n := by omega
      subst e
      refine st_iloadn O dX4_secondsAlone_4 rfl (q := 5) rfl ?_
      refine st_aloadn O dX4_secondsAlone_5 rfl (q := 6) rfl ?_
      refine st_geti O dX4_secondsAlone_6 fl_X4_9 rfl rfl rfl rfl (q := 9) rfl ?_
      refine sn_icmp_ge O dX4_secondsAlone_9 (t := 30) rfl (q := 12) rfl (by omega) (by omega) (fun c9 => ?_) (fun c9 => ?_)
      · refine st_iloadn O dX4_secondsAlone_30 rfl (q := 31) rfl ?_
        refine st_ireturn O dX4_secondsAlone_31 ?_
        exact hK
      omega
    | succ d ih =>
      intro m hd hm
      have h3 := (hj m (by omega)).1
      refine st_iloadn O dX4_secondsAlone_4 rfl (q := 5) rfl ?_
      refine st_aloadn O dX4_secondsAlone_5 rfl (q := 6) rfl ?_
      refine st_geti O dX4_secondsAlone_6 fl_X4_9 rfl rfl rfl rfl (q := 9) rfl ?_
      refine sn_icmp_ge O dX4_secondsAlone_9 (t := 30) rfl (q := 12) rfl (by omega) (by omega) (fun c9 => ?_) (fun c9 => ?_)
      · omega
      refine st_iloadn O dX4_secondsAlone_12 rfl (q := 13) rfl ?_
      refine st_aloadn O dX4_secondsAlone_13 rfl (q := 14) rfl ?_
      refine st_getr O dX4_secondsAlone_14 fl_X4_21 rfl rfl rfl (q := 17) rfl ?_
      refine st_iloadn O dX4_secondsAlone_17 rfl (q := 18) rfl ?_
      refine sn_ald O dX4_secondsAlone_18 rfl rfl rfl ⟨by omega, by decide⟩ h3.1 (q := 19) rfl ?_
      refine st_callS O dX4_secondsAlone_19 cs_X4_secondsAlone_19 (q := 22) rfl (am_sip rfl rfl rfl (Nat.le_of_ble_eq_true rfl) rfl (r := nI (sc (kd m))) ⟨_, h3.2, rfl, rfl⟩ ?_)
      refine st_iadd O dX4_secondsAlone_22 (by first | exact nI_add _ _ | exact rfl) (q := 23) rfl ?_
      refine st_istoren O dX4_secondsAlone_23 rfl (q := 24) rfl ?_
      refine st_iinc O dX4_secondsAlone_24 rfl (by first | exact am_ii1 _ | exact rfl) rfl (q := 27) rfl ?_
      refine st_goto O dX4_secondsAlone_27 (t := 4) rfl ?_
      exact ih (m + 1) (by omega) (by omega)
  refine am_begin rfl ?_
  refine st_iconst O dX4_secondsAlone_0 am_iconst_0 (q := 1) rfl ?_
  refine st_istoren O dX4_secondsAlone_1 rfl (q := 2) rfl ?_
  refine st_iconst O dX4_secondsAlone_2 am_iconst_0 (q := 3) rfl ?_
  refine st_istoren O dX4_secondsAlone_3 rfl (q := 4) rfl ?_
  exact loop n 0 (by omega) (by omega)
theorem C_X4_secondsAlone : am_ctr yX4_secondsAlone cX4_secondsAlone 3 (some .int) 1 20 sh_Road [some 0] T_X4_secondsAlone := am_mk (by decide) (Or.inr (Or.inl ⟨rfl, rfl⟩)) (by decide) (by decide) (by decide) fl_X4_ok kc_X4_ok ck_X4_secondsAlone B_X4_secondsAlone
def cs_X4_letsIn : Nat → List am_V → am_D → am_K → Prop := am_cs [(16, am_site 3 [none, none, none] T_X2_lettingIn [] [])]
theorem cs_X4_letsIn_16 : cs_X4_letsIn 16 = am_site 3 [none, none, none] T_X2_lettingIn [] [] := rfl
theorem ck_X4_letsIn : ∀ X : am_X, am_cx X RX4 cX4_letsIn 2 1 22 → ∀ pc, am_csok X 2 sh_Road pc (cs_X4_letsIn pc) := fun X hX => am_cs_ok (List.forall_mem_cons.mpr ⟨am_callS hX C_X2_lettingIn mo_X2_lettingIn rfl lk_X4_52 dX4_letsIn_16 rfl (by decide), fun _ h => absurd h List.not_mem_nil⟩)
abbrev ok_X4_letsIn (X : am_X) (K : List Int32 → am_D → Prop) : Prop := am_ok X RX4 cX4_letsIn 2 sh_Road fl_X4 kc_X4 none 1 cs_X4_letsIn K
abbrev aw_X4_letsIn (X : am_X) (pc : Nat) (ls : am_L) (st : List am_V) (D : am_D) : Prop := am_aw X 2 sh_Road pc ls st D
abbrev T_X4_letsIn : am_TT := am_pure (fun is D r => ∃ n b w kd fg la hu li c, rA n b w kd fg la hu li D ∧ c < n ∧ is = [nI c] ∧ r = nI (lt (kd c) (fg c) b))
theorem B_X4_letsIn : ∀ (X : am_X) (is : List Int32) (D : am_D) (K : List Int32 → am_D → Prop), ok_X4_letsIn X K → T_X4_letsIn is D K → is.length = (List.filter Option.isNone ([some 0, none] : List (Option Nat))).length → D.length = sh_Road.length → am_aw X 2 sh_Road 0 (am_l0 2 [some 0, none] is) [] D := by
  intro X is D K O hT _ _
  obtain ⟨r, ⟨n, b, w, kd, fg, la, hu, li, c, hR, hc, rfl, rfl⟩, hK⟩ := hT
  obtain ⟨k, f, l, h, i, rfl, hn, hb, hw, hj, hp, hi⟩ := hR
  have h3 := hj c hc
  refine am_begin rfl ?_
  refine st_aloadn O dX4_letsIn_0 rfl (q := 1) rfl ?_
  refine st_getr O dX4_letsIn_1 fl_X4_21 rfl rfl rfl (q := 4) rfl ?_
  refine st_iloadn O dX4_letsIn_4 rfl (q := 5) rfl ?_
  refine sn_ald O dX4_letsIn_5 rfl rfl rfl ⟨by omega, by decide⟩ h3.1.1 (q := 6) rfl ?_
  refine st_aloadn O dX4_letsIn_6 rfl (q := 7) rfl ?_
  refine st_getr O dX4_letsIn_7 fl_X4_25 rfl rfl rfl (q := 10) rfl ?_
  refine st_iloadn O dX4_letsIn_10 rfl (q := 11) rfl ?_
  refine sn_ald O dX4_letsIn_11 rfl rfl rfl ⟨by omega, by decide⟩ h3.2.1.1 (q := 12) rfl ?_
  refine st_aloadn O dX4_letsIn_12 rfl (q := 13) rfl ?_
  refine st_geti O dX4_letsIn_13 fl_X4_15 rfl rfl rfl rfl (q := 16) rfl ?_
  refine st_callS O dX4_letsIn_16 cs_X4_letsIn_16 (q := 19) rfl (am_sip rfl rfl rfl (Nat.le_of_ble_eq_true rfl) rfl (r := nI (lt (kd c) (fg c) b)) ⟨_, _, _, h3.1.2, hb, rfl, rfl⟩ ?_)
  refine st_ireturn O dX4_letsIn_19 ?_
  exact hK
theorem C_X4_letsIn : am_ctr yX4_letsIn cX4_letsIn 2 (some .int) 1 22 sh_Road [some 0, none] T_X4_letsIn := am_mk (by decide) (Or.inr (Or.inl ⟨rfl, rfl⟩)) (by decide) (by decide) (by decide) fl_X4_ok kc_X4_ok ck_X4_letsIn B_X4_letsIn
