/-! Road: places, and what changes it -/
theorem ix_ne {a c : Nat} (h : ¬ a = c) (r : List Nat) : (a :: r).idxOf c = r.idxOf c + 1 := by
  have hb : (a == c) = false := by simpa using h
  rw [List.idxOf_cons, hb]
  rfl
theorem ix_filter {c : Nat} (p : Nat → Bool) (hpc : p c = true) : ∀ (li : List Nat), c ∈ li → (li.filter p).idxOf c = ((li.take (li.idxOf c)).filter p).length
  | [], h => by cases h
  | a :: r, h => by
    by_cases ha : a = c
    · subst ha
      rw [List.filter_cons_of_pos hpc, List.idxOf_cons_self, List.idxOf_cons_self]
      rfl
    · have hr : c ∈ r := by
        rcases List.mem_cons.mp h with e | e
        · exact absurd e.symm ha
        · exact e
      have ih := ix_filter p hpc r hr
      rw [ix_ne ha, List.take_succ_cons]
      by_cases hpa : p a = true
      · rw [List.filter_cons_of_pos hpa, List.filter_cons_of_pos hpa, ix_ne ha, ih]
        rfl
      · rw [List.filter_cons_of_neg hpa, List.filter_cons_of_neg hpa, ih]
theorem tk_cnt (p : Nat → Bool) {li : List Nat} {m : Nat} (h : m < li.length) : ((li.take (m + 1)).filter p).length = ((li.take m).filter p).length + (if p (li.getD m 0) then 1 else 0) := by
  rw [List.take_succ, List.filter_append, List.length_append, List.getD_eq_getElem?_getD, List.getElem?_eq_getElem h]
  congr 1
  by_cases hp : p li[m] = true
  · simp [hp]
  · simp [hp]
def cs_X4_placeOf : Nat → List am_V → am_D → am_K → Prop := am_cs [(4, am_site 2 [some 0, none] T_X4_lineIndex [0, 1, 2, 3, 4, 5] [0, 1, 2, 3, 4, 5])]
theorem cs_X4_placeOf_4 : cs_X4_placeOf 4 = am_site 2 [some 0, none] T_X4_lineIndex [0, 1, 2, 3, 4, 5] [0, 1, 2, 3, 4, 5] := rfl
theorem ck_X4_placeOf : ∀ X : am_X, am_cx X RX4 cX4_placeOf 5 1 22 → ∀ pc, am_csok X 5 sh_Road pc (cs_X4_placeOf pc) := fun X hX => am_cs_ok (List.forall_mem_cons.mpr ⟨am_callV hX C_X4_lineIndex mo_X4_lineIndex rfl lk_X4_45 dX4_placeOf_4 rfl rfl rfl (by decide), fun _ h => absurd h List.not_mem_nil⟩)
abbrev ok_X4_placeOf (X : am_X) (K : List Int32 → am_D → Prop) : Prop := am_ok X RX4 cX4_placeOf 5 sh_Road fl_X4 kc_X4 none 1 cs_X4_placeOf K
abbrev aw_X4_placeOf (X : am_X) (pc : Nat) (ls : am_L) (st : List am_V) (D : am_D) : Prop := am_aw X 5 sh_Road pc ls st D
abbrev T_X4_placeOf : am_TT := am_pure (fun is D r => ∃ n b w kd fg la hu li c, rA n b w kd fg la hu li D ∧ c < n ∧ is = [nI c] ∧ r = nI ((li.filter (fun z => la z = la c)).idxOf c))
theorem B_X4_placeOf : ∀ (X : am_X) (is : List Int32) (D : am_D) (K : List Int32 → am_D → Prop), ok_X4_placeOf X K → T_X4_placeOf is D K → is.length = (List.filter Option.isNone ([some 0, none] : List (Option Nat))).length → D.length = sh_Road.length → am_aw X 5 sh_Road 0 (am_l0 5 [some 0, none] is) [] D := by
  intro X is D K O hT _ _
  obtain ⟨r, ⟨n, b, w, kd, fg, la, hu, li, c, hR, hc, rfl, rfl⟩, hK⟩ := hT
  obtain ⟨k, f, l, h, i, rfl, hn, hb, hw, hj, hp, hi⟩ := id hR
  have h2 := pl_idx hp hc
  have h3 := hj c hc
  rw [ix_filter _ (by simp) li ((pl_mem hp).mpr hc)] at hK
  have loop : ∀ d m, li.idxOf c - m = d → m ≤ li.idxOf c → am_aw X 5 sh_Road 11 [some (.inr 0), some (.inl (nI c)), some (.inl (nI ((li.take m).filter (fun z => decide (la z = la c))).length)), some (.inl (nI (li.idxOf c))), some (.inl (nI m))] [] [.inl [nI n, nI b, nI w], .inr k, .inr f, .inr l, .inr h, .inr i] := by
    intro d
    induction d with
    | zero =>
      intro m hd hm
      have e : m = li.idxOf c := by omega
      subst e
      refine st_iload O dX4_placeOf_11 rfl (q := 13) rfl ?_
      refine st_iloadn O dX4_placeOf_13 rfl (q := 14) rfl ?_
      refine sn_icmp_ge O dX4_placeOf_14 (t := 47) rfl (q := 17) rfl (by omega) (by omega) (fun c14 => ?_) (fun c14 => ?_)
      · refine st_iloadn O dX4_placeOf_47 rfl (q := 48) rfl ?_
        refine st_ireturn O dX4_placeOf_48 ?_
        exact hK
      omega
    | succ d ih =>
      intro m hd hm
      have ih := ih (m + 1) (by omega) (by omega)
      rw [tk_cnt _ (by rw [pl_len hp]; omega)] at ih
      have h4 := pl_get hp (j := m) (by omega)
      have h5 := hj _ h4
      have h6 := h5.2.2.1.2
      have h7 := h3.2.2.1.2
      refine st_iload O dX4_placeOf_11 rfl (q := 13) rfl ?_
      refine st_iloadn O dX4_placeOf_13 rfl (q := 14) rfl ?_
      refine sn_icmp_ge O dX4_placeOf_14 (t := 47) rfl (q := 17) rfl (by omega) (by omega) (fun c14 => ?_) (fun c14 => ?_)
      · omega
      refine st_aloadn O dX4_placeOf_17 rfl (q := 18) rfl ?_
      refine st_getr O dX4_placeOf_18 fl_X4_28 rfl rfl rfl (q := 21) rfl ?_
      refine st_aloadn O dX4_placeOf_21 rfl (q := 22) rfl ?_
      refine st_getr O dX4_placeOf_22 fl_X4_34 rfl rfl rfl (q := 25) rfl ?_
      refine st_iload O dX4_placeOf_25 rfl (q := 27) rfl ?_
      refine sn_ald O dX4_placeOf_27 rfl rfl rfl ⟨by omega, by decide⟩ (hi m (by omega)) (q := 28) rfl ?_
      refine sn_ald O dX4_placeOf_28 rfl rfl rfl ⟨by omega, by decide⟩ h5.2.2.1.1 (q := 29) rfl ?_
      refine st_aloadn O dX4_placeOf_29 rfl (q := 30) rfl ?_
      refine st_getr O dX4_placeOf_30 fl_X4_28 rfl rfl rfl (q := 33) rfl ?_
      refine st_iloadn O dX4_placeOf_33 rfl (q := 34) rfl ?_
      refine sn_ald O dX4_placeOf_34 rfl rfl rfl ⟨by omega, by decide⟩ h3.2.2.1.1 (q := 35) rfl ?_
      refine sn_icmp_ne O dX4_placeOf_35 (t := 41) rfl (q := 38) rfl (by omega) (by omega) (fun c35 => ?_) (fun c35 => ?_)
      · refine st_iinc O dX4_placeOf_41 rfl (by first | exact am_ii1 _ | exact rfl) rfl (q := 44) rfl ?_
        refine st_goto O dX4_placeOf_44 (t := 11) rfl ?_
        first | (rw [if_pos (by simpa using c35)] at ih; exact ih) | (rw [if_neg (by simpa using c35)] at ih; exact ih)
      refine st_iinc O dX4_placeOf_38 rfl (by first | exact am_ii1 _ | exact rfl) rfl (q := 41) rfl ?_
      refine st_iinc O dX4_placeOf_41 rfl (by first | exact am_ii1 _ | exact rfl) rfl (q := 44) rfl ?_
      refine st_goto O dX4_placeOf_44 (t := 11) rfl ?_
      first | (rw [if_pos (by simpa using c35)] at ih; exact ih) | (rw [if_neg (by simpa using c35)] at ih; exact ih)
  refine am_begin rfl ?_
  refine st_iconst O dX4_placeOf_0 am_iconst_0 (q := 1) rfl ?_
  refine st_istoren O dX4_placeOf_1 rfl (q := 2) rfl ?_
  refine st_aloadn O dX4_placeOf_2 rfl (q := 3) rfl ?_
  refine st_iloadn O dX4_placeOf_3 rfl (q := 4) rfl ?_
  refine st_call O dX4_placeOf_4 cs_X4_placeOf_4 (q := 7) rfl (am_sip rfl rfl rfl (Nat.le_of_ble_eq_true rfl) rfl (r := nI (li.idxOf c)) ⟨n, b, w, kd, fg, la, hu, li, c, hR, hc, rfl, rfl⟩ ?_)
  refine st_istoren O dX4_placeOf_7 rfl (q := 8) rfl ?_
  refine st_iconst O dX4_placeOf_8 am_iconst_0 (q := 9) rfl ?_
  refine st_istore O dX4_placeOf_9 rfl (q := 11) rfl ?_
  exact loop (li.idxOf c) 0 (by omega) (by omega)
theorem C_X4_placeOf : am_ctr yX4_placeOf cX4_placeOf 5 (some .int) 1 22 sh_Road [some 0, none] T_X4_placeOf := am_mk (by decide) (Or.inr (Or.inl ⟨rfl, rfl⟩)) (by decide) (by decide) (by decide) fl_X4_ok kc_X4_ok ck_X4_placeOf B_X4_placeOf
/-- a road's cells of which nothing is known but their form -/
def rF (D : am_D) : Prop := ∃ (a b c : Int32) (k f l h i : Nat → Int32), D = [.inl [a, b, c], .inr k, .inr f, .inr l, .inr h, .inr i]
theorem rA.form {n b w : Nat} {kd fg la hu : Nat → Nat} {li : List Nat} {D : am_D} (h : rA n b w kd fg la hu li D) : rF D := by
  obtain ⟨k, f, l, h, i, rfl, -⟩ := h
  exact ⟨_, _, _, _, _, _, _, _, rfl⟩
def cs_X4_copyFrom : Nat → List am_V → am_D → am_K → Prop := am_cs []
theorem ck_X4_copyFrom : ∀ X : am_X, am_cx X RX4 cX4_copyFrom 3 0 0 → ∀ pc, am_csok X 3 sh_RR pc (cs_X4_copyFrom pc) := fun X hX => am_cs_ok (fun _ h => absurd h List.not_mem_nil)
abbrev ok_X4_copyFrom (X : am_X) (K : List Int32 → am_D → Prop) : Prop := am_ok X RX4 cX4_copyFrom 3 sh_RR fl_X4 kc_X4 none 0 cs_X4_copyFrom K
abbrev aw_X4_copyFrom (X : am_X) (pc : Nat) (ls : am_L) (st : List am_V) (D : am_D) : Prop := am_aw X 3 sh_RR pc ls st D
abbrev T_X4_copyFrom : am_TT := fun is D K => ∃ n b w kd fg la hu li d1 d2, is = [] ∧ D = d1 ++ d2 ∧ rF d1 ∧ rA n b w kd fg la hu li d2 ∧ ∀ d, rA n b w kd fg la hu li d → K [] (d ++ d2)
theorem B_X4_copyFrom : ∀ (X : am_X) (is : List Int32) (D : am_D) (K : List Int32 → am_D → Prop), ok_X4_copyFrom X K → T_X4_copyFrom is D K → is.length = (List.filter Option.isNone ([some 0, some 6] : List (Option Nat))).length → D.length = sh_RR.length → am_aw X 3 sh_RR 0 (am_l0 3 [some 0, some 6] is) [] D := by
  intro X is D K O hT _ _
  obtain ⟨n, b, w, kd, fg, la, hu, li, d1, d2, rfl, rfl, h1, hR, hK⟩ := hT
  obtain ⟨a0, b0, c0, k0, f0, l0, h0, i0, rfl⟩ := h1
  obtain ⟨k, f, l, h, i, rfl, hn, hb, hw, hj, hp, hi⟩ := hR
  have loop : ∀ d m (k0 f0 l0 h0 i0 : Nat → Int32), n - m = d → m ≤ n → (∀ j, j < m → k0 j = k j ∧ f0 j = f j ∧ l0 j = l j ∧ h0 j = h j ∧ i0 j = i j) → am_aw X 3 sh_RR 26 [some (.inr 0), some (.inr 6), some (.inl (nI m))] [] [.inl [nI n, nI b, nI w], .inr k0, .inr f0, .inr l0, .inr h0, .inr i0, .inl [nI n, nI b, nI w], .inr k, .inr f, .inr l, .inr h, .inr i] := by
    intro d
    induction d with
    | zero =>
      intro m k0 f0 l0 h0 i0 hd hm hq
      have e : m = n := by omega
      subst e
      refine st_iloadn O dX4_copyFrom_26 rfl (q := 27) rfl ?_
      refine st_aloadn O dX4_copyFrom_27 rfl (q := 28) rfl ?_
      refine st_geti O dX4_copyFrom_28 fl_X4_9 rfl rfl rfl rfl (q := 31) rfl ?_
      refine sn_icmp_ge O dX4_copyFrom_31 (t := 100) rfl (q := 34) rfl (by omega) (by omega) (fun c31 => ?_) (fun c31 => ?_)
      · refine st_vreturn O dX4_copyFrom_100 ?_
        refine hK [.inl [nI m, nI b, nI w], .inr k0, .inr f0, .inr l0, .inr h0, .inr i0] ⟨k0, f0, l0, h0, i0, rfl, hn, hb, hw, fun j hjm => ?_, hp, fun j hjm => by rw [(hq j hjm).2.2.2.2]; exact hi j hjm⟩
        obtain ⟨q1, q2, q3, q4, q5⟩ := hq j hjm
        rw [q1, q2, q3, q4]
        exact hj j hjm
      omega
    | succ d ih =>
      intro m k0 f0 l0 h0 i0 hd hm hq
      refine st_iloadn O dX4_copyFrom_26 rfl (q := 27) rfl ?_
      refine st_aloadn O dX4_copyFrom_27 rfl (q := 28) rfl ?_
      refine st_geti O dX4_copyFrom_28 fl_X4_9 rfl rfl rfl rfl (q := 31) rfl ?_
      refine sn_icmp_ge O dX4_copyFrom_31 (t := 100) rfl (q := 34) rfl (by omega) (by omega) (fun c31 => ?_) (fun c31 => ?_)
      · omega
      refine st_aloadn O dX4_copyFrom_34 rfl (q := 35) rfl ?_
      refine st_getr O dX4_copyFrom_35 fl_X4_21 rfl rfl rfl (q := 38) rfl ?_
      refine st_iloadn O dX4_copyFrom_38 rfl (q := 39) rfl ?_
      refine st_aloadn O dX4_copyFrom_39 rfl (q := 40) rfl ?_
      refine st_getr O dX4_copyFrom_40 fl_X4_21 rfl rfl rfl (q := 43) rfl ?_
      refine st_iloadn O dX4_copyFrom_43 rfl (q := 44) rfl ?_
      refine sn_ald O dX4_copyFrom_44 rfl rfl rfl ⟨by omega, by decide⟩ rfl (q := 45) rfl ?_
      refine sn_ast O dX4_copyFrom_45 rfl rfl rfl ⟨by omega, by decide⟩ rfl rfl (q := 46) rfl ?_
      refine st_aloadn O dX4_copyFrom_46 rfl (q := 47) rfl ?_
      refine st_getr O dX4_copyFrom_47 fl_X4_25 rfl rfl rfl (q := 50) rfl ?_
      refine st_iloadn O dX4_copyFrom_50 rfl (q := 51) rfl ?_
      refine st_aloadn O dX4_copyFrom_51 rfl (q := 52) rfl ?_
      refine st_getr O dX4_copyFrom_52 fl_X4_25 rfl rfl rfl (q := 55) rfl ?_
      refine st_iloadn O dX4_copyFrom_55 rfl (q := 56) rfl ?_
      refine sn_ald O dX4_copyFrom_56 rfl rfl rfl ⟨by omega, by decide⟩ rfl (q := 57) rfl ?_
      refine sn_ast O dX4_copyFrom_57 rfl rfl rfl ⟨by omega, by decide⟩ rfl rfl (q := 58) rfl ?_
      refine st_aloadn O dX4_copyFrom_58 rfl (q := 59) rfl ?_
      refine st_getr O dX4_copyFrom_59 fl_X4_28 rfl rfl rfl (q := 62) rfl ?_
      refine st_iloadn O dX4_copyFrom_62 rfl (q := 63) rfl ?_
      refine st_aloadn O dX4_copyFrom_63 rfl (q := 64) rfl ?_
      refine st_getr O dX4_copyFrom_64 fl_X4_28 rfl rfl rfl (q := 67) rfl ?_
      refine st_iloadn O dX4_copyFrom_67 rfl (q := 68) rfl ?_
      refine sn_ald O dX4_copyFrom_68 rfl rfl rfl ⟨by omega, by decide⟩ rfl (q := 69) rfl ?_
      refine sn_ast O dX4_copyFrom_69 rfl rfl rfl ⟨by omega, by decide⟩ rfl rfl (q := 70) rfl ?_
      refine st_aloadn O dX4_copyFrom_70 rfl (q := 71) rfl ?_
      refine st_getr O dX4_copyFrom_71 fl_X4_31 rfl rfl rfl (q := 74) rfl ?_
      refine st_iloadn O dX4_copyFrom_74 rfl (q := 75) rfl ?_
      refine st_aloadn O dX4_copyFrom_75 rfl (q := 76) rfl ?_
      refine st_getr O dX4_copyFrom_76 fl_X4_31 rfl rfl rfl (q := 79) rfl ?_
      refine st_iloadn O dX4_copyFrom_79 rfl (q := 80) rfl ?_
      refine sn_ald O dX4_copyFrom_80 rfl rfl rfl ⟨by omega, by decide⟩ rfl (q := 81) rfl ?_
      refine sn_ast O dX4_copyFrom_81 rfl rfl rfl ⟨by omega, by decide⟩ rfl rfl (q := 82) rfl ?_
      refine st_aloadn O dX4_copyFrom_82 rfl (q := 83) rfl ?_
      refine st_getr O dX4_copyFrom_83 fl_X4_34 rfl rfl rfl (q := 86) rfl ?_
      refine st_iloadn O dX4_copyFrom_86 rfl (q := 87) rfl ?_
      refine st_aloadn O dX4_copyFrom_87 rfl (q := 88) rfl ?_
      refine st_getr O dX4_copyFrom_88 fl_X4_34 rfl rfl rfl (q := 91) rfl ?_
      refine st_iloadn O dX4_copyFrom_91 rfl (q := 92) rfl ?_
      refine sn_ald O dX4_copyFrom_92 rfl rfl rfl ⟨by omega, by decide⟩ rfl (q := 93) rfl ?_
      refine sn_ast O dX4_copyFrom_93 rfl rfl rfl ⟨by omega, by decide⟩ rfl rfl (q := 94) rfl ?_
      refine st_iinc O dX4_copyFrom_94 rfl (by first | exact am_ii1 _ | exact rfl) rfl (q := 97) rfl ?_
      refine st_goto O dX4_copyFrom_97 (t := 26) rfl ?_
      refine ih (m + 1) _ _ _ _ _ (by omega) (by omega) (fun j hjm => ?_)
      by_cases e : j = m
      · subst e; exact ⟨pk_us, pk_us, pk_us, pk_us, pk_us⟩
      · rw [pk_un e, pk_un e, pk_un e, pk_un e, pk_un e]; exact hq j (by omega)
  refine am_begin rfl ?_
  refine st_aloadn O dX4_copyFrom_0 rfl (q := 1) rfl ?_
  refine st_aloadn O dX4_copyFrom_1 rfl (q := 2) rfl ?_
  refine st_geti O dX4_copyFrom_2 fl_X4_9 rfl rfl rfl rfl (q := 5) rfl ?_
  refine st_puti O dX4_copyFrom_5 fl_X4_9 rfl rfl rfl rfl rfl (q := 8) rfl ?_
  refine st_aloadn O dX4_copyFrom_8 rfl (q := 9) rfl ?_
  refine st_aloadn O dX4_copyFrom_9 rfl (q := 10) rfl ?_
  refine st_geti O dX4_copyFrom_10 fl_X4_15 rfl rfl rfl rfl (q := 13) rfl ?_
  refine st_puti O dX4_copyFrom_13 fl_X4_15 rfl rfl rfl rfl rfl (q := 16) rfl ?_
  refine st_aloadn O dX4_copyFrom_16 rfl (q := 17) rfl ?_
  refine st_aloadn O dX4_copyFrom_17 rfl (q := 18) rfl ?_
  refine st_geti O dX4_copyFrom_18 fl_X4_18 rfl rfl rfl rfl (q := 21) rfl ?_
  refine st_puti O dX4_copyFrom_21 fl_X4_18 rfl rfl rfl rfl rfl (q := 24) rfl ?_
  refine st_iconst O dX4_copyFrom_24 am_iconst_0 (q := 25) rfl ?_
  refine st_istoren O dX4_copyFrom_25 rfl (q := 26) rfl ?_
  exact loop n 0 _ _ _ _ _ (by omega) (by omega) (fun j h => by omega)
theorem C_X4_copyFrom : am_ctr yX4_copyFrom cX4_copyFrom 3 none 0 0 sh_RR [some 0, some 6] T_X4_copyFrom := am_mk (by decide) (Or.inl ⟨rfl, rfl⟩) (by decide) (by decide) (by decide) fl_X4_ok kc_X4_ok ck_X4_copyFrom B_X4_copyFrom
def cs_X4_putBoard : Nat → List am_V → am_D → am_K → Prop := am_cs []
theorem ck_X4_putBoard : ∀ X : am_X, am_cx X RX4 cX4_putBoard 2 0 0 → ∀ pc, am_csok X 2 sh_R1 pc (cs_X4_putBoard pc) := fun X hX => am_cs_ok (fun _ h => absurd h List.not_mem_nil)
abbrev ok_X4_putBoard (X : am_X) (K : List Int32 → am_D → Prop) : Prop := am_ok X RX4 cX4_putBoard 2 sh_R1 fl_X4 kc_X4 none 2 cs_X4_putBoard K
abbrev aw_X4_putBoard (X : am_X) (pc : Nat) (ls : am_L) (st : List am_V) (D : am_D) : Prop := am_aw X 2 sh_R1 pc ls st D
abbrev T_X4_putBoard : am_TT := fun is D K => ∃ x n b w, is = [x] ∧ D = [.inl [n, b, w]] ∧ ((∃ v, v ≤ 2 ∧ x = nI v ∧ K [1] [.inl [n, x, w]]) ∨ ((¬ ∃ v, v ≤ 2 ∧ x = nI v) ∧ K [0] [.inl [n, b, w]]))
theorem le_iff {x : Int32} (m : Nat) (hm : m < 2 ^ 31) : (0 ≤ x ∧ x ≤ nI m) ↔ ∃ v, v ≤ m ∧ x = nI v := by
  constructor
  · intro h
    obtain ⟨j, hj, rfl⟩ := nI_of (Int32.not_lt.mpr h.1)
    exact ⟨j, (nI_leI hj hm).mp h.2, rfl⟩
  · rintro ⟨j, hj, rfl⟩
    exact ⟨nI_pos' (by omega), (nI_leI (by omega) hm).mpr hj⟩
theorem B_X4_putBoard : ∀ (X : am_X) (is : List Int32) (D : am_D) (K : List Int32 → am_D → Prop), ok_X4_putBoard X K → T_X4_putBoard is D K → is.length = (List.filter Option.isNone ([some 0, none] : List (Option Nat))).length → D.length = sh_R1.length → am_aw X 2 sh_R1 0 (am_l0 2 [some 0, none] is) [] D := by
  intro X is D K O hT _ _
  obtain ⟨x, n, b, w, rfl, rfl, h⟩ := hT
  rcases h with ⟨v, hv, rfl, hK⟩ | ⟨hv, hK⟩
  · refine am_begin rfl ?_
    refine st_iloadn O dX4_putBoard_0 rfl (q := 1) rfl ?_
    refine sn_if_lt O dX4_putBoard_1 (t := 9) rfl (q := 4) rfl (by omega) (fun c1 => ?_) (fun c1 => ?_)
    · exact c1.elim
    refine st_iloadn O dX4_putBoard_4 rfl (q := 5) rfl ?_
    refine st_iconst O dX4_putBoard_5 am_iconst_2 (q := 6) rfl ?_
    refine sn_icmp_le O dX4_putBoard_6 (t := 11) rfl (q := 9) rfl (by omega) (by omega) (fun c6 => ?_) (fun c6 => ?_)
    · refine st_aloadn O dX4_putBoard_11 rfl (q := 12) rfl ?_
      refine st_iloadn O dX4_putBoard_12 rfl (q := 13) rfl ?_
      refine st_puti O dX4_putBoard_13 fl_X4_15 rfl rfl rfl rfl rfl (q := 16) rfl ?_
      refine st_iconst O dX4_putBoard_16 am_iconst_1 (q := 17) rfl ?_
      refine st_zreturn O dX4_putBoard_17 (by first | exact Or.inl rfl | exact Or.inr rfl | assumption) ?_
      exact hK
    omega
  · rw [← le_iff 2 (by decide)] at hv
    refine am_begin rfl ?_
    refine st_iloadn O dX4_putBoard_0 rfl (q := 1) rfl ?_
    refine st_if_lt O dX4_putBoard_1 (t := 9) rfl (q := 4) rfl (fun c1 => ?_) (fun c1 => ?_)
    · refine st_iconst O dX4_putBoard_9 am_iconst_0 (q := 10) rfl ?_
      refine st_zreturn O dX4_putBoard_10 (by first | exact Or.inl rfl | exact Or.inr rfl | assumption) ?_
      exact hK
    refine st_iloadn O dX4_putBoard_4 rfl (q := 5) rfl ?_
    refine st_iconst O dX4_putBoard_5 am_iconst_2 (q := 6) rfl ?_
    refine st_icmp_le O dX4_putBoard_6 (t := 11) rfl (q := 9) rfl (fun c6 => ?_) (fun c6 => ?_)
    · exact absurd ⟨Int32.not_lt.mp c1, c6⟩ hv
    refine st_iconst O dX4_putBoard_9 am_iconst_0 (q := 10) rfl ?_
    refine st_zreturn O dX4_putBoard_10 (by first | exact Or.inl rfl | exact Or.inr rfl | assumption) ?_
    exact hK
theorem C_X4_putBoard : am_ctr yX4_putBoard cX4_putBoard 2 (some .boolean) 0 0 sh_R1 [some 0, none] T_X4_putBoard := am_mk (by decide) (Or.inr (Or.inr ⟨rfl, rfl⟩)) (by decide) (by decide) (by decide) fl_X4_ok kc_X4_ok ck_X4_putBoard B_X4_putBoard
def cs_X4_putWave : Nat → List am_V → am_D → am_K → Prop := am_cs []
theorem ck_X4_putWave : ∀ X : am_X, am_cx X RX4 cX4_putWave 2 0 0 → ∀ pc, am_csok X 2 sh_R1 pc (cs_X4_putWave pc) := fun X hX => am_cs_ok (fun _ h => absurd h List.not_mem_nil)
abbrev ok_X4_putWave (X : am_X) (K : List Int32 → am_D → Prop) : Prop := am_ok X RX4 cX4_putWave 2 sh_R1 fl_X4 kc_X4 none 2 cs_X4_putWave K
abbrev aw_X4_putWave (X : am_X) (pc : Nat) (ls : am_L) (st : List am_V) (D : am_D) : Prop := am_aw X 2 sh_R1 pc ls st D
abbrev T_X4_putWave : am_TT := fun is D K => ∃ x n b w, is = [x] ∧ D = [.inl [n, b, w]] ∧ ((∃ v, v ≤ 9 ∧ x = nI v ∧ K [1] [.inl [n, b, x]]) ∨ ((¬ ∃ v, v ≤ 9 ∧ x = nI v) ∧ K [0] [.inl [n, b, w]]))
theorem B_X4_putWave : ∀ (X : am_X) (is : List Int32) (D : am_D) (K : List Int32 → am_D → Prop), ok_X4_putWave X K → T_X4_putWave is D K → is.length = (List.filter Option.isNone ([some 0, none] : List (Option Nat))).length → D.length = sh_R1.length → am_aw X 2 sh_R1 0 (am_l0 2 [some 0, none] is) [] D := by
  intro X is D K O hT _ _
  obtain ⟨x, n, b, w, rfl, rfl, h⟩ := hT
  rcases h with ⟨v, hv, rfl, hK⟩ | ⟨hv, hK⟩
  · refine am_begin rfl ?_
    refine st_iloadn O dX4_putWave_0 rfl (q := 1) rfl ?_
    refine sn_if_lt O dX4_putWave_1 (t := 10) rfl (q := 4) rfl (by omega) (fun c1 => ?_) (fun c1 => ?_)
    · exact c1.elim
    refine st_iloadn O dX4_putWave_4 rfl (q := 5) rfl ?_
    refine st_bipush O dX4_putWave_5 am_bipush_9 (q := 7) rfl ?_
    refine sn_icmp_le O dX4_putWave_7 (t := 12) rfl (q := 10) rfl (by omega) (by omega) (fun c7 => ?_) (fun c7 => ?_)
    · refine st_aloadn O dX4_putWave_12 rfl (q := 13) rfl ?_
      refine st_iloadn O dX4_putWave_13 rfl (q := 14) rfl ?_
      refine st_puti O dX4_putWave_14 fl_X4_18 rfl rfl rfl rfl rfl (q := 17) rfl ?_
      refine st_iconst O dX4_putWave_17 am_iconst_1 (q := 18) rfl ?_
      refine st_zreturn O dX4_putWave_18 (by first | exact Or.inl rfl | exact Or.inr rfl | assumption) ?_
      exact hK
    omega
  · rw [← le_iff 9 (by decide)] at hv
    refine am_begin rfl ?_
    refine st_iloadn O dX4_putWave_0 rfl (q := 1) rfl ?_
    refine st_if_lt O dX4_putWave_1 (t := 10) rfl (q := 4) rfl (fun c1 => ?_) (fun c1 => ?_)
    · refine st_iconst O dX4_putWave_10 am_iconst_0 (q := 11) rfl ?_
      refine st_zreturn O dX4_putWave_11 (by first | exact Or.inl rfl | exact Or.inr rfl | assumption) ?_
      exact hK
    refine st_iloadn O dX4_putWave_4 rfl (q := 5) rfl ?_
    refine st_bipush O dX4_putWave_5 am_bipush_9 (q := 7) rfl ?_
    refine st_icmp_le O dX4_putWave_7 (t := 12) rfl (q := 10) rfl (fun c7 => ?_) (fun c7 => ?_)
    · exact absurd ⟨Int32.not_lt.mp c1, c7⟩ hv
    refine st_iconst O dX4_putWave_10 am_iconst_0 (q := 11) rfl ?_
    refine st_zreturn O dX4_putWave_11 (by first | exact Or.inl rfl | exact Or.inr rfl | assumption) ?_
    exact hK
theorem C_X4_putWave : am_ctr yX4_putWave cX4_putWave 2 (some .boolean) 0 0 sh_R1 [some 0, none] T_X4_putWave := am_mk (by decide) (Or.inr (Or.inr ⟨rfl, rfl⟩)) (by decide) (by decide) (by decide) fl_X4_ok kc_X4_ok ck_X4_putWave B_X4_putWave
def cs_X4_add : Nat → List am_V → am_D → am_K → Prop := am_cs []
theorem ck_X4_add : ∀ X : am_X, am_cx X RX4 cX4_add 5 0 0 → ∀ pc, am_csok X 5 sh_Road pc (cs_X4_add pc) := fun X hX => am_cs_ok (fun _ h => absurd h List.not_mem_nil)
abbrev ok_X4_add (X : am_X) (K : List Int32 → am_D → Prop) : Prop := am_ok X RX4 cX4_add 5 sh_Road fl_X4 kc_X4 none 2 cs_X4_add K
abbrev aw_X4_add (X : am_X) (pc : Nat) (ls : am_L) (st : List am_V) (D : am_D) : Prop := am_aw X 5 sh_Road pc ls st D
abbrev T_X4_add : am_TT := fun is D K => ∃ n b w kd fg la hu li k f l h, rA n b w kd fg la hu li D ∧ k < 6 ∧ f < 10 ∧ l < 10 ∧ h < 100 ∧ is = [nI k, nI f, nI l, nI h] ∧ (((n = 9 ∨ 2 ≤ l ∨ 20 < h) ∧ K [0] D) ∨ (n < 9 ∧ l < 2 ∧ h ≤ 20 ∧ ∀ D', rA (n + 1) b w (va_up kd n k) (va_up fg n f) (va_up la n l) (va_up hu n h) (li ++ [n]) D' → K [1] D'))
theorem B_X4_add : ∀ (X : am_X) (is : List Int32) (D : am_D) (K : List Int32 → am_D → Prop), ok_X4_add X K → T_X4_add is D K → is.length = (List.filter Option.isNone ([some 0, none, none, none, none] : List (Option Nat))).length → D.length = sh_Road.length → am_aw X 5 sh_Road 0 (am_l0 5 [some 0, none, none, none, none] is) [] D := by
  intro X is D K O hT _ _
  obtain ⟨n, b, w, kd, fg, la, hu, li, k1, f1, l1, h1, hR, g1, g2, g3, g4, rfl, hK⟩ := hT
  obtain ⟨k, f, l, h, i, rfl, hn, hb, hw, hj, hp, hi⟩ := hR
  rcases hK with ⟨hx, hK⟩ | ⟨x1, x2, x3, hK⟩
  · refine am_begin rfl ?_
    refine st_aloadn O dX4_add_0 rfl (q := 1) rfl ?_
    refine st_geti O dX4_add_1 fl_X4_9 rfl rfl rfl rfl (q := 4) rfl ?_
    refine st_bipush O dX4_add_4 am_bipush_9 (q := 6) rfl ?_
    refine sn_icmp_ge O dX4_add_6 (t := 30) rfl (q := 9) rfl (by omega) (by omega) (fun c6 => ?_) (fun c6 => ?_)
    · refine st_iconst O dX4_add_30 am_iconst_0 (q := 31) rfl ?_
      refine st_zreturn O dX4_add_31 (by first | exact Or.inl rfl | exact Or.inr rfl | assumption) ?_
      exact hK
    refine st_iloadn O dX4_add_9 rfl (q := 10) rfl ?_
    refine sn_if_lt O dX4_add_10 (t := 30) rfl (q := 13) rfl (by omega) (fun c10 => ?_) (fun c10 => ?_)
    · exact c10.elim
    refine st_iloadn O dX4_add_13 rfl (q := 14) rfl ?_
    refine st_iconst O dX4_add_14 am_iconst_2 (q := 15) rfl ?_
    refine sn_icmp_ge O dX4_add_15 (t := 30) rfl (q := 18) rfl (by omega) (by omega) (fun c15 => ?_) (fun c15 => ?_)
    · refine st_iconst O dX4_add_30 am_iconst_0 (q := 31) rfl ?_
      refine st_zreturn O dX4_add_31 (by first | exact Or.inl rfl | exact Or.inr rfl | assumption) ?_
      exact hK
    refine st_iload O dX4_add_18 rfl (q := 20) rfl ?_
    refine sn_if_lt O dX4_add_20 (t := 30) rfl (q := 23) rfl (by omega) (fun c20 => ?_) (fun c20 => ?_)
    · exact c20.elim
    refine st_iload O dX4_add_23 rfl (q := 25) rfl ?_
    refine st_bipush O dX4_add_25 am_bipush_20 (q := 27) rfl ?_
    refine sn_icmp_le O dX4_add_27 (t := 32) rfl (q := 30) rfl (by omega) (by omega) (fun c27 => ?_) (fun c27 => ?_)
    · omega
    refine st_iconst O dX4_add_30 am_iconst_0 (q := 31) rfl ?_
    refine st_zreturn O dX4_add_31 (by first | exact Or.inl rfl | exact Or.inr rfl | assumption) ?_
    exact hK
  · refine am_begin rfl ?_
    refine st_aloadn O dX4_add_0 rfl (q := 1) rfl ?_
    refine st_geti O dX4_add_1 fl_X4_9 rfl rfl rfl rfl (q := 4) rfl ?_
    refine st_bipush O dX4_add_4 am_bipush_9 (q := 6) rfl ?_
    refine sn_icmp_ge O dX4_add_6 (t := 30) rfl (q := 9) rfl (by omega) (by omega) (fun c6 => ?_) (fun c6 => ?_)
    · omega
    refine st_iloadn O dX4_add_9 rfl (q := 10) rfl ?_
    refine sn_if_lt O dX4_add_10 (t := 30) rfl (q := 13) rfl (by omega) (fun c10 => ?_) (fun c10 => ?_)
    · exact c10.elim
    refine st_iloadn O dX4_add_13 rfl (q := 14) rfl ?_
    refine st_iconst O dX4_add_14 am_iconst_2 (q := 15) rfl ?_
    refine sn_icmp_ge O dX4_add_15 (t := 30) rfl (q := 18) rfl (by omega) (by omega) (fun c15 => ?_) (fun c15 => ?_)
    · omega
    refine st_iload O dX4_add_18 rfl (q := 20) rfl ?_
    refine sn_if_lt O dX4_add_20 (t := 30) rfl (q := 23) rfl (by omega) (fun c20 => ?_) (fun c20 => ?_)
    · exact c20.elim
    refine st_iload O dX4_add_23 rfl (q := 25) rfl ?_
    refine st_bipush O dX4_add_25 am_bipush_20 (q := 27) rfl ?_
    refine sn_icmp_le O dX4_add_27 (t := 32) rfl (q := 30) rfl (by omega) (by omega) (fun c27 => ?_) (fun c27 => ?_)
    · refine st_aloadn O dX4_add_32 rfl (q := 33) rfl ?_
      refine st_getr O dX4_add_33 fl_X4_21 rfl rfl rfl (q := 36) rfl ?_
      refine st_aloadn O dX4_add_36 rfl (q := 37) rfl ?_
      refine st_geti O dX4_add_37 fl_X4_9 rfl rfl rfl rfl (q := 40) rfl ?_
      refine st_iloadn O dX4_add_40 rfl (q := 41) rfl ?_
      refine sn_ast O dX4_add_41 rfl rfl rfl ⟨by omega, by decide⟩ rfl rfl (q := 42) rfl ?_
      refine st_aloadn O dX4_add_42 rfl (q := 43) rfl ?_
      refine st_getr O dX4_add_43 fl_X4_25 rfl rfl rfl (q := 46) rfl ?_
      refine st_aloadn O dX4_add_46 rfl (q := 47) rfl ?_
      refine st_geti O dX4_add_47 fl_X4_9 rfl rfl rfl rfl (q := 50) rfl ?_
      refine st_iloadn O dX4_add_50 rfl (q := 51) rfl ?_
      refine sn_ast O dX4_add_51 rfl rfl rfl ⟨by omega, by decide⟩ rfl rfl (q := 52) rfl ?_
      refine st_aloadn O dX4_add_52 rfl (q := 53) rfl ?_
      refine st_getr O dX4_add_53 fl_X4_28 rfl rfl rfl (q := 56) rfl ?_
      refine st_aloadn O dX4_add_56 rfl (q := 57) rfl ?_
      refine st_geti O dX4_add_57 fl_X4_9 rfl rfl rfl rfl (q := 60) rfl ?_
      refine st_iloadn O dX4_add_60 rfl (q := 61) rfl ?_
      refine sn_ast O dX4_add_61 rfl rfl rfl ⟨by omega, by decide⟩ rfl rfl (q := 62) rfl ?_
      refine st_aloadn O dX4_add_62 rfl (q := 63) rfl ?_
      refine st_getr O dX4_add_63 fl_X4_31 rfl rfl rfl (q := 66) rfl ?_
      refine st_aloadn O dX4_add_66 rfl (q := 67) rfl ?_
      refine st_geti O dX4_add_67 fl_X4_9 rfl rfl rfl rfl (q := 70) rfl ?_
      refine st_iload O dX4_add_70 rfl (q := 72) rfl ?_
      refine sn_ast O dX4_add_72 rfl rfl rfl ⟨by omega, by decide⟩ rfl rfl (q := 73) rfl ?_
      refine st_aloadn O dX4_add_73 rfl (q := 74) rfl ?_
      refine st_getr O dX4_add_74 fl_X4_34 rfl rfl rfl (q := 77) rfl ?_
      refine st_aloadn O dX4_add_77 rfl (q := 78) rfl ?_
      refine st_geti O dX4_add_78 fl_X4_9 rfl rfl rfl rfl (q := 81) rfl ?_
      refine st_aloadn O dX4_add_81 rfl (q := 82) rfl ?_
      refine st_geti O dX4_add_82 fl_X4_9 rfl rfl rfl rfl (q := 85) rfl ?_
      refine sn_ast O dX4_add_85 rfl rfl rfl ⟨by omega, by decide⟩ rfl rfl (q := 86) rfl ?_
      refine st_aloadn O dX4_add_86 rfl (q := 87) rfl ?_
      refine st_dup O dX4_add_87 (q := 88) rfl ?_
      refine st_geti O dX4_add_88 fl_X4_9 rfl rfl rfl rfl (q := 91) rfl ?_
      refine st_iconst O dX4_add_91 am_iconst_1 (q := 92) rfl ?_
      refine st_iadd O dX4_add_92 (by first | exact nI_add _ _ | exact rfl) (q := 93) rfl ?_
      refine st_puti O dX4_add_93 fl_X4_9 rfl rfl rfl rfl rfl (q := 96) rfl ?_
      refine st_iconst O dX4_add_96 am_iconst_1 (q := 97) rfl ?_
      refine st_zreturn O dX4_add_97 (by first | exact Or.inl rfl | exact Or.inr rfl | assumption) ?_
      refine hK _ ⟨_, _, _, _, _, rfl, by omega, hb, hw, fun j hjm => ?_, ?_, fun j hjm => ?_⟩
      · by_cases e : j = n
        · subst e; simp only [pk_us, va_up, if_true]; exact ⟨⟨trivial, g1⟩, ⟨trivial, g2⟩, ⟨trivial, x2⟩, ⟨trivial, x3⟩⟩
        · simp only [pk_un e, va_up, if_neg e]; exact hj j (by omega)
      · rw [List.range_succ]; exact hp.append_right [n]
      · have hl := pl_len hp
        by_cases e : j = n
        · subst e; rw [pk_us, List.getD_eq_getElem?_getD, List.getElem?_append_right (by omega)]; simp [hl]
        · rw [pk_un e, hi j (by omega), List.getD_eq_getElem?_getD, List.getD_eq_getElem?_getD, List.getElem?_append_left (by omega)]
    omega
theorem C_X4_add : am_ctr yX4_add cX4_add 5 (some .boolean) 0 0 sh_Road [some 0, none, none, none, none] T_X4_add := am_mk (by decide) (Or.inr (Or.inr ⟨rfl, rfl⟩)) (by decide) (by decide) (by decide) fl_X4_ok kc_X4_ok ck_X4_add B_X4_add
