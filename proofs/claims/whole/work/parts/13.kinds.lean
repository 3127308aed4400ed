/-! Math.max is the machine's own -/
abbrev T_J9_max_7cf53 : am_TT := am_pure (fun is _ r => ∃ x y, is = [x, y] ∧ r = if x < y then y else x)
theorem am_callMax {X : am_X} {own : String} {cc : ByteArray} {nL fr lo ix pc : Nat} {sh : am_S} (hX : am_cx X own cc nL fr lo) (hlk : am_lkS own ix yJ9_max_7cf53) (hd : decode cc pc = .ok (.invokestatic ix, 3)) (hR : 1 ≤ fr ∧ 21 ≤ lo) : am_csok X nL sh pc (am_site 2 [none, none] T_J9_max_7cf53 [] []) := by
  obtain ⟨p, l, e, R, s, m, args, below, meth, c, Q, cells, slots, dC, dI, cA, ad, A⟩ := X
  obtain ⟨hx, hb, hml, hown, hts, hK, hZ, hA, hc1, hc2, hR1, hR2, -⟩ := hX
  intro st D k ls h hn H locs lc hP hD hS hsz hlen hl
  unfold am_site at h
  rcases st with _ | ⟨y | _, _ | ⟨x | _, rest⟩⟩
  · exact h.elim
  · exact h.elim
  · obtain ⟨h8, r, ⟨x', y', e1, rfl⟩, hk⟩ := h
    have e1 : [x, y] = [x', y'] := e1
    cases e1
    have hcode : (Cond.code Lib.Math.max.name Lib.Math.max.code 2 (some .int)).before args s = true := hts _ mo_J9_max_7cf53.1
    have e5 : ∀ r : List am_V, ((r.map (am_cv ad)).map fun v => v.category).sum = r.length := by
      intro r
      induction r with
      | nil => rfl
      | cons v r ih =>
        have hv : (am_cv ad v).category = 1 := by cases v <;> rfl
        simp only [List.map_cons, List.sum_cons, List.length_cons, hv, ih]
        omega
    refine va_mmax (ls := lc) hx hb (by rw [hml]; exact hl.1.symm) hown (hts _ hlk.1) (hts _ hlk.2.1) (hts _ hlk.2.2) hcode (by omega) (by rw [e5]; have : rest.length ≤ 8 := h8; omega) hc1 hc2 hd ?_
    exact hn _ _ hk H locs lc hP hD hS hsz hlen hl
  all_goals exact h.elim
/-! the numbers of kinds; Kinds; Road's smallest -/
def sc (k : Nat) : Nat := if k = 2 then 1 else if k = 3 then 3 else if k = 4 then 4 else 2
def lt (k f b : Nat) : Nat := if k = 1 then f else if k = 2 then b - 1 else if k = 3 then 0 else if k = 5 then 1 else b
def cs_X2_secondsOf : Nat → List am_V → am_D → am_K → Prop := am_cs []
theorem ck_X2_secondsOf : ∀ X : am_X, am_cx X RX2 cX2_secondsOf 1 0 0 → ∀ pc, am_csok X 1 sh_None pc (cs_X2_secondsOf pc) := fun X hX => am_cs_ok (fun _ h => absurd h List.not_mem_nil)
abbrev ok_X2_secondsOf (X : am_X) (K : List Int32 → am_D → Prop) : Prop := am_ok X RX2 cX2_secondsOf 1 sh_None fl_X2 kc_X2 none 1 cs_X2_secondsOf K
abbrev aw_X2_secondsOf (X : am_X) (pc : Nat) (ls : am_L) (st : List am_V) (D : am_D) : Prop := am_aw X 1 sh_None pc ls st D
abbrev T_X2_secondsOf : am_TT := am_pure (fun is _ r => ∃ k, k < 6 ∧ is = [nI k] ∧ r = nI (sc k))
theorem B_X2_secondsOf : ∀ (X : am_X) (is : List Int32) (D : am_D) (K : List Int32 → am_D → Prop), ok_X2_secondsOf X K → T_X2_secondsOf is D K → is.length = (List.filter Option.isNone ([none] : List (Option Nat))).length → D.length = sh_None.length → am_aw X 1 sh_None 0 (am_l0 1 [none] is) [] D := by
  intro X is D K O hT _ _
  obtain ⟨r, ⟨k, hk, rfl, rfl⟩, hK⟩ := hT
  have e2 := nI_lit (k := k) 2 (by omega) (by decide)
  have e3 := nI_lit (k := k) 3 (by omega) (by decide)
  have e4 := nI_lit (k := k) 4 (by omega) (by decide)
  refine am_begin rfl ?_
  refine st_iloadn O dX2_secondsOf_0 rfl (q := 1) rfl ?_
  refine st_table O dX2_secondsOf_1 (os := [27, 29, 31]) rfl rfl ?_
  refine sw_consT (v := 2) (by decide) (t := 28) rfl (lo' := 3) rfl (fun c1_2 => ?_) (fun c1_2 => ?_)
  · refine st_iconst O dX2_secondsOf_28 am_iconst_1 (q := 29) rfl ?_
    refine st_ireturn O dX2_secondsOf_29 ?_
    simp only [e2, e3, e4] at *; simp only [sc, *, if_true, if_false] at hK; exact hK
  refine sw_consT (v := 3) (by decide) (t := 30) rfl (lo' := 4) rfl (fun c1_3 => ?_) (fun c1_3 => ?_)
  · refine st_iconst O dX2_secondsOf_30 am_iconst_3 (q := 31) rfl ?_
    refine st_ireturn O dX2_secondsOf_31 ?_
    simp only [e2, e3, e4] at *; simp only [sc, *, if_true, if_false] at hK; exact hK
  refine sw_consT (v := 4) (by decide) (t := 32) rfl (lo' := 5) rfl (fun c1_4 => ?_) (fun c1_4 => ?_)
  · refine st_iconst O dX2_secondsOf_32 am_iconst_4 (q := 33) rfl ?_
    refine st_ireturn O dX2_secondsOf_33 ?_
    simp only [e2, e3, e4] at *; simp only [sc, *, if_true, if_false] at hK; exact hK
  refine sw_nilT (t := 34) rfl ?_
  refine st_iconst O dX2_secondsOf_34 am_iconst_2 (q := 35) rfl ?_
  refine st_ireturn O dX2_secondsOf_35 ?_
  simp only [e2, e3, e4] at *; simp only [sc, *, if_true, if_false] at hK; exact hK
theorem C_X2_secondsOf : am_ctr yX2_secondsOf cX2_secondsOf 1 (some .int) 0 0 sh_None [none] T_X2_secondsOf := am_mk (by decide) (Or.inr (Or.inl ⟨rfl, rfl⟩)) (by decide) (by decide) (by decide) fl_X2_ok kc_X2_ok ck_X2_secondsOf B_X2_secondsOf
def cs_X2_isPushing : Nat → List am_V → am_D → am_K → Prop := am_cs []
theorem ck_X2_isPushing : ∀ X : am_X, am_cx X RX2 cX2_isPushing 1 0 0 → ∀ pc, am_csok X 1 sh_None pc (cs_X2_isPushing pc) := fun X hX => am_cs_ok (fun _ h => absurd h List.not_mem_nil)
abbrev ok_X2_isPushing (X : am_X) (K : List Int32 → am_D → Prop) : Prop := am_ok X RX2 cX2_isPushing 1 sh_None fl_X2 kc_X2 none 2 cs_X2_isPushing K
abbrev aw_X2_isPushing (X : am_X) (pc : Nat) (ls : am_L) (st : List am_V) (D : am_D) : Prop := am_aw X 1 sh_None pc ls st D
abbrev T_X2_isPushing : am_TT := am_pure (fun is _ r => ∃ k, k < 6 ∧ is = [nI k] ∧ r = if k = 2 then 1 else 0)
theorem B_X2_isPushing : ∀ (X : am_X) (is : List Int32) (D : am_D) (K : List Int32 → am_D → Prop), ok_X2_isPushing X K → T_X2_isPushing is D K → is.length = (List.filter Option.isNone ([none] : List (Option Nat))).length → D.length = sh_None.length → am_aw X 1 sh_None 0 (am_l0 1 [none] is) [] D := by
  intro X is D K O hT _ _
  obtain ⟨r, ⟨k, hk, rfl, rfl⟩, hK⟩ := hT
  refine am_begin rfl ?_
  refine st_iloadn O dX2_isPushing_0 rfl (q := 1) rfl ?_
  refine st_iconst O dX2_isPushing_1 am_iconst_2 (q := 2) rfl ?_
  refine sn_icmp_ne O dX2_isPushing_2 (t := 9) rfl (q := 5) rfl (by omega) (by omega) (fun c2 => ?_) (fun c2 => ?_)
  · refine st_iconst O dX2_isPushing_9 am_iconst_0 (q := 10) rfl ?_
    refine st_zreturn O dX2_isPushing_10 (by first | exact Or.inl rfl | exact Or.inr rfl | assumption) ?_
    first | (rw [if_pos (by omega)] at hK; exact hK) | (rw [if_neg (by omega)] at hK; exact hK)
  refine st_iconst O dX2_isPushing_5 am_iconst_1 (q := 6) rfl ?_
  refine st_goto O dX2_isPushing_6 (t := 10) rfl ?_
  refine st_zreturn O dX2_isPushing_10 (by first | exact Or.inl rfl | exact Or.inr rfl | assumption) ?_
  first | (rw [if_pos (by omega)] at hK; exact hK) | (rw [if_neg (by omega)] at hK; exact hK)
theorem C_X2_isPushing : am_ctr yX2_isPushing cX2_isPushing 1 (some .boolean) 0 0 sh_None [none] T_X2_isPushing := am_mk (by decide) (Or.inr (Or.inr ⟨rfl, rfl⟩)) (by decide) (by decide) (by decide) fl_X2_ok kc_X2_ok ck_X2_isPushing B_X2_isPushing
def cs_X2_lettingIn : Nat → List am_V → am_D → am_K → Prop := am_cs []
theorem ck_X2_lettingIn : ∀ X : am_X, am_cx X RX2 cX2_lettingIn 3 0 0 → ∀ pc, am_csok X 3 sh_None pc (cs_X2_lettingIn pc) := fun X hX => am_cs_ok (fun _ h => absurd h List.not_mem_nil)
abbrev ok_X2_lettingIn (X : am_X) (K : List Int32 → am_D → Prop) : Prop := am_ok X RX2 cX2_lettingIn 3 sh_None fl_X2 kc_X2 none 1 cs_X2_lettingIn K
abbrev aw_X2_lettingIn (X : am_X) (pc : Nat) (ls : am_L) (st : List am_V) (D : am_D) : Prop := am_aw X 3 sh_None pc ls st D
abbrev T_X2_lettingIn : am_TT := am_pure (fun is _ r => ∃ k f b, k < 6 ∧ b ≤ 2 ∧ is = [nI k, nI f, nI b] ∧ r = nI (lt k f b))
theorem B_X2_lettingIn : ∀ (X : am_X) (is : List Int32) (D : am_D) (K : List Int32 → am_D → Prop), ok_X2_lettingIn X K → T_X2_lettingIn is D K → is.length = (List.filter Option.isNone ([none, none, none] : List (Option Nat))).length → D.length = sh_None.length → am_aw X 3 sh_None 0 (am_l0 3 [none, none, none] is) [] D := by
  intro X is D K O hT _ _
  obtain ⟨r, ⟨k, f, b, hk, hb, rfl, rfl⟩, hK⟩ := hT
  have e1 := nI_lit (k := k) 1 (by omega) (by decide)
  have e2 := nI_lit (k := k) 2 (by omega) (by decide)
  have e3 := nI_lit (k := k) 3 (by omega) (by decide)
  have e4 := nI_lit (k := k) 4 (by omega) (by decide)
  have e5 := nI_lit (k := k) 5 (by omega) (by decide)
  refine am_begin rfl ?_
  refine st_iloadn O dX2_lettingIn_0 rfl (q := 1) rfl ?_
  refine st_table O dX2_lettingIn_1 (os := [35, 37, 49, 53, 51]) rfl rfl ?_
  refine sw_consT (v := 1) (by decide) (t := 36) rfl (lo' := 2) rfl (fun c1_1 => ?_) (fun c1_1 => ?_)
  · refine st_iloadn O dX2_lettingIn_36 rfl (q := 37) rfl ?_
    refine st_ireturn O dX2_lettingIn_37 ?_
    simp only [e1] at c1_1; simp only [lt, c1_1, if_true] at hK; exact hK
  refine sw_consT (v := 2) (by decide) (t := 38) rfl (lo' := 3) rfl (fun c1_2 => ?_) (fun c1_2 => ?_)
  · refine st_iloadn O dX2_lettingIn_38 rfl (q := 39) rfl ?_
    refine sn_if_le O dX2_lettingIn_39 (t := 48) rfl (q := 42) rfl (by omega) (fun c39 => ?_) (fun c39 => ?_)
    · refine st_iconst O dX2_lettingIn_48 am_iconst_0 (q := 49) rfl ?_
      refine st_ireturn O dX2_lettingIn_49 ?_
      simp only [e1] at c1_1; simp only [e2] at c1_2; simp only [lt, c1_2] at hK; first | exact hK | (rw [show b = 0 from c39] at hK; exact hK)
    refine st_iloadn O dX2_lettingIn_42 rfl (q := 43) rfl ?_
    refine st_iconst O dX2_lettingIn_43 am_iconst_1 (q := 44) rfl ?_
    refine st_isub O dX2_lettingIn_44 (by first | exact pk_sub (by omega) | exact rfl) (q := 45) rfl ?_
    refine st_goto O dX2_lettingIn_45 (t := 49) rfl ?_
    refine st_ireturn O dX2_lettingIn_49 ?_
    simp only [e1] at c1_1; simp only [e2] at c1_2; simp only [lt, c1_2] at hK; first | exact hK | (rw [show b = 0 from c39] at hK; exact hK)
  refine sw_consT (v := 3) (by decide) (t := 50) rfl (lo' := 4) rfl (fun c1_3 => ?_) (fun c1_3 => ?_)
  · refine st_iconst O dX2_lettingIn_50 am_iconst_0 (q := 51) rfl ?_
    refine st_ireturn O dX2_lettingIn_51 ?_
    simp only [e3] at c1_3; simp only [lt, c1_3] at hK; exact hK
  refine sw_consT (v := 4) (by decide) (t := 54) rfl (lo' := 5) rfl (fun c1_4 => ?_) (fun c1_4 => ?_)
  · refine st_iloadn O dX2_lettingIn_54 rfl (q := 55) rfl ?_
    refine st_ireturn O dX2_lettingIn_55 ?_
    rw [show lt k f b = b by simp only [e1, e2, e3, e4, e5] at *; unfold lt; rw [if_neg (by omega), if_neg (by omega), if_neg (by omega), if_neg (by omega)]] at hK; exact hK
  refine sw_consT (v := 5) (by decide) (t := 52) rfl (lo' := 6) rfl (fun c1_5 => ?_) (fun c1_5 => ?_)
  · refine st_iconst O dX2_lettingIn_52 am_iconst_1 (q := 53) rfl ?_
    refine st_ireturn O dX2_lettingIn_53 ?_
    simp only [e5] at c1_5; simp only [lt, c1_5] at hK; exact hK
  refine sw_nilT (t := 54) rfl ?_
  refine st_iloadn O dX2_lettingIn_54 rfl (q := 55) rfl ?_
  refine st_ireturn O dX2_lettingIn_55 ?_
  rw [show lt k f b = b by simp only [e1, e2, e3, e4, e5] at *; unfold lt; rw [if_neg (by omega), if_neg (by omega), if_neg (by omega), if_neg (by omega)]] at hK; exact hK
theorem C_X2_lettingIn : am_ctr yX2_lettingIn cX2_lettingIn 3 (some .int) 0 0 sh_None [none, none, none] T_X2_lettingIn := am_mk (by decide) (Or.inr (Or.inl ⟨rfl, rfl⟩)) (by decide) (by decide) (by decide) fl_X2_ok kc_X2_ok ck_X2_lettingIn B_X2_lettingIn
/-- a road's cells: n cars, board, wave, what each car is, the line -/
def rA (n b w : Nat) (kd fg la hu : Nat → Nat) (li : List Nat) (D : am_D) : Prop := ∃ k f l h i : Nat → Int32, D = [.inl [nI n, nI b, nI w], .inr k, .inr f, .inr l, .inr h, .inr i] ∧ n ≤ 9 ∧ b ≤ 2 ∧ w ≤ 9 ∧ (∀ j, j < n → (k j = nI (kd j) ∧ kd j < 6) ∧ (f j = nI (fg j) ∧ fg j < 10) ∧ (l j = nI (la j) ∧ la j < 2) ∧ (h j = nI (hu j) ∧ hu j ≤ 20)) ∧ li.Perm (List.range n) ∧ ∀ j, j < n → i j = nI (li.getD j 0)
theorem has_iff {n : Nat} (hn : n ≤ 9) (x : Int32) : (0 ≤ x ∧ x < nI n) ↔ ∃ j, j < n ∧ x = nI j := by
  constructor
  · intro h
    have h0 : ¬ x < 0 := Int32.not_lt.mpr h.1
    obtain ⟨j, hj, rfl⟩ := nI_of h0
    exact ⟨j, (nI_ltI hj (by omega)).mp h.2, rfl⟩
  · rintro ⟨j, hj, rfl⟩
    exact ⟨nI_pos' (by omega), (nI_ltI (by omega) (by omega)).mpr hj⟩
def cs_X4_has : Nat → List am_V → am_D → am_K → Prop := am_cs []
theorem ck_X4_has : ∀ X : am_X, am_cx X RX4 cX4_has 2 0 0 → ∀ pc, am_csok X 2 sh_R1 pc (cs_X4_has pc) := fun X hX => am_cs_ok (fun _ h => absurd h List.not_mem_nil)
abbrev ok_X4_has (X : am_X) (K : List Int32 → am_D → Prop) : Prop := am_ok X RX4 cX4_has 2 sh_R1 fl_X4 kc_X4 none 2 cs_X4_has K
abbrev aw_X4_has (X : am_X) (pc : Nat) (ls : am_L) (st : List am_V) (D : am_D) : Prop := am_aw X 2 sh_R1 pc ls st D
abbrev T_X4_has : am_TT := am_pure (fun is D r => ∃ x n xs, n ≤ 9 ∧ is = [x] ∧ D = [.inl (nI n :: xs)] ∧ (((∃ j, j < n ∧ x = nI j) ∧ r = 1) ∨ ((¬ ∃ j, j < n ∧ x = nI j) ∧ r = 0)))
theorem B_X4_has : ∀ (X : am_X) (is : List Int32) (D : am_D) (K : List Int32 → am_D → Prop), ok_X4_has X K → T_X4_has is D K → is.length = (List.filter Option.isNone ([some 0, none] : List (Option Nat))).length → D.length = sh_R1.length → am_aw X 2 sh_R1 0 (am_l0 2 [some 0, none] is) [] D := by
  intro X is D K O hT _ _
  obtain ⟨r, ⟨x, n, xs, hn, rfl, rfl, hr⟩, hK⟩ := hT
  rw [← has_iff hn] at hr
  rcases hr with ⟨hx, rfl⟩ | ⟨hx, rfl⟩
  · refine am_begin rfl ?_
    refine st_iloadn O dX4_has_0 rfl (q := 1) rfl ?_
    refine st_if_lt O dX4_has_1 (t := 16) rfl (q := 4) rfl (fun c1 => ?_) (fun c1 => ?_)
    · exact absurd c1 (Int32.not_lt.mpr hx.1)
    refine st_iloadn O dX4_has_4 rfl (q := 5) rfl ?_
    refine st_aloadn O dX4_has_5 rfl (q := 6) rfl ?_
    refine st_geti O dX4_has_6 fl_X4_9 rfl rfl rfl rfl (q := 9) rfl ?_
    refine st_icmp_ge O dX4_has_9 (t := 16) rfl (q := 12) rfl (fun c9 => ?_) (fun c9 => ?_)
    · exact absurd hx.2 (Int32.not_lt.mpr c9)
    refine st_iconst O dX4_has_12 am_iconst_1 (q := 13) rfl ?_
    refine st_goto O dX4_has_13 (t := 17) rfl ?_
    refine st_zreturn O dX4_has_17 (by first | exact Or.inl rfl | exact Or.inr rfl | assumption) ?_
    exact hK
  · refine am_begin rfl ?_
    refine st_iloadn O dX4_has_0 rfl (q := 1) rfl ?_
    refine st_if_lt O dX4_has_1 (t := 16) rfl (q := 4) rfl (fun c1 => ?_) (fun c1 => ?_)
    · refine st_iconst O dX4_has_16 am_iconst_0 (q := 17) rfl ?_
      refine st_zreturn O dX4_has_17 (by first | exact Or.inl rfl | exact Or.inr rfl | assumption) ?_
      exact hK
    refine st_iloadn O dX4_has_4 rfl (q := 5) rfl ?_
    refine st_aloadn O dX4_has_5 rfl (q := 6) rfl ?_
    refine st_geti O dX4_has_6 fl_X4_9 rfl rfl rfl rfl (q := 9) rfl ?_
    refine st_icmp_ge O dX4_has_9 (t := 16) rfl (q := 12) rfl (fun c9 => ?_) (fun c9 => ?_)
    · refine st_iconst O dX4_has_16 am_iconst_0 (q := 17) rfl ?_
      refine st_zreturn O dX4_has_17 (by first | exact Or.inl rfl | exact Or.inr rfl | assumption) ?_
      exact hK
    exact absurd ⟨Int32.not_lt.mp c1, Int32.not_le.mp c9⟩ hx
theorem C_X4_has : am_ctr yX4_has cX4_has 2 (some .boolean) 0 0 sh_R1 [some 0, none] T_X4_has := am_mk (by decide) (Or.inr (Or.inr ⟨rfl, rfl⟩)) (by decide) (by decide) (by decide) fl_X4_ok kc_X4_ok ck_X4_has B_X4_has
