/-! the letters -/
def tX (ls : List Nat) (D : am_D) : Prop := ∃ f : Nat → Int32, D = [.inl [nI ls.length], .inr f] ∧ ls.length ≤ 96 ∧ (∀ j, j < ls.length → f j = nI (ls.getD j 0)) ∧ ∀ c ∈ ls, c < 256
theorem tX_lt {ls : List Nat} (h : ∀ c ∈ ls, c < 256) (p : Nat) : ls.getD p 0 < 256 := by
  rcases Nat.lt_or_ge p ls.length with q | q
  · exact h _ (pl_gm q)
  · rw [List.getD_eq_getElem?_getD, List.getElem?_eq_none_iff.mpr q]
    decide
def cs_X5_isFull : Nat → List am_V → am_D → am_K → Prop := am_cs []
theorem ck_X5_isFull : ∀ X : am_X, am_cx X RX5 cX5_isFull 1 0 0 → ∀ pc, am_csok X 1 sh_Txt pc (cs_X5_isFull pc) := fun X hX => am_cs_ok (fun _ h => absurd h List.not_mem_nil)
abbrev ok_X5_isFull (X : am_X) (K : List Int32 → am_D → Prop) : Prop := am_ok X RX5 cX5_isFull 1 sh_Txt fl_X5 kc_X5 none 2 cs_X5_isFull K
abbrev aw_X5_isFull (X : am_X) (pc : Nat) (ls : am_L) (st : List am_V) (D : am_D) : Prop := am_aw X 1 sh_Txt pc ls st D
abbrev T_X5_isFull : am_TT := am_pure (fun is D r => ∃ ls, tX ls D ∧ is = [] ∧ r = bI (decide (96 ≤ ls.length)))
theorem B_X5_isFull : ∀ (X : am_X) (is : List Int32) (D : am_D) (K : List Int32 → am_D → Prop), ok_X5_isFull X K → T_X5_isFull is D K → is.length = (List.filter Option.isNone ([some 0] : List (Option Nat))).length → D.length = sh_Txt.length → am_aw X 1 sh_Txt 0 (am_l0 1 [some 0] is) [] D := by
  intro X is D K O hT _ _
  obtain ⟨r, ⟨ls, ⟨f, rfl, hl, hf, hc⟩, rfl, rfl⟩, hK⟩ := hT
  refine am_begin rfl ?_
  refine st_aloadn O dX5_isFull_0 rfl (q := 1) rfl ?_
  refine st_geti O dX5_isFull_1 fl_X5_9 rfl rfl rfl rfl (q := 4) rfl ?_
  refine st_bipush O dX5_isFull_4 am_bipush_96 (q := 6) rfl ?_
  refine sn_icmp_lt O dX5_isFull_6 (t := 13) rfl (q := 9) rfl (by omega) (by omega) (fun c6 => ?_) (fun c6 => ?_)
  · refine st_iconst O dX5_isFull_13 am_iconst_0 (q := 14) rfl ?_
    refine st_zreturn O dX5_isFull_14 (by first | exact Or.inl rfl | exact Or.inr rfl | assumption) ?_
    first | (rw [decide_eq_true (by omega)] at hK; exact hK) | (rw [decide_eq_false (by omega)] at hK; exact hK)
  refine st_iconst O dX5_isFull_9 am_iconst_1 (q := 10) rfl ?_
  refine st_goto O dX5_isFull_10 (t := 14) rfl ?_
  refine st_zreturn O dX5_isFull_14 (by first | exact Or.inl rfl | exact Or.inr rfl | assumption) ?_
  first | (rw [decide_eq_true (by omega)] at hK; exact hK) | (rw [decide_eq_false (by omega)] at hK; exact hK)
theorem C_X5_isFull : am_ctr yX5_isFull cX5_isFull 1 (some .boolean) 0 0 sh_Txt [some 0] T_X5_isFull := am_mk (by decide) (Or.inr (Or.inr ⟨rfl, rfl⟩)) (by decide) (by decide) (by decide) fl_X5_ok kc_X5_ok ck_X5_isFull B_X5_isFull
def cs_X5_append : Nat → List am_V → am_D → am_K → Prop := am_cs [(1, am_site 1 [some 0] T_X5_isFull [0, 1] [0, 1])]
theorem cs_X5_append_1 : cs_X5_append 1 = am_site 1 [some 0] T_X5_isFull [0, 1] [0, 1] := rfl
theorem ck_X5_append : ∀ X : am_X, am_cx X RX5 cX5_append 2 1 20 → ∀ pc, am_csok X 2 sh_Txt pc (cs_X5_append pc) := fun X hX => am_cs_ok (List.forall_mem_cons.mpr ⟨am_callV hX C_X5_isFull mo_X5_isFull rfl lk_X5_19 dX5_append_1 rfl rfl rfl (by decide), fun _ h => absurd h List.not_mem_nil⟩)
abbrev ok_X5_append (X : am_X) (K : List Int32 → am_D → Prop) : Prop := am_ok X RX5 cX5_append 2 sh_Txt fl_X5 kc_X5 none 1 cs_X5_append K
abbrev aw_X5_append (X : am_X) (pc : Nat) (ls : am_L) (st : List am_V) (D : am_D) : Prop := am_aw X 2 sh_Txt pc ls st D
abbrev T_X5_append : am_TT := fun is D K => ∃ ls c, tX ls D ∧ is = [nI c] ∧ c < 256 ∧ ls.length < 96 ∧ ∀ D', tX (ls ++ [c]) D' → K [nI (ls.length + 1)] D'
theorem B_X5_append : ∀ (X : am_X) (is : List Int32) (D : am_D) (K : List Int32 → am_D → Prop), ok_X5_append X K → T_X5_append is D K → is.length = (List.filter Option.isNone ([some 0, none] : List (Option Nat))).length → D.length = sh_Txt.length → am_aw X 2 sh_Txt 0 (am_l0 2 [some 0, none] is) [] D := by
  intro X is D K O hT _ _
  obtain ⟨ls, c, ⟨f, rfl, hl, hf, hc⟩, rfl, h1, h2, hK⟩ := hT
  refine am_begin rfl ?_
  refine st_aloadn O dX5_append_0 rfl (q := 1) rfl ?_
  refine st_call O dX5_append_1 cs_X5_append_1 (q := 4) rfl (am_sip rfl rfl rfl (Nat.le_of_ble_eq_true rfl) rfl (r := 0) ⟨ls, ⟨f, rfl, hl, hf, hc⟩, rfl, by rw [decide_eq_false (by omega)]; rfl⟩ ?_)
  refine st_if_ne O dX5_append_4 (t := 27) rfl (q := 7) rfl (fun c4 => ?_) (fun c4 => ?_)
  · exact absurd rfl c4
  refine st_aloadn O dX5_append_7 rfl (q := 8) rfl ?_
  refine st_getr O dX5_append_8 fl_X5_15 rfl rfl rfl (q := 11) rfl ?_
  refine st_aloadn O dX5_append_11 rfl (q := 12) rfl ?_
  refine st_geti O dX5_append_12 fl_X5_9 rfl rfl rfl rfl (q := 15) rfl ?_
  refine st_iloadn O dX5_append_15 rfl (q := 16) rfl ?_
  refine sn_ast O dX5_append_16 rfl rfl rfl ⟨by omega, by decide⟩ rfl rfl (q := 17) rfl ?_
  refine st_aloadn O dX5_append_17 rfl (q := 18) rfl ?_
  refine st_dup O dX5_append_18 (q := 19) rfl ?_
  refine st_geti O dX5_append_19 fl_X5_9 rfl rfl rfl rfl (q := 22) rfl ?_
  refine st_iconst O dX5_append_22 am_iconst_1 (q := 23) rfl ?_
  refine st_iadd O dX5_append_23 (by first | exact nI_add _ _ | exact rfl) (q := 24) rfl ?_
  refine st_puti O dX5_append_24 fl_X5_9 rfl rfl rfl rfl rfl (q := 27) rfl ?_
  refine st_aloadn O dX5_append_27 rfl (q := 28) rfl ?_
  refine st_geti O dX5_append_28 fl_X5_9 rfl rfl rfl rfl (q := 31) rfl ?_
  refine st_ireturn O dX5_append_31 ?_
  refine hK _ ⟨_, by rw [List.length_append]; rfl, by rw [List.length_append]; exact h2, fun j hj => ?_, fun z hz => ?_⟩
  · rw [List.length_append] at hj
    by_cases e : j = ls.length
    · rw [e, pk_us, ga_last rfl]
    · have : j < ls.length := by simp only [List.length_cons, List.length_nil] at hj; omega
      rw [pk_un e, hf j this, ga_left this]
  · rcases List.mem_append.mp hz with q | q
    · exact hc z q
    · rw [List.mem_singleton.mp q]; exact h1
theorem C_X5_append : am_ctr yX5_append cX5_append 2 (some .int) 1 20 sh_Txt [some 0, none] T_X5_append := am_mk (by decide) (Or.inr (Or.inl ⟨rfl, rfl⟩)) (by decide) (by decide) (by decide) fl_X5_ok kc_X5_ok ck_X5_append B_X5_append
def cs_X5_empty : Nat → List am_V → am_D → am_K → Prop := am_cs []
theorem ck_X5_empty : ∀ X : am_X, am_cx X RX5 cX5_empty 1 0 0 → ∀ pc, am_csok X 1 sh_Txt pc (cs_X5_empty pc) := fun X hX => am_cs_ok (fun _ h => absurd h List.not_mem_nil)
abbrev ok_X5_empty (X : am_X) (K : List Int32 → am_D → Prop) : Prop := am_ok X RX5 cX5_empty 1 sh_Txt fl_X5 kc_X5 none 0 cs_X5_empty K
abbrev aw_X5_empty (X : am_X) (pc : Nat) (ls : am_L) (st : List am_V) (D : am_D) : Prop := am_aw X 1 sh_Txt pc ls st D
abbrev T_X5_empty : am_TT := fun is D K => ∃ ls, tX ls D ∧ is = [] ∧ ∀ D', tX [] D' → K [] D'
theorem B_X5_empty : ∀ (X : am_X) (is : List Int32) (D : am_D) (K : List Int32 → am_D → Prop), ok_X5_empty X K → T_X5_empty is D K → is.length = (List.filter Option.isNone ([some 0] : List (Option Nat))).length → D.length = sh_Txt.length → am_aw X 1 sh_Txt 0 (am_l0 1 [some 0] is) [] D := by
  intro X is D K O hT _ _
  obtain ⟨ls, ⟨f, rfl, hl, hf, hc⟩, rfl, hK⟩ := hT
  refine am_begin rfl ?_
  refine st_aloadn O dX5_empty_0 rfl (q := 1) rfl ?_
  refine st_iconst O dX5_empty_1 am_iconst_0 (q := 2) rfl ?_
  refine st_puti O dX5_empty_2 fl_X5_9 rfl rfl rfl rfl rfl (q := 5) rfl ?_
  refine st_vreturn O dX5_empty_5 ?_
  exact hK _ ⟨f, rfl, by decide, fun j hj => absurd hj (Nat.not_lt_zero j), fun z hz => by cases hz⟩
theorem C_X5_empty : am_ctr yX5_empty cX5_empty 1 none 0 0 sh_Txt [some 0] T_X5_empty := am_mk (by decide) (Or.inl ⟨rfl, rfl⟩) (by decide) (by decide) (by decide) fl_X5_ok kc_X5_ok ck_X5_empty B_X5_empty
def cs_X5_letterAt : Nat → List am_V → am_D → am_K → Prop := am_cs []
theorem ck_X5_letterAt : ∀ X : am_X, am_cx X RX5 cX5_letterAt 2 0 0 → ∀ pc, am_csok X 2 sh_Txt pc (cs_X5_letterAt pc) := fun X hX => am_cs_ok (fun _ h => absurd h List.not_mem_nil)
abbrev ok_X5_letterAt (X : am_X) (K : List Int32 → am_D → Prop) : Prop := am_ok X RX5 cX5_letterAt 2 sh_Txt fl_X5 kc_X5 none 1 cs_X5_letterAt K
abbrev aw_X5_letterAt (X : am_X) (pc : Nat) (ls : am_L) (st : List am_V) (D : am_D) : Prop := am_aw X 2 sh_Txt pc ls st D
abbrev T_X5_letterAt : am_TT := am_pure (fun is D r => ∃ ls p, tX ls D ∧ p < 1000 ∧ is = [nI p] ∧ r = nI (ls.getD p 0))
theorem B_X5_letterAt : ∀ (X : am_X) (is : List Int32) (D : am_D) (K : List Int32 → am_D → Prop), ok_X5_letterAt X K → T_X5_letterAt is D K → is.length = (List.filter Option.isNone ([some 0, none] : List (Option Nat))).length → D.length = sh_Txt.length → am_aw X 2 sh_Txt 0 (am_l0 2 [some 0, none] is) [] D := by
  intro X is D K O hT _ _
  obtain ⟨r, ⟨ls, p, ⟨f, rfl, hl, hf, hc⟩, hp, rfl, rfl⟩, hK⟩ := hT
  rcases Nat.lt_or_ge p ls.length with q | q
  · refine am_begin rfl ?_
    refine st_iloadn O dX5_letterAt_0 rfl (q := 1) rfl ?_
    refine sn_if_lt O dX5_letterAt_1 (t := 21) rfl (q := 4) rfl (by omega) (fun c1 => ?_) (fun c1 => ?_)
    · exact c1.elim
    refine st_iloadn O dX5_letterAt_4 rfl (q := 5) rfl ?_
    refine st_aloadn O dX5_letterAt_5 rfl (q := 6) rfl ?_
    refine st_geti O dX5_letterAt_6 fl_X5_9 rfl rfl rfl rfl (q := 9) rfl ?_
    refine sn_icmp_ge O dX5_letterAt_9 (t := 21) rfl (q := 12) rfl (by omega) (by omega) (fun c9 => ?_) (fun c9 => ?_)
    · omega
    refine st_aloadn O dX5_letterAt_12 rfl (q := 13) rfl ?_
    refine st_getr O dX5_letterAt_13 fl_X5_15 rfl rfl rfl (q := 16) rfl ?_
    refine st_iloadn O dX5_letterAt_16 rfl (q := 17) rfl ?_
    refine sn_ald O dX5_letterAt_17 rfl rfl rfl ⟨by omega, by decide⟩ (hf p q) (q := 18) rfl ?_
    refine st_goto O dX5_letterAt_18 (t := 22) rfl ?_
    refine st_ireturn O dX5_letterAt_22 ?_
    exact hK
  · have e : ls.getD p 0 = 0 := by rw [List.getD_eq_getElem?_getD, List.getElem?_eq_none_iff.mpr q]; rfl
    rw [e] at hK
    refine am_begin rfl ?_
    refine st_iloadn O dX5_letterAt_0 rfl (q := 1) rfl ?_
    refine sn_if_lt O dX5_letterAt_1 (t := 21) rfl (q := 4) rfl (by omega) (fun c1 => ?_) (fun c1 => ?_)
    · exact c1.elim
    refine st_iloadn O dX5_letterAt_4 rfl (q := 5) rfl ?_
    refine st_aloadn O dX5_letterAt_5 rfl (q := 6) rfl ?_
    refine st_geti O dX5_letterAt_6 fl_X5_9 rfl rfl rfl rfl (q := 9) rfl ?_
    refine sn_icmp_ge O dX5_letterAt_9 (t := 21) rfl (q := 12) rfl (by omega) (by omega) (fun c9 => ?_) (fun c9 => ?_)
    · refine st_iconst O dX5_letterAt_21 am_iconst_0 (q := 22) rfl ?_
      refine st_ireturn O dX5_letterAt_22 ?_
      exact hK
    omega
theorem C_X5_letterAt : am_ctr yX5_letterAt cX5_letterAt 2 (some .int) 0 0 sh_Txt [some 0, none] T_X5_letterAt := am_mk (by decide) (Or.inr (Or.inl ⟨rfl, rfl⟩)) (by decide) (by decide) (by decide) fl_X5_ok kc_X5_ok ck_X5_letterAt B_X5_letterAt
def cs_X5_digitAt : Nat → List am_V → am_D → am_K → Prop := am_cs [(2, am_site 2 [some 0, none] T_X5_letterAt [0, 1] [0, 1])]
theorem cs_X5_digitAt_2 : cs_X5_digitAt 2 = am_site 2 [some 0, none] T_X5_letterAt [0, 1] [0, 1] := rfl
theorem ck_X5_digitAt : ∀ X : am_X, am_cx X RX5 cX5_digitAt 2 1 21 → ∀ pc, am_csok X 2 sh_Txt pc (cs_X5_digitAt pc) := fun X hX => am_cs_ok (List.forall_mem_cons.mpr ⟨am_callV hX C_X5_letterAt mo_X5_letterAt rfl lk_X5_45 dX5_digitAt_2 rfl rfl rfl (by decide), fun _ h => absurd h List.not_mem_nil⟩)
abbrev ok_X5_digitAt (X : am_X) (K : List Int32 → am_D → Prop) : Prop := am_ok X RX5 cX5_digitAt 2 sh_Txt fl_X5 kc_X5 none 1 cs_X5_digitAt K
abbrev aw_X5_digitAt (X : am_X) (pc : Nat) (ls : am_L) (st : List am_V) (D : am_D) : Prop := am_aw X 2 sh_Txt pc ls st D
abbrev T_X5_digitAt : am_TT := am_pure (fun is D r => ∃ ls p, tX ls D ∧ p < 1000 ∧ 48 ≤ ls.getD p 0 ∧ is = [nI p] ∧ r = nI (ls.getD p 0 - 48))
theorem B_X5_digitAt : ∀ (X : am_X) (is : List Int32) (D : am_D) (K : List Int32 → am_D → Prop), ok_X5_digitAt X K → T_X5_digitAt is D K → is.length = (List.filter Option.isNone ([some 0, none] : List (Option Nat))).length → D.length = sh_Txt.length → am_aw X 2 sh_Txt 0 (am_l0 2 [some 0, none] is) [] D := by
  intro X is D K O hT _ _
  obtain ⟨r, ⟨ls, p, ht, hp, h48, rfl, rfl⟩, hK⟩ := hT
  obtain ⟨f, rfl, hl, hf, hc⟩ := id ht
  have := tX_lt hc p
  refine am_begin rfl ?_
  refine st_aloadn O dX5_digitAt_0 rfl (q := 1) rfl ?_
  refine st_iloadn O dX5_digitAt_1 rfl (q := 2) rfl ?_
  refine st_call O dX5_digitAt_2 cs_X5_digitAt_2 (q := 5) rfl (am_sip rfl rfl rfl (Nat.le_of_ble_eq_true rfl) rfl (r := nI (ls.getD p 0)) ⟨ls, p, ht, hp, rfl, rfl⟩ ?_)
  refine st_bipush O dX5_digitAt_5 am_bipush_48 (q := 7) rfl ?_
  refine st_isub O dX5_digitAt_7 (by first | exact pk_sub (by omega) | exact rfl) (q := 8) rfl ?_
  refine st_ireturn O dX5_digitAt_8 ?_
  exact hK
theorem C_X5_digitAt : am_ctr yX5_digitAt cX5_digitAt 2 (some .int) 1 21 sh_Txt [some 0, none] T_X5_digitAt := am_mk (by decide) (Or.inr (Or.inl ⟨rfl, rfl⟩)) (by decide) (by decide) (by decide) fl_X5_ok kc_X5_ok ck_X5_digitAt B_X5_digitAt
theorem i2c_lt : ∀ k, k < 256 → ((nI k).toUInt32 % 65536).toInt32 = nI k := by decide +kernel
def cs_X5_kindAt : Nat → List am_V → am_D → am_K → Prop := am_cs [(4, am_site 2 [some 0, none] T_X5_letterAt [0, 1] [0, 1]), (8, am_site 2 [some 0, none] T_J0_indexOf_0f7a4 [] [998])]
theorem cs_X5_kindAt_4 : cs_X5_kindAt 4 = am_site 2 [some 0, none] T_X5_letterAt [0, 1] [0, 1] := rfl
theorem cs_X5_kindAt_8 : cs_X5_kindAt 8 = am_site 2 [some 0, none] T_J0_indexOf_0f7a4 [] [998] := rfl
theorem ck_X5_kindAt : ∀ X : am_X, am_cx X RX5 cX5_kindAt 2 4 91 → ∀ pc, am_csok X 2 sh_Txt pc (cs_X5_kindAt pc) := fun X hX => am_cs_ok (List.forall_mem_cons.mpr ⟨am_callV hX C_X5_letterAt mo_X5_letterAt rfl lk_X5_45 dX5_kindAt_4 rfl rfl rfl (by decide), List.forall_mem_cons.mpr ⟨am_callIx hX lk_X5_55 dX5_kindAt_8 (by decide), fun _ h => absurd h List.not_mem_nil⟩⟩)
abbrev ok_X5_kindAt (X : am_X) (K : List Int32 → am_D → Prop) : Prop := am_ok X RX5 cX5_kindAt 2 sh_Txt fl_X5 kc_X5 none 1 cs_X5_kindAt K
abbrev aw_X5_kindAt (X : am_X) (pc : Nat) (ls : am_L) (st : List am_V) (D : am_D) : Prop := am_aw X 2 sh_Txt pc ls st D
abbrev T_X5_kindAt : am_TT := am_pure (fun is D r => ∃ ls p, tX ls D ∧ p < 1000 ∧ is = [nI p] ∧ r = kx (ls.getD p 0))
theorem B_X5_kindAt : ∀ (X : am_X) (is : List Int32) (D : am_D) (K : List Int32 → am_D → Prop), ok_X5_kindAt X K → T_X5_kindAt is D K → is.length = (List.filter Option.isNone ([some 0, none] : List (Option Nat))).length → D.length = sh_Txt.length → am_aw X 2 sh_Txt 0 (am_l0 2 [some 0, none] is) [] D := by
  intro X is D K O hT _ _
  obtain ⟨r, ⟨ls, p, ht, hp, rfl, rfl⟩, hK⟩ := hT
  obtain ⟨f, rfl, hl, hf, hc⟩ := id ht
  have h256 := tX_lt hc p
  refine am_begin rfl ?_
  refine st_ldc O dX5_kindAt_0 kc_X5_53 (q := 2) rfl ?_
  refine st_aloadn O dX5_kindAt_2 rfl (q := 3) rfl ?_
  refine st_iloadn O dX5_kindAt_3 rfl (q := 4) rfl ?_
  refine st_call O dX5_kindAt_4 cs_X5_kindAt_4 (q := 7) rfl (am_sip rfl rfl rfl (Nat.le_of_ble_eq_true rfl) rfl (r := nI (ls.getD p 0)) ⟨ls, p, ht, hp, rfl, rfl⟩ ?_)
  refine st_i2c O dX5_kindAt_7 (i2c_lt _ h256) (q := 8) rfl ?_
  refine st_call O dX5_kindAt_8 cs_X5_kindAt_8 (q := 11) rfl (am_sip rfl rfl rfl (Nat.le_of_ble_eq_true rfl) rfl (r := kx (ls.getD p 0)) ⟨_, h256, rfl, rfl⟩ ?_)
  refine st_ireturn O dX5_kindAt_11 ?_
  exact hK
theorem C_X5_kindAt : am_ctr yX5_kindAt cX5_kindAt 2 (some .int) 4 91 sh_Txt [some 0, none] T_X5_kindAt := am_mk (by decide) (Or.inr (Or.inl ⟨rfl, rfl⟩)) (by decide) (by decide) (by decide) fl_X5_ok kc_X5_ok ck_X5_kindAt B_X5_kindAt
def slN (h : Nat) : Nat := if h = 98 then 3 else if h = 99 then 7 else if h = 102 then 3 else if h = 111 then 3 else if h = 119 then 3 else if h = 120 then 4 else 0
theorem slN_le (h : Nat) : slN h ≤ 7 := by
  unfold slN
  repeat' split
  all_goals omega
def cs_X5_lengthOf : Nat → List am_V → am_D → am_K → Prop := am_cs []
theorem ck_X5_lengthOf : ∀ X : am_X, am_cx X RX5 cX5_lengthOf 1 0 0 → ∀ pc, am_csok X 1 sh_None pc (cs_X5_lengthOf pc) := fun X hX => am_cs_ok (fun _ h => absurd h List.not_mem_nil)
abbrev ok_X5_lengthOf (X : am_X) (K : List Int32 → am_D → Prop) : Prop := am_ok X RX5 cX5_lengthOf 1 sh_None fl_X5 kc_X5 none 1 cs_X5_lengthOf K
abbrev aw_X5_lengthOf (X : am_X) (pc : Nat) (ls : am_L) (st : List am_V) (D : am_D) : Prop := am_aw X 1 sh_None pc ls st D
abbrev T_X5_lengthOf : am_TT := am_pure (fun is _ r => ∃ k, k < 256 ∧ is = [nI k] ∧ r = nI (slN k))
theorem B_X5_lengthOf : ∀ (X : am_X) (is : List Int32) (D : am_D) (K : List Int32 → am_D → Prop), ok_X5_lengthOf X K → T_X5_lengthOf is D K → is.length = (List.filter Option.isNone ([none] : List (Option Nat))).length → D.length = sh_None.length → am_aw X 1 sh_None 0 (am_l0 1 [none] is) [] D := by
  intro X is D K O hT _ _
  obtain ⟨r, ⟨k, hk, rfl, rfl⟩, hK⟩ := hT
  have e1 := nI_lit (k := k) 98 (by omega) (by decide)
  have e2 := nI_lit (k := k) 99 (by omega) (by decide)
  have e3 := nI_lit (k := k) 102 (by omega) (by decide)
  have e4 := nI_lit (k := k) 111 (by omega) (by decide)
  have e5 := nI_lit (k := k) 119 (by omega) (by decide)
  have e6 := nI_lit (k := k) 120 (by omega) (by decide)
  refine am_begin rfl ?_
  refine st_iloadn O dX5_lengthOf_0 rfl (q := 1) rfl ?_
  refine st_lookup O dX5_lengthOf_1 (os := [(98, 64), (99, 59), (102, 64), (111, 64), (119, 64), (120, 62)]) rfl rfl ?_
  refine sw_consL (v := 98) (by decide) (t := 65) rfl (fun c1_98 => ?_) (fun c1_98 => ?_)
  · refine st_iconst O dX5_lengthOf_65 am_iconst_3 (q := 66) rfl ?_
    refine st_ireturn O dX5_lengthOf_66 ?_
    simp only [e1, e2, e3, e4, e5, e6] at *; simp only [slN, *, if_true, if_false] at hK; exact hK
  refine sw_consL (v := 99) (by decide) (t := 60) rfl (fun c1_99 => ?_) (fun c1_99 => ?_)
  · refine st_bipush O dX5_lengthOf_60 am_bipush_7 (q := 62) rfl ?_
    refine st_ireturn O dX5_lengthOf_62 ?_
    simp only [e1, e2, e3, e4, e5, e6] at *; simp only [slN, *, if_true, if_false] at hK; exact hK
  refine sw_consL (v := 102) (by decide) (t := 65) rfl (fun c1_102 => ?_) (fun c1_102 => ?_)
  · refine st_iconst O dX5_lengthOf_65 am_iconst_3 (q := 66) rfl ?_
    refine st_ireturn O dX5_lengthOf_66 ?_
    simp only [e1, e2, e3, e4, e5, e6] at *; simp only [slN, *, if_true, if_false] at hK; exact hK
  refine sw_consL (v := 111) (by decide) (t := 65) rfl (fun c1_111 => ?_) (fun c1_111 => ?_)
  · refine st_iconst O dX5_lengthOf_65 am_iconst_3 (q := 66) rfl ?_
    refine st_ireturn O dX5_lengthOf_66 ?_
    simp only [e1, e2, e3, e4, e5, e6] at *; simp only [slN, *, if_true, if_false] at hK; exact hK
  refine sw_consL (v := 119) (by decide) (t := 65) rfl (fun c1_119 => ?_) (fun c1_119 => ?_)
  · refine st_iconst O dX5_lengthOf_65 am_iconst_3 (q := 66) rfl ?_
    refine st_ireturn O dX5_lengthOf_66 ?_
    simp only [e1, e2, e3, e4, e5, e6] at *; simp only [slN, *, if_true, if_false] at hK; exact hK
  refine sw_consL (v := 120) (by decide) (t := 63) rfl (fun c1_120 => ?_) (fun c1_120 => ?_)
  · refine st_iconst O dX5_lengthOf_63 am_iconst_4 (q := 64) rfl ?_
    refine st_ireturn O dX5_lengthOf_64 ?_
    simp only [e1, e2, e3, e4, e5, e6] at *; simp only [slN, *, if_true, if_false] at hK; exact hK
  refine sw_nilL (t := 67) rfl ?_
  refine st_iconst O dX5_lengthOf_67 am_iconst_0 (q := 68) rfl ?_
  refine st_ireturn O dX5_lengthOf_68 ?_
  simp only [e1, e2, e3, e4, e5, e6] at *; simp only [slN, *, if_true, if_false] at hK; exact hK
theorem C_X5_lengthOf : am_ctr yX5_lengthOf cX5_lengthOf 1 (some .int) 0 0 sh_None [none] T_X5_lengthOf := am_mk (by decide) (Or.inr (Or.inl ⟨rfl, rfl⟩)) (by decide) (by decide) (by decide) fl_X5_ok kc_X5_ok ck_X5_lengthOf B_X5_lengthOf
/-- is the letter at p in the form of the statement that begins at s -/
def inF (ls : List Nat) (s p : Nat) : Bool := if p = s then decide (0 < slN (ls.getD s 0)) else if p + 1 = s + slN (ls.getD s 0) then decide (ls.getD p 0 = 59) else if ls.getD s 0 = 99 ∧ p = s + 1 then (kxf (ls.getD p 0)).isSome else decide (48 ≤ ls.getD p 0 ∧ ls.getD p 0 ≤ 57)
theorem kx_neg : ∀ k, k < 256 → (kx k < 0 ↔ (kxf k).isSome = false) := by decide +kernel
def cs_X5_isInForm : Nat → List am_V → am_D → am_K → Prop := am_cs [(2, am_site 2 [some 0, none] T_X5_letterAt [0, 1] [0, 1]), (8, am_site 2 [some 0, none] T_X5_letterAt [0, 1] [0, 1]), (19, am_site 1 [none] T_X5_lengthOf [] []), (35, am_site 1 [none] T_X5_lengthOf [] []), (71, am_site 2 [some 0, none] T_X5_kindAt [0, 1] [0, 1])]
theorem cs_X5_isInForm_2 : cs_X5_isInForm 2 = am_site 2 [some 0, none] T_X5_letterAt [0, 1] [0, 1] := rfl
theorem cs_X5_isInForm_8 : cs_X5_isInForm 8 = am_site 2 [some 0, none] T_X5_letterAt [0, 1] [0, 1] := rfl
theorem cs_X5_isInForm_19 : cs_X5_isInForm 19 = am_site 1 [none] T_X5_lengthOf [] [] := rfl
theorem cs_X5_isInForm_35 : cs_X5_isInForm 35 = am_site 1 [none] T_X5_lengthOf [] [] := rfl
theorem cs_X5_isInForm_71 : cs_X5_isInForm 71 = am_site 2 [some 0, none] T_X5_kindAt [0, 1] [0, 1] := rfl
theorem ck_X5_isInForm : ∀ X : am_X, am_cx X RX5 cX5_isInForm 5 5 112 → ∀ pc, am_csok X 5 sh_Txt pc (cs_X5_isInForm pc) := fun X hX => am_cs_ok (List.forall_mem_cons.mpr ⟨am_callV hX C_X5_letterAt mo_X5_letterAt rfl lk_X5_45 dX5_isInForm_2 rfl rfl rfl (by decide), List.forall_mem_cons.mpr ⟨am_callV hX C_X5_letterAt mo_X5_letterAt rfl lk_X5_45 dX5_isInForm_8 rfl rfl rfl (by decide), List.forall_mem_cons.mpr ⟨am_callS hX C_X5_lengthOf mo_X5_lengthOf rfl lk_X5_37 dX5_isInForm_19 rfl (by decide), List.forall_mem_cons.mpr ⟨am_callS hX C_X5_lengthOf mo_X5_lengthOf rfl lk_X5_37 dX5_isInForm_35 rfl (by decide), List.forall_mem_cons.mpr ⟨am_callV hX C_X5_kindAt mo_X5_kindAt rfl lk_X5_48 dX5_isInForm_71 rfl rfl rfl (by decide), fun _ h => absurd h List.not_mem_nil⟩⟩⟩⟩⟩)
abbrev ok_X5_isInForm (X : am_X) (K : List Int32 → am_D → Prop) : Prop := am_ok X RX5 cX5_isInForm 5 sh_Txt fl_X5 kc_X5 none 2 cs_X5_isInForm K
abbrev aw_X5_isInForm (X : am_X) (pc : Nat) (ls : am_L) (st : List am_V) (D : am_D) : Prop := am_aw X 5 sh_Txt pc ls st D
abbrev T_X5_isInForm : am_TT := am_pure (fun is D r => ∃ ls s p, tX ls D ∧ s ≤ p ∧ p < 500 ∧ is = [nI s, nI p] ∧ r = bI (inF ls s p))
theorem ii_sub1 {a b c : Nat} (ha : a < 1000) (hc : c < 1000) (hb : b ≤ a) : nI (a - b) = nI c - 1 ↔ a + 1 = b + c := by
  have key : ∀ c : Nat, c < 1000 → (nI c - (1 : Int32)).toInt = (c : Int) - 1 := by
    intro c hc
    rw [Int32.toInt_sub, show (nI c).toInt = (c : Int) by exact Int32.toInt_ofNat_of_lt (by omega), show (1 : Int32).toInt = 1 by decide]
    exact Int.bmod_eq_of_le_mul_two (by omega) (by omega)
  have e1 : (nI (a - b)).toInt = ((a - b : Nat) : Int) := Int32.toInt_ofNat_of_lt (by omega)
  rw [← Int32.toInt_inj, e1, key c hc]
  omega
theorem B_X5_isInForm : ∀ (X : am_X) (is : List Int32) (D : am_D) (K : List Int32 → am_D → Prop), ok_X5_isInForm X K → T_X5_isInForm is D K → is.length = (List.filter Option.isNone ([some 0, none, none] : List (Option Nat))).length → D.length = sh_Txt.length → am_aw X 5 sh_Txt 0 (am_l0 5 [some 0, none, none] is) [] D := by
  intro X is D K O hT _ _
  obtain ⟨r, ⟨ls, s, p, ht, hsp, hp, rfl, rfl⟩, hK⟩ := hT
  obtain ⟨f, rfl, hl, hf, hc⟩ := id ht
  have h1 := tX_lt hc p
  have h2 := tX_lt hc s
  have h3 := slN_le (ls.getD s 0)
  have h4 := kx_neg _ h1
  unfold inF at hK
  refine am_begin rfl ?_
  refine st_aloadn O dX5_isInForm_0 rfl (q := 1) rfl ?_
  refine st_iloadn O dX5_isInForm_1 rfl (q := 2) rfl ?_
  refine st_call O dX5_isInForm_2 cs_X5_isInForm_2 (q := 5) rfl (am_sip rfl rfl rfl (Nat.le_of_ble_eq_true rfl) rfl (r := nI (ls.getD s 0)) ⟨ls, s, ht, by omega, rfl, rfl⟩ ?_)
  refine st_istoren O dX5_isInForm_5 rfl (q := 6) rfl ?_
  refine st_aloadn O dX5_isInForm_6 rfl (q := 7) rfl ?_
  refine st_iloadn O dX5_isInForm_7 rfl (q := 8) rfl ?_
  refine st_call O dX5_isInForm_8 cs_X5_isInForm_8 (q := 11) rfl (am_sip rfl rfl rfl (Nat.le_of_ble_eq_true rfl) rfl (r := nI (ls.getD p 0)) ⟨ls, p, ht, by omega, rfl, rfl⟩ ?_)
  refine st_istore O dX5_isInForm_11 rfl (q := 13) rfl ?_
  refine st_iloadn O dX5_isInForm_13 rfl (q := 14) rfl ?_
  refine st_iloadn O dX5_isInForm_14 rfl (q := 15) rfl ?_
  refine sn_icmp_ne O dX5_isInForm_15 (t := 31) rfl (q := 18) rfl (by omega) (by omega) (fun c15 => ?_) (fun c15 => ?_)
  · refine st_iloadn O dX5_isInForm_31 rfl (q := 32) rfl ?_
    refine st_iloadn O dX5_isInForm_32 rfl (q := 33) rfl ?_
    refine st_isub O dX5_isInForm_33 (by first | exact pk_sub (by omega) | exact rfl) (q := 34) rfl ?_
    refine st_iloadn O dX5_isInForm_34 rfl (q := 35) rfl ?_
    refine st_callS O dX5_isInForm_35 cs_X5_isInForm_35 (q := 38) rfl (am_sip rfl rfl rfl (Nat.le_of_ble_eq_true rfl) rfl (r := nI (slN (ls.getD s 0))) ⟨_, h2, rfl, rfl⟩ ?_)
    refine st_iconst O dX5_isInForm_38 am_iconst_1 (q := 39) rfl ?_
    refine st_isub O dX5_isInForm_39 rfl (q := 40) rfl ?_
    refine st_icmp_ne O dX5_isInForm_40 (t := 56) rfl (q := 43) rfl (fun c40 => ?_) (fun c40 => ?_)
    · refine st_iloadn O dX5_isInForm_56 rfl (q := 57) rfl ?_
      refine st_bipush O dX5_isInForm_57 am_bipush_99 (q := 59) rfl ?_
      refine sn_icmp_ne O dX5_isInForm_59 (t := 83) rfl (q := 62) rfl (by omega) (by omega) (fun c59 => ?_) (fun c59 => ?_)
      · refine st_iload O dX5_isInForm_83 rfl (q := 85) rfl ?_
        refine st_bipush O dX5_isInForm_85 am_bipush_48 (q := 87) rfl ?_
        refine sn_icmp_lt O dX5_isInForm_87 (t := 101) rfl (q := 90) rfl (by omega) (by omega) (fun c87 => ?_) (fun c87 => ?_)
        · refine st_iconst O dX5_isInForm_101 am_iconst_0 (q := 102) rfl ?_
          refine st_zreturn O dX5_isInForm_102 (by first | exact Or.inl rfl | exact Or.inr rfl | assumption) ?_
          rw [if_neg (by omega), if_neg (fun z => c40 ((ii_sub1 (by omega) (by omega) (by omega)).mpr z)), if_neg (by omega)] at hK; first | (rw [decide_eq_true (by omega)] at hK; exact hK) | (rw [decide_eq_false (by omega)] at hK; exact hK)
        refine st_iload O dX5_isInForm_90 rfl (q := 92) rfl ?_
        refine st_bipush O dX5_isInForm_92 am_bipush_57 (q := 94) rfl ?_
        refine sn_icmp_gt O dX5_isInForm_94 (t := 101) rfl (q := 97) rfl (by omega) (by omega) (fun c94 => ?_) (fun c94 => ?_)
        · refine st_iconst O dX5_isInForm_101 am_iconst_0 (q := 102) rfl ?_
          refine st_zreturn O dX5_isInForm_102 (by first | exact Or.inl rfl | exact Or.inr rfl | assumption) ?_
          rw [if_neg (by omega), if_neg (fun z => c40 ((ii_sub1 (by omega) (by omega) (by omega)).mpr z)), if_neg (by omega)] at hK; first | (rw [decide_eq_true (by omega)] at hK; exact hK) | (rw [decide_eq_false (by omega)] at hK; exact hK)
        refine st_iconst O dX5_isInForm_97 am_iconst_1 (q := 98) rfl ?_
        refine st_goto O dX5_isInForm_98 (t := 102) rfl ?_
        refine st_zreturn O dX5_isInForm_102 (by first | exact Or.inl rfl | exact Or.inr rfl | assumption) ?_
        rw [if_neg (by omega), if_neg (fun z => c40 ((ii_sub1 (by omega) (by omega) (by omega)).mpr z)), if_neg (by omega)] at hK; first | (rw [decide_eq_true (by omega)] at hK; exact hK) | (rw [decide_eq_false (by omega)] at hK; exact hK)
      refine st_iloadn O dX5_isInForm_62 rfl (q := 63) rfl ?_
      refine st_iloadn O dX5_isInForm_63 rfl (q := 64) rfl ?_
      refine st_iconst O dX5_isInForm_64 am_iconst_1 (q := 65) rfl ?_
      refine st_iadd O dX5_isInForm_65 (by first | exact nI_add _ _ | exact rfl) (q := 66) rfl ?_
      refine sn_icmp_ne O dX5_isInForm_66 (t := 83) rfl (q := 69) rfl (by omega) (by omega) (fun c66 => ?_) (fun c66 => ?_)
      · refine st_iload O dX5_isInForm_83 rfl (q := 85) rfl ?_
        refine st_bipush O dX5_isInForm_85 am_bipush_48 (q := 87) rfl ?_
        refine sn_icmp_lt O dX5_isInForm_87 (t := 101) rfl (q := 90) rfl (by omega) (by omega) (fun c87 => ?_) (fun c87 => ?_)
        · refine st_iconst O dX5_isInForm_101 am_iconst_0 (q := 102) rfl ?_
          refine st_zreturn O dX5_isInForm_102 (by first | exact Or.inl rfl | exact Or.inr rfl | assumption) ?_
          rw [if_neg (by omega), if_neg (fun z => c40 ((ii_sub1 (by omega) (by omega) (by omega)).mpr z)), if_neg (by omega)] at hK; first | (rw [decide_eq_true (by omega)] at hK; exact hK) | (rw [decide_eq_false (by omega)] at hK; exact hK)
        refine st_iload O dX5_isInForm_90 rfl (q := 92) rfl ?_
        refine st_bipush O dX5_isInForm_92 am_bipush_57 (q := 94) rfl ?_
        refine sn_icmp_gt O dX5_isInForm_94 (t := 101) rfl (q := 97) rfl (by omega) (by omega) (fun c94 => ?_) (fun c94 => ?_)
        · refine st_iconst O dX5_isInForm_101 am_iconst_0 (q := 102) rfl ?_
          refine st_zreturn O dX5_isInForm_102 (by first | exact Or.inl rfl | exact Or.inr rfl | assumption) ?_
          rw [if_neg (by omega), if_neg (fun z => c40 ((ii_sub1 (by omega) (by omega) (by omega)).mpr z)), if_neg (by omega)] at hK; first | (rw [decide_eq_true (by omega)] at hK; exact hK) | (rw [decide_eq_false (by omega)] at hK; exact hK)
        refine st_iconst O dX5_isInForm_97 am_iconst_1 (q := 98) rfl ?_
        refine st_goto O dX5_isInForm_98 (t := 102) rfl ?_
        refine st_zreturn O dX5_isInForm_102 (by first | exact Or.inl rfl | exact Or.inr rfl | assumption) ?_
        rw [if_neg (by omega), if_neg (fun z => c40 ((ii_sub1 (by omega) (by omega) (by omega)).mpr z)), if_neg (by omega)] at hK; first | (rw [decide_eq_true (by omega)] at hK; exact hK) | (rw [decide_eq_false (by omega)] at hK; exact hK)
      refine st_aloadn O dX5_isInForm_69 rfl (q := 70) rfl ?_
      refine st_iloadn O dX5_isInForm_70 rfl (q := 71) rfl ?_
      refine st_call O dX5_isInForm_71 cs_X5_isInForm_71 (q := 74) rfl (am_sip rfl rfl rfl (Nat.le_of_ble_eq_true rfl) rfl (r := kx (ls.getD p 0)) ⟨_, _, ht, by omega, rfl, rfl⟩ ?_)
      refine st_if_lt O dX5_isInForm_74 (t := 81) rfl (q := 77) rfl (fun c74 => ?_) (fun c74 => ?_)
      · refine st_iconst O dX5_isInForm_81 am_iconst_0 (q := 82) rfl ?_
        refine st_zreturn O dX5_isInForm_82 (by first | exact Or.inl rfl | exact Or.inr rfl | assumption) ?_
        rw [if_neg (by omega), if_neg (fun z => c40 ((ii_sub1 (by omega) (by omega) (by omega)).mpr z)), if_pos (by omega)] at hK
        first | (rw [show (kxf (ls.getD p 0)).isSome = true by rcases Bool.eq_false_or_eq_true (kxf (ls.getD p 0)).isSome with q | q; exact q; exact absurd (h4.mpr q) c74] at hK; exact hK) | (rw [h4.mp c74] at hK; exact hK)
      refine st_iconst O dX5_isInForm_77 am_iconst_1 (q := 78) rfl ?_
      refine st_goto O dX5_isInForm_78 (t := 82) rfl ?_
      refine st_zreturn O dX5_isInForm_82 (by first | exact Or.inl rfl | exact Or.inr rfl | assumption) ?_
      rw [if_neg (by omega), if_neg (fun z => c40 ((ii_sub1 (by omega) (by omega) (by omega)).mpr z)), if_pos (by omega)] at hK
      first | (rw [show (kxf (ls.getD p 0)).isSome = true by rcases Bool.eq_false_or_eq_true (kxf (ls.getD p 0)).isSome with q | q; exact q; exact absurd (h4.mpr q) c74] at hK; exact hK) | (rw [h4.mp c74] at hK; exact hK)
    refine st_iload O dX5_isInForm_43 rfl (q := 45) rfl ?_
    refine st_bipush O dX5_isInForm_45 am_bipush_59 (q := 47) rfl ?_
    refine sn_icmp_ne O dX5_isInForm_47 (t := 54) rfl (q := 50) rfl (by omega) (by omega) (fun c47 => ?_) (fun c47 => ?_)
    · refine st_iconst O dX5_isInForm_54 am_iconst_0 (q := 55) rfl ?_
      refine st_zreturn O dX5_isInForm_55 (by first | exact Or.inl rfl | exact Or.inr rfl | assumption) ?_
      rw [if_neg (by omega), if_pos ((ii_sub1 (by omega) (by omega) (by omega)).mp (by first | exact c40 | exact Decidable.of_not_not c40))] at hK; first | (rw [decide_eq_true (by omega)] at hK; exact hK) | (rw [decide_eq_false (by omega)] at hK; exact hK)
    refine st_iconst O dX5_isInForm_50 am_iconst_1 (q := 51) rfl ?_
    refine st_goto O dX5_isInForm_51 (t := 55) rfl ?_
    refine st_zreturn O dX5_isInForm_55 (by first | exact Or.inl rfl | exact Or.inr rfl | assumption) ?_
    rw [if_neg (by omega), if_pos ((ii_sub1 (by omega) (by omega) (by omega)).mp (by first | exact c40 | exact Decidable.of_not_not c40))] at hK; first | (rw [decide_eq_true (by omega)] at hK; exact hK) | (rw [decide_eq_false (by omega)] at hK; exact hK)
  refine st_iloadn O dX5_isInForm_18 rfl (q := 19) rfl ?_
  refine st_callS O dX5_isInForm_19 cs_X5_isInForm_19 (q := 22) rfl (am_sip rfl rfl rfl (Nat.le_of_ble_eq_true rfl) rfl (r := nI (slN (ls.getD s 0))) ⟨_, h2, rfl, rfl⟩ ?_)
  refine sn_if_le O dX5_isInForm_22 (t := 29) rfl (q := 25) rfl (by omega) (fun c22 => ?_) (fun c22 => ?_)
  · refine st_iconst O dX5_isInForm_29 am_iconst_0 (q := 30) rfl ?_
    refine st_zreturn O dX5_isInForm_30 (by first | exact Or.inl rfl | exact Or.inr rfl | assumption) ?_
    rw [if_pos (by omega)] at hK; first | (rw [decide_eq_true (by omega)] at hK; exact hK) | (rw [decide_eq_false (by omega)] at hK; exact hK)
  refine st_iconst O dX5_isInForm_25 am_iconst_1 (q := 26) rfl ?_
  refine st_goto O dX5_isInForm_26 (t := 30) rfl ?_
  refine st_zreturn O dX5_isInForm_30 (by first | exact Or.inl rfl | exact Or.inr rfl | assumption) ?_
  rw [if_pos (by omega)] at hK; first | (rw [decide_eq_true (by omega)] at hK; exact hK) | (rw [decide_eq_false (by omega)] at hK; exact hK)
theorem C_X5_isInForm : am_ctr yX5_isInForm cX5_isInForm 5 (some .boolean) 5 112 sh_Txt [some 0, none, none] T_X5_isInForm := am_mk (by decide) (Or.inr (Or.inr ⟨rfl, rfl⟩)) (by decide) (by decide) (by decide) fl_X5_ok kc_X5_ok ck_X5_isInForm B_X5_isInForm
/-- where the form is broken, from the letter p of the statement that begins at s -/
def scF (ls : List Nat) : Nat → Nat → Nat → Option Nat
  | 0, s, _ => if 0 < ls.length ∧ s = ls.length then none else some ls.length
  | f + 1, s, p => if inF ls s p = true then scF ls f (if p + 1 = s + slN (ls.getD s 0) then p + 1 else s) (p + 1) else some p
def oN (o : Option Nat) : Int32 := match o with
  | none => -1
  | some p => nI p
def ffl (ls : List Nat) : Option Nat := scF ls ls.length 0 0
def cs_X5_formFault : Nat → List am_V → am_D → am_K → Prop := am_cs [(15, am_site 3 [some 0, none, none] T_X5_isInForm [0, 1] [0, 1]), (28, am_site 2 [some 0, none] T_X5_letterAt [0, 1] [0, 1]), (31, am_site 1 [none] T_X5_lengthOf [] [])]
theorem cs_X5_formFault_15 : cs_X5_formFault 15 = am_site 3 [some 0, none, none] T_X5_isInForm [0, 1] [0, 1] := rfl
theorem cs_X5_formFault_28 : cs_X5_formFault 28 = am_site 2 [some 0, none] T_X5_letterAt [0, 1] [0, 1] := rfl
theorem cs_X5_formFault_31 : cs_X5_formFault 31 = am_site 1 [none] T_X5_lengthOf [] [] := rfl
theorem ck_X5_formFault : ∀ X : am_X, am_cx X RX5 cX5_formFault 3 6 136 → ∀ pc, am_csok X 3 sh_Txt pc (cs_X5_formFault pc) := fun X hX => am_cs_ok (List.forall_mem_cons.mpr ⟨am_callV hX C_X5_isInForm mo_X5_isInForm rfl lk_X5_41 dX5_formFault_15 rfl rfl rfl (by decide), List.forall_mem_cons.mpr ⟨am_callV hX C_X5_letterAt mo_X5_letterAt rfl lk_X5_45 dX5_formFault_28 rfl rfl rfl (by decide), List.forall_mem_cons.mpr ⟨am_callS hX C_X5_lengthOf mo_X5_lengthOf rfl lk_X5_37 dX5_formFault_31 rfl (by decide), fun _ h => absurd h List.not_mem_nil⟩⟩⟩)
abbrev ok_X5_formFault (X : am_X) (K : List Int32 → am_D → Prop) : Prop := am_ok X RX5 cX5_formFault 3 sh_Txt fl_X5 kc_X5 none 1 cs_X5_formFault K
abbrev aw_X5_formFault (X : am_X) (pc : Nat) (ls : am_L) (st : List am_V) (D : am_D) : Prop := am_aw X 3 sh_Txt pc ls st D
abbrev T_X5_formFault : am_TT := am_pure (fun is D r => ∃ ls, tX ls D ∧ is = [] ∧ r = oN (ffl ls))
theorem B_X5_formFault : ∀ (X : am_X) (is : List Int32) (D : am_D) (K : List Int32 → am_D → Prop), ok_X5_formFault X K → T_X5_formFault is D K → is.length = (List.filter Option.isNone ([some 0] : List (Option Nat))).length → D.length = sh_Txt.length → am_aw X 3 sh_Txt 0 (am_l0 3 [some 0] is) [] D := by
  intro X is D K O hT _ _
  obtain ⟨r, ⟨ls, ht, rfl, rfl⟩, hK⟩ := hT
  obtain ⟨f, rfl, hl, hf, hc⟩ := id ht
  have loop : ∀ d s p, ls.length - p = d → s ≤ p → p ≤ ls.length → scF ls d s p = ffl ls → am_aw X 3 sh_Txt 4 [some (.inr 0), some (.inl (nI s)), some (.inl (nI p))] [] [.inl [nI ls.length], .inr f] := by
    intro d
    induction d with
    | zero =>
      intro s p hd hs hp hR
      have e : p = ls.length := by omega
      subst e
      rw [← hR] at hK
      unfold scF at hK
      refine st_iloadn O dX5_formFault_4 rfl (q := 5) rfl ?_
      refine st_aloadn O dX5_formFault_5 rfl (q := 6) rfl ?_
      refine st_geti O dX5_formFault_6 fl_X5_9 rfl rfl rfl rfl (q := 9) rfl ?_
      refine sn_icmp_ge O dX5_formFault_9 (t := 49) rfl (q := 12) rfl (by omega) (by omega) (fun c9 => ?_) (fun c9 => ?_)
      · refine st_aloadn O dX5_formFault_49 rfl (q := 50) rfl ?_
        refine st_geti O dX5_formFault_50 fl_X5_9 rfl rfl rfl rfl (q := 53) rfl ?_
        refine sn_if_le O dX5_formFault_53 (t := 68) rfl (q := 56) rfl (by omega) (fun c53 => ?_) (fun c53 => ?_)
        · refine st_aloadn O dX5_formFault_68 rfl (q := 69) rfl ?_
          refine st_geti O dX5_formFault_69 fl_X5_9 rfl rfl rfl rfl (q := 72) rfl ?_
          refine st_ireturn O dX5_formFault_72 ?_
          first | (rw [if_pos (by omega)] at hK; exact hK) | (rw [if_neg (by omega)] at hK; exact hK)
        refine st_iloadn O dX5_formFault_56 rfl (q := 57) rfl ?_
        refine st_aloadn O dX5_formFault_57 rfl (q := 58) rfl ?_
        refine st_geti O dX5_formFault_58 fl_X5_9 rfl rfl rfl rfl (q := 61) rfl ?_
        refine sn_icmp_ne O dX5_formFault_61 (t := 68) rfl (q := 64) rfl (by omega) (by omega) (fun c61 => ?_) (fun c61 => ?_)
        · refine st_aloadn O dX5_formFault_68 rfl (q := 69) rfl ?_
          refine st_geti O dX5_formFault_69 fl_X5_9 rfl rfl rfl rfl (q := 72) rfl ?_
          refine st_ireturn O dX5_formFault_72 ?_
          first | (rw [if_pos (by omega)] at hK; exact hK) | (rw [if_neg (by omega)] at hK; exact hK)
        refine st_iconst O dX5_formFault_64 am_iconst_m1 (q := 65) rfl ?_
        refine st_goto O dX5_formFault_65 (t := 72) rfl ?_
        refine st_ireturn O dX5_formFault_72 ?_
        first | (rw [if_pos (by omega)] at hK; exact hK) | (rw [if_neg (by omega)] at hK; exact hK)
      omega
    | succ d ih =>
      intro s p hd hs hp hR
      have h2 := tX_lt hc s
      have h3 := slN_le (ls.getD s 0)
      unfold scF at hR
      by_cases hin : inF ls s p = true
      · rw [if_pos hin] at hR
        refine st_iloadn O dX5_formFault_4 rfl (q := 5) rfl ?_
        refine st_aloadn O dX5_formFault_5 rfl (q := 6) rfl ?_
        refine st_geti O dX5_formFault_6 fl_X5_9 rfl rfl rfl rfl (q := 9) rfl ?_
        refine sn_icmp_ge O dX5_formFault_9 (t := 49) rfl (q := 12) rfl (by omega) (by omega) (fun c9 => ?_) (fun c9 => ?_)
        · omega
        refine st_aloadn O dX5_formFault_12 rfl (q := 13) rfl ?_
        refine st_iloadn O dX5_formFault_13 rfl (q := 14) rfl ?_
        refine st_iloadn O dX5_formFault_14 rfl (q := 15) rfl ?_
        refine st_call O dX5_formFault_15 cs_X5_formFault_15 (q := 18) rfl (am_sip rfl rfl rfl (Nat.le_of_ble_eq_true rfl) rfl (r := 1) ⟨ls, s, p, ht, hs, by omega, rfl, by rw [hin]; rfl⟩ ?_)
        refine st_if_ne O dX5_formFault_18 (t := 23) rfl (q := 21) rfl (fun c18 => ?_) (fun c18 => ?_)
        · refine st_iloadn O dX5_formFault_23 rfl (q := 24) rfl ?_
          refine st_iloadn O dX5_formFault_24 rfl (q := 25) rfl ?_
          refine st_isub O dX5_formFault_25 (by first | exact pk_sub (by omega) | exact rfl) (q := 26) rfl ?_
          refine st_aloadn O dX5_formFault_26 rfl (q := 27) rfl ?_
          refine st_iloadn O dX5_formFault_27 rfl (q := 28) rfl ?_
          refine st_call O dX5_formFault_28 cs_X5_formFault_28 (q := 31) rfl (am_sip rfl rfl rfl (Nat.le_of_ble_eq_true rfl) rfl (r := nI (ls.getD s 0)) ⟨ls, s, ht, by omega, rfl, rfl⟩ ?_)
          refine st_callS O dX5_formFault_31 cs_X5_formFault_31 (q := 34) rfl (am_sip rfl rfl rfl (Nat.le_of_ble_eq_true rfl) rfl (r := nI (slN (ls.getD s 0))) ⟨_, h2, rfl, rfl⟩ ?_)
          refine st_iconst O dX5_formFault_34 am_iconst_1 (q := 35) rfl ?_
          refine st_isub O dX5_formFault_35 rfl (q := 36) rfl ?_
          refine st_icmp_ne O dX5_formFault_36 (t := 43) rfl (q := 39) rfl (fun c36 => ?_) (fun c36 => ?_)
          · refine st_iinc O dX5_formFault_43 rfl (by first | exact am_ii1 _ | exact rfl) rfl (q := 46) rfl ?_
            refine st_goto O dX5_formFault_46 (t := 4) rfl ?_
            first | (rw [if_neg (fun z => c36 ((ii_sub1 (by omega) (by omega) (by omega)).mpr z))] at hR; exact ih s (p + 1) (by omega) (by omega) (by omega) hR) | (rw [if_pos ((ii_sub1 (by omega) (by omega) (by omega)).mp (by first | exact c36 | exact Decidable.of_not_not c36))] at hR; exact ih (p + 1) (p + 1) (by omega) (by omega) (by omega) hR)
          refine st_iloadn O dX5_formFault_39 rfl (q := 40) rfl ?_
          refine st_iconst O dX5_formFault_40 am_iconst_1 (q := 41) rfl ?_
          refine st_iadd O dX5_formFault_41 (by first | exact nI_add _ _ | exact rfl) (q := 42) rfl ?_
          refine st_istoren O dX5_formFault_42 rfl (q := 43) rfl ?_
          refine st_iinc O dX5_formFault_43 rfl (by first | exact am_ii1 _ | exact rfl) rfl (q := 46) rfl ?_
          refine st_goto O dX5_formFault_46 (t := 4) rfl ?_
          first | (rw [if_neg (fun z => c36 ((ii_sub1 (by omega) (by omega) (by omega)).mpr z))] at hR; exact ih s (p + 1) (by omega) (by omega) (by omega) hR) | (rw [if_pos ((ii_sub1 (by omega) (by omega) (by omega)).mp (by first | exact c36 | exact Decidable.of_not_not c36))] at hR; exact ih (p + 1) (p + 1) (by omega) (by omega) (by omega) hR)
        exact absurd c18 (by decide)
      · rw [if_neg hin] at hR
        rw [← hR] at hK
        refine st_iloadn O dX5_formFault_4 rfl (q := 5) rfl ?_
        refine st_aloadn O dX5_formFault_5 rfl (q := 6) rfl ?_
        refine st_geti O dX5_formFault_6 fl_X5_9 rfl rfl rfl rfl (q := 9) rfl ?_
        refine sn_icmp_ge O dX5_formFault_9 (t := 49) rfl (q := 12) rfl (by omega) (by omega) (fun c9 => ?_) (fun c9 => ?_)
        · omega
        refine st_aloadn O dX5_formFault_12 rfl (q := 13) rfl ?_
        refine st_iloadn O dX5_formFault_13 rfl (q := 14) rfl ?_
        refine st_iloadn O dX5_formFault_14 rfl (q := 15) rfl ?_
        refine st_call O dX5_formFault_15 cs_X5_formFault_15 (q := 18) rfl (am_sip rfl rfl rfl (Nat.le_of_ble_eq_true rfl) rfl (r := 0) ⟨ls, s, p, ht, hs, by omega, rfl, by rw [Bool.not_eq_true] at hin; rw [hin]; rfl⟩ ?_)
        refine st_if_ne O dX5_formFault_18 (t := 23) rfl (q := 21) rfl (fun c18 => ?_) (fun c18 => ?_)
        · exact absurd c18 (by decide)
        refine st_iloadn O dX5_formFault_21 rfl (q := 22) rfl ?_
        refine st_ireturn O dX5_formFault_22 ?_
        exact hK
  refine am_begin rfl ?_
  refine st_iconst O dX5_formFault_0 am_iconst_0 (q := 1) rfl ?_
  refine st_istoren O dX5_formFault_1 rfl (q := 2) rfl ?_
  refine st_iconst O dX5_formFault_2 am_iconst_0 (q := 3) rfl ?_
  refine st_istoren O dX5_formFault_3 rfl (q := 4) rfl ?_
  exact loop ls.length 0 0 (by omega) (by omega) (by omega) rfl
theorem C_X5_formFault : am_ctr yX5_formFault cX5_formFault 3 (some .int) 6 136 sh_Txt [some 0] T_X5_formFault := am_mk (by decide) (Or.inr (Or.inl ⟨rfl, rfl⟩)) (by decide) (by decide) (by decide) fl_X5_ok kc_X5_ok ck_X5_formFault B_X5_formFault
