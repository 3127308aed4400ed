/-! THE REFERENCE: its small methods; lanes and places as two queues -/
abbrev sh_M0 : am_S := [.inr (6, [.inl 0, .inr 1, .inr 2, .inr 3, .inr 4, .inr 5, .inl 1, .inl 2, .inl 3, .inr 6, .inl 4, .inr 7, .inl 5, .inr 8, .inr 9, .inl 6, .inr 10, .inr 11, .inr 12, .inl 7, .inr 13, .inr 14, .inr 15, .inl 8, .inl 9, .inl 10, .inl 11])]
abbrev sh_MF : am_S := [.inr (6, [.inl 0, .inr 2, .inr 3, .inr 4, .inr 5, .inr 6, .inl 1, .inl 2, .inl 3, .inr 7, .inl 4, .inr 8, .inl 5, .inr 9, .inr 1, .inl 6, .inr 10, .inr 11, .inr 12, .inl 7, .inr 13, .inr 14, .inr 15, .inl 8, .inl 9, .inl 10, .inl 11]), .inl 7]
abbrev sh_ML : am_S := [.inr (6, [.inl 0, .inr 3, .inr 4, .inr 5, .inr 1, .inr 2, .inl 1, .inl 2, .inl 3, .inr 6, .inl 4, .inr 7, .inl 5, .inr 8, .inr 9, .inl 6, .inr 10, .inr 11, .inr 12, .inl 7, .inr 13, .inr 14, .inr 15, .inl 8, .inl 9, .inl 10, .inl 11]), .inl 9, .inl 9]
abbrev sh_MB : am_S := [.inr (6, [.inl 0, .inr 1, .inr 2, .inr 3, .inr 4, .inr 5, .inl 1, .inl 2, .inl 3, .inr 6, .inl 4, .inr 7, .inl 5, .inr 8, .inr 9, .inl 6, .inr 10, .inr 11, .inr 12, .inl 7, .inr 13, .inr 14, .inr 15, .inl 8, .inl 9, .inl 10, .inl 11]), .inl 9, .inl 9]
abbrev sh_MS : am_S := [.inr (6, [.inl 0, .inr 1, .inr 2, .inr 3, .inr 4, .inr 5, .inl 1, .inl 2, .inl 3, .inr 6, .inl 4, .inr 7, .inl 5, .inr 8, .inr 9, .inl 6, .inr 10, .inr 11, .inr 12, .inl 7, .inr 13, .inr 14, .inr 15, .inl 8, .inl 9, .inl 10, .inl 11]), .inl 9]
abbrev sh_MR : am_S := [.inr (6, [.inl 0, .inr 1, .inr 2, .inr 8, .inr 3, .inr 4, .inl 1, .inl 2, .inl 3, .inr 9, .inl 4, .inr 10, .inl 5, .inr 11, .inr 12, .inl 6, .inr 13, .inr 14, .inr 15, .inl 7, .inr 5, .inr 6, .inr 7, .inl 8, .inl 9, .inl 10, .inl 11]), .inl 9, .inl 9, .inl 9, .inl 9, .inl 9, .inl 9, .inl 9]
abbrev sh_MC : am_S := [.inr (6, [.inl 0, .inr 1, .inr 2, .inr 3, .inr 4, .inr 5, .inl 1, .inl 2, .inl 3, .inr 9, .inl 4, .inr 10, .inl 5, .inr 11, .inr 12, .inl 6, .inr 13, .inr 14, .inr 15, .inl 7, .inr 6, .inr 7, .inr 8, .inl 8, .inl 9, .inl 10, .inl 11]), .inl 9, .inl 9, .inl 9, .inl 9, .inl 9, .inl 9, .inl 9, .inl 9]
abbrev sh_MKA : am_S := [.inr (6, [.inl 0, .inr 1, .inr 2, .inr 3, .inr 4, .inr 5, .inl 1, .inl 2, .inl 3, .inr 7, .inl 4, .inr 8, .inl 5, .inr 9, .inr 10, .inl 6, .inr 11, .inr 12, .inr 13, .inl 7, .inr 14, .inr 15, .inr 16, .inl 8, .inl 9, .inl 10, .inl 11]), .inl 9, .inl 9, .inl 9, .inl 9, .inl 9, .inl 48]
def cs_X7_no : Nat → List am_V → am_D → am_K → Prop := am_cs []
theorem ck_X7_no : ∀ X : am_X, am_cx X RX7 cX7_no 2 0 0 → ∀ pc, am_csok X 2 sh_MF pc (cs_X7_no pc) := fun X hX => am_cs_ok (fun _ h => absurd h List.not_mem_nil)
abbrev ok_X7_no (X : am_X) (K : List Int32 → am_D → Prop) : Prop := am_ok X RX7 cX7_no 2 sh_MF fl_X7 kc_X7 none 1 cs_X7_no K
abbrev aw_X7_no (X : am_X) (pc : Nat) (ls : am_L) (st : List am_V) (D : am_D) : Prop := am_aw X 2 sh_MF pc ls st D
abbrev T_X7_no : am_TT := fun is D K => ∃ xs rf k, 1 ≤ k ∧ k ≤ 6 ∧ is = [-(nI k)] ∧ D = [.inl xs, .inr rf] ∧ K [-(nI k)] [.inl xs, .inr (upd rf k (rf k + 1))]
set_option maxHeartbeats 200000 in
theorem B_X7_no : ∀ (X : am_X) (is : List Int32) (D : am_D) (K : List Int32 → am_D → Prop), ok_X7_no X K → T_X7_no is D K → is.length = (List.filter Option.isNone ([some 0, none] : List (Option Nat))).length → D.length = sh_MF.length → am_aw X 2 sh_MF 0 (am_l0 2 [some 0, none] is) [] D := by
  intro X is D K O hT _ _
  obtain ⟨xs, rf, k, h1, h6, rfl, rfl, hK⟩ := hT
  obtain ⟨g1, g2, g3⟩ := rf_tab k (by omega) h1
  refine am_begin rfl ?_
  refine st_aloadn O dX7_no_0 rfl (q := 1) rfl ?_
  refine st_getr O dX7_no_1 fl_X7_34 rfl rfl rfl (q := 4) rfl ?_
  refine st_iloadn O dX7_no_4 rfl (q := 5) rfl ?_
  refine st_ineg O dX7_no_5 g3 (q := 6) rfl ?_
  refine st_dup2 O dX7_no_6 (q := 7) rfl ?_
  refine sn_ald O dX7_no_7 rfl rfl rfl ⟨by omega, by decide⟩ rfl (q := 8) rfl ?_
  refine st_iconst O dX7_no_8 am_iconst_1 (q := 9) rfl ?_
  refine st_iadd O dX7_no_9 rfl (q := 10) rfl ?_
  refine sn_ast O dX7_no_10 rfl rfl rfl ⟨by omega, by decide⟩ rfl rfl (q := 11) rfl ?_
  refine st_iloadn O dX7_no_11 rfl (q := 12) rfl ?_
  refine st_ireturn O dX7_no_12 ?_
  exact hK
theorem C_X7_no : am_ctr yX7_no cX7_no 2 (some .int) 0 0 sh_MF [some 0, none] T_X7_no := am_mk (by decide) (Or.inr (Or.inl ⟨rfl, rfl⟩)) (by decide) (by decide) (by decide) fl_X7_ok kc_X7_ok ck_X7_no B_X7_no
def cs_X7_within : Nat → List am_V → am_D → am_K → Prop := am_cs []
theorem ck_X7_within : ∀ X : am_X, am_cx X RX7 cX7_within 3 0 0 → ∀ pc, am_csok X 3 sh_None pc (cs_X7_within pc) := fun X hX => am_cs_ok (fun _ h => absurd h List.not_mem_nil)
abbrev ok_X7_within (X : am_X) (K : List Int32 → am_D → Prop) : Prop := am_ok X RX7 cX7_within 3 sh_None fl_X7 kc_X7 none 2 cs_X7_within K
abbrev aw_X7_within (X : am_X) (pc : Nat) (ls : am_L) (st : List am_V) (D : am_D) : Prop := am_aw X 3 sh_None pc ls st D
abbrev T_X7_within : am_TT := am_pure (fun is _ r => ∃ v lo hi, is = [v, lo, hi] ∧ r = bI (decide (lo ≤ v ∧ v ≤ hi)))
set_option maxHeartbeats 200000 in
theorem B_X7_within : ∀ (X : am_X) (is : List Int32) (D : am_D) (K : List Int32 → am_D → Prop), ok_X7_within X K → T_X7_within is D K → is.length = (List.filter Option.isNone ([none, none, none] : List (Option Nat))).length → D.length = sh_None.length → am_aw X 3 sh_None 0 (am_l0 3 [none, none, none] is) [] D := by
  intro X is D K O hT _ _
  obtain ⟨r, ⟨v, lo, hi, rfl, rfl⟩, hK⟩ := hT
  refine am_begin rfl ?_
  refine st_iloadn O dX7_within_0 rfl (q := 1) rfl ?_
  refine st_iloadn O dX7_within_1 rfl (q := 2) rfl ?_
  refine st_icmp_lt O dX7_within_2 (t := 14) rfl (q := 5) rfl (fun c2 => ?_) (fun c2 => ?_)
  · refine st_iconst O dX7_within_14 am_iconst_0 (q := 15) rfl ?_
    refine st_zreturn O dX7_within_15 (by first | exact Or.inl rfl | exact Or.inr rfl | assumption) ?_
    first | (rw [decide_eq_false (fun z => absurd c2 (Int32.not_lt.mpr z.1))] at hK; exact hK) | (rw [decide_eq_false (fun z => absurd c7 (Int32.not_lt.mpr z.2))] at hK; exact hK) | (rw [decide_eq_true ⟨Int32.not_lt.mp c2, Int32.not_lt.mp c7⟩] at hK; exact hK)
  refine st_iloadn O dX7_within_5 rfl (q := 6) rfl ?_
  refine st_iloadn O dX7_within_6 rfl (q := 7) rfl ?_
  refine st_icmp_gt O dX7_within_7 (t := 14) rfl (q := 10) rfl (fun c7 => ?_) (fun c7 => ?_)
  · refine st_iconst O dX7_within_14 am_iconst_0 (q := 15) rfl ?_
    refine st_zreturn O dX7_within_15 (by first | exact Or.inl rfl | exact Or.inr rfl | assumption) ?_
    first | (rw [decide_eq_false (fun z => absurd c2 (Int32.not_lt.mpr z.1))] at hK; exact hK) | (rw [decide_eq_false (fun z => absurd c7 (Int32.not_lt.mpr z.2))] at hK; exact hK) | (rw [decide_eq_true ⟨Int32.not_lt.mp c2, Int32.not_lt.mp c7⟩] at hK; exact hK)
  refine st_iconst O dX7_within_10 am_iconst_1 (q := 11) rfl ?_
  refine st_goto O dX7_within_11 (t := 15) rfl ?_
  refine st_zreturn O dX7_within_15 (by first | exact Or.inl rfl | exact Or.inr rfl | assumption) ?_
  first | (rw [decide_eq_false (fun z => absurd c2 (Int32.not_lt.mpr z.1))] at hK; exact hK) | (rw [decide_eq_false (fun z => absurd c7 (Int32.not_lt.mpr z.2))] at hK; exact hK) | (rw [decide_eq_true ⟨Int32.not_lt.mp c2, Int32.not_lt.mp c7⟩] at hK; exact hK)
theorem C_X7_within : am_ctr yX7_within cX7_within 3 (some .boolean) 0 0 sh_None [none, none, none] T_X7_within := am_mk (by decide) (Or.inr (Or.inr ⟨rfl, rfl⟩)) (by decide) (by decide) (by decide) fl_X7_ok kc_X7_ok ck_X7_within B_X7_within
theorem ic_iff {n : Nat} (hn : n ≤ 9) (c : Int32) : decide (nI 0 ≤ c ∧ c ≤ nI n - nI 1) = (xi n c).isSome := by
  have e1 : (nI n - nI 1).toInt = (n : Int) - 1 := pk_sub_toInt (by omega) (by decide)
  have e2 : (nI n).toInt = (n : Int) := Int32.toInt_ofNat_of_lt (by omega)
  have key : (nI 0 ≤ c ∧ c ≤ nI n - nI 1) ↔ (0 ≤ c ∧ c < nI n) := by
    rw [Int32.le_iff_toInt_le (x := c), Int32.lt_iff_toInt_lt (x := c), e1, e2]
    constructor
    · rintro ⟨h1, h2⟩
      exact ⟨h1, by omega⟩
    · rintro ⟨h1, h2⟩
      exact ⟨h1, by omega⟩
  unfold xi
  by_cases h : 0 ≤ c ∧ c < nI n
  · rw [if_pos h, decide_eq_true (key.mpr h)]
    rfl
  · rw [if_neg h, decide_eq_false (fun z => h (key.mp z))]
    rfl
def cs_X7_isCar : Nat → List am_V → am_D → am_K → Prop := am_cs [(8, am_site 3 [none, none, none] T_X7_within [] [])]
theorem cs_X7_isCar_8 : cs_X7_isCar 8 = am_site 3 [none, none, none] T_X7_within [] [] := rfl
theorem ck_X7_isCar : ∀ X : am_X, am_cx X RX7 cX7_isCar 2 1 22 → ∀ pc, am_csok X 2 sh_M0 pc (cs_X7_isCar pc) := fun X hX => am_cs_ok (List.forall_mem_cons.mpr ⟨am_callS hX C_X7_within mo_X7_within rfl lk_X7_62 dX7_isCar_8 rfl (by decide), fun _ h => absurd h List.not_mem_nil⟩)
abbrev ok_X7_isCar (X : am_X) (K : List Int32 → am_D → Prop) : Prop := am_ok X RX7 cX7_isCar 2 sh_M0 fl_X7 kc_X7 none 2 cs_X7_isCar K
abbrev aw_X7_isCar (X : am_X) (pc : Nat) (ls : am_L) (st : List am_V) (D : am_D) : Prop := am_aw X 2 sh_M0 pc ls st D
abbrev T_X7_isCar : am_TT := am_pure (fun is D r => ∃ x n xs, n ≤ 9 ∧ is = [x] ∧ D = [.inl (nI n :: xs)] ∧ r = bI (xi n x).isSome)
set_option maxHeartbeats 200000 in
theorem B_X7_isCar : ∀ (X : am_X) (is : List Int32) (D : am_D) (K : List Int32 → am_D → Prop), ok_X7_isCar X K → T_X7_isCar is D K → is.length = (List.filter Option.isNone ([some 0, none] : List (Option Nat))).length → D.length = sh_M0.length → am_aw X 2 sh_M0 0 (am_l0 2 [some 0, none] is) [] D := by
  intro X is D K O hT _ _
  obtain ⟨r, ⟨x, n, xs, hn, rfl, rfl, rfl⟩, hK⟩ := hT
  refine am_begin rfl ?_
  refine st_iloadn O dX7_isCar_0 rfl (q := 1) rfl ?_
  refine st_iconst O dX7_isCar_1 am_iconst_0 (q := 2) rfl ?_
  refine st_aloadn O dX7_isCar_2 rfl (q := 3) rfl ?_
  refine st_geti O dX7_isCar_3 fl_X7_59 rfl rfl rfl rfl (q := 6) rfl ?_
  refine st_iconst O dX7_isCar_6 am_iconst_1 (q := 7) rfl ?_
  refine st_isub O dX7_isCar_7 rfl (q := 8) rfl ?_
  refine st_callS O dX7_isCar_8 cs_X7_isCar_8 (q := 11) rfl (am_sipq rfl rfl rfl (Nat.le_of_ble_eq_true rfl) rfl (r := bI (decide (nI 0 ≤ x ∧ x ≤ nI n - nI 1))) ⟨_, _, _, rfl, rfl⟩ ?_)
  refine st_zreturn O dX7_isCar_11 (by rw [ic_iff hn]; cases (xi n x).isSome; exact Or.inl rfl; exact Or.inr rfl) ?_
  rw [ic_iff hn]
  exact hK
theorem C_X7_isCar : am_ctr yX7_isCar cX7_isCar 2 (some .boolean) 1 22 sh_M0 [some 0, none] T_X7_isCar := am_mk (by decide) (Or.inr (Or.inr ⟨rfl, rfl⟩)) (by decide) (by decide) (by decide) fl_X7_ok kc_X7_ok ck_X7_isCar B_X7_isCar
/-- lanes and places: who stands where -/
def mL (n : Nat) (Q : Nat → List Nat) (lA pA : Nat → Int32) : Prop := n ≤ 9 ∧ (∀ z, z < 2 → (Q z).Nodup ∧ ∀ c ∈ Q z, c < n ∧ lA c = nI z ∧ pA c = nI ((Q z).idxOf c)) ∧ ∀ c, c < n → c ∉ Q 0 → c ∉ Q 1 → lA c = -9
theorem mL_z {n : Nat} {Q : Nat → List Nat} {lA pA : Nat → Int32} (h : mL n Q lA pA) {c z y : Nat} (hz : z < 2) (hy : y < 2) (hc : c ∈ Q z) (hc2 : c ∈ Q y) : z = y := by
  have h1 := ((h.2.1 z hz).2 c hc).2.1
  have h2 := ((h.2.1 y hy).2 c hc2).2.1
  rw [h1] at h2
  exact (nI_eq (by omega) (by omega)).mp h2
theorem mL_len {n : Nat} {Q : Nat → List Nat} {lA pA : Nat → Int32} (h : mL n Q lA pA) {z : Nat} (hz : z < 2) : (Q z).length ≤ n := fb_hs (h.2.1 z hz).1 (fun c hc => ((h.2.1 z hz).2 c hc).1)
theorem mL_in {n : Nat} {Q : Nat → List Nat} {lA pA : Nat → Int32} (h : mL n Q lA pA) {z c : Nat} (hz : z < 2) (hc : c < n) : lA c = nI z ↔ c ∈ Q z := by
  constructor
  · intro hl
    by_cases h0 : c ∈ Q 0
    · have := ((h.2.1 0 (by decide)).2 c h0).2.1
      rw [hl] at this
      rw [(nI_eq (by omega) (by decide)).mp this]
      exact h0
    · by_cases h1 : c ∈ Q 1
      · have := ((h.2.1 1 (by decide)).2 c h1).2.1
        rw [hl] at this
        rw [(nI_eq (by omega) (by decide)).mp this]
        exact h1
      · have := h.2.2 c hc h0 h1
        rw [hl] at this
        exfalso
        rcases (by omega : z = 0 ∨ z = 1) with rfl | rfl <;> revert this <;> decide
  · exact fun hq => ((h.2.1 z hz).2 c hq).2.1
theorem nd_len : ∀ (l1 l2 : List Nat), l1.Nodup → (∀ c ∈ l1, c ∈ l2) → l1.length ≤ l2.length
  | [], _, _, _ => Nat.zero_le _
  | a :: r, l2, h, hs => by
    have ha := hs a List.mem_cons_self
    obtain ⟨h1, h2⟩ := List.nodup_cons.mp h
    have ih := nd_len r (l2.erase a) h2 (fun c hc => (List.mem_erase_of_ne (fun e => h1 (by rw [← e]; exact hc))).mpr (hs c (List.mem_cons_of_mem _ hc)))
    rw [List.length_erase_of_mem ha] at ih
    have := List.length_pos_of_mem ha
    simp only [List.length_cons]
    omega
theorem mL_cnt {n : Nat} {Q : Nat → List Nat} {lA pA : Nat → Int32} (h : mL n Q lA pA) {z : Nat} (hz : z < 2) : ((List.range n).filter (fun c => decide (lA c = nI z))).length = (Q z).length := by
  apply Nat.le_antisymm
  · refine nd_len _ _ (List.Sublist.nodup List.filter_sublist List.nodup_range) (fun c hc => ?_)
    obtain ⟨h1, h2⟩ := List.mem_filter.mp hc
    exact (mL_in h hz (List.mem_range.mp h1)).mp (of_decide_eq_true h2)
  · refine nd_len _ _ (h.2.1 z hz).1 (fun c hc => ?_)
    obtain ⟨h1, h2, -⟩ := (h.2.1 z hz).2 c hc
    exact List.mem_filter.mpr ⟨List.mem_range.mpr h1, decide_eq_true h2⟩
def cs_X7_inLane : Nat → List am_V → am_D → am_K → Prop := am_cs []
theorem ck_X7_inLane : ∀ X : am_X, am_cx X RX7 cX7_inLane 4 0 0 → ∀ pc, am_csok X 4 sh_ML pc (cs_X7_inLane pc) := fun X hX => am_cs_ok (fun _ h => absurd h List.not_mem_nil)
abbrev ok_X7_inLane (X : am_X) (K : List Int32 → am_D → Prop) : Prop := am_ok X RX7 cX7_inLane 4 sh_ML fl_X7 kc_X7 none 1 cs_X7_inLane K
abbrev aw_X7_inLane (X : am_X) (pc : Nat) (ls : am_L) (st : List am_V) (D : am_D) : Prop := am_aw X 4 sh_ML pc ls st D
abbrev T_X7_inLane : am_TT := am_pure (fun is D r => ∃ z n xs Q lA pA, D = [.inl (nI n :: xs), .inr lA, .inr pA] ∧ mL n Q lA pA ∧ z < 2 ∧ is = [nI z] ∧ r = nI (Q z).length)
set_option maxHeartbeats 200000 in
theorem B_X7_inLane : ∀ (X : am_X) (is : List Int32) (D : am_D) (K : List Int32 → am_D → Prop), ok_X7_inLane X K → T_X7_inLane is D K → is.length = (List.filter Option.isNone ([some 0, none] : List (Option Nat))).length → D.length = sh_ML.length → am_aw X 4 sh_ML 0 (am_l0 4 [some 0, none] is) [] D := by
  intro X is D K O hT _ _
  obtain ⟨r, ⟨z, n, xs, Q, lA, pA, rfl, hL, hz, rfl, rfl⟩, hK⟩ := hT
  rw [← mL_cnt hL hz] at hK
  have hn := hL.1
  have loop : ∀ d m, n - m = d → m ≤ n → am_aw X 4 sh_ML 4 [some (.inr 0), some (.inl (nI z)), some (.inl (nI ((List.range m).filter (fun c => decide (lA c = nI z))).length)), some (.inl (nI m))] [] [.inl (nI n :: xs), .inr lA, .inr pA] := by
    intro d
    induction d with
    | zero =>
      intro m hd hm
      have e : m = n := by omega
      subst e
      refine st_iloadn O dX7_inLane_4 rfl (q := 5) rfl ?_
      refine st_aloadn O dX7_inLane_5 rfl (q := 6) rfl ?_
      refine st_geti O dX7_inLane_6 fl_X7_59 rfl rfl rfl rfl (q := 9) rfl ?_
      refine sn_icmp_ge O dX7_inLane_9 (t := 31) rfl (q := 12) rfl (by omega) (by omega) (fun c9 => ?_) (fun c9 => ?_)
      · refine st_iloadn O dX7_inLane_31 rfl (q := 32) rfl ?_
        refine st_ireturn O dX7_inLane_32 ?_
        exact hK
      omega
    | succ d ih =>
      intro m hd hm
      have ih := ih (m + 1) (by omega) (by omega)
      rw [rg_cnt] at ih
      refine st_iloadn O dX7_inLane_4 rfl (q := 5) rfl ?_
      refine st_aloadn O dX7_inLane_5 rfl (q := 6) rfl ?_
      refine st_geti O dX7_inLane_6 fl_X7_59 rfl rfl rfl rfl (q := 9) rfl ?_
      refine sn_icmp_ge O dX7_inLane_9 (t := 31) rfl (q := 12) rfl (by omega) (by omega) (fun c9 => ?_) (fun c9 => ?_)
      · omega
      refine st_aloadn O dX7_inLane_12 rfl (q := 13) rfl ?_
      refine st_getr O dX7_inLane_13 fl_X7_19 rfl rfl rfl (q := 16) rfl ?_
      refine st_iloadn O dX7_inLane_16 rfl (q := 17) rfl ?_
      refine sn_ald O dX7_inLane_17 rfl rfl rfl ⟨by omega, by decide⟩ rfl (q := 18) rfl ?_
      refine st_iloadn O dX7_inLane_18 rfl (q := 19) rfl ?_
      refine st_icmp_ne O dX7_inLane_19 (t := 25) rfl (q := 22) rfl (fun c19 => ?_) (fun c19 => ?_)
      · refine st_iinc O dX7_inLane_25 rfl (by first | exact am_ii1 _ | exact rfl) rfl (q := 28) rfl ?_
        refine st_goto O dX7_inLane_28 (t := 4) rfl ?_
        first | (rw [if_neg (by simpa using c19)] at ih; exact ih) | (rw [if_pos (by simpa using c19)] at ih; exact ih)
      refine st_iinc O dX7_inLane_22 rfl (by first | exact am_ii1 _ | exact rfl) rfl (q := 25) rfl ?_
      refine st_iinc O dX7_inLane_25 rfl (by first | exact am_ii1 _ | exact rfl) rfl (q := 28) rfl ?_
      refine st_goto O dX7_inLane_28 (t := 4) rfl ?_
      first | (rw [if_neg (by simpa using c19)] at ih; exact ih) | (rw [if_pos (by simpa using c19)] at ih; exact ih)
  refine am_begin rfl ?_
  refine st_iconst O dX7_inLane_0 am_iconst_0 (q := 1) rfl ?_
  refine st_istoren O dX7_inLane_1 rfl (q := 2) rfl ?_
  refine st_iconst O dX7_inLane_2 am_iconst_0 (q := 3) rfl ?_
  refine st_istoren O dX7_inLane_3 rfl (q := 4) rfl ?_
  exact loop n 0 (by omega) (by omega)
theorem C_X7_inLane : am_ctr yX7_inLane cX7_inLane 4 (some .int) 0 0 sh_ML [some 0, none] T_X7_inLane := am_mk (by decide) (Or.inr (Or.inl ⟨rfl, rfl⟩)) (by decide) (by decide) (by decide) fl_X7_ok kc_X7_ok ck_X7_inLane B_X7_inLane
def cs_X7_closes : Nat → List am_V → am_D → am_K → Prop := am_cs []
theorem ck_X7_closes : ∀ X : am_X, am_cx X RX7 cX7_closes 4 0 0 → ∀ pc, am_csok X 4 sh_ML pc (cs_X7_closes pc) := fun X hX => am_cs_ok (fun _ h => absurd h List.not_mem_nil)
abbrev ok_X7_closes (X : am_X) (K : List Int32 → am_D → Prop) : Prop := am_ok X RX7 cX7_closes 4 sh_ML fl_X7 kc_X7 none 0 cs_X7_closes K
abbrev aw_X7_closes (X : am_X) (pc : Nat) (ls : am_L) (st : List am_V) (D : am_D) : Prop := am_aw X 4 sh_ML pc ls st D
abbrev T_X7_closes : am_TT := fun is D K => ∃ n xs lA pA l fr, n ≤ 9 ∧ D = [.inl (nI n :: xs), .inr lA, .inr pA] ∧ is = [l, fr] ∧ ∀ pA', (∀ c, c < n → pA' c = if lA c = l ∧ fr < pA c then pA c - 1 else pA c) → K [] [.inl (nI n :: xs), .inr lA, .inr pA']
set_option maxHeartbeats 200000 in
theorem B_X7_closes : ∀ (X : am_X) (is : List Int32) (D : am_D) (K : List Int32 → am_D → Prop), ok_X7_closes X K → T_X7_closes is D K → is.length = (List.filter Option.isNone ([some 0, none, none] : List (Option Nat))).length → D.length = sh_ML.length → am_aw X 4 sh_ML 0 (am_l0 4 [some 0, none, none] is) [] D := by
  intro X is D K O hT _ _
  obtain ⟨n, xs, lA, pA, l, fr, hn, rfl, rfl, hK⟩ := hT
  have loop : ∀ d m qA, n - m = d → m ≤ n → (∀ c, c < n → qA c = if c < m ∧ lA c = l ∧ fr < pA c then pA c - 1 else pA c) → am_aw X 4 sh_ML 2 [some (.inr 0), some (.inl l), some (.inl fr), some (.inl (nI m))] [] [.inl (nI n :: xs), .inr lA, .inr qA] := by
    intro d
    induction d with
    | zero =>
      intro m qA hd hm hq
      have e : m = n := by omega
      subst e
      refine st_iloadn O dX7_closes_2 rfl (q := 3) rfl ?_
      refine st_aloadn O dX7_closes_3 rfl (q := 4) rfl ?_
      refine st_geti O dX7_closes_4 fl_X7_59 rfl rfl rfl rfl (q := 7) rfl ?_
      refine sn_icmp_ge O dX7_closes_7 (t := 46) rfl (q := 10) rfl (by omega) (by omega) (fun c7 => ?_) (fun c7 => ?_)
      · refine st_vreturn O dX7_closes_46 ?_
        exact hK qA (fun c hc => by rw [hq c hc]; by_cases h : lA c = l ∧ fr < pA c; rw [if_pos ⟨hc, h⟩, if_pos h]; rw [if_neg h, if_neg (fun z => h z.2)])
      omega
    | succ d ih =>
      intro m qA hd hm hq
      have hm1 : qA m = pA m := by rw [hq m (by omega), if_neg (fun z => Nat.lt_irrefl _ z.1)]
      have skip : ¬ (lA m = l ∧ fr < pA m) → ∀ c, c < n → qA c = if c < m + 1 ∧ lA c = l ∧ fr < pA c then pA c - 1 else pA c := by
        intro h c hc
        rw [hq c hc]
        by_cases e : c = m
        · subst e; rw [if_neg (fun z => h z.2), if_neg (fun z => h z.2)]
        · by_cases h2 : c < m ∧ lA c = l ∧ fr < pA c
          · rw [if_pos h2, if_pos ⟨by omega, h2.2⟩]
          · rw [if_neg h2, if_neg (fun z => h2 ⟨by omega, z.2⟩)]
      refine st_iloadn O dX7_closes_2 rfl (q := 3) rfl ?_
      refine st_aloadn O dX7_closes_3 rfl (q := 4) rfl ?_
      refine st_geti O dX7_closes_4 fl_X7_59 rfl rfl rfl rfl (q := 7) rfl ?_
      refine sn_icmp_ge O dX7_closes_7 (t := 46) rfl (q := 10) rfl (by omega) (by omega) (fun c7 => ?_) (fun c7 => ?_)
      · omega
      refine st_aloadn O dX7_closes_10 rfl (q := 11) rfl ?_
      refine st_getr O dX7_closes_11 fl_X7_19 rfl rfl rfl (q := 14) rfl ?_
      refine st_iloadn O dX7_closes_14 rfl (q := 15) rfl ?_
      refine sn_ald O dX7_closes_15 rfl rfl rfl ⟨by omega, by decide⟩ rfl (q := 16) rfl ?_
      refine st_iloadn O dX7_closes_16 rfl (q := 17) rfl ?_
      refine st_icmp_ne O dX7_closes_17 (t := 40) rfl (q := 20) rfl (fun c17 => ?_) (fun c17 => ?_)
      · refine st_iinc O dX7_closes_40 rfl (by first | exact am_ii1 _ | exact rfl) rfl (q := 43) rfl ?_
        refine st_goto O dX7_closes_43 (t := 2) rfl ?_
        first | exact ih (m + 1) _ (by omega) (by omega) (skip (fun z => c17 z.1)) | exact ih (m + 1) _ (by omega) (by omega) (skip (fun z => absurd z.2 (Int32.not_lt.mpr c27))) | (refine ih (m + 1) _ (by omega) (by omega) (fun c hc => ?_); by_cases e : c = m; (subst e; rw [pk_us, if_pos ⟨Nat.lt_succ_self _, by first | exact c17 | exact Decidable.of_not_not c17, Int32.not_le.mp c27⟩, hm1]; rfl); (rw [pk_un e, hq c hc]; by_cases h2 : c < m ∧ lA c = l ∧ fr < pA c; rw [if_pos h2, if_pos ⟨by omega, h2.2⟩]; rw [if_neg h2, if_neg (fun z => h2 ⟨by omega, z.2⟩)]))
      refine st_aloadn O dX7_closes_20 rfl (q := 21) rfl ?_
      refine st_getr O dX7_closes_21 fl_X7_22 rfl rfl rfl (q := 24) rfl ?_
      refine st_iloadn O dX7_closes_24 rfl (q := 25) rfl ?_
      refine sn_ald O dX7_closes_25 rfl rfl rfl ⟨by omega, by decide⟩ hm1 (q := 26) rfl ?_
      refine st_iloadn O dX7_closes_26 rfl (q := 27) rfl ?_
      refine st_icmp_le O dX7_closes_27 (t := 40) rfl (q := 30) rfl (fun c27 => ?_) (fun c27 => ?_)
      · refine st_iinc O dX7_closes_40 rfl (by first | exact am_ii1 _ | exact rfl) rfl (q := 43) rfl ?_
        refine st_goto O dX7_closes_43 (t := 2) rfl ?_
        first | exact ih (m + 1) _ (by omega) (by omega) (skip (fun z => c17 z.1)) | exact ih (m + 1) _ (by omega) (by omega) (skip (fun z => absurd z.2 (Int32.not_lt.mpr c27))) | (refine ih (m + 1) _ (by omega) (by omega) (fun c hc => ?_); by_cases e : c = m; (subst e; rw [pk_us, if_pos ⟨Nat.lt_succ_self _, by first | exact c17 | exact Decidable.of_not_not c17, Int32.not_le.mp c27⟩, hm1]; rfl); (rw [pk_un e, hq c hc]; by_cases h2 : c < m ∧ lA c = l ∧ fr < pA c; rw [if_pos h2, if_pos ⟨by omega, h2.2⟩]; rw [if_neg h2, if_neg (fun z => h2 ⟨by omega, z.2⟩)]))
      refine st_aloadn O dX7_closes_30 rfl (q := 31) rfl ?_
      refine st_getr O dX7_closes_31 fl_X7_22 rfl rfl rfl (q := 34) rfl ?_
      refine st_iloadn O dX7_closes_34 rfl (q := 35) rfl ?_
      refine st_dup2 O dX7_closes_35 (q := 36) rfl ?_
      refine sn_ald O dX7_closes_36 rfl rfl rfl ⟨by omega, by decide⟩ rfl (q := 37) rfl ?_
      refine st_iconst O dX7_closes_37 am_iconst_1 (q := 38) rfl ?_
      refine st_isub O dX7_closes_38 rfl (q := 39) rfl ?_
      refine sn_ast O dX7_closes_39 rfl rfl rfl ⟨by omega, by decide⟩ rfl rfl (q := 40) rfl ?_
      refine st_iinc O dX7_closes_40 rfl (by first | exact am_ii1 _ | exact rfl) rfl (q := 43) rfl ?_
      refine st_goto O dX7_closes_43 (t := 2) rfl ?_
      first | exact ih (m + 1) _ (by omega) (by omega) (skip (fun z => c17 z.1)) | exact ih (m + 1) _ (by omega) (by omega) (skip (fun z => absurd z.2 (Int32.not_lt.mpr c27))) | (refine ih (m + 1) _ (by omega) (by omega) (fun c hc => ?_); by_cases e : c = m; (subst e; rw [pk_us, if_pos ⟨Nat.lt_succ_self _, by first | exact c17 | exact Decidable.of_not_not c17, Int32.not_le.mp c27⟩, hm1]; rfl); (rw [pk_un e, hq c hc]; by_cases h2 : c < m ∧ lA c = l ∧ fr < pA c; rw [if_pos h2, if_pos ⟨by omega, h2.2⟩]; rw [if_neg h2, if_neg (fun z => h2 ⟨by omega, z.2⟩)]))
  refine am_begin rfl ?_
  refine st_iconst O dX7_closes_0 am_iconst_0 (q := 1) rfl ?_
  refine st_istoren O dX7_closes_1 rfl (q := 2) rfl ?_
  exact loop n 0 pA (by omega) (by omega) (fun c _ => by rw [if_neg (fun z => Nat.not_lt_zero _ z.1)])
theorem C_X7_closes : am_ctr yX7_closes cX7_closes 4 none 0 0 sh_ML [some 0, none, none] T_X7_closes := am_mk (by decide) (Or.inl ⟨rfl, rfl⟩) (by decide) (by decide) (by decide) fl_X7_ok kc_X7_ok ck_X7_closes B_X7_closes
