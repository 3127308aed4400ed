/-! the reference: letting in, seconds, the run -/
def scw : Bool → Nat → Nat
  | true, k => max 1 (sc k - 1)
  | false, k => sc k
theorem mx_tab : ∀ b, b < 3 → (if nI 0 < nI b - nI 1 then nI b - nI 1 else nI 0) = nI (b - 1) := by decide +kernel
def cs_X7_letsOf : Nat → List am_V → am_D → am_K → Prop := am_cs [(54, am_site 2 [none, none] T_J9_max_7cf53 [] [])]
theorem cs_X7_letsOf_54 : cs_X7_letsOf 54 = am_site 2 [none, none] T_J9_max_7cf53 [] [] := rfl
theorem ck_X7_letsOf : ∀ X : am_X, am_cx X RX7 cX7_letsOf 2 1 21 → ∀ pc, am_csok X 2 sh_MB pc (cs_X7_letsOf pc) := fun X hX => am_cs_ok (List.forall_mem_cons.mpr ⟨am_callMax hX lk_X7_131 dX7_letsOf_54 (by decide), fun _ h => absurd h List.not_mem_nil⟩)
abbrev ok_X7_letsOf (X : am_X) (K : List Int32 → am_D → Prop) : Prop := am_ok X RX7 cX7_letsOf 2 sh_MB fl_X7 kc_X7 none 1 cs_X7_letsOf K
abbrev aw_X7_letsOf (X : am_X) (pc : Nat) (ls : am_L) (st : List am_V) (D : am_D) : Prop := am_aw X 2 sh_MB pc ls st D
abbrev T_X7_letsOf : am_TT := am_pure (fun is D r => ∃ c n b xs kA fA k f, D = [.inl (nI n :: nI b :: xs), .inr kA, .inr fA] ∧ c < 9 ∧ kA c = nI k ∧ k < 6 ∧ fA c = nI f ∧ b ≤ 2 ∧ is = [nI c] ∧ r = nI (lt k f b))
set_option maxHeartbeats 200000 in
theorem B_X7_letsOf : ∀ (X : am_X) (is : List Int32) (D : am_D) (K : List Int32 → am_D → Prop), ok_X7_letsOf X K → T_X7_letsOf is D K → is.length = (List.filter Option.isNone ([some 0, none] : List (Option Nat))).length → D.length = sh_MB.length → am_aw X 2 sh_MB 0 (am_l0 2 [some 0, none] is) [] D := by
  intro X is D K O hT _ _
  obtain ⟨r, ⟨c, n, b, xs, kA, fA, k, f, rfl, hc, h1, hk, h2, hb, rfl, rfl⟩, hK⟩ := hT
  have e1 := nI_lit (k := k) 1 (by omega) (by decide)
  have e2 := nI_lit (k := k) 2 (by omega) (by decide)
  have e3 := nI_lit (k := k) 3 (by omega) (by decide)
  have e4 := nI_lit (k := k) 4 (by omega) (by decide)
  have e5 := nI_lit (k := k) 5 (by omega) (by decide)
  refine am_begin rfl ?_
  refine st_aloadn O dX7_letsOf_0 rfl (q := 1) rfl ?_
  refine st_getr O dX7_letsOf_1 fl_X7_7 rfl rfl rfl (q := 4) rfl ?_
  refine st_iloadn O dX7_letsOf_4 rfl (q := 5) rfl ?_
  refine sn_ald O dX7_letsOf_5 rfl rfl rfl ⟨by omega, by decide⟩ h1 (q := 6) rfl ?_
  refine st_table O dX7_letsOf_6 (os := [34, 41, 52, 56, 54]) rfl rfl ?_
  refine sw_consT (v := 1) (by decide) (t := 40) rfl (lo' := 2) rfl (fun c6_1 => ?_) (fun c6_1 => ?_)
  · refine st_aloadn O dX7_letsOf_40 rfl (q := 41) rfl ?_
    refine st_getr O dX7_letsOf_41 fl_X7_13 rfl rfl rfl (q := 44) rfl ?_
    refine st_iloadn O dX7_letsOf_44 rfl (q := 45) rfl ?_
    refine sn_ald O dX7_letsOf_45 rfl rfl rfl ⟨by omega, by decide⟩ h2 (q := 46) rfl ?_
    refine st_ireturn O dX7_letsOf_46 ?_
    rw [show lt k f b = f from if_pos (e1.mp c6_1)] at hK; exact hK
  refine sw_consT (v := 2) (by decide) (t := 47) rfl (lo' := 3) rfl (fun c6_2 => ?_) (fun c6_2 => ?_)
  · refine st_iconst O dX7_letsOf_47 am_iconst_0 (q := 48) rfl ?_
    refine st_aloadn O dX7_letsOf_48 rfl (q := 49) rfl ?_
    refine st_geti O dX7_letsOf_49 fl_X7_103 rfl rfl rfl rfl (q := 52) rfl ?_
    refine st_iconst O dX7_letsOf_52 am_iconst_1 (q := 53) rfl ?_
    refine st_isub O dX7_letsOf_53 rfl (q := 54) rfl ?_
    refine st_callS O dX7_letsOf_54 cs_X7_letsOf_54 (q := 57) rfl (am_sipq rfl rfl rfl (Nat.le_of_ble_eq_true rfl) rfl (r := nI (b - 1)) ⟨_, _, rfl, (mx_tab b (by omega)).symm⟩ ?_)
    refine st_ireturn O dX7_letsOf_57 ?_
    have q := e2.mp c6_2
    rw [show lt k f b = b - 1 from (if_neg (by omega)).trans (if_pos q)] at hK
    exact hK
  refine sw_consT (v := 3) (by decide) (t := 58) rfl (lo' := 4) rfl (fun c6_3 => ?_) (fun c6_3 => ?_)
  · refine st_iconst O dX7_letsOf_58 am_iconst_0 (q := 59) rfl ?_
    refine st_ireturn O dX7_letsOf_59 ?_
    have q := e3.mp c6_3
    rw [show lt k f b = 0 from (if_neg (by omega)).trans ((if_neg (by omega)).trans (if_pos q))] at hK
    exact hK
  refine sw_consT (v := 4) (by decide) (t := 62) rfl (lo' := 5) rfl (fun c6_4 => ?_) (fun c6_4 => ?_)
  · refine st_aloadn O dX7_letsOf_62 rfl (q := 63) rfl ?_
    refine st_geti O dX7_letsOf_63 fl_X7_103 rfl rfl rfl rfl (q := 66) rfl ?_
    refine st_ireturn O dX7_letsOf_66 ?_
    have q : ¬ k = 1 ∧ ¬ k = 2 ∧ ¬ k = 3 ∧ ¬ k = 5 := by first | (have q := e4.mp c6_4; omega) | exact ⟨fun z => c6_1 (e1.mpr z), fun z => c6_2 (e2.mpr z), fun z => c6_3 (e3.mpr z), fun z => c6_5 (e5.mpr z)⟩
    rw [show lt k f b = b from (if_neg q.1).trans ((if_neg q.2.1).trans ((if_neg q.2.2.1).trans (if_neg q.2.2.2)))] at hK
    exact hK
  refine sw_consT (v := 5) (by decide) (t := 60) rfl (lo' := 6) rfl (fun c6_5 => ?_) (fun c6_5 => ?_)
  · refine st_iconst O dX7_letsOf_60 am_iconst_1 (q := 61) rfl ?_
    refine st_ireturn O dX7_letsOf_61 ?_
    have q := e5.mp c6_5
    rw [show lt k f b = 1 from (if_neg (by omega)).trans ((if_neg (by omega)).trans ((if_neg (by omega)).trans (if_pos q)))] at hK
    exact hK
  refine sw_nilT (t := 62) rfl ?_
  refine st_aloadn O dX7_letsOf_62 rfl (q := 63) rfl ?_
  refine st_geti O dX7_letsOf_63 fl_X7_103 rfl rfl rfl rfl (q := 66) rfl ?_
  refine st_ireturn O dX7_letsOf_66 ?_
  have q : ¬ k = 1 ∧ ¬ k = 2 ∧ ¬ k = 3 ∧ ¬ k = 5 := by first | (have q := e4.mp c6_4; omega) | exact ⟨fun z => c6_1 (e1.mpr z), fun z => c6_2 (e2.mpr z), fun z => c6_3 (e3.mpr z), fun z => c6_5 (e5.mpr z)⟩
  rw [show lt k f b = b from (if_neg q.1).trans ((if_neg q.2.1).trans ((if_neg q.2.2.1).trans (if_neg q.2.2.2)))] at hK
  exact hK
theorem C_X7_letsOf : am_ctr yX7_letsOf cX7_letsOf 2 (some .int) 1 21 sh_MB [some 0, none] T_X7_letsOf := am_mk (by decide) (Or.inr (Or.inl ⟨rfl, rfl⟩)) (by decide) (by decide) (by decide) fl_X7_ok kc_X7_ok ck_X7_letsOf B_X7_letsOf
def cs_X7_secondsOf : Nat → List am_V → am_D → am_K → Prop := am_cs [(55, am_site 2 [none, none] T_J9_max_7cf53 [] [])]
theorem cs_X7_secondsOf_55 : cs_X7_secondsOf 55 = am_site 2 [none, none] T_J9_max_7cf53 [] [] := rfl
theorem ck_X7_secondsOf : ∀ X : am_X, am_cx X RX7 cX7_secondsOf 3 1 21 → ∀ pc, am_csok X 3 sh_MS pc (cs_X7_secondsOf pc) := fun X hX => am_cs_ok (List.forall_mem_cons.mpr ⟨am_callMax hX lk_X7_131 dX7_secondsOf_55 (by decide), fun _ h => absurd h List.not_mem_nil⟩)
abbrev ok_X7_secondsOf (X : am_X) (K : List Int32 → am_D → Prop) : Prop := am_ok X RX7 cX7_secondsOf 3 sh_MS fl_X7 kc_X7 none 1 cs_X7_secondsOf K
abbrev aw_X7_secondsOf (X : am_X) (pc : Nat) (ls : am_L) (st : List am_V) (D : am_D) : Prop := am_aw X 3 sh_MS pc ls st D
abbrev T_X7_secondsOf : am_TT := am_pure (fun is D r => ∃ c x0 x1 x2 x3 x4 x5 x6 x7 x8 x9 x10 wd kA k, D = [.inl [x0, x1, x2, x3, x4, x5, x6, x7, x8, x9, x10, bI wd], .inr kA] ∧ c < 9 ∧ kA c = nI k ∧ k < 6 ∧ is = [nI c] ∧ r = nI (scw wd k))
set_option maxHeartbeats 200000 in
theorem B_X7_secondsOf : ∀ (X : am_X) (is : List Int32) (D : am_D) (K : List Int32 → am_D → Prop), ok_X7_secondsOf X K → T_X7_secondsOf is D K → is.length = (List.filter Option.isNone ([some 0, none] : List (Option Nat))).length → D.length = sh_MS.length → am_aw X 3 sh_MS 0 (am_l0 3 [some 0, none] is) [] D := by
  intro X is D K O hT _ _
  obtain ⟨r, ⟨c, x0, x1, x2, x3, x4, x5, x6, x7, x8, x9, x10, wd, kA, k, rfl, hc, h1, hk, rfl, rfl⟩, hK⟩ := hT
  have main : am_aw X 3 sh_MS 44 [some (.inr 0), some (.inl (nI c)), some (.inl (nI (sc k)))] [] [.inl [x0, x1, x2, x3, x4, x5, x6, x7, x8, x9, x10, bI wd], .inr kA] := by
    have h4 := sc_le k
    cases wd with
    | true =>
      refine st_aloadn O dX7_secondsOf_44 rfl (q := 45) rfl ?_
      refine st_geti O dX7_secondsOf_45 fl_X7_136 rfl rfl rfl rfl (q := 48) rfl ?_
      refine st_if_eq O dX7_secondsOf_48 (t := 61) rfl (q := 51) rfl (fun c48 => ?_) (fun c48 => ?_)
      · exact absurd c48 (by decide)
      refine st_iconst O dX7_secondsOf_51 am_iconst_1 (q := 52) rfl ?_
      refine st_iloadn O dX7_secondsOf_52 rfl (q := 53) rfl ?_
      refine st_iconst O dX7_secondsOf_53 am_iconst_1 (q := 54) rfl ?_
      refine st_isub O dX7_secondsOf_54 (by first | exact pk_sub (by omega) | exact rfl) (q := 55) rfl ?_
      refine st_callS O dX7_secondsOf_55 cs_X7_secondsOf_55 (q := 58) rfl (am_sipq rfl rfl rfl (Nat.le_of_ble_eq_true rfl) rfl (r := nI (max 1 (sc k - 1))) ⟨_, _, rfl, (nI_max (by decide) (by omega)).symm⟩ ?_)
      refine st_goto O dX7_secondsOf_58 (t := 62) rfl ?_
      refine st_ireturn O dX7_secondsOf_62 ?_
      exact hK
    | false =>
      refine st_aloadn O dX7_secondsOf_44 rfl (q := 45) rfl ?_
      refine st_geti O dX7_secondsOf_45 fl_X7_136 rfl rfl rfl rfl (q := 48) rfl ?_
      refine st_if_eq O dX7_secondsOf_48 (t := 61) rfl (q := 51) rfl (fun c48 => ?_) (fun c48 => ?_)
      · refine st_iloadn O dX7_secondsOf_61 rfl (q := 62) rfl ?_
        refine st_ireturn O dX7_secondsOf_62 ?_
        exact hK
      exact absurd c48 (by decide)
  refine am_begin rfl ?_
  refine st_aloadn O dX7_secondsOf_0 rfl (q := 1) rfl ?_
  refine st_getr O dX7_secondsOf_1 fl_X7_7 rfl rfl rfl (q := 4) rfl ?_
  refine st_iloadn O dX7_secondsOf_4 rfl (q := 5) rfl ?_
  refine sn_ald O dX7_secondsOf_5 rfl rfl rfl ⟨by omega, by decide⟩ h1 (q := 6) rfl ?_
  refine st_iconst O dX7_secondsOf_6 am_iconst_2 (q := 7) rfl ?_
  refine sn_icmp_ne O dX7_secondsOf_7 (t := 14) rfl (q := 10) rfl (by omega) (by omega) (fun c7 => ?_) (fun c7 => ?_)
  · refine st_aloadn O dX7_secondsOf_14 rfl (q := 15) rfl ?_
    refine st_getr O dX7_secondsOf_15 fl_X7_7 rfl rfl rfl (q := 18) rfl ?_
    refine st_iloadn O dX7_secondsOf_18 rfl (q := 19) rfl ?_
    refine sn_ald O dX7_secondsOf_19 rfl rfl rfl ⟨by omega, by decide⟩ h1 (q := 20) rfl ?_
    refine st_iconst O dX7_secondsOf_20 am_iconst_3 (q := 21) rfl ?_
    refine sn_icmp_ne O dX7_secondsOf_21 (t := 28) rfl (q := 24) rfl (by omega) (by omega) (fun c21 => ?_) (fun c21 => ?_)
    · refine st_aloadn O dX7_secondsOf_28 rfl (q := 29) rfl ?_
      refine st_getr O dX7_secondsOf_29 fl_X7_7 rfl rfl rfl (q := 32) rfl ?_
      refine st_iloadn O dX7_secondsOf_32 rfl (q := 33) rfl ?_
      refine sn_ald O dX7_secondsOf_33 rfl rfl rfl ⟨by omega, by decide⟩ h1 (q := 34) rfl ?_
      refine st_iconst O dX7_secondsOf_34 am_iconst_4 (q := 35) rfl ?_
      refine sn_icmp_ne O dX7_secondsOf_35 (t := 42) rfl (q := 38) rfl (by omega) (by omega) (fun c35 => ?_) (fun c35 => ?_)
      · refine st_iconst O dX7_secondsOf_42 am_iconst_2 (q := 43) rfl ?_
        refine st_istoren O dX7_secondsOf_43 rfl (q := 44) rfl ?_
        first | (rw [show sc k = 1 from if_pos (by omega)] at main; exact main) | (rw [show sc k = 3 from (if_neg (by omega)).trans (if_pos (by omega))] at main; exact main) | (rw [show sc k = 4 from (if_neg (by omega)).trans ((if_neg (by omega)).trans (if_pos (by omega)))] at main; exact main) | (rw [show sc k = 2 from (if_neg (by omega)).trans ((if_neg (by omega)).trans (if_neg (by omega)))] at main; exact main)
      refine st_iconst O dX7_secondsOf_38 am_iconst_4 (q := 39) rfl ?_
      refine st_goto O dX7_secondsOf_39 (t := 43) rfl ?_
      refine st_istoren O dX7_secondsOf_43 rfl (q := 44) rfl ?_
      first | (rw [show sc k = 1 from if_pos (by omega)] at main; exact main) | (rw [show sc k = 3 from (if_neg (by omega)).trans (if_pos (by omega))] at main; exact main) | (rw [show sc k = 4 from (if_neg (by omega)).trans ((if_neg (by omega)).trans (if_pos (by omega)))] at main; exact main) | (rw [show sc k = 2 from (if_neg (by omega)).trans ((if_neg (by omega)).trans (if_neg (by omega)))] at main; exact main)
    refine st_iconst O dX7_secondsOf_24 am_iconst_3 (q := 25) rfl ?_
    refine st_goto O dX7_secondsOf_25 (t := 43) rfl ?_
    refine st_istoren O dX7_secondsOf_43 rfl (q := 44) rfl ?_
    first | (rw [show sc k = 1 from if_pos (by omega)] at main; exact main) | (rw [show sc k = 3 from (if_neg (by omega)).trans (if_pos (by omega))] at main; exact main) | (rw [show sc k = 4 from (if_neg (by omega)).trans ((if_neg (by omega)).trans (if_pos (by omega)))] at main; exact main) | (rw [show sc k = 2 from (if_neg (by omega)).trans ((if_neg (by omega)).trans (if_neg (by omega)))] at main; exact main)
  refine st_iconst O dX7_secondsOf_10 am_iconst_1 (q := 11) rfl ?_
  refine st_goto O dX7_secondsOf_11 (t := 43) rfl ?_
  refine st_istoren O dX7_secondsOf_43 rfl (q := 44) rfl ?_
  first | (rw [show sc k = 1 from if_pos (by omega)] at main; exact main) | (rw [show sc k = 3 from (if_neg (by omega)).trans (if_pos (by omega))] at main; exact main) | (rw [show sc k = 4 from (if_neg (by omega)).trans ((if_neg (by omega)).trans (if_pos (by omega)))] at main; exact main) | (rw [show sc k = 2 from (if_neg (by omega)).trans ((if_neg (by omega)).trans (if_neg (by omega)))] at main; exact main)
theorem C_X7_secondsOf : am_ctr yX7_secondsOf cX7_secondsOf 3 (some .int) 1 21 sh_MS [some 0, none] T_X7_secondsOf := am_mk (by decide) (Or.inr (Or.inl ⟨rfl, rfl⟩)) (by decide) (by decide) (by decide) fl_X7_ok kc_X7_ok ck_X7_secondsOf B_X7_secondsOf
def zLa (z : Nat) : Int32 := if z = 2 then -9 else nI z
/-- the turns of two queues, the seconds as if a place were wider -/
def smw (wd : Bool) (b w : Nat) (kd fg : Nat → Nat) (Q : Nat → List Nat) : List (Nat × Nat × Nat) := sg (fun c => lt (kd c) (fg c) b) (fun c => scw wd (kd c)) (fun c => decide (kd c = 2)) w ((Q 0).length + (Q 1).length) (Q 0) (Q 1) 0 2 false 0
theorem smw_sim (b w : Nat) (kd fg : Nat → Nat) (Q : Nat → List Nat) : smw false b w kd fg Q = sim b w kd fg (Q 0) (Q 1) := rfl
theorem nn9 : ∀ c, c < 9 → ¬ nI c = -9 := by decide +kernel
def mK2 (n : Nat) (kd fg : Nat → Nat) (kA fA : Nat → Int32) : Prop := ∀ c, c < n → (kA c = nI (kd c) ∧ kd c < 6) ∧ (fA c = nI (fg c) ∧ fg c < 10)
theorem mL_nd {n : Nat} {Q : Nat → List Nat} {lA pA : Nat → Int32} (h : mL n Q lA pA) : (Q 0 ++ Q 1).Nodup := by
  rw [List.nodup_append]
  exact ⟨(h.2.1 0 (by decide)).1, (h.2.1 1 (by decide)).1, fun a ha b hb e => absurd (mL_z h (by decide) (by decide) ha (e ▸ hb)) (by decide)⟩
theorem mL_sum {n : Nat} {Q : Nat → List Nat} {lA pA : Nat → Int32} (h : mL n Q lA pA) : (Q 0).length + (Q 1).length ≤ n := by
  have h1 := fb_hs (mL_nd h) (fun c hc => by
    rcases List.mem_append.mp hc with q | q
    · exact ((h.2.1 0 (by decide)).2 c q).1
    · exact ((h.2.1 1 (by decide)).2 c q).1)
  rwa [List.length_append] at h1
theorem ge_some {l : List Nat} {i : Nat} (h : i < l.length) : l[i]? = some (l.getD i 0) := by
  rw [List.getD_eq_getElem?_getD, List.getElem?_eq_getElem h]
  rfl
theorem ge_none {l : List Nat} {i : Nat} (h : l.length ≤ i) : l[i]? = none := List.getElem?_eq_none_iff.mpr h
theorem stt_p (P : List (Nat × Nat × Nat)) (q : Nat × Nat × Nat) : stt (P ++ [q]) = sp (stt P) q := by
  unfold stt
  rw [List.foldl_append]
  rfl
def cs_X7_run : Nat → List am_V → am_D → am_K → Prop := am_cs [(39, am_site 3 [some 0, none, none] T_X7_standsAt [0, 3, 4] [0, 3, 4, 1, 2, 8, 9, 10, 11, 12, 13, 14, 15, 5, 6, 7]), (47, am_site 3 [some 0, none, none] T_X7_standsAt [0, 3, 4] [0, 3, 4, 1, 2, 8, 9, 10, 11, 12, 13, 14, 15, 5, 6, 7]), (101, am_site 2 [some 0, none] T_X7_letsOf [0, 1, 2] [0, 1, 2, 8, 3, 4, 9, 10, 11, 12, 13, 14, 15, 5, 6, 7]), (183, am_site 2 [some 0, none] T_X7_secondsOf [0, 1] [0, 1, 2, 8, 3, 4, 9, 10, 11, 12, 13, 14, 15, 5, 6, 7]), (261, am_site 2 [none, none] T_J9_max_7cf53 [] []), (334, am_site 3 [some 0, none, none] T_X7_standsAt [0, 3, 4] [0, 3, 4, 1, 2, 8, 9, 10, 11, 12, 13, 14, 15, 5, 6, 7]), (342, am_site 3 [some 0, none, none] T_X7_standsAt [0, 3, 4] [0, 3, 4, 1, 2, 8, 9, 10, 11, 12, 13, 14, 15, 5, 6, 7])]
theorem cs_X7_run_39 : cs_X7_run 39 = am_site 3 [some 0, none, none] T_X7_standsAt [0, 3, 4] [0, 3, 4, 1, 2, 8, 9, 10, 11, 12, 13, 14, 15, 5, 6, 7] := rfl
theorem cs_X7_run_47 : cs_X7_run 47 = am_site 3 [some 0, none, none] T_X7_standsAt [0, 3, 4] [0, 3, 4, 1, 2, 8, 9, 10, 11, 12, 13, 14, 15, 5, 6, 7] := rfl
theorem cs_X7_run_101 : cs_X7_run 101 = am_site 2 [some 0, none] T_X7_letsOf [0, 1, 2] [0, 1, 2, 8, 3, 4, 9, 10, 11, 12, 13, 14, 15, 5, 6, 7] := rfl
theorem cs_X7_run_183 : cs_X7_run 183 = am_site 2 [some 0, none] T_X7_secondsOf [0, 1] [0, 1, 2, 8, 3, 4, 9, 10, 11, 12, 13, 14, 15, 5, 6, 7] := rfl
theorem cs_X7_run_261 : cs_X7_run 261 = am_site 2 [none, none] T_J9_max_7cf53 [] [] := rfl
theorem cs_X7_run_334 : cs_X7_run 334 = am_site 3 [some 0, none, none] T_X7_standsAt [0, 3, 4] [0, 3, 4, 1, 2, 8, 9, 10, 11, 12, 13, 14, 15, 5, 6, 7] := rfl
theorem cs_X7_run_342 : cs_X7_run 342 = am_site 3 [some 0, none, none] T_X7_standsAt [0, 3, 4] [0, 3, 4, 1, 2, 8, 9, 10, 11, 12, 13, 14, 15, 5, 6, 7] := rfl
theorem ck_X7_run : ∀ X : am_X, am_cx X RX7 cX7_run 13 2 43 → ∀ pc, am_csok X 13 sh_MR pc (cs_X7_run pc) := fun X hX => am_cs_ok (List.forall_mem_cons.mpr ⟨am_callV hX C_X7_standsAt mo_X7_standsAt rfl lk_X7_158 dX7_run_39 rfl rfl rfl (by decide), List.forall_mem_cons.mpr ⟨am_callV hX C_X7_standsAt mo_X7_standsAt rfl lk_X7_158 dX7_run_47 rfl rfl rfl (by decide), List.forall_mem_cons.mpr ⟨am_callV hX C_X7_letsOf mo_X7_letsOf rfl lk_X7_140 dX7_run_101 rfl rfl rfl (by decide), List.forall_mem_cons.mpr ⟨am_callV hX C_X7_secondsOf mo_X7_secondsOf rfl lk_X7_143 dX7_run_183 rfl rfl rfl (by decide), List.forall_mem_cons.mpr ⟨am_callMax hX lk_X7_131 dX7_run_261 (by decide), List.forall_mem_cons.mpr ⟨am_callV hX C_X7_standsAt mo_X7_standsAt rfl lk_X7_158 dX7_run_334 rfl rfl rfl (by decide), List.forall_mem_cons.mpr ⟨am_callV hX C_X7_standsAt mo_X7_standsAt rfl lk_X7_158 dX7_run_342 rfl rfl rfl (by decide), fun _ h => absurd h List.not_mem_nil⟩⟩⟩⟩⟩⟩⟩)
abbrev ok_X7_run (X : am_X) (K : List Int32 → am_D → Prop) : Prop := am_ok X RX7 cX7_run 13 sh_MR fl_X7 kc_X7 none 0 cs_X7_run K
abbrev aw_X7_run (X : am_X) (pc : Nat) (ls : am_L) (st : List am_V) (D : am_D) : Prop := am_aw X 13 sh_MR pc ls st D
abbrev T_X7_run : am_TT := fun is D K => ∃ n b w x3 x4 x5 x6 x7 x8 x9 x10 wd kd fg Q kA fA lA pA gA wA uA, is = [] ∧ D = [.inl [nI n, nI b, nI w, x3, x4, x5, x6, x7, x8, x9, x10, bI wd], .inr kA, .inr fA, .inr lA, .inr pA, .inr gA, .inr wA, .inr uA] ∧ b ≤ 2 ∧ mK2 n kd fg kA fA ∧ mL n Q lA pA ∧ ∀ gA' wA' uA', pO (smw wd b w kd fg Q) gA' wA' uA' → K [] [.inl [nI n, nI b, nI w, x3, x4, x5, x6, nI (smw wd b w kd fg Q).length, nI (tot (smw wd b w kd fg Q)), nI (stt (smw wd b w kd fg Q)).2.1, nI (stt (smw wd b w kd fg Q)).2.2.2, bI wd], .inr kA, .inr fA, .inr lA, .inr pA, .inr gA', .inr wA', .inr uA']
theorem lm1 {z : Nat} (hz : z ≤ 2) (h : zLa z = nI 1) : z = 1 := by
  rcases (by omega : z = 0 ∨ z = 1 ∨ z = 2) with rfl | rfl | rfl
  · exact absurd h (by decide)
  · rfl
  · exact absurd h (by decide)
theorem bI0 {b : Bool} (h : bI b = 0) : b = false := by
  cases b
  · rfl
  · exact absurd h (by decide)
set_option maxHeartbeats 200000 in
theorem B_X7_run : ∀ (X : am_X) (is : List Int32) (D : am_D) (K : List Int32 → am_D → Prop), ok_X7_run X K → T_X7_run is D K → is.length = (List.filter Option.isNone ([some 0] : List (Option Nat))).length → D.length = sh_MR.length → am_aw X 13 sh_MR 0 (am_l0 13 [some 0] is) [] D := by
  intro X is D K O hT _ _
  obtain ⟨n, b, w, x3, x4, x5, x6, x7, x8, x9, x10, wd, kd, fg, Q, kA, fA, lA, pA, gA, wA, uA, rfl, rfl, hb, hk, hL, hK⟩ := hT
  have hn := hL.1
  have hsum := mL_sum hL
  have hR : ∀ c ∈ Q 0, c < n := fun c hc => ((hL.2.1 0 (by decide)).2 c hc).1
  have hF : ∀ c ∈ Q 1, c < n := fun c hc => ((hL.2.1 1 (by decide)).2 c hc).1
  have hnd : ((smw wd b w kd fg Q).map (fun q => q.1)).Nodup := (sg_perm _ (Q 0) (Q 1) 0 2 false 0 rfl).nodup_iff.mpr (mL_nd hL)
  have loop : ∀ d (P : List (Nat × Nat × Nat)) (i j k z rn ch lo t : Nat) (pd : Bool) (y9 y10 y11 y12 : Option am_V) (gA wA uA : Nat → Int32), ((Q 0).length - i) + ((Q 1).length - j) = d → i ≤ (Q 0).length → j ≤ (Q 1).length → P.length = i + j → k ≤ j → z ≤ 2 → (z = 2 ↔ P.length = 0) → smw wd b w kd fg Q = P ++ sg (fun c => lt (kd c) (fg c) b) (fun c => scw wd (kd c)) (fun c => decide (kd c = 2)) w d ((Q 0).drop i) ((Q 1).drop j) k z pd t → pO P gA wA uA → t = tot P → stt P = (z, ch, rn, lo) → am_aw X 13 sh_MR 52 [some (.inr 0), some (.inl (nI i)), some (.inl (nI j)), some (.inl (nI k)), some (.inl (zLa z)), some (.inl (bI pd)), some (.inl (nI rn)), some (.inl (oI (Q 0)[i]?)), some (.inl (oI (Q 1)[j]?)), y9, y10, y11, y12] [] [.inl [nI n, nI b, nI w, x3, x4, x5, x6, nI P.length, nI t, nI ch, nI lo, bI wd], .inr kA, .inr fA, .inr lA, .inr pA, .inr gA, .inr wA, .inr uA] := by
    intro d
    induction d with
    | zero =>
      intro P i j k z rn ch lo t pd y9 y10 y11 y12 gA wA uA g1 g2 g3 g4 g5 g6 g7 g8 g9 g10 g11
      rw [sg, List.append_nil] at g8
      rw [ge_none (by omega), ge_none (by omega)]
      have hK := hK gA wA uA (by rw [g8]; exact g9)
      rw [g8, ← g10, g11] at hK
      refine st_iload O dX7_run_52 rfl (q := 54) rfl ?_
      refine st_bipush O dX7_run_54 am_bipush_m9 (q := 56) rfl ?_
      refine st_icmp_ne O dX7_run_56 (t := 66) rfl (q := 59) rfl (fun c56 => ?_) (fun c56 => ?_)
      · exact absurd c56 (by decide)
      refine st_iload O dX7_run_59 rfl (q := 61) rfl ?_
      refine st_bipush O dX7_run_61 am_bipush_m9 (q := 63) rfl ?_
      refine st_icmp_eq O dX7_run_63 (t := 350) rfl (q := 66) rfl (fun c63 => ?_) (fun c63 => ?_)
      · refine st_vreturn O dX7_run_350 ?_
        exact hK
      exact absurd c63 (by decide)
    | succ d ih =>
      intro P i j k z rn ch lo t pd y9 y10 y11 y12 gA wA uA g1 g2 g3 g4 g5 g6 g7 g8 g9 g10 g11
      have sb := stt_b P
      rw [g11] at sb
      have sb1 : rn ≤ P.length := sb.1
      have sb2 : lo ≤ P.length := sb.2.1
      have sb3 : ch ≤ P.length := sb.2.2
      have tailL : ∀ k' pd' y11 y12, (hlt : j < (Q 1).length) → dc (fun c => lt (kd c) (fg c) b) (fun c => decide (kd c = 2)) ((Q 0).drop i) ((Q 1).drop j) k z pd = (true, k', pd') → am_aw X 13 sh_MR 149 [some (.inr 0), some (.inl (nI i)), some (.inl (nI j)), some (.inl (nI k')), some (.inl (zLa z)), some (.inl (bI pd)), some (.inl (nI rn)), some (.inl (oI (Q 0)[i]?)), some (.inl (oI (Q 1)[j]?)), some (.inl (bI pd')), some (.inl (bI true)), y11, y12] [] [.inl [nI n, nI b, nI w, x3, x4, x5, x6, nI P.length, nI t, nI ch, nI lo, bI wd], .inr kA, .inr fA, .inr lA, .inr pA, .inr gA, .inr wA, .inr uA] := by
        intro k' pd' y11 y12 hlt hdc
        have hcn := hF _ (pl_gm hlt)
        have hkc := (hk _ hcn).1
        have hk2 := (dc_k hdc).1
        rw [dr_cons hlt] at hdc g8
        rw [sg_L hdc] at g8
        rw [ge_some hlt]
        generalize hce : (Q 1).getD j 0 = c at g8 hcn hkc hdc
        rcases (by omega : z = 0 ∨ z = 1 ∨ z = 2) with hz | hz | hz
        · subst hz
          refine st_iload O dX7_run_149 rfl (q := 151) rfl ?_
          refine st_if_eq O dX7_run_151 (t := 159) rfl (q := 154) rfl (fun c151 => ?_) (fun c151 => ?_)
          · exact absurd c151 (by decide)
          refine st_iload O dX7_run_154 rfl (q := 156) rfl ?_
          refine st_goto O dX7_run_156 (t := 161) rfl ?_
          refine st_istore O dX7_run_161 rfl (q := 163) rfl ?_
          refine st_iload O dX7_run_163 rfl (q := 165) rfl ?_
          refine st_if_eq O dX7_run_165 (t := 172) rfl (q := 168) rfl (fun c165 => ?_) (fun c165 => ?_)
          · exact absurd c165 (by decide)
          refine st_iconst O dX7_run_168 am_iconst_1 (q := 169) rfl ?_
          refine st_goto O dX7_run_169 (t := 173) rfl ?_
          refine st_istore O dX7_run_173 rfl (q := 175) rfl ?_
          refine st_aloadn O dX7_run_175 rfl (q := 176) rfl ?_
          refine st_dup O dX7_run_176 (q := 177) rfl ?_
          refine st_geti O dX7_run_177 fl_X7_149 rfl rfl rfl rfl (q := 180) rfl ?_
          refine st_aloadn O dX7_run_180 rfl (q := 181) rfl ?_
          refine st_iload O dX7_run_181 rfl (q := 183) rfl ?_
          refine st_call O dX7_run_183 cs_X7_run_183 (q := 186) rfl (am_sipq rfl rfl rfl (Nat.le_of_ble_eq_true rfl) rfl (r := nI (scw wd (kd c))) ⟨c, _, _, _, _, _, _, _, _, _, _, _, wd, kA, kd c, rfl, by omega, hkc.1, hkc.2, rfl, rfl⟩ ?_)
          refine st_iload O dX7_run_186 rfl (q := 188) rfl ?_
          refine st_bipush O dX7_run_188 am_bipush_m9 (q := 190) rfl ?_
          refine st_icmp_eq O dX7_run_190 (t := 207) rfl (q := 193) rfl (fun c190 => ?_) (fun c190 => ?_)
          · exact absurd c190 (by decide)
          refine st_iload O dX7_run_193 rfl (q := 195) rfl ?_
          refine st_iload O dX7_run_195 rfl (q := 197) rfl ?_
          refine st_icmp_eq O dX7_run_197 (t := 207) rfl (q := 200) rfl (fun c197 => ?_) (fun c197 => ?_)
          · exact absurd c197 (by decide)
          refine st_aloadn O dX7_run_200 rfl (q := 201) rfl ?_
          refine st_geti O dX7_run_201 fl_X7_55 rfl rfl rfl rfl (q := 204) rfl ?_
          refine st_goto O dX7_run_204 (t := 208) rfl ?_
          refine st_iadd O dX7_run_208 (show nI (scw wd (kd c)) + nI w = nI (scw wd (kd c) + w) from nI_add _ _) (q := 209) rfl ?_
          refine st_iadd O dX7_run_209 (show nI t + nI (scw wd (kd c) + w) = nI (t + scw wd (kd c) + w) by rw [nI_add, Nat.add_assoc]) (q := 210) rfl ?_
          refine st_puti O dX7_run_210 fl_X7_149 rfl rfl rfl rfl rfl (q := 213) rfl ?_
          refine st_iload O dX7_run_213 rfl (q := 215) rfl ?_
          refine st_bipush O dX7_run_215 am_bipush_m9 (q := 217) rfl ?_
          refine st_icmp_eq O dX7_run_217 (t := 237) rfl (q := 220) rfl (fun c217 => ?_) (fun c217 => ?_)
          · exact absurd c217 (by decide)
          refine st_iload O dX7_run_220 rfl (q := 222) rfl ?_
          refine st_iload O dX7_run_222 rfl (q := 224) rfl ?_
          refine st_icmp_eq O dX7_run_224 (t := 237) rfl (q := 227) rfl (fun c224 => ?_) (fun c224 => ?_)
          · exact absurd c224 (by decide)
          refine st_aloadn O dX7_run_227 rfl (q := 228) rfl ?_
          refine st_dup O dX7_run_228 (q := 229) rfl ?_
          refine st_geti O dX7_run_229 fl_X7_152 rfl rfl rfl rfl (q := 232) rfl ?_
          refine st_iconst O dX7_run_232 am_iconst_1 (q := 233) rfl ?_
          refine st_iadd O dX7_run_233 (by first | exact nI_add _ _ | exact rfl) (q := 234) rfl ?_
          refine st_puti O dX7_run_234 fl_X7_152 rfl rfl rfl rfl rfl (q := 237) rfl ?_
          refine st_iload O dX7_run_237 rfl (q := 239) rfl ?_
          refine st_iload O dX7_run_239 rfl (q := 241) rfl ?_
          refine st_icmp_ne O dX7_run_241 (t := 251) rfl (q := 244) rfl (fun c241 => ?_) (fun c241 => ?_)
          · refine st_iconst O dX7_run_251 am_iconst_1 (q := 252) rfl ?_
            refine st_istore O dX7_run_252 rfl (q := 254) rfl ?_
            refine st_aloadn O dX7_run_254 rfl (q := 255) rfl ?_
            refine st_aloadn O dX7_run_255 rfl (q := 256) rfl ?_
            refine st_geti O dX7_run_256 fl_X7_155 rfl rfl rfl rfl (q := 259) rfl ?_
            refine st_iload O dX7_run_259 rfl (q := 261) rfl ?_
            refine st_callS O dX7_run_261 cs_X7_run_261 (q := 264) rfl (am_sipq rfl rfl rfl (Nat.le_of_ble_eq_true rfl) rfl (r := nI (max lo 1)) ⟨_, _, rfl, (nI_max (by omega) (by omega)).symm⟩ ?_)
            refine st_puti O dX7_run_264 fl_X7_155 rfl rfl rfl rfl rfl (q := 267) rfl ?_
            refine st_aloadn O dX7_run_267 rfl (q := 268) rfl ?_
            refine st_getr O dX7_run_268 fl_X7_49 rfl rfl rfl (q := 271) rfl ?_
            refine st_iload O dX7_run_271 rfl (q := 273) rfl ?_
            refine st_aloadn O dX7_run_273 rfl (q := 274) rfl ?_
            refine st_geti O dX7_run_274 fl_X7_149 rfl rfl rfl rfl (q := 277) rfl ?_
            refine sn_ast O dX7_run_277 rfl rfl rfl ⟨by omega, by decide⟩ rfl rfl (q := 278) rfl ?_
            refine st_aloadn O dX7_run_278 rfl (q := 279) rfl ?_
            refine st_getr O dX7_run_279 fl_X7_52 rfl rfl rfl (q := 282) rfl ?_
            refine st_iload O dX7_run_282 rfl (q := 284) rfl ?_
            refine st_aloadn O dX7_run_284 rfl (q := 285) rfl ?_
            refine st_geti O dX7_run_285 fl_X7_146 rfl rfl rfl rfl (q := 288) rfl ?_
            refine sn_ast O dX7_run_288 rfl rfl rfl ⟨by omega, by decide⟩ rfl rfl (q := 289) rfl ?_
            refine st_aloadn O dX7_run_289 rfl (q := 290) rfl ?_
            refine st_getr O dX7_run_290 fl_X7_46 rfl rfl rfl (q := 293) rfl ?_
            refine st_aloadn O dX7_run_293 rfl (q := 294) rfl ?_
            refine st_dup O dX7_run_294 (q := 295) rfl ?_
            refine st_geti O dX7_run_295 fl_X7_146 rfl rfl rfl rfl (q := 298) rfl ?_
            refine st_dup_x1 O dX7_run_298 (q := 299) rfl ?_
            refine st_iconst O dX7_run_299 am_iconst_1 (q := 300) rfl ?_
            refine st_iadd O dX7_run_300 (by first | exact nI_add _ _ | exact rfl) (q := 301) rfl ?_
            refine st_puti O dX7_run_301 fl_X7_146 rfl rfl rfl rfl rfl (q := 304) rfl ?_
            refine st_iload O dX7_run_304 rfl (q := 306) rfl ?_
            refine sn_ast O dX7_run_306 rfl rfl rfl ⟨by omega, by decide⟩ rfl rfl (q := 307) rfl ?_
            refine st_iload O dX7_run_307 rfl (q := 309) rfl ?_
            refine st_istore O dX7_run_309 rfl (q := 311) rfl ?_
            refine st_iload O dX7_run_311 rfl (q := 313) rfl ?_
            refine st_istore O dX7_run_313 rfl (q := 315) rfl ?_
            refine st_iload O dX7_run_315 rfl (q := 317) rfl ?_
            refine st_if_eq O dX7_run_317 (t := 326) rfl (q := 320) rfl (fun c317 => ?_) (fun c317 => ?_)
            · exact absurd c317 (by decide)
            refine st_iinc O dX7_run_320 rfl (by first | exact am_ii1 _ | exact rfl) rfl (q := 323) rfl ?_
            refine st_goto O dX7_run_323 (t := 331) rfl ?_
            refine st_aloadn O dX7_run_331 rfl (q := 332) rfl ?_
            refine st_iconst O dX7_run_332 am_iconst_0 (q := 333) rfl ?_
            refine st_iloadn O dX7_run_333 rfl (q := 334) rfl ?_
            refine st_call O dX7_run_334 cs_X7_run_334 (q := 337) rfl (am_sipq rfl rfl rfl (Nat.le_of_ble_eq_true rfl) rfl (r := oI (Q 0)[i]?) ⟨0, i, n, _, Q, lA, pA, rfl, hL, by decide, by omega, rfl, rfl⟩ ?_)
            refine st_istore O dX7_run_337 rfl (q := 339) rfl ?_
            refine st_aloadn O dX7_run_339 rfl (q := 340) rfl ?_
            refine st_iconst O dX7_run_340 am_iconst_1 (q := 341) rfl ?_
            refine st_iloadn O dX7_run_341 rfl (q := 342) rfl ?_
            refine st_call O dX7_run_342 cs_X7_run_342 (q := 345) rfl (am_sipq rfl rfl rfl (Nat.le_of_ble_eq_true rfl) rfl (r := oI (Q 1)[j + 1]?) ⟨1, j + 1, n, _, Q, lA, pA, rfl, hL, by decide, by omega, rfl, rfl⟩ ?_)
            refine st_istore O dX7_run_345 rfl (q := 347) rfl ?_
            refine st_goto O dX7_run_347 (t := 52) rfl ?_
            have ih2 := ih (P ++ [(c, 1, t + scw wd (kd c) + w)]) i (j + 1) k' 1 1 (ch + 1) (max lo 1) (t + scw wd (kd c) + w) pd' (some (.inl (bI pd'))) (some (.inl (bI true))) (some (.inl (nI c))) (some (.inl (nI 1))) (upd gA P.length (nI c)) (upd wA c (nI (t + scw wd (kd c) + w))) (upd uA c (nI P.length)) (by omega) (by omega) (by omega) (by rw [List.length_append]; simp only [List.length_cons, List.length_nil]; omega) (by omega) (by omega) (by rw [List.length_append]; simp) (by rw [g8, List.append_assoc]; rfl) (pO_push (q := (c, 1, t + scw wd (kd c) + w)) (S := _) g9 (by rw [g8] at hnd; exact hnd)) (by rw [tot_last]) (by rw [stt_p, g11]; rfl)
            rw [List.length_append] at ih2
            exact ih2
          exact absurd c241 (by decide)
        · subst hz
          refine st_iload O dX7_run_149 rfl (q := 151) rfl ?_
          refine st_if_eq O dX7_run_151 (t := 159) rfl (q := 154) rfl (fun c151 => ?_) (fun c151 => ?_)
          · exact absurd c151 (by decide)
          refine st_iload O dX7_run_154 rfl (q := 156) rfl ?_
          refine st_goto O dX7_run_156 (t := 161) rfl ?_
          refine st_istore O dX7_run_161 rfl (q := 163) rfl ?_
          refine st_iload O dX7_run_163 rfl (q := 165) rfl ?_
          refine st_if_eq O dX7_run_165 (t := 172) rfl (q := 168) rfl (fun c165 => ?_) (fun c165 => ?_)
          · exact absurd c165 (by decide)
          refine st_iconst O dX7_run_168 am_iconst_1 (q := 169) rfl ?_
          refine st_goto O dX7_run_169 (t := 173) rfl ?_
          refine st_istore O dX7_run_173 rfl (q := 175) rfl ?_
          refine st_aloadn O dX7_run_175 rfl (q := 176) rfl ?_
          refine st_dup O dX7_run_176 (q := 177) rfl ?_
          refine st_geti O dX7_run_177 fl_X7_149 rfl rfl rfl rfl (q := 180) rfl ?_
          refine st_aloadn O dX7_run_180 rfl (q := 181) rfl ?_
          refine st_iload O dX7_run_181 rfl (q := 183) rfl ?_
          refine st_call O dX7_run_183 cs_X7_run_183 (q := 186) rfl (am_sipq rfl rfl rfl (Nat.le_of_ble_eq_true rfl) rfl (r := nI (scw wd (kd c))) ⟨c, _, _, _, _, _, _, _, _, _, _, _, wd, kA, kd c, rfl, by omega, hkc.1, hkc.2, rfl, rfl⟩ ?_)
          refine st_iload O dX7_run_186 rfl (q := 188) rfl ?_
          refine st_bipush O dX7_run_188 am_bipush_m9 (q := 190) rfl ?_
          refine st_icmp_eq O dX7_run_190 (t := 207) rfl (q := 193) rfl (fun c190 => ?_) (fun c190 => ?_)
          · exact absurd c190 (by decide)
          refine st_iload O dX7_run_193 rfl (q := 195) rfl ?_
          refine st_iload O dX7_run_195 rfl (q := 197) rfl ?_
          refine st_icmp_eq O dX7_run_197 (t := 207) rfl (q := 200) rfl (fun c197 => ?_) (fun c197 => ?_)
          · refine st_iconst O dX7_run_207 am_iconst_0 (q := 208) rfl ?_
            refine st_iadd O dX7_run_208 (show nI (scw wd (kd c)) + nI 0 = nI (scw wd (kd c) + 0) from nI_add _ _) (q := 209) rfl ?_
            refine st_iadd O dX7_run_209 (show nI t + nI (scw wd (kd c) + 0) = nI (t + scw wd (kd c) + 0) by rw [nI_add, Nat.add_assoc]) (q := 210) rfl ?_
            refine st_puti O dX7_run_210 fl_X7_149 rfl rfl rfl rfl rfl (q := 213) rfl ?_
            refine st_iload O dX7_run_213 rfl (q := 215) rfl ?_
            refine st_bipush O dX7_run_215 am_bipush_m9 (q := 217) rfl ?_
            refine st_icmp_eq O dX7_run_217 (t := 237) rfl (q := 220) rfl (fun c217 => ?_) (fun c217 => ?_)
            · exact absurd c217 (by decide)
            refine st_iload O dX7_run_220 rfl (q := 222) rfl ?_
            refine st_iload O dX7_run_222 rfl (q := 224) rfl ?_
            refine st_icmp_eq O dX7_run_224 (t := 237) rfl (q := 227) rfl (fun c224 => ?_) (fun c224 => ?_)
            · refine st_iload O dX7_run_237 rfl (q := 239) rfl ?_
              refine st_iload O dX7_run_239 rfl (q := 241) rfl ?_
              refine st_icmp_ne O dX7_run_241 (t := 251) rfl (q := 244) rfl (fun c241 => ?_) (fun c241 => ?_)
              · exact absurd c241 (by decide)
              refine st_iload O dX7_run_244 rfl (q := 246) rfl ?_
              refine st_iconst O dX7_run_246 am_iconst_1 (q := 247) rfl ?_
              refine st_iadd O dX7_run_247 (by first | exact nI_add _ _ | exact rfl) (q := 248) rfl ?_
              refine st_goto O dX7_run_248 (t := 252) rfl ?_
              refine st_istore O dX7_run_252 rfl (q := 254) rfl ?_
              refine st_aloadn O dX7_run_254 rfl (q := 255) rfl ?_
              refine st_aloadn O dX7_run_255 rfl (q := 256) rfl ?_
              refine st_geti O dX7_run_256 fl_X7_155 rfl rfl rfl rfl (q := 259) rfl ?_
              refine st_iload O dX7_run_259 rfl (q := 261) rfl ?_
              refine st_callS O dX7_run_261 cs_X7_run_261 (q := 264) rfl (am_sipq rfl rfl rfl (Nat.le_of_ble_eq_true rfl) rfl (r := nI (max lo (rn + 1))) ⟨_, _, rfl, (nI_max (by omega) (by omega)).symm⟩ ?_)
              refine st_puti O dX7_run_264 fl_X7_155 rfl rfl rfl rfl rfl (q := 267) rfl ?_
              refine st_aloadn O dX7_run_267 rfl (q := 268) rfl ?_
              refine st_getr O dX7_run_268 fl_X7_49 rfl rfl rfl (q := 271) rfl ?_
              refine st_iload O dX7_run_271 rfl (q := 273) rfl ?_
              refine st_aloadn O dX7_run_273 rfl (q := 274) rfl ?_
              refine st_geti O dX7_run_274 fl_X7_149 rfl rfl rfl rfl (q := 277) rfl ?_
              refine sn_ast O dX7_run_277 rfl rfl rfl ⟨by omega, by decide⟩ rfl rfl (q := 278) rfl ?_
              refine st_aloadn O dX7_run_278 rfl (q := 279) rfl ?_
              refine st_getr O dX7_run_279 fl_X7_52 rfl rfl rfl (q := 282) rfl ?_
              refine st_iload O dX7_run_282 rfl (q := 284) rfl ?_
              refine st_aloadn O dX7_run_284 rfl (q := 285) rfl ?_
              refine st_geti O dX7_run_285 fl_X7_146 rfl rfl rfl rfl (q := 288) rfl ?_
              refine sn_ast O dX7_run_288 rfl rfl rfl ⟨by omega, by decide⟩ rfl rfl (q := 289) rfl ?_
              refine st_aloadn O dX7_run_289 rfl (q := 290) rfl ?_
              refine st_getr O dX7_run_290 fl_X7_46 rfl rfl rfl (q := 293) rfl ?_
              refine st_aloadn O dX7_run_293 rfl (q := 294) rfl ?_
              refine st_dup O dX7_run_294 (q := 295) rfl ?_
              refine st_geti O dX7_run_295 fl_X7_146 rfl rfl rfl rfl (q := 298) rfl ?_
              refine st_dup_x1 O dX7_run_298 (q := 299) rfl ?_
              refine st_iconst O dX7_run_299 am_iconst_1 (q := 300) rfl ?_
              refine st_iadd O dX7_run_300 (by first | exact nI_add _ _ | exact rfl) (q := 301) rfl ?_
              refine st_puti O dX7_run_301 fl_X7_146 rfl rfl rfl rfl rfl (q := 304) rfl ?_
              refine st_iload O dX7_run_304 rfl (q := 306) rfl ?_
              refine sn_ast O dX7_run_306 rfl rfl rfl ⟨by omega, by decide⟩ rfl rfl (q := 307) rfl ?_
              refine st_iload O dX7_run_307 rfl (q := 309) rfl ?_
              refine st_istore O dX7_run_309 rfl (q := 311) rfl ?_
              refine st_iload O dX7_run_311 rfl (q := 313) rfl ?_
              refine st_istore O dX7_run_313 rfl (q := 315) rfl ?_
              refine st_iload O dX7_run_315 rfl (q := 317) rfl ?_
              refine st_if_eq O dX7_run_317 (t := 326) rfl (q := 320) rfl (fun c317 => ?_) (fun c317 => ?_)
              · exact absurd c317 (by decide)
              refine st_iinc O dX7_run_320 rfl (by first | exact am_ii1 _ | exact rfl) rfl (q := 323) rfl ?_
              refine st_goto O dX7_run_323 (t := 331) rfl ?_
              refine st_aloadn O dX7_run_331 rfl (q := 332) rfl ?_
              refine st_iconst O dX7_run_332 am_iconst_0 (q := 333) rfl ?_
              refine st_iloadn O dX7_run_333 rfl (q := 334) rfl ?_
              refine st_call O dX7_run_334 cs_X7_run_334 (q := 337) rfl (am_sipq rfl rfl rfl (Nat.le_of_ble_eq_true rfl) rfl (r := oI (Q 0)[i]?) ⟨0, i, n, _, Q, lA, pA, rfl, hL, by decide, by omega, rfl, rfl⟩ ?_)
              refine st_istore O dX7_run_337 rfl (q := 339) rfl ?_
              refine st_aloadn O dX7_run_339 rfl (q := 340) rfl ?_
              refine st_iconst O dX7_run_340 am_iconst_1 (q := 341) rfl ?_
              refine st_iloadn O dX7_run_341 rfl (q := 342) rfl ?_
              refine st_call O dX7_run_342 cs_X7_run_342 (q := 345) rfl (am_sipq rfl rfl rfl (Nat.le_of_ble_eq_true rfl) rfl (r := oI (Q 1)[j + 1]?) ⟨1, j + 1, n, _, Q, lA, pA, rfl, hL, by decide, by omega, rfl, rfl⟩ ?_)
              refine st_istore O dX7_run_345 rfl (q := 347) rfl ?_
              refine st_goto O dX7_run_347 (t := 52) rfl ?_
              have ih2 := ih (P ++ [(c, 1, t + scw wd (kd c) + 0)]) i (j + 1) k' 1 (rn + 1) ch (max lo (rn + 1)) (t + scw wd (kd c) + 0) pd' (some (.inl (bI pd'))) (some (.inl (bI true))) (some (.inl (nI c))) (some (.inl (nI 1))) (upd gA P.length (nI c)) (upd wA c (nI (t + scw wd (kd c) + 0))) (upd uA c (nI P.length)) (by omega) (by omega) (by omega) (by rw [List.length_append]; simp only [List.length_cons, List.length_nil]; omega) (by omega) (by omega) (by rw [List.length_append]; simp) (by rw [g8, List.append_assoc]; rfl) (pO_push (q := (c, 1, t + scw wd (kd c) + 0)) (S := _) g9 (by rw [g8] at hnd; exact hnd)) (by rw [tot_last]) (by rw [stt_p, g11]; rfl)
              rw [List.length_append] at ih2
              exact ih2
            exact absurd c224 (by decide)
          exact absurd c197 (by decide)
        · subst hz
          refine st_iload O dX7_run_149 rfl (q := 151) rfl ?_
          refine st_if_eq O dX7_run_151 (t := 159) rfl (q := 154) rfl (fun c151 => ?_) (fun c151 => ?_)
          · exact absurd c151 (by decide)
          refine st_iload O dX7_run_154 rfl (q := 156) rfl ?_
          refine st_goto O dX7_run_156 (t := 161) rfl ?_
          refine st_istore O dX7_run_161 rfl (q := 163) rfl ?_
          refine st_iload O dX7_run_163 rfl (q := 165) rfl ?_
          refine st_if_eq O dX7_run_165 (t := 172) rfl (q := 168) rfl (fun c165 => ?_) (fun c165 => ?_)
          · exact absurd c165 (by decide)
          refine st_iconst O dX7_run_168 am_iconst_1 (q := 169) rfl ?_
          refine st_goto O dX7_run_169 (t := 173) rfl ?_
          refine st_istore O dX7_run_173 rfl (q := 175) rfl ?_
          refine st_aloadn O dX7_run_175 rfl (q := 176) rfl ?_
          refine st_dup O dX7_run_176 (q := 177) rfl ?_
          refine st_geti O dX7_run_177 fl_X7_149 rfl rfl rfl rfl (q := 180) rfl ?_
          refine st_aloadn O dX7_run_180 rfl (q := 181) rfl ?_
          refine st_iload O dX7_run_181 rfl (q := 183) rfl ?_
          refine st_call O dX7_run_183 cs_X7_run_183 (q := 186) rfl (am_sipq rfl rfl rfl (Nat.le_of_ble_eq_true rfl) rfl (r := nI (scw wd (kd c))) ⟨c, _, _, _, _, _, _, _, _, _, _, _, wd, kA, kd c, rfl, by omega, hkc.1, hkc.2, rfl, rfl⟩ ?_)
          refine st_iload O dX7_run_186 rfl (q := 188) rfl ?_
          refine st_bipush O dX7_run_188 am_bipush_m9 (q := 190) rfl ?_
          refine st_icmp_eq O dX7_run_190 (t := 207) rfl (q := 193) rfl (fun c190 => ?_) (fun c190 => ?_)
          · refine st_iconst O dX7_run_207 am_iconst_0 (q := 208) rfl ?_
            refine st_iadd O dX7_run_208 (show nI (scw wd (kd c)) + nI 0 = nI (scw wd (kd c) + 0) from nI_add _ _) (q := 209) rfl ?_
            refine st_iadd O dX7_run_209 (show nI t + nI (scw wd (kd c) + 0) = nI (t + scw wd (kd c) + 0) by rw [nI_add, Nat.add_assoc]) (q := 210) rfl ?_
            refine st_puti O dX7_run_210 fl_X7_149 rfl rfl rfl rfl rfl (q := 213) rfl ?_
            refine st_iload O dX7_run_213 rfl (q := 215) rfl ?_
            refine st_bipush O dX7_run_215 am_bipush_m9 (q := 217) rfl ?_
            refine st_icmp_eq O dX7_run_217 (t := 237) rfl (q := 220) rfl (fun c217 => ?_) (fun c217 => ?_)
            · refine st_iload O dX7_run_237 rfl (q := 239) rfl ?_
              refine st_iload O dX7_run_239 rfl (q := 241) rfl ?_
              refine st_icmp_ne O dX7_run_241 (t := 251) rfl (q := 244) rfl (fun c241 => ?_) (fun c241 => ?_)
              · refine st_iconst O dX7_run_251 am_iconst_1 (q := 252) rfl ?_
                refine st_istore O dX7_run_252 rfl (q := 254) rfl ?_
                refine st_aloadn O dX7_run_254 rfl (q := 255) rfl ?_
                refine st_aloadn O dX7_run_255 rfl (q := 256) rfl ?_
                refine st_geti O dX7_run_256 fl_X7_155 rfl rfl rfl rfl (q := 259) rfl ?_
                refine st_iload O dX7_run_259 rfl (q := 261) rfl ?_
                refine st_callS O dX7_run_261 cs_X7_run_261 (q := 264) rfl (am_sipq rfl rfl rfl (Nat.le_of_ble_eq_true rfl) rfl (r := nI (max lo 1)) ⟨_, _, rfl, (nI_max (by omega) (by omega)).symm⟩ ?_)
                refine st_puti O dX7_run_264 fl_X7_155 rfl rfl rfl rfl rfl (q := 267) rfl ?_
                refine st_aloadn O dX7_run_267 rfl (q := 268) rfl ?_
                refine st_getr O dX7_run_268 fl_X7_49 rfl rfl rfl (q := 271) rfl ?_
                refine st_iload O dX7_run_271 rfl (q := 273) rfl ?_
                refine st_aloadn O dX7_run_273 rfl (q := 274) rfl ?_
                refine st_geti O dX7_run_274 fl_X7_149 rfl rfl rfl rfl (q := 277) rfl ?_
                refine sn_ast O dX7_run_277 rfl rfl rfl ⟨by omega, by decide⟩ rfl rfl (q := 278) rfl ?_
                refine st_aloadn O dX7_run_278 rfl (q := 279) rfl ?_
                refine st_getr O dX7_run_279 fl_X7_52 rfl rfl rfl (q := 282) rfl ?_
                refine st_iload O dX7_run_282 rfl (q := 284) rfl ?_
                refine st_aloadn O dX7_run_284 rfl (q := 285) rfl ?_
                refine st_geti O dX7_run_285 fl_X7_146 rfl rfl rfl rfl (q := 288) rfl ?_
                refine sn_ast O dX7_run_288 rfl rfl rfl ⟨by omega, by decide⟩ rfl rfl (q := 289) rfl ?_
                refine st_aloadn O dX7_run_289 rfl (q := 290) rfl ?_
                refine st_getr O dX7_run_290 fl_X7_46 rfl rfl rfl (q := 293) rfl ?_
                refine st_aloadn O dX7_run_293 rfl (q := 294) rfl ?_
                refine st_dup O dX7_run_294 (q := 295) rfl ?_
                refine st_geti O dX7_run_295 fl_X7_146 rfl rfl rfl rfl (q := 298) rfl ?_
                refine st_dup_x1 O dX7_run_298 (q := 299) rfl ?_
                refine st_iconst O dX7_run_299 am_iconst_1 (q := 300) rfl ?_
                refine st_iadd O dX7_run_300 (by first | exact nI_add _ _ | exact rfl) (q := 301) rfl ?_
                refine st_puti O dX7_run_301 fl_X7_146 rfl rfl rfl rfl rfl (q := 304) rfl ?_
                refine st_iload O dX7_run_304 rfl (q := 306) rfl ?_
                refine sn_ast O dX7_run_306 rfl rfl rfl ⟨by omega, by decide⟩ rfl rfl (q := 307) rfl ?_
                refine st_iload O dX7_run_307 rfl (q := 309) rfl ?_
                refine st_istore O dX7_run_309 rfl (q := 311) rfl ?_
                refine st_iload O dX7_run_311 rfl (q := 313) rfl ?_
                refine st_istore O dX7_run_313 rfl (q := 315) rfl ?_
                refine st_iload O dX7_run_315 rfl (q := 317) rfl ?_
                refine st_if_eq O dX7_run_317 (t := 326) rfl (q := 320) rfl (fun c317 => ?_) (fun c317 => ?_)
                · exact absurd c317 (by decide)
                refine st_iinc O dX7_run_320 rfl (by first | exact am_ii1 _ | exact rfl) rfl (q := 323) rfl ?_
                refine st_goto O dX7_run_323 (t := 331) rfl ?_
                refine st_aloadn O dX7_run_331 rfl (q := 332) rfl ?_
                refine st_iconst O dX7_run_332 am_iconst_0 (q := 333) rfl ?_
                refine st_iloadn O dX7_run_333 rfl (q := 334) rfl ?_
                refine st_call O dX7_run_334 cs_X7_run_334 (q := 337) rfl (am_sipq rfl rfl rfl (Nat.le_of_ble_eq_true rfl) rfl (r := oI (Q 0)[i]?) ⟨0, i, n, _, Q, lA, pA, rfl, hL, by decide, by omega, rfl, rfl⟩ ?_)
                refine st_istore O dX7_run_337 rfl (q := 339) rfl ?_
                refine st_aloadn O dX7_run_339 rfl (q := 340) rfl ?_
                refine st_iconst O dX7_run_340 am_iconst_1 (q := 341) rfl ?_
                refine st_iloadn O dX7_run_341 rfl (q := 342) rfl ?_
                refine st_call O dX7_run_342 cs_X7_run_342 (q := 345) rfl (am_sipq rfl rfl rfl (Nat.le_of_ble_eq_true rfl) rfl (r := oI (Q 1)[j + 1]?) ⟨1, j + 1, n, _, Q, lA, pA, rfl, hL, by decide, by omega, rfl, rfl⟩ ?_)
                refine st_istore O dX7_run_345 rfl (q := 347) rfl ?_
                refine st_goto O dX7_run_347 (t := 52) rfl ?_
                have ih2 := ih (P ++ [(c, 1, t + scw wd (kd c) + 0)]) i (j + 1) k' 1 1 ch (max lo 1) (t + scw wd (kd c) + 0) pd' (some (.inl (bI pd'))) (some (.inl (bI true))) (some (.inl (nI c))) (some (.inl (nI 1))) (upd gA P.length (nI c)) (upd wA c (nI (t + scw wd (kd c) + 0))) (upd uA c (nI P.length)) (by omega) (by omega) (by omega) (by rw [List.length_append]; simp only [List.length_cons, List.length_nil]; omega) (by omega) (by omega) (by rw [List.length_append]; simp) (by rw [g8, List.append_assoc]; rfl) (pO_push (q := (c, 1, t + scw wd (kd c) + 0)) (S := _) g9 (by rw [g8] at hnd; exact hnd)) (by rw [tot_last]) (by rw [stt_p, g11]; rfl)
                rw [List.length_append] at ih2
                exact ih2
              exact absurd c241 (by decide)
            exact absurd c217 (by decide)
          exact absurd c190 (by decide)
      have tailR : ∀ k' pd' y11 y12, (hlt : i < (Q 0).length) → dc (fun c => lt (kd c) (fg c) b) (fun c => decide (kd c = 2)) ((Q 0).drop i) ((Q 1).drop j) k z pd = (false, k', pd') → am_aw X 13 sh_MR 149 [some (.inr 0), some (.inl (nI i)), some (.inl (nI j)), some (.inl (nI k')), some (.inl (zLa z)), some (.inl (bI pd)), some (.inl (nI rn)), some (.inl (oI (Q 0)[i]?)), some (.inl (oI (Q 1)[j]?)), some (.inl (bI pd')), some (.inl (bI false)), y11, y12] [] [.inl [nI n, nI b, nI w, x3, x4, x5, x6, nI P.length, nI t, nI ch, nI lo, bI wd], .inr kA, .inr fA, .inr lA, .inr pA, .inr gA, .inr wA, .inr uA] := by
        intro k' pd' y11 y12 hlt hdc
        have hcn := hR _ (pl_gm hlt)
        have hkc := (hk _ hcn).1
        have hk2 := (dc_k hdc).1
        rw [dr_cons hlt] at hdc g8
        rw [sg_R hdc] at g8
        rw [ge_some hlt]
        generalize hce : (Q 0).getD i 0 = c at g8 hcn hkc hdc
        rcases (by omega : z = 0 ∨ z = 1 ∨ z = 2) with hz | hz | hz
        · subst hz
          refine st_iload O dX7_run_149 rfl (q := 151) rfl ?_
          refine st_if_eq O dX7_run_151 (t := 159) rfl (q := 154) rfl (fun c151 => ?_) (fun c151 => ?_)
          · refine st_iload O dX7_run_159 rfl (q := 161) rfl ?_
            refine st_istore O dX7_run_161 rfl (q := 163) rfl ?_
            refine st_iload O dX7_run_163 rfl (q := 165) rfl ?_
            refine st_if_eq O dX7_run_165 (t := 172) rfl (q := 168) rfl (fun c165 => ?_) (fun c165 => ?_)
            · refine st_iconst O dX7_run_172 am_iconst_0 (q := 173) rfl ?_
              refine st_istore O dX7_run_173 rfl (q := 175) rfl ?_
              refine st_aloadn O dX7_run_175 rfl (q := 176) rfl ?_
              refine st_dup O dX7_run_176 (q := 177) rfl ?_
              refine st_geti O dX7_run_177 fl_X7_149 rfl rfl rfl rfl (q := 180) rfl ?_
              refine st_aloadn O dX7_run_180 rfl (q := 181) rfl ?_
              refine st_iload O dX7_run_181 rfl (q := 183) rfl ?_
              refine st_call O dX7_run_183 cs_X7_run_183 (q := 186) rfl (am_sipq rfl rfl rfl (Nat.le_of_ble_eq_true rfl) rfl (r := nI (scw wd (kd c))) ⟨c, _, _, _, _, _, _, _, _, _, _, _, wd, kA, kd c, rfl, by omega, hkc.1, hkc.2, rfl, rfl⟩ ?_)
              refine st_iload O dX7_run_186 rfl (q := 188) rfl ?_
              refine st_bipush O dX7_run_188 am_bipush_m9 (q := 190) rfl ?_
              refine st_icmp_eq O dX7_run_190 (t := 207) rfl (q := 193) rfl (fun c190 => ?_) (fun c190 => ?_)
              · exact absurd c190 (by decide)
              refine st_iload O dX7_run_193 rfl (q := 195) rfl ?_
              refine st_iload O dX7_run_195 rfl (q := 197) rfl ?_
              refine st_icmp_eq O dX7_run_197 (t := 207) rfl (q := 200) rfl (fun c197 => ?_) (fun c197 => ?_)
              · refine st_iconst O dX7_run_207 am_iconst_0 (q := 208) rfl ?_
                refine st_iadd O dX7_run_208 (show nI (scw wd (kd c)) + nI 0 = nI (scw wd (kd c) + 0) from nI_add _ _) (q := 209) rfl ?_
                refine st_iadd O dX7_run_209 (show nI t + nI (scw wd (kd c) + 0) = nI (t + scw wd (kd c) + 0) by rw [nI_add, Nat.add_assoc]) (q := 210) rfl ?_
                refine st_puti O dX7_run_210 fl_X7_149 rfl rfl rfl rfl rfl (q := 213) rfl ?_
                refine st_iload O dX7_run_213 rfl (q := 215) rfl ?_
                refine st_bipush O dX7_run_215 am_bipush_m9 (q := 217) rfl ?_
                refine st_icmp_eq O dX7_run_217 (t := 237) rfl (q := 220) rfl (fun c217 => ?_) (fun c217 => ?_)
                · exact absurd c217 (by decide)
                refine st_iload O dX7_run_220 rfl (q := 222) rfl ?_
                refine st_iload O dX7_run_222 rfl (q := 224) rfl ?_
                refine st_icmp_eq O dX7_run_224 (t := 237) rfl (q := 227) rfl (fun c224 => ?_) (fun c224 => ?_)
                · refine st_iload O dX7_run_237 rfl (q := 239) rfl ?_
                  refine st_iload O dX7_run_239 rfl (q := 241) rfl ?_
                  refine st_icmp_ne O dX7_run_241 (t := 251) rfl (q := 244) rfl (fun c241 => ?_) (fun c241 => ?_)
                  · exact absurd c241 (by decide)
                  refine st_iload O dX7_run_244 rfl (q := 246) rfl ?_
                  refine st_iconst O dX7_run_246 am_iconst_1 (q := 247) rfl ?_
                  refine st_iadd O dX7_run_247 (by first | exact nI_add _ _ | exact rfl) (q := 248) rfl ?_
                  refine st_goto O dX7_run_248 (t := 252) rfl ?_
                  refine st_istore O dX7_run_252 rfl (q := 254) rfl ?_
                  refine st_aloadn O dX7_run_254 rfl (q := 255) rfl ?_
                  refine st_aloadn O dX7_run_255 rfl (q := 256) rfl ?_
                  refine st_geti O dX7_run_256 fl_X7_155 rfl rfl rfl rfl (q := 259) rfl ?_
                  refine st_iload O dX7_run_259 rfl (q := 261) rfl ?_
                  refine st_callS O dX7_run_261 cs_X7_run_261 (q := 264) rfl (am_sipq rfl rfl rfl (Nat.le_of_ble_eq_true rfl) rfl (r := nI (max lo (rn + 1))) ⟨_, _, rfl, (nI_max (by omega) (by omega)).symm⟩ ?_)
                  refine st_puti O dX7_run_264 fl_X7_155 rfl rfl rfl rfl rfl (q := 267) rfl ?_
                  refine st_aloadn O dX7_run_267 rfl (q := 268) rfl ?_
                  refine st_getr O dX7_run_268 fl_X7_49 rfl rfl rfl (q := 271) rfl ?_
                  refine st_iload O dX7_run_271 rfl (q := 273) rfl ?_
                  refine st_aloadn O dX7_run_273 rfl (q := 274) rfl ?_
                  refine st_geti O dX7_run_274 fl_X7_149 rfl rfl rfl rfl (q := 277) rfl ?_
                  refine sn_ast O dX7_run_277 rfl rfl rfl ⟨by omega, by decide⟩ rfl rfl (q := 278) rfl ?_
                  refine st_aloadn O dX7_run_278 rfl (q := 279) rfl ?_
                  refine st_getr O dX7_run_279 fl_X7_52 rfl rfl rfl (q := 282) rfl ?_
                  refine st_iload O dX7_run_282 rfl (q := 284) rfl ?_
                  refine st_aloadn O dX7_run_284 rfl (q := 285) rfl ?_
                  refine st_geti O dX7_run_285 fl_X7_146 rfl rfl rfl rfl (q := 288) rfl ?_
                  refine sn_ast O dX7_run_288 rfl rfl rfl ⟨by omega, by decide⟩ rfl rfl (q := 289) rfl ?_
                  refine st_aloadn O dX7_run_289 rfl (q := 290) rfl ?_
                  refine st_getr O dX7_run_290 fl_X7_46 rfl rfl rfl (q := 293) rfl ?_
                  refine st_aloadn O dX7_run_293 rfl (q := 294) rfl ?_
                  refine st_dup O dX7_run_294 (q := 295) rfl ?_
                  refine st_geti O dX7_run_295 fl_X7_146 rfl rfl rfl rfl (q := 298) rfl ?_
                  refine st_dup_x1 O dX7_run_298 (q := 299) rfl ?_
                  refine st_iconst O dX7_run_299 am_iconst_1 (q := 300) rfl ?_
                  refine st_iadd O dX7_run_300 (by first | exact nI_add _ _ | exact rfl) (q := 301) rfl ?_
                  refine st_puti O dX7_run_301 fl_X7_146 rfl rfl rfl rfl rfl (q := 304) rfl ?_
                  refine st_iload O dX7_run_304 rfl (q := 306) rfl ?_
                  refine sn_ast O dX7_run_306 rfl rfl rfl ⟨by omega, by decide⟩ rfl rfl (q := 307) rfl ?_
                  refine st_iload O dX7_run_307 rfl (q := 309) rfl ?_
                  refine st_istore O dX7_run_309 rfl (q := 311) rfl ?_
                  refine st_iload O dX7_run_311 rfl (q := 313) rfl ?_
                  refine st_istore O dX7_run_313 rfl (q := 315) rfl ?_
                  refine st_iload O dX7_run_315 rfl (q := 317) rfl ?_
                  refine st_if_eq O dX7_run_317 (t := 326) rfl (q := 320) rfl (fun c317 => ?_) (fun c317 => ?_)
                  · refine st_iinc O dX7_run_326 rfl (by first | exact am_ii1 _ | exact rfl) rfl (q := 329) rfl ?_
                    refine st_iconst O dX7_run_329 am_iconst_0 (q := 330) rfl ?_
                    refine st_istoren O dX7_run_330 rfl (q := 331) rfl ?_
                    refine st_aloadn O dX7_run_331 rfl (q := 332) rfl ?_
                    refine st_iconst O dX7_run_332 am_iconst_0 (q := 333) rfl ?_
                    refine st_iloadn O dX7_run_333 rfl (q := 334) rfl ?_
                    refine st_call O dX7_run_334 cs_X7_run_334 (q := 337) rfl (am_sipq rfl rfl rfl (Nat.le_of_ble_eq_true rfl) rfl (r := oI (Q 0)[i + 1]?) ⟨0, i + 1, n, _, Q, lA, pA, rfl, hL, by decide, by omega, rfl, rfl⟩ ?_)
                    refine st_istore O dX7_run_337 rfl (q := 339) rfl ?_
                    refine st_aloadn O dX7_run_339 rfl (q := 340) rfl ?_
                    refine st_iconst O dX7_run_340 am_iconst_1 (q := 341) rfl ?_
                    refine st_iloadn O dX7_run_341 rfl (q := 342) rfl ?_
                    refine st_call O dX7_run_342 cs_X7_run_342 (q := 345) rfl (am_sipq rfl rfl rfl (Nat.le_of_ble_eq_true rfl) rfl (r := oI (Q 1)[j]?) ⟨1, j, n, _, Q, lA, pA, rfl, hL, by decide, by omega, rfl, rfl⟩ ?_)
                    refine st_istore O dX7_run_345 rfl (q := 347) rfl ?_
                    refine st_goto O dX7_run_347 (t := 52) rfl ?_
                    have ih2 := ih (P ++ [(c, 0, t + scw wd (kd c) + 0)]) (i + 1) j 0 0 (rn + 1) ch (max lo (rn + 1)) (t + scw wd (kd c) + 0) pd' (some (.inl (bI pd'))) (some (.inl (bI false))) (some (.inl (nI c))) (some (.inl (nI 0))) (upd gA P.length (nI c)) (upd wA c (nI (t + scw wd (kd c) + 0))) (upd uA c (nI P.length)) (by omega) (by omega) (by omega) (by rw [List.length_append]; simp only [List.length_cons, List.length_nil]; omega) (by omega) (by omega) (by rw [List.length_append]; simp) (by rw [g8, List.append_assoc]; rfl) (pO_push (q := (c, 0, t + scw wd (kd c) + 0)) (S := _) g9 (by rw [g8] at hnd; exact hnd)) (by rw [tot_last]) (by rw [stt_p, g11]; rfl)
                    rw [List.length_append] at ih2
                    exact ih2
                  exact absurd c317 (by decide)
                exact absurd c224 (by decide)
              exact absurd c197 (by decide)
            exact absurd c165 (by decide)
          exact absurd c151 (by decide)
        · subst hz
          refine st_iload O dX7_run_149 rfl (q := 151) rfl ?_
          refine st_if_eq O dX7_run_151 (t := 159) rfl (q := 154) rfl (fun c151 => ?_) (fun c151 => ?_)
          · refine st_iload O dX7_run_159 rfl (q := 161) rfl ?_
            refine st_istore O dX7_run_161 rfl (q := 163) rfl ?_
            refine st_iload O dX7_run_163 rfl (q := 165) rfl ?_
            refine st_if_eq O dX7_run_165 (t := 172) rfl (q := 168) rfl (fun c165 => ?_) (fun c165 => ?_)
            · refine st_iconst O dX7_run_172 am_iconst_0 (q := 173) rfl ?_
              refine st_istore O dX7_run_173 rfl (q := 175) rfl ?_
              refine st_aloadn O dX7_run_175 rfl (q := 176) rfl ?_
              refine st_dup O dX7_run_176 (q := 177) rfl ?_
              refine st_geti O dX7_run_177 fl_X7_149 rfl rfl rfl rfl (q := 180) rfl ?_
              refine st_aloadn O dX7_run_180 rfl (q := 181) rfl ?_
              refine st_iload O dX7_run_181 rfl (q := 183) rfl ?_
              refine st_call O dX7_run_183 cs_X7_run_183 (q := 186) rfl (am_sipq rfl rfl rfl (Nat.le_of_ble_eq_true rfl) rfl (r := nI (scw wd (kd c))) ⟨c, _, _, _, _, _, _, _, _, _, _, _, wd, kA, kd c, rfl, by omega, hkc.1, hkc.2, rfl, rfl⟩ ?_)
              refine st_iload O dX7_run_186 rfl (q := 188) rfl ?_
              refine st_bipush O dX7_run_188 am_bipush_m9 (q := 190) rfl ?_
              refine st_icmp_eq O dX7_run_190 (t := 207) rfl (q := 193) rfl (fun c190 => ?_) (fun c190 => ?_)
              · exact absurd c190 (by decide)
              refine st_iload O dX7_run_193 rfl (q := 195) rfl ?_
              refine st_iload O dX7_run_195 rfl (q := 197) rfl ?_
              refine st_icmp_eq O dX7_run_197 (t := 207) rfl (q := 200) rfl (fun c197 => ?_) (fun c197 => ?_)
              · exact absurd c197 (by decide)
              refine st_aloadn O dX7_run_200 rfl (q := 201) rfl ?_
              refine st_geti O dX7_run_201 fl_X7_55 rfl rfl rfl rfl (q := 204) rfl ?_
              refine st_goto O dX7_run_204 (t := 208) rfl ?_
              refine st_iadd O dX7_run_208 (show nI (scw wd (kd c)) + nI w = nI (scw wd (kd c) + w) from nI_add _ _) (q := 209) rfl ?_
              refine st_iadd O dX7_run_209 (show nI t + nI (scw wd (kd c) + w) = nI (t + scw wd (kd c) + w) by rw [nI_add, Nat.add_assoc]) (q := 210) rfl ?_
              refine st_puti O dX7_run_210 fl_X7_149 rfl rfl rfl rfl rfl (q := 213) rfl ?_
              refine st_iload O dX7_run_213 rfl (q := 215) rfl ?_
              refine st_bipush O dX7_run_215 am_bipush_m9 (q := 217) rfl ?_
              refine st_icmp_eq O dX7_run_217 (t := 237) rfl (q := 220) rfl (fun c217 => ?_) (fun c217 => ?_)
              · exact absurd c217 (by decide)
              refine st_iload O dX7_run_220 rfl (q := 222) rfl ?_
              refine st_iload O dX7_run_222 rfl (q := 224) rfl ?_
              refine st_icmp_eq O dX7_run_224 (t := 237) rfl (q := 227) rfl (fun c224 => ?_) (fun c224 => ?_)
              · exact absurd c224 (by decide)
              refine st_aloadn O dX7_run_227 rfl (q := 228) rfl ?_
              refine st_dup O dX7_run_228 (q := 229) rfl ?_
              refine st_geti O dX7_run_229 fl_X7_152 rfl rfl rfl rfl (q := 232) rfl ?_
              refine st_iconst O dX7_run_232 am_iconst_1 (q := 233) rfl ?_
              refine st_iadd O dX7_run_233 (by first | exact nI_add _ _ | exact rfl) (q := 234) rfl ?_
              refine st_puti O dX7_run_234 fl_X7_152 rfl rfl rfl rfl rfl (q := 237) rfl ?_
              refine st_iload O dX7_run_237 rfl (q := 239) rfl ?_
              refine st_iload O dX7_run_239 rfl (q := 241) rfl ?_
              refine st_icmp_ne O dX7_run_241 (t := 251) rfl (q := 244) rfl (fun c241 => ?_) (fun c241 => ?_)
              · refine st_iconst O dX7_run_251 am_iconst_1 (q := 252) rfl ?_
                refine st_istore O dX7_run_252 rfl (q := 254) rfl ?_
                refine st_aloadn O dX7_run_254 rfl (q := 255) rfl ?_
                refine st_aloadn O dX7_run_255 rfl (q := 256) rfl ?_
                refine st_geti O dX7_run_256 fl_X7_155 rfl rfl rfl rfl (q := 259) rfl ?_
                refine st_iload O dX7_run_259 rfl (q := 261) rfl ?_
                refine st_callS O dX7_run_261 cs_X7_run_261 (q := 264) rfl (am_sipq rfl rfl rfl (Nat.le_of_ble_eq_true rfl) rfl (r := nI (max lo 1)) ⟨_, _, rfl, (nI_max (by omega) (by omega)).symm⟩ ?_)
                refine st_puti O dX7_run_264 fl_X7_155 rfl rfl rfl rfl rfl (q := 267) rfl ?_
                refine st_aloadn O dX7_run_267 rfl (q := 268) rfl ?_
                refine st_getr O dX7_run_268 fl_X7_49 rfl rfl rfl (q := 271) rfl ?_
                refine st_iload O dX7_run_271 rfl (q := 273) rfl ?_
                refine st_aloadn O dX7_run_273 rfl (q := 274) rfl ?_
                refine st_geti O dX7_run_274 fl_X7_149 rfl rfl rfl rfl (q := 277) rfl ?_
                refine sn_ast O dX7_run_277 rfl rfl rfl ⟨by omega, by decide⟩ rfl rfl (q := 278) rfl ?_
                refine st_aloadn O dX7_run_278 rfl (q := 279) rfl ?_
                refine st_getr O dX7_run_279 fl_X7_52 rfl rfl rfl (q := 282) rfl ?_
                refine st_iload O dX7_run_282 rfl (q := 284) rfl ?_
                refine st_aloadn O dX7_run_284 rfl (q := 285) rfl ?_
                refine st_geti O dX7_run_285 fl_X7_146 rfl rfl rfl rfl (q := 288) rfl ?_
                refine sn_ast O dX7_run_288 rfl rfl rfl ⟨by omega, by decide⟩ rfl rfl (q := 289) rfl ?_
                refine st_aloadn O dX7_run_289 rfl (q := 290) rfl ?_
                refine st_getr O dX7_run_290 fl_X7_46 rfl rfl rfl (q := 293) rfl ?_
                refine st_aloadn O dX7_run_293 rfl (q := 294) rfl ?_
                refine st_dup O dX7_run_294 (q := 295) rfl ?_
                refine st_geti O dX7_run_295 fl_X7_146 rfl rfl rfl rfl (q := 298) rfl ?_
                refine st_dup_x1 O dX7_run_298 (q := 299) rfl ?_
                refine st_iconst O dX7_run_299 am_iconst_1 (q := 300) rfl ?_
                refine st_iadd O dX7_run_300 (by first | exact nI_add _ _ | exact rfl) (q := 301) rfl ?_
                refine st_puti O dX7_run_301 fl_X7_146 rfl rfl rfl rfl rfl (q := 304) rfl ?_
                refine st_iload O dX7_run_304 rfl (q := 306) rfl ?_
                refine sn_ast O dX7_run_306 rfl rfl rfl ⟨by omega, by decide⟩ rfl rfl (q := 307) rfl ?_
                refine st_iload O dX7_run_307 rfl (q := 309) rfl ?_
                refine st_istore O dX7_run_309 rfl (q := 311) rfl ?_
                refine st_iload O dX7_run_311 rfl (q := 313) rfl ?_
                refine st_istore O dX7_run_313 rfl (q := 315) rfl ?_
                refine st_iload O dX7_run_315 rfl (q := 317) rfl ?_
                refine st_if_eq O dX7_run_317 (t := 326) rfl (q := 320) rfl (fun c317 => ?_) (fun c317 => ?_)
                · refine st_iinc O dX7_run_326 rfl (by first | exact am_ii1 _ | exact rfl) rfl (q := 329) rfl ?_
                  refine st_iconst O dX7_run_329 am_iconst_0 (q := 330) rfl ?_
                  refine st_istoren O dX7_run_330 rfl (q := 331) rfl ?_
                  refine st_aloadn O dX7_run_331 rfl (q := 332) rfl ?_
                  refine st_iconst O dX7_run_332 am_iconst_0 (q := 333) rfl ?_
                  refine st_iloadn O dX7_run_333 rfl (q := 334) rfl ?_
                  refine st_call O dX7_run_334 cs_X7_run_334 (q := 337) rfl (am_sipq rfl rfl rfl (Nat.le_of_ble_eq_true rfl) rfl (r := oI (Q 0)[i + 1]?) ⟨0, i + 1, n, _, Q, lA, pA, rfl, hL, by decide, by omega, rfl, rfl⟩ ?_)
                  refine st_istore O dX7_run_337 rfl (q := 339) rfl ?_
                  refine st_aloadn O dX7_run_339 rfl (q := 340) rfl ?_
                  refine st_iconst O dX7_run_340 am_iconst_1 (q := 341) rfl ?_
                  refine st_iloadn O dX7_run_341 rfl (q := 342) rfl ?_
                  refine st_call O dX7_run_342 cs_X7_run_342 (q := 345) rfl (am_sipq rfl rfl rfl (Nat.le_of_ble_eq_true rfl) rfl (r := oI (Q 1)[j]?) ⟨1, j, n, _, Q, lA, pA, rfl, hL, by decide, by omega, rfl, rfl⟩ ?_)
                  refine st_istore O dX7_run_345 rfl (q := 347) rfl ?_
                  refine st_goto O dX7_run_347 (t := 52) rfl ?_
                  have ih2 := ih (P ++ [(c, 0, t + scw wd (kd c) + w)]) (i + 1) j 0 0 1 (ch + 1) (max lo 1) (t + scw wd (kd c) + w) pd' (some (.inl (bI pd'))) (some (.inl (bI false))) (some (.inl (nI c))) (some (.inl (nI 0))) (upd gA P.length (nI c)) (upd wA c (nI (t + scw wd (kd c) + w))) (upd uA c (nI P.length)) (by omega) (by omega) (by omega) (by rw [List.length_append]; simp only [List.length_cons, List.length_nil]; omega) (by omega) (by omega) (by rw [List.length_append]; simp) (by rw [g8, List.append_assoc]; rfl) (pO_push (q := (c, 0, t + scw wd (kd c) + w)) (S := _) g9 (by rw [g8] at hnd; exact hnd)) (by rw [tot_last]) (by rw [stt_p, g11]; rfl)
                  rw [List.length_append] at ih2
                  exact ih2
                exact absurd c317 (by decide)
              exact absurd c241 (by decide)
            exact absurd c165 (by decide)
          exact absurd c151 (by decide)
        · subst hz
          refine st_iload O dX7_run_149 rfl (q := 151) rfl ?_
          refine st_if_eq O dX7_run_151 (t := 159) rfl (q := 154) rfl (fun c151 => ?_) (fun c151 => ?_)
          · refine st_iload O dX7_run_159 rfl (q := 161) rfl ?_
            refine st_istore O dX7_run_161 rfl (q := 163) rfl ?_
            refine st_iload O dX7_run_163 rfl (q := 165) rfl ?_
            refine st_if_eq O dX7_run_165 (t := 172) rfl (q := 168) rfl (fun c165 => ?_) (fun c165 => ?_)
            · refine st_iconst O dX7_run_172 am_iconst_0 (q := 173) rfl ?_
              refine st_istore O dX7_run_173 rfl (q := 175) rfl ?_
              refine st_aloadn O dX7_run_175 rfl (q := 176) rfl ?_
              refine st_dup O dX7_run_176 (q := 177) rfl ?_
              refine st_geti O dX7_run_177 fl_X7_149 rfl rfl rfl rfl (q := 180) rfl ?_
              refine st_aloadn O dX7_run_180 rfl (q := 181) rfl ?_
              refine st_iload O dX7_run_181 rfl (q := 183) rfl ?_
              refine st_call O dX7_run_183 cs_X7_run_183 (q := 186) rfl (am_sipq rfl rfl rfl (Nat.le_of_ble_eq_true rfl) rfl (r := nI (scw wd (kd c))) ⟨c, _, _, _, _, _, _, _, _, _, _, _, wd, kA, kd c, rfl, by omega, hkc.1, hkc.2, rfl, rfl⟩ ?_)
              refine st_iload O dX7_run_186 rfl (q := 188) rfl ?_
              refine st_bipush O dX7_run_188 am_bipush_m9 (q := 190) rfl ?_
              refine st_icmp_eq O dX7_run_190 (t := 207) rfl (q := 193) rfl (fun c190 => ?_) (fun c190 => ?_)
              · refine st_iconst O dX7_run_207 am_iconst_0 (q := 208) rfl ?_
                refine st_iadd O dX7_run_208 (show nI (scw wd (kd c)) + nI 0 = nI (scw wd (kd c) + 0) from nI_add _ _) (q := 209) rfl ?_
                refine st_iadd O dX7_run_209 (show nI t + nI (scw wd (kd c) + 0) = nI (t + scw wd (kd c) + 0) by rw [nI_add, Nat.add_assoc]) (q := 210) rfl ?_
                refine st_puti O dX7_run_210 fl_X7_149 rfl rfl rfl rfl rfl (q := 213) rfl ?_
                refine st_iload O dX7_run_213 rfl (q := 215) rfl ?_
                refine st_bipush O dX7_run_215 am_bipush_m9 (q := 217) rfl ?_
                refine st_icmp_eq O dX7_run_217 (t := 237) rfl (q := 220) rfl (fun c217 => ?_) (fun c217 => ?_)
                · refine st_iload O dX7_run_237 rfl (q := 239) rfl ?_
                  refine st_iload O dX7_run_239 rfl (q := 241) rfl ?_
                  refine st_icmp_ne O dX7_run_241 (t := 251) rfl (q := 244) rfl (fun c241 => ?_) (fun c241 => ?_)
                  · refine st_iconst O dX7_run_251 am_iconst_1 (q := 252) rfl ?_
                    refine st_istore O dX7_run_252 rfl (q := 254) rfl ?_
                    refine st_aloadn O dX7_run_254 rfl (q := 255) rfl ?_
                    refine st_aloadn O dX7_run_255 rfl (q := 256) rfl ?_
                    refine st_geti O dX7_run_256 fl_X7_155 rfl rfl rfl rfl (q := 259) rfl ?_
                    refine st_iload O dX7_run_259 rfl (q := 261) rfl ?_
                    refine st_callS O dX7_run_261 cs_X7_run_261 (q := 264) rfl (am_sipq rfl rfl rfl (Nat.le_of_ble_eq_true rfl) rfl (r := nI (max lo 1)) ⟨_, _, rfl, (nI_max (by omega) (by omega)).symm⟩ ?_)
                    refine st_puti O dX7_run_264 fl_X7_155 rfl rfl rfl rfl rfl (q := 267) rfl ?_
                    refine st_aloadn O dX7_run_267 rfl (q := 268) rfl ?_
                    refine st_getr O dX7_run_268 fl_X7_49 rfl rfl rfl (q := 271) rfl ?_
                    refine st_iload O dX7_run_271 rfl (q := 273) rfl ?_
                    refine st_aloadn O dX7_run_273 rfl (q := 274) rfl ?_
                    refine st_geti O dX7_run_274 fl_X7_149 rfl rfl rfl rfl (q := 277) rfl ?_
                    refine sn_ast O dX7_run_277 rfl rfl rfl ⟨by omega, by decide⟩ rfl rfl (q := 278) rfl ?_
                    refine st_aloadn O dX7_run_278 rfl (q := 279) rfl ?_
                    refine st_getr O dX7_run_279 fl_X7_52 rfl rfl rfl (q := 282) rfl ?_
                    refine st_iload O dX7_run_282 rfl (q := 284) rfl ?_
                    refine st_aloadn O dX7_run_284 rfl (q := 285) rfl ?_
                    refine st_geti O dX7_run_285 fl_X7_146 rfl rfl rfl rfl (q := 288) rfl ?_
                    refine sn_ast O dX7_run_288 rfl rfl rfl ⟨by omega, by decide⟩ rfl rfl (q := 289) rfl ?_
                    refine st_aloadn O dX7_run_289 rfl (q := 290) rfl ?_
                    refine st_getr O dX7_run_290 fl_X7_46 rfl rfl rfl (q := 293) rfl ?_
                    refine st_aloadn O dX7_run_293 rfl (q := 294) rfl ?_
                    refine st_dup O dX7_run_294 (q := 295) rfl ?_
                    refine st_geti O dX7_run_295 fl_X7_146 rfl rfl rfl rfl (q := 298) rfl ?_
                    refine st_dup_x1 O dX7_run_298 (q := 299) rfl ?_
                    refine st_iconst O dX7_run_299 am_iconst_1 (q := 300) rfl ?_
                    refine st_iadd O dX7_run_300 (by first | exact nI_add _ _ | exact rfl) (q := 301) rfl ?_
                    refine st_puti O dX7_run_301 fl_X7_146 rfl rfl rfl rfl rfl (q := 304) rfl ?_
                    refine st_iload O dX7_run_304 rfl (q := 306) rfl ?_
                    refine sn_ast O dX7_run_306 rfl rfl rfl ⟨by omega, by decide⟩ rfl rfl (q := 307) rfl ?_
                    refine st_iload O dX7_run_307 rfl (q := 309) rfl ?_
                    refine st_istore O dX7_run_309 rfl (q := 311) rfl ?_
                    refine st_iload O dX7_run_311 rfl (q := 313) rfl ?_
                    refine st_istore O dX7_run_313 rfl (q := 315) rfl ?_
                    refine st_iload O dX7_run_315 rfl (q := 317) rfl ?_
                    refine st_if_eq O dX7_run_317 (t := 326) rfl (q := 320) rfl (fun c317 => ?_) (fun c317 => ?_)
                    · refine st_iinc O dX7_run_326 rfl (by first | exact am_ii1 _ | exact rfl) rfl (q := 329) rfl ?_
                      refine st_iconst O dX7_run_329 am_iconst_0 (q := 330) rfl ?_
                      refine st_istoren O dX7_run_330 rfl (q := 331) rfl ?_
                      refine st_aloadn O dX7_run_331 rfl (q := 332) rfl ?_
                      refine st_iconst O dX7_run_332 am_iconst_0 (q := 333) rfl ?_
                      refine st_iloadn O dX7_run_333 rfl (q := 334) rfl ?_
                      refine st_call O dX7_run_334 cs_X7_run_334 (q := 337) rfl (am_sipq rfl rfl rfl (Nat.le_of_ble_eq_true rfl) rfl (r := oI (Q 0)[i + 1]?) ⟨0, i + 1, n, _, Q, lA, pA, rfl, hL, by decide, by omega, rfl, rfl⟩ ?_)
                      refine st_istore O dX7_run_337 rfl (q := 339) rfl ?_
                      refine st_aloadn O dX7_run_339 rfl (q := 340) rfl ?_
                      refine st_iconst O dX7_run_340 am_iconst_1 (q := 341) rfl ?_
                      refine st_iloadn O dX7_run_341 rfl (q := 342) rfl ?_
                      refine st_call O dX7_run_342 cs_X7_run_342 (q := 345) rfl (am_sipq rfl rfl rfl (Nat.le_of_ble_eq_true rfl) rfl (r := oI (Q 1)[j]?) ⟨1, j, n, _, Q, lA, pA, rfl, hL, by decide, by omega, rfl, rfl⟩ ?_)
                      refine st_istore O dX7_run_345 rfl (q := 347) rfl ?_
                      refine st_goto O dX7_run_347 (t := 52) rfl ?_
                      have ih2 := ih (P ++ [(c, 0, t + scw wd (kd c) + 0)]) (i + 1) j 0 0 1 ch (max lo 1) (t + scw wd (kd c) + 0) pd' (some (.inl (bI pd'))) (some (.inl (bI false))) (some (.inl (nI c))) (some (.inl (nI 0))) (upd gA P.length (nI c)) (upd wA c (nI (t + scw wd (kd c) + 0))) (upd uA c (nI P.length)) (by omega) (by omega) (by omega) (by rw [List.length_append]; simp only [List.length_cons, List.length_nil]; omega) (by omega) (by omega) (by rw [List.length_append]; simp) (by rw [g8, List.append_assoc]; rfl) (pO_push (q := (c, 0, t + scw wd (kd c) + 0)) (S := _) g9 (by rw [g8] at hnd; exact hnd)) (by rw [tot_last]) (by rw [stt_p, g11]; rfl)
                      rw [List.length_append] at ih2
                      exact ih2
                    exact absurd c317 (by decide)
                  exact absurd c241 (by decide)
                exact absurd c217 (by decide)
              exact absurd c190 (by decide)
            exact absurd c165 (by decide)
          exact absurd c151 (by decide)
      rcases Nat.lt_or_ge j (Q 1).length with q1 | q1
      · have hl9 := hF _ (pl_gm q1)
        have hkl := (hk _ hl9).1
        have tailL := fun k' pd' y11 y12 => tailL k' pd' y11 y12 q1
        rw [ge_some q1] at tailL tailR ⊢
        rw [dr_cons q1] at tailL tailR
        rcases Nat.lt_or_ge i (Q 0).length with q2 | q2
        · have hr9 := hR _ (pl_gm q2)
          have hkr := hk _ hr9
          have hlt := lt_le (k := kd ((Q 0).getD i 0)) hkr.2.2 hb
          have tailR := fun k' pd' y11 y12 => tailR k' pd' y11 y12 q2
          rw [ge_some q2] at tailL tailR ⊢
          rw [dr_cons q2] at tailL tailR
          generalize (Q 0).getD i 0 = r at hr9 hkr hlt tailL tailR
          generalize (Q 1).getD j 0 = l at hl9 hkl tailL tailR
          by_cases q3 : k < lt (kd r) (fg r) b
          · have := tailL (k + 1) false y11 y12 (by simp only [dc]; exact if_pos q3)
            refine st_iload O dX7_run_52 rfl (q := 54) rfl ?_
            refine st_bipush O dX7_run_54 am_bipush_m9 (q := 56) rfl ?_
            refine st_icmp_ne O dX7_run_56 (t := 66) rfl (q := 59) rfl (fun c56 => ?_) (fun c56 => ?_)
            · refine st_iconst O dX7_run_66 am_iconst_0 (q := 67) rfl ?_
              refine st_istore O dX7_run_67 rfl (q := 69) rfl ?_
              refine st_iload O dX7_run_69 rfl (q := 71) rfl ?_
              refine st_bipush O dX7_run_71 am_bipush_m9 (q := 73) rfl ?_
              refine st_icmp_ne O dX7_run_73 (t := 80) rfl (q := 76) rfl (fun c73 => ?_) (fun c73 => ?_)
              · refine st_iconst O dX7_run_80 am_iconst_0 (q := 81) rfl ?_
                refine st_istore O dX7_run_81 rfl (q := 83) rfl ?_
                refine st_iload O dX7_run_83 rfl (q := 85) rfl ?_
                refine st_bipush O dX7_run_85 am_bipush_m9 (q := 87) rfl ?_
                refine st_icmp_eq O dX7_run_87 (t := 149) rfl (q := 90) rfl (fun c87 => ?_) (fun c87 => ?_)
                · exact absurd c87 (nn9 _ (by omega))
                refine st_iload O dX7_run_90 rfl (q := 92) rfl ?_
                refine st_bipush O dX7_run_92 am_bipush_m9 (q := 94) rfl ?_
                refine st_icmp_eq O dX7_run_94 (t := 149) rfl (q := 97) rfl (fun c94 => ?_) (fun c94 => ?_)
                · exact absurd c94 (nn9 _ (by omega))
                refine st_iloadn O dX7_run_97 rfl (q := 98) rfl ?_
                refine st_aloadn O dX7_run_98 rfl (q := 99) rfl ?_
                refine st_iload O dX7_run_99 rfl (q := 101) rfl ?_
                refine st_call O dX7_run_101 cs_X7_run_101 (q := 104) rfl (am_sipq rfl rfl rfl (Nat.le_of_ble_eq_true rfl) rfl (r := nI (lt (kd r) (fg r) b)) ⟨r, n, b, _, kA, fA, kd r, fg r, rfl, by omega, hkr.1.1, hkr.1.2, hkr.2.1, hb, rfl, rfl⟩ ?_)
                refine sn_icmp_ge O dX7_run_104 (t := 116) rfl (q := 107) rfl (by omega) (by omega) (fun c104 => ?_) (fun c104 => ?_)
                · omega
                refine st_iinc O dX7_run_107 rfl (by first | exact am_ii1 _ | exact rfl) rfl (q := 110) rfl ?_
                refine st_iconst O dX7_run_110 am_iconst_1 (q := 111) rfl ?_
                refine st_istore O dX7_run_111 rfl (q := 113) rfl ?_
                refine st_goto O dX7_run_113 (t := 149) rfl ?_
                exact this
              exact absurd c73 (nn9 _ (by omega))
            exact absurd c56 (nn9 _ (by omega))
          · by_cases q4 : z = 1 ∧ pd = false ∧ kd l = 2
            · have := tailL k true y11 y12 (by simp only [dc]; exact (if_neg q3).trans (if_pos ⟨q4.1, q4.2.1, decide_eq_true q4.2.2⟩))
              obtain ⟨q5, q6, q7⟩ := q4
              subst q5
              subst q6
              refine st_iload O dX7_run_52 rfl (q := 54) rfl ?_
              refine st_bipush O dX7_run_54 am_bipush_m9 (q := 56) rfl ?_
              refine st_icmp_ne O dX7_run_56 (t := 66) rfl (q := 59) rfl (fun c56 => ?_) (fun c56 => ?_)
              · refine st_iconst O dX7_run_66 am_iconst_0 (q := 67) rfl ?_
                refine st_istore O dX7_run_67 rfl (q := 69) rfl ?_
                refine st_iload O dX7_run_69 rfl (q := 71) rfl ?_
                refine st_bipush O dX7_run_71 am_bipush_m9 (q := 73) rfl ?_
                refine st_icmp_ne O dX7_run_73 (t := 80) rfl (q := 76) rfl (fun c73 => ?_) (fun c73 => ?_)
                · refine st_iconst O dX7_run_80 am_iconst_0 (q := 81) rfl ?_
                  refine st_istore O dX7_run_81 rfl (q := 83) rfl ?_
                  refine st_iload O dX7_run_83 rfl (q := 85) rfl ?_
                  refine st_bipush O dX7_run_85 am_bipush_m9 (q := 87) rfl ?_
                  refine st_icmp_eq O dX7_run_87 (t := 149) rfl (q := 90) rfl (fun c87 => ?_) (fun c87 => ?_)
                  · exact absurd c87 (nn9 _ (by omega))
                  refine st_iload O dX7_run_90 rfl (q := 92) rfl ?_
                  refine st_bipush O dX7_run_92 am_bipush_m9 (q := 94) rfl ?_
                  refine st_icmp_eq O dX7_run_94 (t := 149) rfl (q := 97) rfl (fun c94 => ?_) (fun c94 => ?_)
                  · exact absurd c94 (nn9 _ (by omega))
                  refine st_iloadn O dX7_run_97 rfl (q := 98) rfl ?_
                  refine st_aloadn O dX7_run_98 rfl (q := 99) rfl ?_
                  refine st_iload O dX7_run_99 rfl (q := 101) rfl ?_
                  refine st_call O dX7_run_101 cs_X7_run_101 (q := 104) rfl (am_sipq rfl rfl rfl (Nat.le_of_ble_eq_true rfl) rfl (r := nI (lt (kd r) (fg r) b)) ⟨r, n, b, _, kA, fA, kd r, fg r, rfl, by omega, hkr.1.1, hkr.1.2, hkr.2.1, hb, rfl, rfl⟩ ?_)
                  refine sn_icmp_ge O dX7_run_104 (t := 116) rfl (q := 107) rfl (by omega) (by omega) (fun c104 => ?_) (fun c104 => ?_)
                  · refine st_aloadn O dX7_run_116 rfl (q := 117) rfl ?_
                    refine st_getr O dX7_run_117 fl_X7_7 rfl rfl rfl (q := 120) rfl ?_
                    refine st_iload O dX7_run_120 rfl (q := 122) rfl ?_
                    refine sn_ald O dX7_run_122 rfl rfl rfl ⟨by omega, by decide⟩ hkl.1 (q := 123) rfl ?_
                    refine st_iconst O dX7_run_123 am_iconst_2 (q := 124) rfl ?_
                    refine sn_icmp_ne O dX7_run_124 (t := 142) rfl (q := 127) rfl (by omega) (by omega) (fun c124 => ?_) (fun c124 => ?_)
                    · exact absurd q7 c124
                    refine st_iload O dX7_run_127 rfl (q := 129) rfl ?_
                    refine st_iconst O dX7_run_129 am_iconst_1 (q := 130) rfl ?_
                    refine st_icmp_ne O dX7_run_130 (t := 142) rfl (q := 133) rfl (fun c130 => ?_) (fun c130 => ?_)
                    · exact absurd c130 (by decide)
                    refine st_iload O dX7_run_133 rfl (q := 135) rfl ?_
                    refine st_if_ne O dX7_run_135 (t := 142) rfl (q := 138) rfl (fun c135 => ?_) (fun c135 => ?_)
                    · exact absurd c135 (by decide)
                    refine st_iconst O dX7_run_138 am_iconst_1 (q := 139) rfl ?_
                    refine st_goto O dX7_run_139 (t := 143) rfl ?_
                    refine st_istore O dX7_run_143 rfl (q := 145) rfl ?_
                    refine st_iload O dX7_run_145 rfl (q := 147) rfl ?_
                    refine st_istore O dX7_run_147 rfl (q := 149) rfl ?_
                    exact this
                  omega
                exact absurd c73 (nn9 _ (by omega))
              exact absurd c56 (nn9 _ (by omega))
            · have := tailR k false y11 y12 (by simp only [dc]; exact (if_neg q3).trans (if_neg (fun z => q4 ⟨z.1, z.2.1, of_decide_eq_true z.2.2⟩)))
              refine st_iload O dX7_run_52 rfl (q := 54) rfl ?_
              refine st_bipush O dX7_run_54 am_bipush_m9 (q := 56) rfl ?_
              refine st_icmp_ne O dX7_run_56 (t := 66) rfl (q := 59) rfl (fun c56 => ?_) (fun c56 => ?_)
              · refine st_iconst O dX7_run_66 am_iconst_0 (q := 67) rfl ?_
                refine st_istore O dX7_run_67 rfl (q := 69) rfl ?_
                refine st_iload O dX7_run_69 rfl (q := 71) rfl ?_
                refine st_bipush O dX7_run_71 am_bipush_m9 (q := 73) rfl ?_
                refine st_icmp_ne O dX7_run_73 (t := 80) rfl (q := 76) rfl (fun c73 => ?_) (fun c73 => ?_)
                · refine st_iconst O dX7_run_80 am_iconst_0 (q := 81) rfl ?_
                  refine st_istore O dX7_run_81 rfl (q := 83) rfl ?_
                  refine st_iload O dX7_run_83 rfl (q := 85) rfl ?_
                  refine st_bipush O dX7_run_85 am_bipush_m9 (q := 87) rfl ?_
                  refine st_icmp_eq O dX7_run_87 (t := 149) rfl (q := 90) rfl (fun c87 => ?_) (fun c87 => ?_)
                  · exact absurd c87 (nn9 _ (by omega))
                  refine st_iload O dX7_run_90 rfl (q := 92) rfl ?_
                  refine st_bipush O dX7_run_92 am_bipush_m9 (q := 94) rfl ?_
                  refine st_icmp_eq O dX7_run_94 (t := 149) rfl (q := 97) rfl (fun c94 => ?_) (fun c94 => ?_)
                  · exact absurd c94 (nn9 _ (by omega))
                  refine st_iloadn O dX7_run_97 rfl (q := 98) rfl ?_
                  refine st_aloadn O dX7_run_98 rfl (q := 99) rfl ?_
                  refine st_iload O dX7_run_99 rfl (q := 101) rfl ?_
                  refine st_call O dX7_run_101 cs_X7_run_101 (q := 104) rfl (am_sipq rfl rfl rfl (Nat.le_of_ble_eq_true rfl) rfl (r := nI (lt (kd r) (fg r) b)) ⟨r, n, b, _, kA, fA, kd r, fg r, rfl, by omega, hkr.1.1, hkr.1.2, hkr.2.1, hb, rfl, rfl⟩ ?_)
                  refine sn_icmp_ge O dX7_run_104 (t := 116) rfl (q := 107) rfl (by omega) (by omega) (fun c104 => ?_) (fun c104 => ?_)
                  · refine st_aloadn O dX7_run_116 rfl (q := 117) rfl ?_
                    refine st_getr O dX7_run_117 fl_X7_7 rfl rfl rfl (q := 120) rfl ?_
                    refine st_iload O dX7_run_120 rfl (q := 122) rfl ?_
                    refine sn_ald O dX7_run_122 rfl rfl rfl ⟨by omega, by decide⟩ hkl.1 (q := 123) rfl ?_
                    refine st_iconst O dX7_run_123 am_iconst_2 (q := 124) rfl ?_
                    refine sn_icmp_ne O dX7_run_124 (t := 142) rfl (q := 127) rfl (by omega) (by omega) (fun c124 => ?_) (fun c124 => ?_)
                    · refine st_iconst O dX7_run_142 am_iconst_0 (q := 143) rfl ?_
                      refine st_istore O dX7_run_143 rfl (q := 145) rfl ?_
                      refine st_iload O dX7_run_145 rfl (q := 147) rfl ?_
                      refine st_istore O dX7_run_147 rfl (q := 149) rfl ?_
                      exact this
                    refine st_iload O dX7_run_127 rfl (q := 129) rfl ?_
                    refine st_iconst O dX7_run_129 am_iconst_1 (q := 130) rfl ?_
                    refine st_icmp_ne O dX7_run_130 (t := 142) rfl (q := 133) rfl (fun c130 => ?_) (fun c130 => ?_)
                    · refine st_iconst O dX7_run_142 am_iconst_0 (q := 143) rfl ?_
                      refine st_istore O dX7_run_143 rfl (q := 145) rfl ?_
                      refine st_iload O dX7_run_145 rfl (q := 147) rfl ?_
                      refine st_istore O dX7_run_147 rfl (q := 149) rfl ?_
                      exact this
                    refine st_iload O dX7_run_133 rfl (q := 135) rfl ?_
                    refine st_if_ne O dX7_run_135 (t := 142) rfl (q := 138) rfl (fun c135 => ?_) (fun c135 => ?_)
                    · refine st_iconst O dX7_run_142 am_iconst_0 (q := 143) rfl ?_
                      refine st_istore O dX7_run_143 rfl (q := 145) rfl ?_
                      refine st_iload O dX7_run_145 rfl (q := 147) rfl ?_
                      refine st_istore O dX7_run_147 rfl (q := 149) rfl ?_
                      exact this
                    exact absurd ⟨lm1 g6 (by first | exact c130 | exact Decidable.of_not_not c130), bI0 (by first | exact c135 | exact Decidable.of_not_not c135), c124⟩ q4
                  omega
                exact absurd c73 (nn9 _ (by omega))
              exact absurd c56 (nn9 _ (by omega))
        · have := tailL k false y11 y12 (by rw [dr_nil q2]; rfl)
          rw [ge_none q2] at this ⊢
          generalize (Q 1).getD j 0 = l at hl9 this
          refine st_iload O dX7_run_52 rfl (q := 54) rfl ?_
          refine st_bipush O dX7_run_54 am_bipush_m9 (q := 56) rfl ?_
          refine st_icmp_ne O dX7_run_56 (t := 66) rfl (q := 59) rfl (fun c56 => ?_) (fun c56 => ?_)
          · exact absurd c56 (by decide)
          refine st_iload O dX7_run_59 rfl (q := 61) rfl ?_
          refine st_bipush O dX7_run_61 am_bipush_m9 (q := 63) rfl ?_
          refine st_icmp_eq O dX7_run_63 (t := 350) rfl (q := 66) rfl (fun c63 => ?_) (fun c63 => ?_)
          · exact absurd c63 (nn9 _ (by omega))
          refine st_iconst O dX7_run_66 am_iconst_0 (q := 67) rfl ?_
          refine st_istore O dX7_run_67 rfl (q := 69) rfl ?_
          refine st_iload O dX7_run_69 rfl (q := 71) rfl ?_
          refine st_bipush O dX7_run_71 am_bipush_m9 (q := 73) rfl ?_
          refine st_icmp_ne O dX7_run_73 (t := 80) rfl (q := 76) rfl (fun c73 => ?_) (fun c73 => ?_)
          · exact absurd c73 (by decide)
          refine st_iconst O dX7_run_76 am_iconst_1 (q := 77) rfl ?_
          refine st_goto O dX7_run_77 (t := 81) rfl ?_
          refine st_istore O dX7_run_81 rfl (q := 83) rfl ?_
          refine st_iload O dX7_run_83 rfl (q := 85) rfl ?_
          refine st_bipush O dX7_run_85 am_bipush_m9 (q := 87) rfl ?_
          refine st_icmp_eq O dX7_run_87 (t := 149) rfl (q := 90) rfl (fun c87 => ?_) (fun c87 => ?_)
          · exact this
          exact absurd c87 (by decide)
      · have q2 : i < (Q 0).length := by omega
        have hr9 := hR _ (pl_gm q2)
        have := tailR k false y11 y12 q2 (by rw [dr_nil q1]; unfold dc; split <;> first | rfl | contradiction)
        rw [ge_none q1, ge_some q2] at this ⊢
        generalize (Q 0).getD i 0 = r at hr9 this
        refine st_iload O dX7_run_52 rfl (q := 54) rfl ?_
        refine st_bipush O dX7_run_54 am_bipush_m9 (q := 56) rfl ?_
        refine st_icmp_ne O dX7_run_56 (t := 66) rfl (q := 59) rfl (fun c56 => ?_) (fun c56 => ?_)
        · refine st_iconst O dX7_run_66 am_iconst_0 (q := 67) rfl ?_
          refine st_istore O dX7_run_67 rfl (q := 69) rfl ?_
          refine st_iload O dX7_run_69 rfl (q := 71) rfl ?_
          refine st_bipush O dX7_run_71 am_bipush_m9 (q := 73) rfl ?_
          refine st_icmp_ne O dX7_run_73 (t := 80) rfl (q := 76) rfl (fun c73 => ?_) (fun c73 => ?_)
          · refine st_iconst O dX7_run_80 am_iconst_0 (q := 81) rfl ?_
            refine st_istore O dX7_run_81 rfl (q := 83) rfl ?_
            refine st_iload O dX7_run_83 rfl (q := 85) rfl ?_
            refine st_bipush O dX7_run_85 am_bipush_m9 (q := 87) rfl ?_
            refine st_icmp_eq O dX7_run_87 (t := 149) rfl (q := 90) rfl (fun c87 => ?_) (fun c87 => ?_)
            · exact absurd c87 (nn9 _ (by omega))
            refine st_iload O dX7_run_90 rfl (q := 92) rfl ?_
            refine st_bipush O dX7_run_92 am_bipush_m9 (q := 94) rfl ?_
            refine st_icmp_eq O dX7_run_94 (t := 149) rfl (q := 97) rfl (fun c94 => ?_) (fun c94 => ?_)
            · exact this
            exact absurd c94 (by decide)
          exact absurd c73 (nn9 _ (by omega))
        exact absurd c56 (nn9 _ (by omega))
  refine am_begin rfl ?_
  refine st_iconst O dX7_run_0 am_iconst_0 (q := 1) rfl ?_
  refine st_istoren O dX7_run_1 rfl (q := 2) rfl ?_
  refine st_iconst O dX7_run_2 am_iconst_0 (q := 3) rfl ?_
  refine st_istoren O dX7_run_3 rfl (q := 4) rfl ?_
  refine st_iconst O dX7_run_4 am_iconst_0 (q := 5) rfl ?_
  refine st_istoren O dX7_run_5 rfl (q := 6) rfl ?_
  refine st_bipush O dX7_run_6 am_bipush_m9 (q := 8) rfl ?_
  refine st_istore O dX7_run_8 rfl (q := 10) rfl ?_
  refine st_iconst O dX7_run_10 am_iconst_0 (q := 11) rfl ?_
  refine st_istore O dX7_run_11 rfl (q := 13) rfl ?_
  refine st_iconst O dX7_run_13 am_iconst_0 (q := 14) rfl ?_
  refine st_istore O dX7_run_14 rfl (q := 16) rfl ?_
  refine st_aloadn O dX7_run_16 rfl (q := 17) rfl ?_
  refine st_iconst O dX7_run_17 am_iconst_0 (q := 18) rfl ?_
  refine st_puti O dX7_run_18 fl_X7_146 rfl rfl rfl rfl rfl (q := 21) rfl ?_
  refine st_aloadn O dX7_run_21 rfl (q := 22) rfl ?_
  refine st_iconst O dX7_run_22 am_iconst_0 (q := 23) rfl ?_
  refine st_puti O dX7_run_23 fl_X7_149 rfl rfl rfl rfl rfl (q := 26) rfl ?_
  refine st_aloadn O dX7_run_26 rfl (q := 27) rfl ?_
  refine st_iconst O dX7_run_27 am_iconst_0 (q := 28) rfl ?_
  refine st_puti O dX7_run_28 fl_X7_152 rfl rfl rfl rfl rfl (q := 31) rfl ?_
  refine st_aloadn O dX7_run_31 rfl (q := 32) rfl ?_
  refine st_iconst O dX7_run_32 am_iconst_0 (q := 33) rfl ?_
  refine st_puti O dX7_run_33 fl_X7_155 rfl rfl rfl rfl rfl (q := 36) rfl ?_
  refine st_aloadn O dX7_run_36 rfl (q := 37) rfl ?_
  refine st_iconst O dX7_run_37 am_iconst_0 (q := 38) rfl ?_
  refine st_iloadn O dX7_run_38 rfl (q := 39) rfl ?_
  refine st_call O dX7_run_39 cs_X7_run_39 (q := 42) rfl (am_sipq rfl rfl rfl (Nat.le_of_ble_eq_true rfl) rfl (r := oI (Q 0)[0]?) ⟨0, 0, n, _, Q, lA, pA, rfl, hL, by decide, by decide, rfl, rfl⟩ ?_)
  refine st_istore O dX7_run_42 rfl (q := 44) rfl ?_
  refine st_aloadn O dX7_run_44 rfl (q := 45) rfl ?_
  refine st_iconst O dX7_run_45 am_iconst_1 (q := 46) rfl ?_
  refine st_iloadn O dX7_run_46 rfl (q := 47) rfl ?_
  refine st_call O dX7_run_47 cs_X7_run_47 (q := 50) rfl (am_sipq rfl rfl rfl (Nat.le_of_ble_eq_true rfl) rfl (r := oI (Q 1)[0]?) ⟨1, 0, n, _, Q, lA, pA, rfl, hL, by decide, by decide, rfl, rfl⟩ ?_)
  refine st_istore O dX7_run_50 rfl (q := 52) rfl ?_
  exact loop _ [] 0 0 0 2 0 0 0 0 false _ _ _ _ gA wA uA rfl (Nat.zero_le _) (Nat.zero_le _) rfl (Nat.le_refl _) (by omega) (by simp) rfl (fun i q h => by simp at h) rfl rfl
theorem C_X7_run : am_ctr yX7_run cX7_run 13 none 2 43 sh_MR [some 0] T_X7_run := am_mk (by decide) (Or.inl ⟨rfl, rfl⟩) (by decide) (by decide) (by decide) fl_X7_ok kc_X7_ok ck_X7_run B_X7_run
