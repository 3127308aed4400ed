/-! bounds of seconds and cost -/
theorem sc_le (k : Nat) : sc k ≤ 4 ∧ 1 ≤ sc k := by
  unfold sc
  split
  · omega
  · split
    · omega
    · split <;> omega
theorem sg_bd {le se : Nat → Nat} {pu : Nat → Bool} {w : Nat} (hse : ∀ c, se c ≤ 4) : ∀ (n : Nat) (r l : List Nat) (k la : Nat) (pd : Bool) (t : Nat), ∀ q ∈ sg le se pu w n r l k la pd t, q.2.2 ≤ t + n * (4 + w)
  | 0, r, l, k, la, pd, t, q, h => by cases h
  | n + 1, r, l, k, la, pd, t, q, h => by
    have key : ∀ (c z : Nat), t + se c + (if la = z then w else 0) ≤ t + (4 + w) := by
      intro c z
      have := hse c
      split <;> omega
    have e1 : (n + 1) * (4 + w) = n * (4 + w) + (4 + w) := Nat.succ_mul _ _
    rcases hd : dc le pu r l k la pd with ⟨b, k', pd'⟩
    cases b with
    | true =>
      obtain ⟨c, l', rfl⟩ := dc_true hd
      rw [sg_L hd] at h
      have hk := key c 0
      rcases List.mem_cons.mp h with rfl | h
      · show t + se c + (if la = 0 then w else 0) ≤ _
        omega
      · have := sg_bd hse n _ _ _ _ _ _ q h
        omega
    | false =>
      cases r with
      | nil => rw [sg, hd] at h; cases h
      | cons c r' =>
        rw [sg_R hd] at h
        have hk := key c 1
        rcases List.mem_cons.mp h with rfl | h
        · show t + se c + (if la = 1 then w else 0) ≤ _
          omega
        · have := sg_bd hse n _ _ _ _ _ _ q h
          omega
theorem sim_bd {b w : Nat} {kd fg : Nat → Nat} {Q0 Q1 : List Nat} (hw : w ≤ 9) (hl : Q0.length + Q1.length ≤ 9) : ∀ q ∈ sim b w kd fg Q0 Q1, q.2.2 ≤ 117 := by
  intro q hq
  have h := sg_bd (fun c => (sc_le (kd c)).1) _ _ _ _ _ _ _ q hq
  have h2 : (Q0.length + Q1.length) * (4 + w) ≤ 9 * 13 := Nat.mul_le_mul hl (by omega)
  omega
theorem tot_le {L : List (Nat × Nat × Nat)} {B : Nat} (h : ∀ q ∈ L, q.2.2 ≤ B) : tot L ≤ B := by
  unfold tot
  cases hl : L.getLast? with
  | none => exact Nat.zero_le _
  | some q => exact h q (List.mem_of_getLast? hl)
theorem sm_le {f : Nat → Nat} {B : Nat} : ∀ (m : Nat), (∀ i, i < m → f i ≤ B) → sm f m ≤ m * B
  | 0, _ => by rw [Nat.zero_mul]; exact Nat.le_refl 0
  | m + 1, h => by
    have h1 := sm_le m (fun i hi => h i (by omega))
    have h2 := h m (by omega)
    rw [Nat.succ_mul]
    show sm f m + f m ≤ _
    omega
theorem cst_le {L : List (Nat × Nat × Nat)} {hu : Nat → Nat} {n : Nat} (hl : L.length ≤ 9) (h : ∀ q ∈ L, q.2.2 ≤ 117 ∧ q.1 < n) (hh : ∀ c, c < n → hu c ≤ 20) : cst hu L ≤ 30000 := by
  have h1 : cst hu L ≤ L.length * 2340 := sm_le _ (fun i hi => by
    have h2 := h _ (L_mem hi)
    have h3 := hh _ h2.2
    have := Nat.mul_le_mul h2.1 h3
    exact this)
  have : L.length * 2340 ≤ 9 * 2340 := Nat.mul_le_mul_right _ hl
  omega
/-- seconds and cost of a road without the cars of bits a -/
abbrev simA (b w : Nat) (kd fg la : Nat → Nat) (li : List Nat) (a : Nat) : List (Nat × Nat × Nat) := sim b w kd fg (qu la li 0 a) (qu la li 1 a)
theorem simA_bd {n b w : Nat} {kd fg la hu : Nat → Nat} {li : List Nat} (hn : n ≤ 9) (hw : w ≤ 9) (hh : ∀ c, c < n → hu c ≤ 20) (hp : li.Perm (List.range n)) (a : Nat) : tot (simA b w kd fg la li a) ≤ 117 ∧ cst hu (simA b w kd fg la li a) ≤ 30000 := by
  have hs := qu_sum (la := la) (a := a) hp
  have hb := sim_bd (b := b) (kd := kd) (fg := fg) hw (Nat.le_trans hs hn)
  have ho := sim_ok (b := b) (w := w) (a := a) (kd := kd) (fg := fg) (la := la) hn hp
  exact ⟨tot_le hb, cst_le ho.1 (fun q hq => ⟨hb q hq, (ho.2.2 q hq).1⟩) hh⟩
/-! Changes -/
def cs_X0_costOf : Nat → List am_V → am_D → am_K → Prop := am_cs [(6, am_site 3 [some 0, some 6, none] T_X3_drive [1, 2, 3, 4, 5, 6, 7, 8, 9, 10, 11, 12] [1, 2, 3, 4, 5, 6, 7, 8, 9, 10, 11, 12]), (14, am_site 2 [some 0, some 6] T_X3_cost [1, 2, 3, 4, 5, 6, 7, 8, 9, 10, 11, 12] [1, 2, 3, 4, 5, 6, 7, 8, 9, 10, 11, 12])]
theorem cs_X0_costOf_6 : cs_X0_costOf 6 = am_site 3 [some 0, some 6, none] T_X3_drive [1, 2, 3, 4, 5, 6, 7, 8, 9, 10, 11, 12] [1, 2, 3, 4, 5, 6, 7, 8, 9, 10, 11, 12] := rfl
theorem cs_X0_costOf_14 : cs_X0_costOf 14 = am_site 2 [some 0, some 6] T_X3_cost [1, 2, 3, 4, 5, 6, 7, 8, 9, 10, 11, 12] [1, 2, 3, 4, 5, 6, 7, 8, 9, 10, 11, 12] := rfl
theorem ck_X0_costOf : ∀ X : am_X, am_cx X RX0 cX0_costOf 2 4 91 → ∀ pc, am_csok X 2 sh_CPR pc (cs_X0_costOf pc) := fun X hX => am_cs_ok (List.forall_mem_cons.mpr ⟨am_callV hX C_X3_drive mo_X3_drive rfl lk_X0_25 dX0_costOf_6 rfl rfl rfl (by decide), List.forall_mem_cons.mpr ⟨am_callV hX C_X3_cost mo_X3_cost rfl lk_X0_29 dX0_costOf_14 rfl rfl rfl (by decide), fun _ h => absurd h List.not_mem_nil⟩⟩)
abbrev ok_X0_costOf (X : am_X) (K : List Int32 → am_D → Prop) : Prop := am_ok X RX0 cX0_costOf 2 sh_CPR fl_X0 kc_X0 none 1 cs_X0_costOf K
abbrev aw_X0_costOf (X : am_X) (pc : Nat) (ls : am_L) (st : List am_V) (D : am_D) : Prop := am_aw X 2 sh_CPR pc ls st D
abbrev T_X0_costOf : am_TT := fun is D K => ∃ n b w kd fg la hu li dp dr, is = [] ∧ D = .inl [] :: (dp ++ dr) ∧ pF dp ∧ rA n b w kd fg la hu li dr ∧ ∀ dp', pF dp' → K [nI (cst hu (simA b w kd fg la li 0))] (.inl [] :: (dp' ++ dr))
theorem B_X0_costOf : ∀ (X : am_X) (is : List Int32) (D : am_D) (K : List Int32 → am_D → Prop), ok_X0_costOf X K → T_X0_costOf is D K → is.length = (List.filter Option.isNone ([some 0, some 7] : List (Option Nat))).length → D.length = sh_CPR.length → am_aw X 2 sh_CPR 0 (am_l0 2 [some 0, some 7] is) [] D := by
  intro X is D K O hT _ _
  obtain ⟨n, b, w, kd, fg, la, hu, li, dp, dr, rfl, rfl, hF, hR, hK⟩ := hT
  obtain ⟨kk, ff, ll, hh, ii, rfl, hn, hb, hw, hj, hp, hi⟩ := id hR
  have hF' := hF
  obtain ⟨i0, i1, i2, i3, i4, i5, i6, i7, i8, o, wt, tn, r0, l0, rfl⟩ := hF
  refine am_begin rfl ?_
  refine st_aloadn O dX0_costOf_0 rfl (q := 1) rfl ?_
  refine st_getr O dX0_costOf_1 fl_X0_21 rfl rfl rfl (q := 4) rfl ?_
  refine st_aloadn O dX0_costOf_4 rfl (q := 5) rfl ?_
  refine st_iconst O dX0_costOf_5 am_iconst_0 (q := 6) rfl ?_
  refine st_call O dX0_costOf_6 cs_X0_costOf_6 (q := 9) rfl (am_si rfl rfl rfl (Nat.le_of_ble_eq_true rfl) rfl ?_)
  refine ⟨n, b, w, kd, fg, la, hu, li, _, _, 0, rfl, by omega, (by exact rfl), hF', hR, fun d hd => ?_⟩
  have hK := hK d hd.form
  obtain ⟨j2, j3, j4, j5, j6, j7, j8, o, wt, tn, rr, l, rfl, hO⟩ := id hd
  refine am_norm rfl rfl ?_
  refine st_aloadn O dX0_costOf_9 rfl (q := 10) rfl ?_
  refine st_getr O dX0_costOf_10 fl_X0_21 rfl rfl rfl (q := 13) rfl ?_
  refine st_aloadn O dX0_costOf_13 rfl (q := 14) rfl ?_
  refine st_call O dX0_costOf_14 cs_X0_costOf_14 (q := 17) rfl (am_sip rfl rfl rfl (Nat.le_of_ble_eq_true rfl) rfl (r := nI (cst hu (simA b w kd fg la li 0))) ⟨_, n, b, w, kd, fg, la, hu, li, _, _, (by exact rfl), hd, hR, sim_ok hn hp, rfl, rfl⟩ ?_)
  refine st_ireturn O dX0_costOf_17 ?_
  exact hK
theorem C_X0_costOf : am_ctr yX0_costOf cX0_costOf 2 (some .int) 4 91 sh_CPR [some 0, some 7] T_X0_costOf := am_mk (by decide) (Or.inr (Or.inl ⟨rfl, rfl⟩)) (by decide) (by decide) (by decide) fl_X0_ok kc_X0_ok ck_X0_costOf B_X0_costOf
def cs_X0_measured : Nat → List am_V → am_D → am_K → Prop := am_cs [(6, am_site 3 [some 0, some 6, none] T_X3_drive [1, 2, 3, 4, 5, 6, 7, 8, 9, 10, 11, 12] [1, 2, 3, 4, 5, 6, 7, 8, 9, 10, 11, 12]), (18, am_site 2 [some 0, some 6] T_X3_cost [1, 2, 3, 4, 5, 6, 7, 8, 9, 10, 11, 12] [1, 2, 3, 4, 5, 6, 7, 8, 9, 10, 11, 12])]
theorem cs_X0_measured_6 : cs_X0_measured 6 = am_site 3 [some 0, some 6, none] T_X3_drive [1, 2, 3, 4, 5, 6, 7, 8, 9, 10, 11, 12] [1, 2, 3, 4, 5, 6, 7, 8, 9, 10, 11, 12] := rfl
theorem cs_X0_measured_18 : cs_X0_measured 18 = am_site 2 [some 0, some 6] T_X3_cost [1, 2, 3, 4, 5, 6, 7, 8, 9, 10, 11, 12] [1, 2, 3, 4, 5, 6, 7, 8, 9, 10, 11, 12] := rfl
theorem ck_X0_measured : ∀ X : am_X, am_cx X RX0 cX0_measured 3 4 91 → ∀ pc, am_csok X 3 sh_CPR pc (cs_X0_measured pc) := fun X hX => am_cs_ok (List.forall_mem_cons.mpr ⟨am_callV hX C_X3_drive mo_X3_drive rfl lk_X0_25 dX0_measured_6 rfl rfl rfl (by decide), List.forall_mem_cons.mpr ⟨am_callV hX C_X3_cost mo_X3_cost rfl lk_X0_29 dX0_measured_18 rfl rfl rfl (by decide), fun _ h => absurd h List.not_mem_nil⟩⟩)
abbrev ok_X0_measured (X : am_X) (K : List Int32 → am_D → Prop) : Prop := am_ok X RX0 cX0_measured 3 sh_CPR fl_X0 kc_X0 none 1 cs_X0_measured K
abbrev aw_X0_measured (X : am_X) (pc : Nat) (ls : am_L) (st : List am_V) (D : am_D) : Prop := am_aw X 3 sh_CPR pc ls st D
abbrev T_X0_measured : am_TT := fun is D K => ∃ n b w kd fg la hu li dp dr m, is = [bI m] ∧ D = .inl [] :: (dp ++ dr) ∧ pF dp ∧ rA n b w kd fg la hu li dr ∧ ∀ dp', pF dp' → K [nI (if m then cst hu (simA b w kd fg la li 0) else tot (simA b w kd fg la li 0))] (.inl [] :: (dp' ++ dr))
theorem B_X0_measured : ∀ (X : am_X) (is : List Int32) (D : am_D) (K : List Int32 → am_D → Prop), ok_X0_measured X K → T_X0_measured is D K → is.length = (List.filter Option.isNone ([some 0, some 7, none] : List (Option Nat))).length → D.length = sh_CPR.length → am_aw X 3 sh_CPR 0 (am_l0 3 [some 0, some 7, none] is) [] D := by
  intro X is D K O hT _ _
  obtain ⟨n, b, w, kd, fg, la, hu, li, dp, dr, m, rfl, rfl, hF, hR, hK⟩ := hT
  obtain ⟨kk, ff, ll, hh, ii, rfl, hn, hb, hw, hj, hp, hi⟩ := id hR
  have hF' := hF
  obtain ⟨i0, i1, i2, i3, i4, i5, i6, i7, i8, o, wt, tn, r0, l0, rfl⟩ := hF
  cases m with
  | true =>
    refine am_begin rfl ?_
    refine st_aloadn O dX0_measured_0 rfl (q := 1) rfl ?_
    refine st_getr O dX0_measured_1 fl_X0_21 rfl rfl rfl (q := 4) rfl ?_
    refine st_aloadn O dX0_measured_4 rfl (q := 5) rfl ?_
    refine st_iconst O dX0_measured_5 am_iconst_0 (q := 6) rfl ?_
    refine st_call O dX0_measured_6 cs_X0_measured_6 (q := 9) rfl (am_si rfl rfl rfl (Nat.le_of_ble_eq_true rfl) rfl ?_)
    refine ⟨n, b, w, kd, fg, la, hu, li, _, _, 0, rfl, by omega, (by exact rfl), hF', hR, fun d hd => ?_⟩
    have hK := hK d hd.form
    obtain ⟨j2, j3, j4, j5, j6, j7, j8, o, wt, tn, rr, l, rfl, hO⟩ := id hd
    refine am_norm rfl rfl ?_
    refine st_iloadn O dX0_measured_9 rfl (q := 10) rfl ?_
    refine st_if_eq O dX0_measured_10 (t := 24) rfl (q := 13) rfl (fun c10 => ?_) (fun c10 => ?_)
    · exact absurd c10 (by decide)
    refine st_aloadn O dX0_measured_13 rfl (q := 14) rfl ?_
    refine st_getr O dX0_measured_14 fl_X0_21 rfl rfl rfl (q := 17) rfl ?_
    refine st_aloadn O dX0_measured_17 rfl (q := 18) rfl ?_
    refine st_call O dX0_measured_18 cs_X0_measured_18 (q := 21) rfl (am_sip rfl rfl rfl (Nat.le_of_ble_eq_true rfl) rfl (r := nI (cst hu (simA b w kd fg la li 0))) ⟨_, n, b, w, kd, fg, la, hu, li, _, _, (by exact rfl), hd, hR, sim_ok hn hp, rfl, rfl⟩ ?_)
    refine st_goto O dX0_measured_21 (t := 31) rfl ?_
    refine st_ireturn O dX0_measured_31 ?_
    exact hK
  | false =>
    refine am_begin rfl ?_
    refine st_aloadn O dX0_measured_0 rfl (q := 1) rfl ?_
    refine st_getr O dX0_measured_1 fl_X0_21 rfl rfl rfl (q := 4) rfl ?_
    refine st_aloadn O dX0_measured_4 rfl (q := 5) rfl ?_
    refine st_iconst O dX0_measured_5 am_iconst_0 (q := 6) rfl ?_
    refine st_call O dX0_measured_6 cs_X0_measured_6 (q := 9) rfl (am_si rfl rfl rfl (Nat.le_of_ble_eq_true rfl) rfl ?_)
    refine ⟨n, b, w, kd, fg, la, hu, li, _, _, 0, rfl, by omega, (by exact rfl), hF', hR, fun d hd => ?_⟩
    have hK := hK d hd.form
    obtain ⟨j2, j3, j4, j5, j6, j7, j8, o, wt, tn, rr, l, rfl, hO⟩ := id hd
    refine am_norm rfl rfl ?_
    refine st_iloadn O dX0_measured_9 rfl (q := 10) rfl ?_
    refine st_if_eq O dX0_measured_10 (t := 24) rfl (q := 13) rfl (fun c10 => ?_) (fun c10 => ?_)
    · refine st_aloadn O dX0_measured_24 rfl (q := 25) rfl ?_
      refine st_getr O dX0_measured_25 fl_X0_21 rfl rfl rfl (q := 28) rfl ?_
      refine st_geti O dX0_measured_28 fl_X0_66 rfl rfl rfl rfl (q := 31) rfl ?_
      refine st_ireturn O dX0_measured_31 ?_
      exact hK
    exact absurd c10 (by decide)
theorem C_X0_measured : am_ctr yX0_measured cX0_measured 3 (some .int) 4 91 sh_CPR [some 0, some 7, none] T_X0_measured := am_mk (by decide) (Or.inr (Or.inl ⟨rfl, rfl⟩)) (by decide) (by decide) (by decide) fl_X0_ok kc_X0_ok ck_X0_measured B_X0_measured
def cs_X0_isWithin : Nat → List am_V → am_D → am_K → Prop := am_cs [(6, am_site 3 [some 0, some 6, none] T_X3_drive [1, 2, 3, 4, 5, 6, 7, 8, 9, 10, 11, 12] [1, 2, 3, 4, 5, 6, 7, 8, 9, 10, 11, 12])]
theorem cs_X0_isWithin_6 : cs_X0_isWithin 6 = am_site 3 [some 0, some 6, none] T_X3_drive [1, 2, 3, 4, 5, 6, 7, 8, 9, 10, 11, 12] [1, 2, 3, 4, 5, 6, 7, 8, 9, 10, 11, 12] := rfl
theorem ck_X0_isWithin : ∀ X : am_X, am_cx X RX0 cX0_isWithin 4 4 91 → ∀ pc, am_csok X 4 sh_CPR pc (cs_X0_isWithin pc) := fun X hX => am_cs_ok (List.forall_mem_cons.mpr ⟨am_callV hX C_X3_drive mo_X3_drive rfl lk_X0_25 dX0_isWithin_6 rfl rfl rfl (by decide), fun _ h => absurd h List.not_mem_nil⟩)
abbrev ok_X0_isWithin (X : am_X) (K : List Int32 → am_D → Prop) : Prop := am_ok X RX0 cX0_isWithin 4 sh_CPR fl_X0 kc_X0 none 2 cs_X0_isWithin K
abbrev aw_X0_isWithin (X : am_X) (pc : Nat) (ls : am_L) (st : List am_V) (D : am_D) : Prop := am_aw X 4 sh_CPR pc ls st D
abbrev T_X0_isWithin : am_TT := fun is D K => ∃ n b w kd fg la hu li dp dr a v, is = [nI a, nI v] ∧ a < 512 ∧ v < 2 ^ 31 ∧ D = .inl [] :: (dp ++ dr) ∧ pF dp ∧ rA n b w kd fg la hu li dr ∧ ∀ dp', pF dp' → K [bI (decide (tot (simA b w kd fg la li a) ≤ v))] (.inl [] :: (dp' ++ dr))
theorem B_X0_isWithin : ∀ (X : am_X) (is : List Int32) (D : am_D) (K : List Int32 → am_D → Prop), ok_X0_isWithin X K → T_X0_isWithin is D K → is.length = (List.filter Option.isNone ([some 0, some 7, none, none] : List (Option Nat))).length → D.length = sh_CPR.length → am_aw X 4 sh_CPR 0 (am_l0 4 [some 0, some 7, none, none] is) [] D := by
  intro X is D K O hT _ _
  obtain ⟨n, b, w, kd, fg, la, hu, li, dp, dr, a, v, rfl, ha, hv, rfl, hF, hR, hK⟩ := hT
  obtain ⟨kk, ff, ll, hh, ii, rfl, hn, hb, hw, hj, hp, hi⟩ := id hR
  have hF' := hF
  have hbd := (simA_bd (b := b) (kd := kd) (fg := fg) (la := la) (hu := hu) hn hw (fun c hc => (hj c hc).2.2.2.2) hp a).1
  obtain ⟨i0, i1, i2, i3, i4, i5, i6, i7, i8, o, wt, tn, r0, l0, rfl⟩ := hF
  simp only [simA] at hbd hK
  refine am_begin rfl ?_
  refine st_aloadn O dX0_isWithin_0 rfl (q := 1) rfl ?_
  refine st_getr O dX0_isWithin_1 fl_X0_21 rfl rfl rfl (q := 4) rfl ?_
  refine st_aloadn O dX0_isWithin_4 rfl (q := 5) rfl ?_
  refine st_iloadn O dX0_isWithin_5 rfl (q := 6) rfl ?_
  refine st_call O dX0_isWithin_6 cs_X0_isWithin_6 (q := 9) rfl (am_si rfl rfl rfl (Nat.le_of_ble_eq_true rfl) rfl ?_)
  refine ⟨n, b, w, kd, fg, la, hu, li, _, _, a, rfl, ha, (by exact rfl), hF', hR, fun d hd => ?_⟩
  have hK := hK d hd.form
  obtain ⟨j2, j3, j4, j5, j6, j7, j8, o, wt, tn, rr, l, rfl, hO⟩ := id hd
  refine am_norm rfl rfl ?_
  refine st_aloadn O dX0_isWithin_9 rfl (q := 10) rfl ?_
  refine st_getr O dX0_isWithin_10 fl_X0_21 rfl rfl rfl (q := 13) rfl ?_
  refine st_geti O dX0_isWithin_13 fl_X0_66 rfl rfl rfl rfl (q := 16) rfl ?_
  refine st_iloadn O dX0_isWithin_16 rfl (q := 17) rfl ?_
  refine sn_icmp_gt O dX0_isWithin_17 (t := 24) rfl (q := 20) rfl (by omega) (by omega) (fun c17 => ?_) (fun c17 => ?_)
  · refine st_iconst O dX0_isWithin_24 am_iconst_0 (q := 25) rfl ?_
    refine st_zreturn O dX0_isWithin_25 (by first | exact Or.inl rfl | exact Or.inr rfl | assumption) ?_
    first | (rw [decide_eq_true (by omega)] at hK; exact hK) | (rw [decide_eq_false (by omega)] at hK; exact hK)
  refine st_iconst O dX0_isWithin_20 am_iconst_1 (q := 21) rfl ?_
  refine st_goto O dX0_isWithin_21 (t := 25) rfl ?_
  refine st_zreturn O dX0_isWithin_25 (by first | exact Or.inl rfl | exact Or.inr rfl | assumption) ?_
  first | (rw [decide_eq_true (by omega)] at hK; exact hK) | (rw [decide_eq_false (by omega)] at hK; exact hK)
theorem C_X0_isWithin : am_ctr yX0_isWithin cX0_isWithin 4 (some .boolean) 4 91 sh_CPR [some 0, some 7, none, none] T_X0_isWithin := am_mk (by decide) (Or.inr (Or.inr ⟨rfl, rfl⟩)) (by decide) (by decide) (by decide) fl_X0_ok kc_X0_ok ck_X0_isWithin B_X0_isWithin
/-! the least of several -/
def mnS (f : Nat → Nat) : Nat → Nat × Nat
  | 0 => (0, 0)
  | m + 1 => if m = 0 ∨ f m < (mnS f m).2 then (m, f m) else mnS f m
def lsF (f : Nat → Nat) (c0 : Nat) : Nat → Option Nat × Nat
  | 0 => (none, c0)
  | m + 1 => if f m < (lsF f c0 m).2 then (some m, f m) else lsF f c0 m
def lsN (f : Nat → Nat) : Nat → Option Nat × Nat
  | 0 => (none, 0)
  | m + 1 => if (lsN f m).1 = none ∨ f m < (lsN f m).2 then (some m, f m) else lsN f m
theorem mnS_le {f : Nat → Nat} {B : Nat} : ∀ m, (∀ j, j < m → f j ≤ B) → (mnS f m).2 ≤ B ∧ (mnS f m).1 ≤ m
  | 0, _ => ⟨Nat.zero_le _, Nat.le_refl _⟩
  | m + 1, h => by
    have := mnS_le m (fun j hj => h j (by omega))
    have := h m (by omega)
    rw [mnS]
    split
    · exact ⟨this, Nat.le_succ m⟩
    · omega
theorem lsF_le {f : Nat → Nat} {B c0 : Nat} (h0 : c0 ≤ B) : ∀ m, (∀ j, j < m → f j ≤ B) → (lsF f c0 m).2 ≤ B
  | 0, _ => h0
  | m + 1, h => by
    have := lsF_le h0 m (fun j hj => h j (by omega))
    have := h m (by omega)
    rw [lsF]
    split <;> assumption
theorem lsN_le {f : Nat → Nat} {B : Nat} : ∀ m, (∀ j, j < m → f j ≤ B) → (lsN f m).2 ≤ B
  | 0, _ => Nat.zero_le _
  | m + 1, h => by
    have := lsN_le m (fun j hj => h j (by omega))
    have := h m (by omega)
    rw [lsN]
    split <;> assumption
theorem lsF_lt {f : Nat → Nat} {c0 : Nat} : ∀ m c, (lsF f c0 m).1 = some c → c < m
  | 0, c, h => by cases h
  | m + 1, c, h => by
    rw [lsF] at h
    split at h
    · cases h; exact Nat.lt_succ_self m
    · exact Nat.lt_succ_of_lt (lsF_lt m c h)
theorem lsN_lt {f : Nat → Nat} : ∀ m c, (lsN f m).1 = some c → c < m
  | 0, c, h => by cases h
  | m + 1, c, h => by
    rw [lsN] at h
    split at h
    · cases h; exact Nat.lt_succ_self m
    · exact Nat.lt_succ_of_lt (lsN_lt m c h)
def oI (o : Option Nat) : Int32 := match o with
  | some c => nI c
  | none => -9
theorem oI_none {o : Option Nat} (h : ∀ c, o = some c → c < 2 ^ 31) : oI o = -9 ↔ o = none := by
  cases o with
  | none => exact ⟨fun _ => rfl, fun _ => rfl⟩
  | some c =>
    refine ⟨fun e => ?_, fun e => by cases e⟩
    have h1 := nI_pos (h c rfl)
    have e : nI c = -9 := e
    rw [e] at h1
    exact absurd (by decide) h1
def cs_X0_cheapestBoard : Nat → List am_V → am_D → am_K → Prop := am_cs [(9, am_site 2 [some 0, some 6] T_X4_copyFrom [1, 2, 3, 4, 5, 6, 13, 14, 15, 16, 17, 18] [1, 2, 3, 4, 5, 6, 13, 14, 15, 16, 17, 18]), (35, am_site 2 [some 0, some 7] T_X0_costOf [0, 7, 8, 9, 10, 11, 12, 1, 2, 3, 4, 5, 6] [0, 7, 8, 9, 10, 11, 12, 1, 2, 3, 4, 5, 6, 1])]
theorem cs_X0_cheapestBoard_9 : cs_X0_cheapestBoard 9 = am_site 2 [some 0, some 6] T_X4_copyFrom [1, 2, 3, 4, 5, 6, 13, 14, 15, 16, 17, 18] [1, 2, 3, 4, 5, 6, 13, 14, 15, 16, 17, 18] := rfl
theorem cs_X0_cheapestBoard_35 : cs_X0_cheapestBoard 35 = am_site 2 [some 0, some 7] T_X0_costOf [0, 7, 8, 9, 10, 11, 12, 1, 2, 3, 4, 5, 6] [0, 7, 8, 9, 10, 11, 12, 1, 2, 3, 4, 5, 6, 1] := rfl
theorem ck_X0_cheapestBoard : ∀ X : am_X, am_cx X RX0 cX0_cheapestBoard 6 5 112 → ∀ pc, am_csok X 6 sh_CX pc (cs_X0_cheapestBoard pc) := fun X hX => am_cs_ok (List.forall_mem_cons.mpr ⟨am_callV hX C_X4_copyFrom mo_X4_copyFrom rfl lk_X0_33 dX0_cheapestBoard_9 rfl rfl rfl (by decide), List.forall_mem_cons.mpr ⟨am_callV hX C_X0_costOf mo_X0_costOf rfl lk_X0_41 dX0_cheapestBoard_35 rfl rfl rfl (by decide), fun _ h => absurd h List.not_mem_nil⟩⟩)
abbrev ok_X0_cheapestBoard (X : am_X) (K : List Int32 → am_D → Prop) : Prop := am_ok X RX0 cX0_cheapestBoard 6 sh_CX fl_X0 kc_X0 none 1 cs_X0_cheapestBoard K
abbrev aw_X0_cheapestBoard (X : am_X) (pc : Nat) (ls : am_L) (st : List am_V) (D : am_D) : Prop := am_aw X 6 sh_CX pc ls st D
abbrev T_X0_cheapestBoard : am_TT := fun is D K => ∃ n b w kd fg la hu li dt dp dr, is = [] ∧ D = .inl [] :: (dt ++ (dp ++ dr)) ∧ rF dt ∧ pF dp ∧ rA n b w kd fg la hu li dr ∧ ∀ dt' dp', rF dt' → pF dp' → K [nI (mnS (fun j => cst hu (simA j w kd fg la li 0)) 3).1] (.inl [] :: (dt' ++ (dp' ++ dr)))
theorem B_X0_cheapestBoard : ∀ (X : am_X) (is : List Int32) (D : am_D) (K : List Int32 → am_D → Prop), ok_X0_cheapestBoard X K → T_X0_cheapestBoard is D K → is.length = (List.filter Option.isNone ([some 0, some 13] : List (Option Nat))).length → D.length = sh_CX.length → am_aw X 6 sh_CX 0 (am_l0 6 [some 0, some 13] is) [] D := by
  intro X is D K O hT _ _
  obtain ⟨n, b, w, kd, fg, la, hu, li, dt, dp, dr, rfl, rfl, hG, hF, hR, hK⟩ := hT
  obtain ⟨kk, ff, ll, hh, ii, rfl, hn, hb, hw, hj, hp, hi⟩ := id hR
  obtain ⟨f, hf⟩ : ∃ f : Nat → Nat, f = fun j => cst hu (simA j w kd fg la li 0) := ⟨_, rfl⟩
  have hfb : ∀ j, f j ≤ 30000 := fun j => by
    rw [hf]
    exact (simA_bd hn hw (fun c hc => (hj c hc).2.2.2.2) hp 0).2
  rw [← hf] at hK
  have loop : ∀ d m b0 x5 (k0 f0 l0 h0 i0 : Nat → Int32) (dp : am_D), 3 - m = d → m ≤ 3 → (∀ b', b' ≤ 2 → rA n b' w kd fg la hu li [.inl [nI n, nI b', nI w], .inr k0, .inr f0, .inr l0, .inr h0, .inr i0]) → pF dp → am_aw X 6 sh_CX 15 [some (.inr 0), some (.inr 13), some (.inl (nI (mnS f m).1)), some (.inl (nI (mnS f m).2)), some (.inl (nI m)), x5] [] (.inl [] :: ([.inl [nI n, b0, nI w], .inr k0, .inr f0, .inr l0, .inr h0, .inr i0] ++ (dp ++ [.inl [nI n, nI b, nI w], .inr kk, .inr ff, .inr ll, .inr hh, .inr ii]))) := by
    intro d
    induction d with
    | zero =>
      intro m b0 x5 k0 f0 l0 h0 i0 dp hd hm hA hF
      have e : m = 3 := by omega
      subst e
      refine st_iload O dX0_cheapestBoard_15 rfl (q := 17) rfl ?_
      refine st_iconst O dX0_cheapestBoard_17 am_iconst_2 (q := 18) rfl ?_
      refine sn_icmp_gt O dX0_cheapestBoard_18 (t := 63) rfl (q := 21) rfl (by omega) (by omega) (fun c18 => ?_) (fun c18 => ?_)
      · refine st_iloadn O dX0_cheapestBoard_63 rfl (q := 64) rfl ?_
        refine st_ireturn O dX0_cheapestBoard_64 ?_
        exact hK _ dp ⟨_, _, _, _, _, _, _, _, rfl⟩ hF
      omega
    | succ d ih =>
      intro m b0 x5 k0 f0 l0 h0 i0 dp hd hm hA hF
      have hF' := hF
      obtain ⟨j0, j1, j2, j3, j4, j5, j6, j7, j8, o, wt, tn, r0, l1, rfl⟩ := hF
      have hb1 := hfb m
      have hb2 := (mnS_le (f := f) m (fun j _ => hfb j)).1
      have ih := fun b0 x5 dp hF => ih (m + 1) b0 x5 k0 f0 l0 h0 i0 dp (by omega) (by omega) hA hF
      rw [mnS] at ih
      refine st_iload O dX0_cheapestBoard_15 rfl (q := 17) rfl ?_
      refine st_iconst O dX0_cheapestBoard_17 am_iconst_2 (q := 18) rfl ?_
      refine sn_icmp_gt O dX0_cheapestBoard_18 (t := 63) rfl (q := 21) rfl (by omega) (by omega) (fun c18 => ?_) (fun c18 => ?_)
      · omega
      refine st_aloadn O dX0_cheapestBoard_21 rfl (q := 22) rfl ?_
      refine st_getr O dX0_cheapestBoard_22 fl_X0_12 rfl rfl rfl (q := 25) rfl ?_
      refine st_iload O dX0_cheapestBoard_25 rfl (q := 27) rfl ?_
      refine st_puti O dX0_cheapestBoard_27 fl_X0_37 rfl rfl rfl rfl rfl (q := 30) rfl ?_
      refine st_aloadn O dX0_cheapestBoard_30 rfl (q := 31) rfl ?_
      refine st_aloadn O dX0_cheapestBoard_31 rfl (q := 32) rfl ?_
      refine st_getr O dX0_cheapestBoard_32 fl_X0_12 rfl rfl rfl (q := 35) rfl ?_
      refine st_call O dX0_cheapestBoard_35 cs_X0_cheapestBoard_35 (q := 38) rfl (am_si rfl rfl rfl (Nat.le_of_ble_eq_true rfl) rfl ?_)
      refine ⟨n, m, w, kd, fg, la, hu, li, _, _, rfl, (by exact rfl), hF', hA m (by omega), fun dp' hF2 => ?_⟩
      rw [show cst hu (simA m w kd fg la li 0) = f m by rw [hf]]
      have ih := fun b0 x5 => ih b0 x5 dp' hF2
      obtain ⟨j0, j1, j2, j3, j4, j5, j6, j7, j8, o, wt, tn, r0, l1, rfl⟩ := hF2
      refine am_norm rfl rfl ?_
      refine st_istore O dX0_cheapestBoard_38 rfl (q := 40) rfl ?_
      refine st_iload O dX0_cheapestBoard_40 rfl (q := 42) rfl ?_
      refine sn_if_eq O dX0_cheapestBoard_42 (t := 51) rfl (q := 45) rfl (by omega) (fun c42 => ?_) (fun c42 => ?_)
      · refine st_iload O dX0_cheapestBoard_51 rfl (q := 53) rfl ?_
        refine st_istoren O dX0_cheapestBoard_53 rfl (q := 54) rfl ?_
        refine st_iload O dX0_cheapestBoard_54 rfl (q := 56) rfl ?_
        refine st_istoren O dX0_cheapestBoard_56 rfl (q := 57) rfl ?_
        refine st_iinc O dX0_cheapestBoard_57 rfl (by first | exact am_ii1 _ | exact rfl) rfl (q := 60) rfl ?_
        refine st_goto O dX0_cheapestBoard_60 (t := 15) rfl ?_
        first | (rw [if_pos (by omega)] at ih; exact ih _ _) | (rw [if_neg (by omega)] at ih; exact ih _ _)
      refine st_iload O dX0_cheapestBoard_45 rfl (q := 47) rfl ?_
      refine st_iloadn O dX0_cheapestBoard_47 rfl (q := 48) rfl ?_
      refine sn_icmp_ge O dX0_cheapestBoard_48 (t := 57) rfl (q := 51) rfl (by omega) (by omega) (fun c48 => ?_) (fun c48 => ?_)
      · refine st_iinc O dX0_cheapestBoard_57 rfl (by first | exact am_ii1 _ | exact rfl) rfl (q := 60) rfl ?_
        refine st_goto O dX0_cheapestBoard_60 (t := 15) rfl ?_
        first | (rw [if_pos (by omega)] at ih; exact ih _ _) | (rw [if_neg (by omega)] at ih; exact ih _ _)
      refine st_iload O dX0_cheapestBoard_51 rfl (q := 53) rfl ?_
      refine st_istoren O dX0_cheapestBoard_53 rfl (q := 54) rfl ?_
      refine st_iload O dX0_cheapestBoard_54 rfl (q := 56) rfl ?_
      refine st_istoren O dX0_cheapestBoard_56 rfl (q := 57) rfl ?_
      refine st_iinc O dX0_cheapestBoard_57 rfl (by first | exact am_ii1 _ | exact rfl) rfl (q := 60) rfl ?_
      refine st_goto O dX0_cheapestBoard_60 (t := 15) rfl ?_
      first | (rw [if_pos (by omega)] at ih; exact ih _ _) | (rw [if_neg (by omega)] at ih; exact ih _ _)
  have hF' := hF
  obtain ⟨j0, j1, j2, j3, j4, j5, j6, j7, j8, o, wt, tn, r0, l1, rfl⟩ := hF
  have hG' := hG
  obtain ⟨a0, b0, c0, k0, f0, l0, h0, i0, rfl⟩ := hG
  refine am_begin rfl ?_
  refine st_iconst O dX0_cheapestBoard_0 am_iconst_0 (q := 1) rfl ?_
  refine st_istoren O dX0_cheapestBoard_1 rfl (q := 2) rfl ?_
  refine st_iconst O dX0_cheapestBoard_2 am_iconst_0 (q := 3) rfl ?_
  refine st_istoren O dX0_cheapestBoard_3 rfl (q := 4) rfl ?_
  refine st_aloadn O dX0_cheapestBoard_4 rfl (q := 5) rfl ?_
  refine st_getr O dX0_cheapestBoard_5 fl_X0_12 rfl rfl rfl (q := 8) rfl ?_
  refine st_aloadn O dX0_cheapestBoard_8 rfl (q := 9) rfl ?_
  refine st_call O dX0_cheapestBoard_9 cs_X0_cheapestBoard_9 (q := 12) rfl (am_si rfl rfl rfl (Nat.le_of_ble_eq_true rfl) rfl ?_)
  refine ⟨n, b, w, kd, fg, la, hu, li, _, _, rfl, (by exact rfl), hG', hR, fun d hd => ?_⟩
  obtain ⟨k0, f0, l0, h0, i0, rfl, -, -, -, hj0, -, hi0⟩ := hd
  have loop := loop 3 0 (nI b) none k0 f0 l0 h0 i0 _ rfl (by omega) (fun b' hb' => ⟨k0, f0, l0, h0, i0, rfl, hn, hb', hw, hj0, hp, hi0⟩) hF'
  refine am_norm rfl rfl ?_
  refine st_iconst O dX0_cheapestBoard_12 am_iconst_0 (q := 13) rfl ?_
  refine st_istore O dX0_cheapestBoard_13 rfl (q := 15) rfl ?_
  exact loop
theorem C_X0_cheapestBoard : am_ctr yX0_cheapestBoard cX0_cheapestBoard 6 (some .int) 5 112 sh_CX [some 0, some 13] T_X0_cheapestBoard := am_mk (by decide) (Or.inr (Or.inl ⟨rfl, rfl⟩)) (by decide) (by decide) (by decide) fl_X0_ok kc_X0_ok ck_X0_cheapestBoard B_X0_cheapestBoard
