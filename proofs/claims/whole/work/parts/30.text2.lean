/-! telling -/
theorem scF_go {ls : List Nat} {s : Nat} (hs : s < ls.length) : ∀ (d p : Nat), p + d = s + slN (ls.getD s 0) → 0 < d → s ≤ p → scF ls (ls.length - p) s p = none → (∀ i, p ≤ i → i < s + slN (ls.getD s 0) → i < ls.length ∧ inF ls s i = true) ∧ scF ls (ls.length - (s + slN (ls.getD s 0))) (s + slN (ls.getD s 0)) (s + slN (ls.getD s 0)) = none
  | 0, p, h1, h2, _, _ => absurd h2 (Nat.lt_irrefl 0)
  | d + 1, p, h1, h2, h3, h => by
    rcases Nat.lt_or_ge p ls.length with q | q
    · have e : ls.length - p = (ls.length - (p + 1)) + 1 := by omega
      rw [e] at h
      unfold scF at h
      by_cases hin : inF ls s p = true
      · rw [if_pos hin] at h
        by_cases hd : p + 1 = s + slN (ls.getD s 0)
        · rw [if_pos hd] at h
          refine ⟨fun i h4 h5 => ?_, by rw [← hd]; exact h⟩
          have : i = p := by omega
          rw [this]
          exact ⟨q, hin⟩
        · rw [if_neg hd] at h
          obtain ⟨a1, a2⟩ := scF_go hs d (p + 1) (by omega) (by omega) (by omega) h
          refine ⟨fun i h4 h5 => ?_, a2⟩
          rcases Nat.lt_or_ge p i with h6 | h6
          · exact a1 i (by omega) h5
          · have : i = p := by omega
            rw [this]
            exact ⟨q, hin⟩
      · rw [if_neg hin] at h
        cases h
    · exfalso
      have e : ls.length - p = 0 := by omega
      rw [e] at h
      unfold scF at h
      rw [if_neg (by omega)] at h
      cases h
/-- a statement begins at s, and all from there on is in the form -/
def bnd (ls : List Nat) (s : Nat) : Prop := scF ls (ls.length - s) s s = none
/-- the statement at s is in the form -/
def fmS (ls : List Nat) (s : Nat) : Prop := 0 < slN (ls.getD s 0) ∧ ∀ i, s ≤ i → i < s + slN (ls.getD s 0) → i < ls.length ∧ inF ls s i = true
theorem bnd_go {ls : List Nat} {s : Nat} (hs : s < ls.length) (h : bnd ls s) : fmS ls s ∧ bnd ls (s + slN (ls.getD s 0)) ∧ s + slN (ls.getD s 0) ≤ ls.length := by
  have h0 : 0 < slN (ls.getD s 0) := by
    unfold bnd at h
    rw [show ls.length - s = (ls.length - (s + 1)) + 1 by omega] at h
    unfold scF at h
    by_cases hin : inF ls s s = true
    · unfold inF at hin
      rw [if_pos rfl] at hin
      exact of_decide_eq_true hin
    · rw [if_neg hin] at h
      cases h
  obtain ⟨a1, a2⟩ := scF_go hs (slN (ls.getD s 0)) s rfl h0 (Nat.le_refl s) h
  refine ⟨⟨h0, a1⟩, a2, ?_⟩
  have := (a1 (s + slN (ls.getD s 0) - 1) (by omega) (by omega)).1
  omega
theorem bnd_0 {ls : List Nat} (h : ffl ls = none) : bnd ls 0 := h
/-- a digit of a statement in the form -/
theorem fm_dig {ls : List Nat} {s : Nat} (h : fmS ls s) (i : Nat) (h1 : 0 < i) (h2 : i + 1 < slN (ls.getD s 0)) (h3 : ls.getD s 0 = 99 → ¬ i = 1) : 48 ≤ ls.getD (s + i) 0 ∧ ls.getD (s + i) 0 ≤ 57 ∧ s + i < ls.length := by
  obtain ⟨a1, a2⟩ := h.2 (s + i) (by omega) (by omega)
  unfold inF at a2
  rw [if_neg (by omega), if_neg (by omega), if_neg (by intro z; exact h3 z.1 (by omega))] at a2
  have := of_decide_eq_true a2
  exact ⟨this.1, this.2, a1⟩
theorem fm_kind {ls : List Nat} {s : Nat} (h : fmS ls s) (h3 : ls.getD s 0 = 99) : (kxf (ls.getD (s + 1) 0)).isSome = true ∧ s + 1 < ls.length := by
  have e : slN (ls.getD s 0) = 7 := by rw [h3]; rfl
  obtain ⟨a1, a2⟩ := h.2 (s + 1) (by omega) (by omega)
  unfold inF at a2
  rw [if_neg (by omega), if_neg (by omega), if_pos ⟨h3, rfl⟩] at a2
  exact ⟨a2, a1⟩
/-- a road: cars, board, wave, kinds, figures, lanes, hurries, line -/
abbrev RS : Type := Nat × Nat × Nat × (Nat → Nat) × (Nat → Nat) × (Nat → Nat) × (Nat → Nat) × List Nat
def rS (x : RS) (D : am_D) : Prop := rA x.1 x.2.1 x.2.2.1 x.2.2.2.1 x.2.2.2.2.1 x.2.2.2.2.2.1 x.2.2.2.2.2.2.1 x.2.2.2.2.2.2.2 D
theorem rS.form {x : RS} {D : am_D} (h : rS x D) : rF D := rA.form h
def kxn (k : Nat) : Nat := (kxf k).getD 0
theorem kx_kxn : ∀ k, k < 256 → (kxf k).isSome = true → kx k = nI (kxn k) ∧ kxn k < 6 ∧ 48 ≤ k := by decide +kernel
def dgt (ls : List Nat) (s i : Nat) : Nat := ls.getD (s + i) 0 - 48
def tlC (ls : List Nat) (s : Nat) : RS → Option RS
  | (n, b, w, kd, fg, la, hu, li) => if n = 9 ∨ 2 ≤ dgt ls s 3 ∨ 20 < 10 * dgt ls s 4 + dgt ls s 5 then none else some (n + 1, b, w, va_up kd n (kxn (ls.getD (s + 1) 0)), va_up fg n (dgt ls s 2), va_up la n (dgt ls s 3), va_up hu n (10 * dgt ls s 4 + dgt ls s 5), li ++ [n])
def tl1 (ls : List Nat) (s : Nat) (x : RS) : Option RS := if ls.getD s 0 = 98 then (if dgt ls s 1 ≤ 2 then some (x.1, dgt ls s 1, x.2.2) else none)
  else if ls.getD s 0 = 99 then tlC ls s x
  else if ls.getD s 0 = 102 then (if dgt ls s 1 < x.1 then some (x.1, x.2.1, x.2.2.1, x.2.2.2.1, x.2.2.2.2.1, x.2.2.2.2.2.1, x.2.2.2.2.2.2.1, dgt ls s 1 :: x.2.2.2.2.2.2.2.erase (dgt ls s 1)) else none)
  else if ls.getD s 0 = 111 then (if dgt ls s 1 < x.1 then some (x.1, x.2.1, x.2.2.1, x.2.2.2.1, x.2.2.2.2.1, va_up x.2.2.2.2.2.1 (dgt ls s 1) (1 - x.2.2.2.2.2.1 (dgt ls s 1)), x.2.2.2.2.2.2.1, x.2.2.2.2.2.2.2.erase (dgt ls s 1) ++ [dgt ls s 1]) else none)
  else if ls.getD s 0 = 119 then some (x.1, x.2.1, dgt ls s 1, x.2.2.2)
  else if ls.getD s 0 = 120 then (if dgt ls s 1 < x.1 ∧ dgt ls s 2 < x.1 ∧ dgt ls s 1 ≠ dgt ls s 2 then some (x.1, x.2.1, x.2.2.1, va_up (va_up x.2.2.2.1 (dgt ls s 1) (x.2.2.2.1 (dgt ls s 2))) (dgt ls s 2) (x.2.2.2.1 (dgt ls s 1)), va_up (va_up x.2.2.2.2.1 (dgt ls s 1) (x.2.2.2.2.1 (dgt ls s 2))) (dgt ls s 2) (x.2.2.2.2.1 (dgt ls s 1)), x.2.2.2.2.2.1, x.2.2.2.2.2.2.1, x.2.2.2.2.2.2.2) else none)
  else none
/-- what telling one statement does: the answer, and the road behind it -/
def tlK (o : Option RS) (D1 D2 : am_D) (K : List Int32 → am_D → Prop) : Prop := match o with
  | none => K [0] (D1 ++ D2)
  | some y => ∀ d, rS y d → K [1] (D1 ++ d)
def cs_X5_tellCar : Nat → List am_V → am_D → am_K → Prop := am_cs [(6, am_site 2 [some 0, none] T_X5_digitAt [0, 1] [0, 1]), (14, am_site 2 [some 0, none] T_X5_digitAt [0, 1] [0, 1]), (24, am_site 2 [some 0, none] T_X5_kindAt [0, 1] [0, 1]), (31, am_site 2 [some 0, none] T_X5_digitAt [0, 1] [0, 1]), (38, am_site 2 [some 0, none] T_X5_digitAt [0, 1] [0, 1]), (42, am_site 5 [some 0, none, none, none, none] T_X4_add [2, 3, 4, 5, 6, 7] [2, 3, 4, 5, 6, 7])]
theorem cs_X5_tellCar_6 : cs_X5_tellCar 6 = am_site 2 [some 0, none] T_X5_digitAt [0, 1] [0, 1] := rfl
theorem cs_X5_tellCar_14 : cs_X5_tellCar 14 = am_site 2 [some 0, none] T_X5_digitAt [0, 1] [0, 1] := rfl
theorem cs_X5_tellCar_24 : cs_X5_tellCar 24 = am_site 2 [some 0, none] T_X5_kindAt [0, 1] [0, 1] := rfl
theorem cs_X5_tellCar_31 : cs_X5_tellCar 31 = am_site 2 [some 0, none] T_X5_digitAt [0, 1] [0, 1] := rfl
theorem cs_X5_tellCar_38 : cs_X5_tellCar 38 = am_site 2 [some 0, none] T_X5_digitAt [0, 1] [0, 1] := rfl
theorem cs_X5_tellCar_42 : cs_X5_tellCar 42 = am_site 5 [some 0, none, none, none, none] T_X4_add [2, 3, 4, 5, 6, 7] [2, 3, 4, 5, 6, 7] := rfl
theorem ck_X5_tellCar : ∀ X : am_X, am_cx X RX5 cX5_tellCar 4 5 112 → ∀ pc, am_csok X 4 sh_TR pc (cs_X5_tellCar pc) := fun X hX => am_cs_ok (List.forall_mem_cons.mpr ⟨am_callV hX C_X5_digitAt mo_X5_digitAt rfl lk_X5_60 dX5_tellCar_6 rfl rfl rfl (by decide), List.forall_mem_cons.mpr ⟨am_callV hX C_X5_digitAt mo_X5_digitAt rfl lk_X5_60 dX5_tellCar_14 rfl rfl rfl (by decide), List.forall_mem_cons.mpr ⟨am_callV hX C_X5_kindAt mo_X5_kindAt rfl lk_X5_48 dX5_tellCar_24 rfl rfl rfl (by decide), List.forall_mem_cons.mpr ⟨am_callV hX C_X5_digitAt mo_X5_digitAt rfl lk_X5_60 dX5_tellCar_31 rfl rfl rfl (by decide), List.forall_mem_cons.mpr ⟨am_callV hX C_X5_digitAt mo_X5_digitAt rfl lk_X5_60 dX5_tellCar_38 rfl rfl rfl (by decide), List.forall_mem_cons.mpr ⟨am_callV hX C_X4_add mo_X4_add rfl lk_X5_82 dX5_tellCar_42 rfl rfl rfl (by decide), fun _ h => absurd h List.not_mem_nil⟩⟩⟩⟩⟩⟩)
abbrev ok_X5_tellCar (X : am_X) (K : List Int32 → am_D → Prop) : Prop := am_ok X RX5 cX5_tellCar 4 sh_TR fl_X5 kc_X5 none 2 cs_X5_tellCar K
abbrev aw_X5_tellCar (X : am_X) (pc : Nat) (ls : am_L) (st : List am_V) (D : am_D) : Prop := am_aw X 4 sh_TR pc ls st D
abbrev T_X5_tellCar : am_TT := fun is D K => ∃ ls s x d1 d2, is = [nI s] ∧ D = d1 ++ d2 ∧ tX ls d1 ∧ rS x d2 ∧ ls.getD s 0 = 99 ∧ fmS ls s ∧ tlK (tlC ls s x) d1 d2 K
theorem B_X5_tellCar : ∀ (X : am_X) (is : List Int32) (D : am_D) (K : List Int32 → am_D → Prop), ok_X5_tellCar X K → T_X5_tellCar is D K → is.length = (List.filter Option.isNone ([some 0, none, some 2] : List (Option Nat))).length → D.length = sh_TR.length → am_aw X 4 sh_TR 0 (am_l0 4 [some 0, none, some 2] is) [] D := by
  intro X is D K O hT _ _
  obtain ⟨ls, s, ⟨n, b, w, kd, fg, la, hu, li⟩, d1, d2, rfl, rfl, ht, hR, h99, hfm, hK⟩ := hT
  obtain ⟨f, rfl, hl, hf, hc⟩ := id ht
  have hR : rA n b w kd fg la hu li d2 := hR
  obtain ⟨kk, ff, ll, hh, ii, rfl, hn, hb, hw, hj, hp, hi⟩ := id hR
  have e7 : slN (ls.getD s 0) = 7 := by rw [h99]; rfl
  have g2 := fm_dig hfm 2 (by omega) (by omega) (by omega)
  have g3 := fm_dig hfm 3 (by omega) (by omega) (by omega)
  have g4 := fm_dig hfm 4 (by omega) (by omega) (by omega)
  have g5 := fm_dig hfm 5 (by omega) (by omega) (by omega)
  obtain ⟨g1, g1l⟩ := fm_kind hfm h99
  obtain ⟨k1, k2, k3⟩ := kx_kxn _ (tX_lt hc (s + 1)) g1
  have hd : ∀ i, dgt ls s i = ls.getD (s + i) 0 - 48 := fun i => rfl
  refine am_begin rfl ?_
  refine st_bipush O dX5_tellCar_0 am_bipush_10 (q := 2) rfl ?_
  refine st_aloadn O dX5_tellCar_2 rfl (q := 3) rfl ?_
  refine st_iloadn O dX5_tellCar_3 rfl (q := 4) rfl ?_
  refine st_iconst O dX5_tellCar_4 am_iconst_4 (q := 5) rfl ?_
  refine st_iadd O dX5_tellCar_5 (by first | exact nI_add _ _ | exact rfl) (q := 6) rfl ?_
  refine st_call O dX5_tellCar_6 cs_X5_tellCar_6 (q := 9) rfl (am_sip rfl rfl rfl (Nat.le_of_ble_eq_true rfl) rfl (r := nI (dgt ls s 4)) ⟨ls, s + 4, ht, by omega, g4.1, rfl, rfl⟩ ?_)
  refine st_imul O dX5_tellCar_9 (pk_mul 10 (dgt ls s 4)) (q := 10) rfl ?_
  refine st_aloadn O dX5_tellCar_10 rfl (q := 11) rfl ?_
  refine st_iloadn O dX5_tellCar_11 rfl (q := 12) rfl ?_
  refine st_iconst O dX5_tellCar_12 am_iconst_5 (q := 13) rfl ?_
  refine st_iadd O dX5_tellCar_13 (by first | exact nI_add _ _ | exact rfl) (q := 14) rfl ?_
  refine st_call O dX5_tellCar_14 cs_X5_tellCar_14 (q := 17) rfl (am_sip rfl rfl rfl (Nat.le_of_ble_eq_true rfl) rfl (r := nI (dgt ls s 5)) ⟨ls, s + 5, ht, by omega, g5.1, rfl, rfl⟩ ?_)
  refine st_iadd O dX5_tellCar_17 (by first | exact nI_add _ _ | exact rfl) (q := 18) rfl ?_
  refine st_istoren O dX5_tellCar_18 rfl (q := 19) rfl ?_
  refine st_aloadn O dX5_tellCar_19 rfl (q := 20) rfl ?_
  refine st_aloadn O dX5_tellCar_20 rfl (q := 21) rfl ?_
  refine st_iloadn O dX5_tellCar_21 rfl (q := 22) rfl ?_
  refine st_iconst O dX5_tellCar_22 am_iconst_1 (q := 23) rfl ?_
  refine st_iadd O dX5_tellCar_23 (by first | exact nI_add _ _ | exact rfl) (q := 24) rfl ?_
  refine st_call O dX5_tellCar_24 cs_X5_tellCar_24 (q := 27) rfl (am_sip rfl rfl rfl (Nat.le_of_ble_eq_true rfl) rfl (r := kx (ls.getD (s + 1) 0)) ⟨ls, s + 1, ht, by omega, rfl, rfl⟩ ?_)
  refine st_aloadn O dX5_tellCar_27 rfl (q := 28) rfl ?_
  refine st_iloadn O dX5_tellCar_28 rfl (q := 29) rfl ?_
  refine st_iconst O dX5_tellCar_29 am_iconst_2 (q := 30) rfl ?_
  refine st_iadd O dX5_tellCar_30 (by first | exact nI_add _ _ | exact rfl) (q := 31) rfl ?_
  refine st_call O dX5_tellCar_31 cs_X5_tellCar_31 (q := 34) rfl (am_sip rfl rfl rfl (Nat.le_of_ble_eq_true rfl) rfl (r := nI (dgt ls s 2)) ⟨ls, s + 2, ht, by omega, g2.1, rfl, rfl⟩ ?_)
  refine st_aloadn O dX5_tellCar_34 rfl (q := 35) rfl ?_
  refine st_iloadn O dX5_tellCar_35 rfl (q := 36) rfl ?_
  refine st_iconst O dX5_tellCar_36 am_iconst_3 (q := 37) rfl ?_
  refine st_iadd O dX5_tellCar_37 (by first | exact nI_add _ _ | exact rfl) (q := 38) rfl ?_
  refine st_call O dX5_tellCar_38 cs_X5_tellCar_38 (q := 41) rfl (am_sip rfl rfl rfl (Nat.le_of_ble_eq_true rfl) rfl (r := nI (dgt ls s 3)) ⟨ls, s + 3, ht, by omega, g3.1, rfl, rfl⟩ ?_)
  refine st_iloadn O dX5_tellCar_41 rfl (q := 42) rfl ?_
  refine st_call O dX5_tellCar_42 cs_X5_tellCar_42 (q := 45) rfl (am_si rfl rfl rfl (Nat.le_of_ble_eq_true rfl) rfl ?_)
  refine ⟨n, b, w, kd, fg, la, hu, li, kxn (ls.getD (s + 1) 0), dgt ls s 2, dgt ls s 3, 10 * dgt ls s 4 + dgt ls s 5, hR, k2, by rw [hd]; omega, by rw [hd]; omega, by rw [hd, hd]; omega, by rw [k1], ?_⟩
  unfold tlC at hK
  dsimp only at hK
  by_cases hx : n = 9 ∨ 2 ≤ dgt ls s 3 ∨ 20 < 10 * dgt ls s 4 + dgt ls s 5
  · rw [if_pos hx] at hK
    refine Or.inl ⟨hx, ?_⟩
    refine am_norm rfl rfl ?_
    refine st_zreturn O dX5_tellCar_45 (Or.inl rfl) ?_
    exact hK
  · rw [if_neg hx] at hK
    refine Or.inr ⟨by omega, by omega, by omega, fun D' hR' => ?_⟩
    have hK := hK D' hR'
    obtain ⟨k', f', l', h', i', rfl, -⟩ := hR'
    refine am_norm rfl rfl ?_
    refine st_zreturn O dX5_tellCar_45 (Or.inr rfl) ?_
    exact hK
theorem C_X5_tellCar : am_ctr yX5_tellCar cX5_tellCar 4 (some .boolean) 5 112 sh_TR [some 0, none, some 2] T_X5_tellCar := am_mk (by decide) (Or.inr (Or.inr ⟨rfl, rfl⟩)) (by decide) (by decide) (by decide) fl_X5_ok kc_X5_ok ck_X5_tellCar B_X5_tellCar
def cs_X5_tellStatement : Nat → List am_V → am_D → am_K → Prop := am_cs [(4, am_site 2 [some 0, none] T_X5_digitAt [0, 1] [0, 1]), (10, am_site 2 [some 0, none] T_X5_letterAt [0, 1] [0, 1]), (75, am_site 3 [some 0, none, some 2] T_X5_tellCar [0, 1, 2, 3, 4, 5, 6, 7] [0, 1, 2, 3, 4, 5, 6, 7]), (81, am_site 2 [some 0, none] T_X4_putBoard [2] [2, 3, 4, 5, 6, 7]), (87, am_site 2 [some 0, none] T_X4_putWave [2] [2, 3, 4, 5, 6, 7]), (93, am_site 2 [some 0, none] T_X4_crossOver [2, 3, 4, 5, 6, 7] [2, 3, 4, 5, 6, 7]), (99, am_site 2 [some 0, none] T_X4_moveToFront [2, 3, 4, 5, 6, 7] [2, 3, 4, 5, 6, 7]), (109, am_site 2 [some 0, none] T_X5_digitAt [0, 1] [0, 1]), (112, am_site 3 [some 0, none, none] T_X4_exchangeKinds [2, 3, 4, 5, 6, 7] [2, 3, 4, 5, 6, 7])]
theorem cs_X5_tellStatement_4 : cs_X5_tellStatement 4 = am_site 2 [some 0, none] T_X5_digitAt [0, 1] [0, 1] := rfl
theorem cs_X5_tellStatement_10 : cs_X5_tellStatement 10 = am_site 2 [some 0, none] T_X5_letterAt [0, 1] [0, 1] := rfl
theorem cs_X5_tellStatement_75 : cs_X5_tellStatement 75 = am_site 3 [some 0, none, some 2] T_X5_tellCar [0, 1, 2, 3, 4, 5, 6, 7] [0, 1, 2, 3, 4, 5, 6, 7] := rfl
theorem cs_X5_tellStatement_81 : cs_X5_tellStatement 81 = am_site 2 [some 0, none] T_X4_putBoard [2] [2, 3, 4, 5, 6, 7] := rfl
theorem cs_X5_tellStatement_87 : cs_X5_tellStatement 87 = am_site 2 [some 0, none] T_X4_putWave [2] [2, 3, 4, 5, 6, 7] := rfl
theorem cs_X5_tellStatement_93 : cs_X5_tellStatement 93 = am_site 2 [some 0, none] T_X4_crossOver [2, 3, 4, 5, 6, 7] [2, 3, 4, 5, 6, 7] := rfl
theorem cs_X5_tellStatement_99 : cs_X5_tellStatement 99 = am_site 2 [some 0, none] T_X4_moveToFront [2, 3, 4, 5, 6, 7] [2, 3, 4, 5, 6, 7] := rfl
theorem cs_X5_tellStatement_109 : cs_X5_tellStatement 109 = am_site 2 [some 0, none] T_X5_digitAt [0, 1] [0, 1] := rfl
theorem cs_X5_tellStatement_112 : cs_X5_tellStatement 112 = am_site 3 [some 0, none, none] T_X4_exchangeKinds [2, 3, 4, 5, 6, 7] [2, 3, 4, 5, 6, 7] := rfl
theorem ck_X5_tellStatement : ∀ X : am_X, am_cx X RX5 cX5_tellStatement 4 6 135 → ∀ pc, am_csok X 4 sh_TR pc (cs_X5_tellStatement pc) := fun X hX => am_cs_ok (List.forall_mem_cons.mpr ⟨am_callV hX C_X5_digitAt mo_X5_digitAt rfl lk_X5_60 dX5_tellStatement_4 rfl rfl rfl (by decide), List.forall_mem_cons.mpr ⟨am_callV hX C_X5_letterAt mo_X5_letterAt rfl lk_X5_45 dX5_tellStatement_10 rfl rfl rfl (by decide), List.forall_mem_cons.mpr ⟨am_callV hX C_X5_tellCar mo_X5_tellCar rfl lk_X5_63 dX5_tellStatement_75 rfl rfl rfl (by decide), List.forall_mem_cons.mpr ⟨am_callV hX C_X4_putBoard mo_X4_putBoard rfl lk_X5_66 dX5_tellStatement_81 rfl rfl rfl (by decide), List.forall_mem_cons.mpr ⟨am_callV hX C_X4_putWave mo_X4_putWave rfl lk_X5_70 dX5_tellStatement_87 rfl rfl rfl (by decide), List.forall_mem_cons.mpr ⟨am_callV hX C_X4_crossOver mo_X4_crossOver rfl lk_X5_73 dX5_tellStatement_93 rfl rfl rfl (by decide), List.forall_mem_cons.mpr ⟨am_callV hX C_X4_moveToFront mo_X4_moveToFront rfl lk_X5_76 dX5_tellStatement_99 rfl rfl rfl (by decide), List.forall_mem_cons.mpr ⟨am_callV hX C_X5_digitAt mo_X5_digitAt rfl lk_X5_60 dX5_tellStatement_109 rfl rfl rfl (by decide), List.forall_mem_cons.mpr ⟨am_callV hX C_X4_exchangeKinds mo_X4_exchangeKinds rfl lk_X5_79 dX5_tellStatement_112 rfl rfl rfl (by decide), fun _ h => absurd h List.not_mem_nil⟩⟩⟩⟩⟩⟩⟩⟩⟩)
abbrev ok_X5_tellStatement (X : am_X) (K : List Int32 → am_D → Prop) : Prop := am_ok X RX5 cX5_tellStatement 4 sh_TR fl_X5 kc_X5 none 2 cs_X5_tellStatement K
abbrev aw_X5_tellStatement (X : am_X) (pc : Nat) (ls : am_L) (st : List am_V) (D : am_D) : Prop := am_aw X 4 sh_TR pc ls st D
abbrev T_X5_tellStatement : am_TT := fun is D K => ∃ ls s x d1 d2, is = [nI s] ∧ s < ls.length ∧ D = d1 ++ d2 ∧ tX ls d1 ∧ rS x d2 ∧ fmS ls s ∧ tlK (tl1 ls s x) d1 d2 K
theorem B_X5_tellStatement : ∀ (X : am_X) (is : List Int32) (D : am_D) (K : List Int32 → am_D → Prop), ok_X5_tellStatement X K → T_X5_tellStatement is D K → is.length = (List.filter Option.isNone ([some 0, none, some 2] : List (Option Nat))).length → D.length = sh_TR.length → am_aw X 4 sh_TR 0 (am_l0 4 [some 0, none, some 2] is) [] D := by
  intro X is D K O hT _ _
  obtain ⟨ls, s, ⟨n, b, w, kd, fg, la, hu, li⟩, d1, d2, rfl, hs, rfl, ht, hR, hfm, hK⟩ := hT
  obtain ⟨f, rfl, hl, hf, hc⟩ := id ht
  have hR : rA n b w kd fg la hu li d2 := hR
  obtain ⟨kk, ff, ll, hh, ii, rfl, hn, hb, hw, hj, hp, hi⟩ := id hR
  have h256 := tX_lt hc s
  have e1 := nI_lit (k := ls.getD s 0) 98 (by omega) (by decide)
  have e2 := nI_lit (k := ls.getD s 0) 99 (by omega) (by decide)
  have e3 := nI_lit (k := ls.getD s 0) 102 (by omega) (by decide)
  have e4 := nI_lit (k := ls.getD s 0) 111 (by omega) (by decide)
  have e5 := nI_lit (k := ls.getD s 0) 119 (by omega) (by decide)
  have e6 := nI_lit (k := ls.getD s 0) 120 (by omega) (by decide)
  have hd : ∀ i, dgt ls s i = ls.getD (s + i) 0 - 48 := fun i => rfl
  have h48 : 48 ≤ ls.getD (s + 1) 0 := by
    by_cases h99 : ls.getD s 0 = 99
    · exact (kx_kxn _ (tX_lt hc (s + 1)) (fm_kind hfm h99).1).2.2
    · have := hfm.1
      refine (fm_dig hfm 1 (by omega) ?_ (fun z => absurd z h99)).1
      unfold slN at this ⊢
      revert this
      repeat' split
      all_goals omega
  have hd9 : ¬ ls.getD s 0 = 99 → dgt ls s 1 ≤ 9 := by
    intro h99
    have := hfm.1
    have := (fm_dig hfm 1 (by omega) (by
      unfold slN at this ⊢
      revert this
      repeat' split
      all_goals omega) (fun z => absurd z h99)).2.1
    rw [hd]; omega
  have fin : ∀ c, dgt ls s 1 = c → (∃ c', c' < n ∧ nI (dgt ls s 1) = nI c') → ls.getD s 0 ≠ 99 → c < n := by
    intro c h1 h2 h3
    obtain ⟨c', h4, h5⟩ := h2
    have := (nI_eq (by have := hd9 h3; omega) (by omega)).mp h5
    omega
  unfold tl1 at hK
  refine am_begin rfl ?_
  refine st_aloadn O dX5_tellStatement_0 rfl (q := 1) rfl ?_
  refine st_iloadn O dX5_tellStatement_1 rfl (q := 2) rfl ?_
  refine st_iconst O dX5_tellStatement_2 am_iconst_1 (q := 3) rfl ?_
  refine st_iadd O dX5_tellStatement_3 (by first | exact nI_add _ _ | exact rfl) (q := 4) rfl ?_
  refine st_call O dX5_tellStatement_4 cs_X5_tellStatement_4 (q := 7) rfl (am_sip rfl rfl rfl (Nat.le_of_ble_eq_true rfl) rfl (r := nI (dgt ls s 1)) ⟨ls, s + 1, ht, by omega, h48, rfl, rfl⟩ ?_)
  refine st_istoren O dX5_tellStatement_7 rfl (q := 8) rfl ?_
  refine st_aloadn O dX5_tellStatement_8 rfl (q := 9) rfl ?_
  refine st_iloadn O dX5_tellStatement_9 rfl (q := 10) rfl ?_
  refine st_call O dX5_tellStatement_10 cs_X5_tellStatement_10 (q := 13) rfl (am_sip rfl rfl rfl (Nat.le_of_ble_eq_true rfl) rfl (r := nI (ls.getD s 0)) ⟨ls, s, ht, by omega, rfl, rfl⟩ ?_)
  refine st_lookup O dX5_tellStatement_13 (os := [(98, 66), (99, 59), (102, 84), (111, 78), (119, 72), (120, 90)]) rfl rfl ?_
  refine sw_consL (v := 98) (by decide) (t := 79) rfl (fun c13_98 => ?_) (fun c13_98 => ?_)
  · refine st_aloadn O dX5_tellStatement_79 rfl (q := 80) rfl ?_
    refine st_iloadn O dX5_tellStatement_80 rfl (q := 81) rfl ?_
    refine st_call O dX5_tellStatement_81 cs_X5_tellStatement_81 (q := 84) rfl (am_si rfl rfl rfl (Nat.le_of_ble_eq_true rfl) rfl ?_)
    have q := e1.mp c13_98
    rw [if_pos q] at hK
    refine ⟨_, nI n, nI b, nI w, rfl, rfl, ?_⟩
    by_cases h2 : dgt ls s 1 ≤ 2
    · rw [if_pos h2] at hK
      refine Or.inl ⟨_, h2, rfl, ?_⟩
      refine am_norm rfl rfl ?_
      exact st_zreturn O dX5_tellStatement_84 (Or.inr rfl) (hK _ ⟨kk, ff, ll, hh, ii, rfl, hn, h2, hw, hj, hp, hi⟩)
    · rw [if_neg h2] at hK
      refine Or.inr ⟨fun ⟨v, z1, z2⟩ => h2 (by have := hd9 (by omega); rw [(nI_eq (by omega) (by omega)).mp z2]; exact z1), ?_⟩
      refine am_norm rfl rfl ?_
      exact st_zreturn O dX5_tellStatement_84 (Or.inl rfl) hK
  refine sw_consL (v := 99) (by decide) (t := 72) rfl (fun c13_99 => ?_) (fun c13_99 => ?_)
  · refine st_aloadn O dX5_tellStatement_72 rfl (q := 73) rfl ?_
    refine st_iloadn O dX5_tellStatement_73 rfl (q := 74) rfl ?_
    refine st_aloadn O dX5_tellStatement_74 rfl (q := 75) rfl ?_
    refine st_call O dX5_tellStatement_75 cs_X5_tellStatement_75 (q := 78) rfl (am_si rfl rfl rfl (Nat.le_of_ble_eq_true rfl) rfl ?_)
    have q := e2.mp c13_99
    rw [if_neg (by omega), if_pos q] at hK
    refine ⟨ls, s, (n, b, w, kd, fg, la, hu, li), [.inl [nI ls.length], .inr f], _, rfl, (by exact rfl), ht, hR, q, hfm, ?_⟩
    cases ho : tlC ls s (n, b, w, kd, fg, la, hu, li) with
    | none =>
      rw [ho] at hK
      refine am_norm rfl rfl ?_
      exact st_zreturn O dX5_tellStatement_78 (Or.inl rfl) hK
    | some y =>
      rw [ho] at hK
      intro D' hR'
      have hK := hK D' hR'
      obtain ⟨k', f', l', h', i', rfl, -⟩ := hR'
      refine am_norm rfl rfl ?_
      exact st_zreturn O dX5_tellStatement_78 (Or.inr rfl) hK
  refine sw_consL (v := 102) (by decide) (t := 97) rfl (fun c13_102 => ?_) (fun c13_102 => ?_)
  · refine st_aloadn O dX5_tellStatement_97 rfl (q := 98) rfl ?_
    refine st_iloadn O dX5_tellStatement_98 rfl (q := 99) rfl ?_
    refine st_call O dX5_tellStatement_99 cs_X5_tellStatement_99 (q := 102) rfl (am_si rfl rfl rfl (Nat.le_of_ble_eq_true rfl) rfl ?_)
    have q := e3.mp c13_102
    rw [if_neg (by omega), if_neg (by omega), if_pos q] at hK
    refine ⟨n, b, w, kd, fg, la, hu, li, _, hR, rfl, ?_⟩
    by_cases h2 : dgt ls s 1 < n
    · rw [if_pos h2] at hK
      refine Or.inl ⟨_, h2, rfl, fun D' hR' => ?_⟩
      have hK := hK D' hR'
      obtain ⟨k', f', l', h', i', rfl, -⟩ := hR'
      refine am_norm rfl rfl ?_
      exact st_zreturn O dX5_tellStatement_102 (Or.inr rfl) hK
    · rw [if_neg h2] at hK
      refine Or.inr ⟨fun z => h2 (fin _ rfl z (by omega)), ?_⟩
      refine am_norm rfl rfl ?_
      exact st_zreturn O dX5_tellStatement_102 (Or.inl rfl) hK
  refine sw_consL (v := 111) (by decide) (t := 91) rfl (fun c13_111 => ?_) (fun c13_111 => ?_)
  · refine st_aloadn O dX5_tellStatement_91 rfl (q := 92) rfl ?_
    refine st_iloadn O dX5_tellStatement_92 rfl (q := 93) rfl ?_
    refine st_call O dX5_tellStatement_93 cs_X5_tellStatement_93 (q := 96) rfl (am_si rfl rfl rfl (Nat.le_of_ble_eq_true rfl) rfl ?_)
    have q := e4.mp c13_111
    rw [if_neg (by omega), if_neg (by omega), if_neg (by omega), if_pos q] at hK
    refine ⟨n, b, w, kd, fg, la, hu, li, _, hR, rfl, ?_⟩
    by_cases h2 : dgt ls s 1 < n
    · rw [if_pos h2] at hK
      refine Or.inl ⟨_, h2, rfl, fun D' hR' => ?_⟩
      have hK := hK D' hR'
      obtain ⟨k', f', l', h', i', rfl, -⟩ := hR'
      refine am_norm rfl rfl ?_
      exact st_zreturn O dX5_tellStatement_96 (Or.inr rfl) hK
    · rw [if_neg h2] at hK
      refine Or.inr ⟨fun z => h2 (fin _ rfl z (by omega)), ?_⟩
      refine am_norm rfl rfl ?_
      exact st_zreturn O dX5_tellStatement_96 (Or.inl rfl) hK
  refine sw_consL (v := 119) (by decide) (t := 85) rfl (fun c13_119 => ?_) (fun c13_119 => ?_)
  · refine st_aloadn O dX5_tellStatement_85 rfl (q := 86) rfl ?_
    refine st_iloadn O dX5_tellStatement_86 rfl (q := 87) rfl ?_
    refine st_call O dX5_tellStatement_87 cs_X5_tellStatement_87 (q := 90) rfl (am_si rfl rfl rfl (Nat.le_of_ble_eq_true rfl) rfl ?_)
    have q := e5.mp c13_119
    rw [if_neg (by omega), if_neg (by omega), if_neg (by omega), if_neg (by omega), if_pos q] at hK
    refine ⟨_, nI n, nI b, nI w, rfl, rfl, ?_⟩
    refine Or.inl ⟨_, hd9 (by omega), rfl, ?_⟩
    refine am_norm rfl rfl ?_
    exact st_zreturn O dX5_tellStatement_90 (Or.inr rfl) (hK _ ⟨kk, ff, ll, hh, ii, rfl, hn, hb, hd9 (by omega), hj, hp, hi⟩)
  refine sw_consL (v := 120) (by decide) (t := 103) rfl (fun c13_120 => ?_) (fun c13_120 => ?_)
  · refine st_aloadn O dX5_tellStatement_103 rfl (q := 104) rfl ?_
    refine st_iloadn O dX5_tellStatement_104 rfl (q := 105) rfl ?_
    refine st_aloadn O dX5_tellStatement_105 rfl (q := 106) rfl ?_
    refine st_iloadn O dX5_tellStatement_106 rfl (q := 107) rfl ?_
    refine st_iconst O dX5_tellStatement_107 am_iconst_2 (q := 108) rfl ?_
    refine st_iadd O dX5_tellStatement_108 (by first | exact nI_add _ _ | exact rfl) (q := 109) rfl ?_
    refine st_call O dX5_tellStatement_109 cs_X5_tellStatement_109 (q := 112) rfl (am_sip rfl rfl rfl (Nat.le_of_ble_eq_true rfl) rfl (r := nI (dgt ls s 2)) ⟨ls, s + 2, ht, by omega, (fm_dig hfm 2 (by omega) (by rw [e6.mp c13_120]; decide) (by have := e6.mp c13_120; omega)).1, rfl, rfl⟩ ?_)
    refine st_call O dX5_tellStatement_112 cs_X5_tellStatement_112 (q := 115) rfl (am_si rfl rfl rfl (Nat.le_of_ble_eq_true rfl) rfl ?_)
    have q := e6.mp c13_120
    have g2 := fm_dig hfm 2 (by omega) (by rw [q]; decide) (by omega)
    have g3 := hd9 (by omega)
    have g4 : dgt ls s 2 ≤ 9 := by rw [hd]; omega
    rw [if_neg (by omega), if_neg (by omega), if_neg (by omega), if_neg (by omega), if_neg (by omega), if_pos q] at hK
    refine ⟨n, b, w, kd, fg, la, hu, li, _, _, hR, rfl, ?_⟩
    by_cases h2 : dgt ls s 1 < n ∧ dgt ls s 2 < n ∧ dgt ls s 1 ≠ dgt ls s 2
    · rw [if_pos h2] at hK
      refine Or.inl ⟨_, _, h2.1, h2.2.1, h2.2.2, rfl, rfl, fun D' hR' => ?_⟩
      have hK := hK D' hR'
      obtain ⟨k', f', l', h', i', rfl, -⟩ := hR'
      refine am_norm rfl rfl ?_
      exact st_zreturn O dX5_tellStatement_115 (Or.inr rfl) hK
    · rw [if_neg h2] at hK
      refine Or.inr ⟨fun ⟨p', q', z1, z2, z3, z4, z5⟩ => h2 ?_, ?_⟩
      · rw [(nI_eq (by omega) (by omega)).mp z4, (nI_eq (by omega) (by omega)).mp z5]; exact ⟨z1, z2, z3⟩
      refine am_norm rfl rfl ?_
      exact st_zreturn O dX5_tellStatement_115 (Or.inl rfl) hK
  refine sw_nilL (t := 116) rfl ?_
  refine st_iconst O dX5_tellStatement_116 am_iconst_0 (q := 117) rfl ?_
  refine st_zreturn O dX5_tellStatement_117 (by first | exact Or.inl rfl | exact Or.inr rfl | assumption) ?_
  exfalso
  have := hfm.1
  unfold slN at this
  rw [if_neg (fun z => c13_98 (e1.mpr z)), if_neg (fun z => c13_99 (e2.mpr z)), if_neg (fun z => c13_102 (e3.mpr z)), if_neg (fun z => c13_111 (e4.mpr z)), if_neg (fun z => c13_119 (e5.mpr z)), if_neg (fun z => c13_120 (e6.mpr z))] at this
  exact absurd this (Nat.lt_irrefl 0)
theorem C_X5_tellStatement : am_ctr yX5_tellStatement cX5_tellStatement 4 (some .boolean) 6 135 sh_TR [some 0, none, some 2] T_X5_tellStatement := am_mk (by decide) (Or.inr (Or.inr ⟨rfl, rfl⟩)) (by decide) (by decide) (by decide) fl_X5_ok kc_X5_ok ck_X5_tellStatement B_X5_tellStatement
