/-! Choices -/
abbrev sh_HPR : am_S := [.inr (1, [.inr 13, .inr 1, .inr 14, .inr 15, .inl 0]), .inr (2, [.inr 2, .inr 3, .inr 4, .inl 0, .inl 1, .inr 5, .inr 6, .inl 2, .inl 3, .inl 4, .inl 5, .inl 6, .inl 7, .inl 8]), .inl 9, .inl 9, .inl 9, .inl 9, .inl 9, .inr (3, [.inl 0, .inl 1, .inl 2, .inr 8, .inr 9, .inr 10, .inr 11, .inr 12]), .inl 9, .inl 9, .inl 9, .inl 9, .inl 9]
abbrev sh_HX : am_S := [.inr (1, [.inr 1, .inr 7, .inr 13, .inr 14, .inl 0]), .inr (3, [.inl 0, .inl 1, .inl 2, .inr 2, .inr 3, .inr 4, .inr 5, .inr 6]), .inl 9, .inl 9, .inl 9, .inl 9, .inl 9, .inr (2, [.inr 8, .inr 9, .inr 10, .inl 0, .inl 1, .inr 11, .inr 12, .inl 2, .inl 3, .inl 4, .inl 5, .inl 6, .inl 7, .inl 8]), .inl 9, .inl 9, .inl 9, .inl 9, .inl 9, .inl 4, .inl 4, .inr (3, [.inl 0, .inl 1, .inl 2, .inr 16, .inr 17, .inr 18, .inr 19, .inr 20]), .inl 9, .inl 9, .inl 9, .inl 9, .inl 9]
abbrev sh_HY : am_S := [.inr (1, [.inr 1, .inr 7, .inr 19, .inr 20, .inl 0]), .inr (3, [.inl 0, .inl 1, .inl 2, .inr 2, .inr 3, .inr 4, .inr 5, .inr 6]), .inl 9, .inl 9, .inl 9, .inl 9, .inl 9, .inr (2, [.inr 8, .inr 9, .inr 10, .inl 0, .inl 1, .inr 11, .inr 12, .inl 2, .inl 3, .inl 4, .inl 5, .inl 6, .inl 7, .inl 8]), .inl 9, .inl 9, .inl 9, .inl 9, .inl 9, .inr (3, [.inl 0, .inl 1, .inl 2, .inr 14, .inr 15, .inr 16, .inr 17, .inr 18]), .inl 9, .inl 9, .inl 9, .inl 9, .inl 9]
abbrev sh_H1 : am_S := [.inr (1, [.inr 1, .inr 2, .inr 3, .inr 4, .inl 0])]
def iI (z : Int) : Int32 := Int32.ofInt z
theorem iI_t {z : Int} (h1 : -100000 ≤ z) (h2 : z ≤ 100000) : (iI z).toInt = z := by
  exact Int32.toInt_ofInt_of_le (by omega) (by omega)
theorem iI_sub {a b : Nat} (ha : a ≤ 50000) (hb : b ≤ 50000) : nI a - nI b = iI ((a : Int) - b) := by
  apply Int32.toInt_inj.mp
  rw [pk_sub_toInt (by omega) (by omega), iI_t (by omega) (by omega)]
theorem iI_lt {a b : Int} (h1 : -100000 ≤ a) (h2 : a ≤ 100000) (h3 : -100000 ≤ b) (h4 : b ≤ 100000) : iI a < iI b ↔ a < b := by
  rw [Int32.lt_iff_toInt_lt, iI_t h1 h2, iI_t h3 h4]
theorem iI_le {a b : Int} (h1 : -100000 ≤ a) (h2 : a ≤ 100000) (h3 : -100000 ≤ b) (h4 : b ≤ 100000) : iI a ≤ iI b ↔ a ≤ b := by
  rw [Int32.le_iff_toInt_le, iI_t h1 h2, iI_t h3 h4]
/-- a car's wait -/
def wtc (L : List (Nat × Nat × Nat)) (c : Nat) : Nat := wt_ L (tu_ L c)
theorem wtc_le {L : List (Nat × Nat × Nat)} {B : Nat} (h : ∀ q ∈ L, q.2.2 ≤ B) (c : Nat) : wtc L c ≤ B := by
  unfold wtc wt_
  rcases Nat.lt_or_ge (tu_ L c) L.length with q | q
  · exact h _ (L_mem q)
  · rw [List.getD_eq_getElem?_getD, List.getElem?_eq_none_iff.mpr q]
    exact Nat.zero_le _
theorem sim_all {n b w a c : Nat} {kd fg la : Nat → Nat} {li : List Nat} (hp : li.Perm (List.range n)) (hl : ∀ c, c < n → la c < 2) (hc : c < n) (ha : a.testBit c = false) : c ∈ (simA b w kd fg la li a).map (fun q => q.1) := by
  rw [(sim_perm b w kd fg _ _).mem_iff, List.mem_append]
  have h1 := (pl_mem hp).mpr hc
  have h2 := hl c hc
  rcases (show la c = 0 ∨ la c = 1 by omega) with e | e
  · exact Or.inl (List.mem_filter.mpr ⟨h1, by simp [e, ha]⟩)
  · exact Or.inr (List.mem_filter.mpr ⟨h1, by simp [e, ha]⟩)
theorem tb_ne : ∀ o, o < 9 → ∀ c, c < 9 → c ≠ o → (2 ^ o).testBit c = false := by decide +kernel
def cs_X1_loss : Nat → List am_V → am_D → am_K → Prop := am_cs [(6, am_site 3 [some 0, some 6, none] T_X3_drive [1, 2, 3, 4, 5, 6, 7, 8, 9, 10, 11, 12] [1, 2, 3, 4, 5, 6, 7, 8, 9, 10, 11, 12]), (28, am_site 3 [some 0, some 6, none] T_X3_drive [1, 2, 3, 4, 5, 6, 7, 8, 9, 10, 11, 12] [1, 2, 3, 4, 5, 6, 7, 8, 9, 10, 11, 12])]
theorem cs_X1_loss_6 : cs_X1_loss 6 = am_site 3 [some 0, some 6, none] T_X3_drive [1, 2, 3, 4, 5, 6, 7, 8, 9, 10, 11, 12] [1, 2, 3, 4, 5, 6, 7, 8, 9, 10, 11, 12] := rfl
theorem cs_X1_loss_28 : cs_X1_loss 28 = am_site 3 [some 0, some 6, none] T_X3_drive [1, 2, 3, 4, 5, 6, 7, 8, 9, 10, 11, 12] [1, 2, 3, 4, 5, 6, 7, 8, 9, 10, 11, 12] := rfl
theorem ck_X1_loss : ∀ X : am_X, am_cx X RX1 cX1_loss 5 4 91 → ∀ pc, am_csok X 5 sh_HPR pc (cs_X1_loss pc) := fun X hX => am_cs_ok (List.forall_mem_cons.mpr ⟨am_callV hX C_X3_drive mo_X3_drive rfl lk_X1_36 dX1_loss_6 rfl rfl rfl (by decide), List.forall_mem_cons.mpr ⟨am_callV hX C_X3_drive mo_X3_drive rfl lk_X1_36 dX1_loss_28 rfl rfl rfl (by decide), fun _ h => absurd h List.not_mem_nil⟩⟩)
abbrev ok_X1_loss (X : am_X) (K : List Int32 → am_D → Prop) : Prop := am_ok X RX1 cX1_loss 5 sh_HPR fl_X1 kc_X1 none 1 cs_X1_loss K
abbrev aw_X1_loss (X : am_X) (pc : Nat) (ls : am_L) (st : List am_V) (D : am_D) : Prop := am_aw X 5 sh_HPR pc ls st D
def lsz (b w : Nat) (kd fg la : Nat → Nat) (li : List Nat) (c o : Nat) : Int := (wtc (simA b w kd fg la li 0) c : Int) - wtc (simA b w kd fg la li (2 ^ o)) c
theorem simA_117 {n b w : Nat} {kd fg la : Nat → Nat} {li : List Nat} (hn : n ≤ 9) (hw : w ≤ 9) (hp : li.Perm (List.range n)) (a : Nat) : ∀ q ∈ simA b w kd fg la li a, q.2.2 ≤ 117 := sim_bd hw (Nat.le_trans (qu_sum hp) hn)
theorem lsz_bd {n b w c o : Nat} {kd fg la : Nat → Nat} {li : List Nat} (hn : n ≤ 9) (hw : w ≤ 9) (hp : li.Perm (List.range n)) : -100000 ≤ lsz b w kd fg la li c o ∧ lsz b w kd fg la li c o ≤ 100000 := by
  have h1 := wtc_le (simA_117 (b := b) (kd := kd) (fg := fg) (la := la) hn hw hp 0) c
  have h2 := wtc_le (simA_117 (b := b) (kd := kd) (fg := fg) (la := la) hn hw hp (2 ^ o)) c
  unfold lsz
  omega
abbrev T_X1_loss : am_TT := fun is D K => ∃ n b w kd fg la hu li dp dr sd c o, is = [nI c, nI o] ∧ c < n ∧ o < n ∧ c ≠ o ∧ D = .inl [sd] :: (dp ++ dr) ∧ pF dp ∧ rA n b w kd fg la hu li dr ∧ ∀ dp', pF dp' → K [iI (lsz b w kd fg la li c o)] (.inl [sd] :: (dp' ++ dr))
theorem B_X1_loss : ∀ (X : am_X) (is : List Int32) (D : am_D) (K : List Int32 → am_D → Prop), ok_X1_loss X K → T_X1_loss is D K → is.length = (List.filter Option.isNone ([some 0, some 7, none, none] : List (Option Nat))).length → D.length = sh_HPR.length → am_aw X 5 sh_HPR 0 (am_l0 5 [some 0, some 7, none, none] is) [] D := by
  intro X is D K O hT _ _
  obtain ⟨n, b, w, kd, fg, la, hu, li, dp, dr, sd, c, o, rfl, hc, ho, hco, rfl, hF, hR, hK⟩ := hT
  obtain ⟨kk, ff, ll, hh, ii, rfl, hn, hb, hw, hj, hp, hi⟩ := id hR
  have hF' := hF
  have hl2 : ∀ c, c < n → la c < 2 := fun c hc => (hj c hc).2.2.1.2
  have m1 := sim_all (b := b) (w := w) (a := 0) (kd := kd) (fg := fg) hp hl2 hc (Nat.zero_testBit c)
  have m2 := sim_all (b := b) (w := w) (a := 2 ^ o) (kd := kd) (fg := fg) hp hl2 hc (tb_ne o (by omega) c (by omega) hco)
  have h1 := wtc_le (simA_117 (b := b) (kd := kd) (fg := fg) (la := la) hn hw hp 0) c
  have h2 := wtc_le (simA_117 (b := b) (kd := kd) (fg := fg) (la := la) hn hw hp (2 ^ o)) c
  obtain ⟨i0, i1, i2, i3, i4, i5, i6, i7, i8, o0, wt, tn, r0, l0, rfl⟩ := hF
  refine am_begin rfl ?_
  refine am_norm rfl rfl ?_
  refine st_aloadn O dX1_loss_0 rfl (q := 1) rfl ?_
  refine st_getr O dX1_loss_1 fl_X1_21 rfl rfl rfl (q := 4) rfl ?_
  refine st_aloadn O dX1_loss_4 rfl (q := 5) rfl ?_
  refine st_iconst O dX1_loss_5 am_iconst_0 (q := 6) rfl ?_
  refine st_call O dX1_loss_6 cs_X1_loss_6 (q := 9) rfl (am_si rfl rfl rfl (Nat.le_of_ble_eq_true rfl) rfl ?_)
  refine ⟨n, b, w, kd, fg, la, hu, li, _, _, 0, rfl, by omega, (by exact rfl), hF', hR, fun d hd => ?_⟩
  have hdf := hd.form
  obtain ⟨j2, j3, j4, j5, j6, j7, j8, o1, wt, tn, rr, l, rfl, hO⟩ := id hd
  refine am_norm rfl rfl ?_
  refine st_aloadn O dX1_loss_9 rfl (q := 10) rfl ?_
  refine st_getr O dX1_loss_10 fl_X1_21 rfl rfl rfl (q := 13) rfl ?_
  refine st_getr O dX1_loss_13 fl_X1_40 rfl rfl rfl (q := 16) rfl ?_
  refine st_iloadn O dX1_loss_16 rfl (q := 17) rfl ?_
  refine sn_ald O dX1_loss_17 rfl rfl rfl ⟨by omega, by decide⟩ (tu_wt hO m1) (q := 18) rfl ?_
  refine st_istore O dX1_loss_18 rfl (q := 20) rfl ?_
  refine st_aloadn O dX1_loss_20 rfl (q := 21) rfl ?_
  refine st_getr O dX1_loss_21 fl_X1_21 rfl rfl rfl (q := 24) rfl ?_
  refine st_aloadn O dX1_loss_24 rfl (q := 25) rfl ?_
  refine st_iconst O dX1_loss_25 am_iconst_1 (q := 26) rfl ?_
  refine st_iloadn O dX1_loss_26 rfl (q := 27) rfl ?_
  refine st_ishl O dX1_loss_27 (sh_tab o (by omega)) (q := 28) rfl ?_
  refine st_call O dX1_loss_28 cs_X1_loss_28 (q := 31) rfl (am_si rfl rfl rfl (Nat.le_of_ble_eq_true rfl) rfl ?_)
  refine ⟨n, b, w, kd, fg, la, hu, li, _, _, 2 ^ o, rfl, p2_lt o (by omega), (by exact rfl), hdf, hR, fun d2 hd2 => ?_⟩
  have hK := hK d2 hd2.form
  obtain ⟨j2, j3, j4, j5, j6, j7, j8, o1, wt, tn, rr, l, rfl, hO2⟩ := id hd2
  refine am_norm rfl rfl ?_
  refine st_iload O dX1_loss_31 rfl (q := 33) rfl ?_
  refine st_aloadn O dX1_loss_33 rfl (q := 34) rfl ?_
  refine st_getr O dX1_loss_34 fl_X1_21 rfl rfl rfl (q := 37) rfl ?_
  refine st_getr O dX1_loss_37 fl_X1_40 rfl rfl rfl (q := 40) rfl ?_
  refine st_iloadn O dX1_loss_40 rfl (q := 41) rfl ?_
  refine sn_ald O dX1_loss_41 rfl rfl rfl ⟨by omega, by decide⟩ (tu_wt hO2 m2) (q := 42) rfl ?_
  refine st_isub O dX1_loss_42 (iI_sub (a := wtc (simA b w kd fg la li 0) c) (b := wtc (simA b w kd fg la li (2 ^ o)) c) (by omega) (by omega)) (q := 43) rfl ?_
  refine st_ireturn O dX1_loss_43 ?_
  exact hK
theorem C_X1_loss : am_ctr yX1_loss cX1_loss 5 (some .int) 4 91 sh_HPR [some 0, some 7, none, none] T_X1_loss := am_mk (by decide) (Or.inr (Or.inl ⟨rfl, rfl⟩)) (by decide) (by decide) (by decide) fl_X1_ok kc_X1_ok ck_X1_loss B_X1_loss
def lsM (f : Nat → Int) (c : Nat) : Nat → Option Nat × Int
  | 0 => (none, 0)
  | m + 1 => if m ≠ c ∧ ((lsM f c m).1 = none ∨ (lsM f c m).2 < f m) then (some m, f m) else lsM f c m
theorem lsM_bd {f : Nat → Int} {c : Nat} (h : ∀ j, -100000 ≤ f j ∧ f j ≤ 100000) : ∀ m, -100000 ≤ (lsM f c m).2 ∧ (lsM f c m).2 ≤ 100000
  | 0 => ⟨(by decide : (-100000 : Int) ≤ 0), (by decide : (0 : Int) ≤ 100000)⟩
  | m + 1 => by
    rw [lsM]
    split
    · exact h m
    · exact lsM_bd h m
theorem lsM_lt {f : Nat → Int} {c : Nat} : ∀ m k, (lsM f c m).1 = some k → k < m
  | 0, k, h => by cases h
  | m + 1, k, h => by
    rw [lsM] at h
    split at h
    · cases h; exact Nat.lt_succ_self m
    · exact Nat.lt_succ_of_lt (lsM_lt m k h)
def cs_X1_greatestLossBy : Nat → List am_V → am_D → am_K → Prop := am_cs [(32, am_site 4 [some 0, some 7, none, none] T_X1_loss [0, 1, 2, 3, 4, 5, 6, 7, 8, 9, 10, 11, 12] [0, 1, 2, 3, 4, 5, 6, 7, 8, 9, 10, 11, 12, 13, 14, 15])]
theorem cs_X1_greatestLossBy_32 : cs_X1_greatestLossBy 32 = am_site 4 [some 0, some 7, none, none] T_X1_loss [0, 1, 2, 3, 4, 5, 6, 7, 8, 9, 10, 11, 12] [0, 1, 2, 3, 4, 5, 6, 7, 8, 9, 10, 11, 12, 13, 14, 15] := rfl
theorem ck_X1_greatestLossBy : ∀ X : am_X, am_cx X RX1 cX1_greatestLossBy 7 5 115 → ∀ pc, am_csok X 7 sh_HPR pc (cs_X1_greatestLossBy pc) := fun X hX => am_cs_ok (List.forall_mem_cons.mpr ⟨am_callV hX C_X1_loss mo_X1_loss rfl lk_X1_46 dX1_greatestLossBy_32 rfl rfl rfl (by decide), fun _ h => absurd h List.not_mem_nil⟩)
abbrev ok_X1_greatestLossBy (X : am_X) (K : List Int32 → am_D → Prop) : Prop := am_ok X RX1 cX1_greatestLossBy 7 sh_HPR fl_X1 kc_X1 none 1 cs_X1_greatestLossBy K
abbrev aw_X1_greatestLossBy (X : am_X) (pc : Nat) (ls : am_L) (st : List am_V) (D : am_D) : Prop := am_aw X 7 sh_HPR pc ls st D
abbrev T_X1_greatestLossBy : am_TT := fun is D K => ∃ n b w kd fg la hu li dp dr sd c, is = [nI c] ∧ c < n ∧ D = .inl [sd] :: (dp ++ dr) ∧ pF dp ∧ rA n b w kd fg la hu li dr ∧ ∀ dp', pF dp' → K [oI (lsM (lsz b w kd fg la li c) c n).1] (.inl [sd] :: (dp' ++ dr))
theorem B_X1_greatestLossBy : ∀ (X : am_X) (is : List Int32) (D : am_D) (K : List Int32 → am_D → Prop), ok_X1_greatestLossBy X K → T_X1_greatestLossBy is D K → is.length = (List.filter Option.isNone ([some 0, some 7, none] : List (Option Nat))).length → D.length = sh_HPR.length → am_aw X 7 sh_HPR 0 (am_l0 7 [some 0, some 7, none] is) [] D := by
  intro X is D K O hT _ _
  obtain ⟨n, b, w, kd, fg, la, hu, li, dp, dr, sd, c, rfl, hc, rfl, hF, hR, hK⟩ := hT
  obtain ⟨kk, ff, ll, hh, ii, rfl, hn, hb, hw, hj, hp, hi⟩ := id hR
  obtain ⟨f, hf⟩ : ∃ f : Nat → Int, f = lsz b w kd fg la li c := ⟨_, rfl⟩
  have hfb : ∀ j, -100000 ≤ f j ∧ f j ≤ 100000 := fun j => by rw [hf]; exact lsz_bd hn hw hp
  rw [← hf] at hK
  have loop : ∀ d m x6 (dp : am_D), n - m = d → m ≤ n → pF dp → am_aw X 7 sh_HPR 9 [some (.inr 0), some (.inr 7), some (.inl (nI c)), some (.inl (oI (lsM f c m).1)), some (.inl (iI (lsM f c m).2)), some (.inl (nI m)), x6] [] (.inl [sd] :: (dp ++ [.inl [nI n, nI b, nI w], .inr kk, .inr ff, .inr ll, .inr hh, .inr ii])) := by
    intro d
    induction d with
    | zero =>
      intro m x6 dp hd hm hF
      have e : m = n := by omega
      subst e
      have hK := hK dp hF
      obtain ⟨j0, j1, j2, j3, j4, j5, j6, j7, j8, o, wt, tn, r0, l1, rfl⟩ := hF
      refine am_norm rfl rfl ?_
      refine st_iload O dX1_greatestLossBy_9 rfl (q := 11) rfl ?_
      refine st_aloadn O dX1_greatestLossBy_11 rfl (q := 12) rfl ?_
      refine st_geti O dX1_greatestLossBy_12 fl_X1_43 rfl rfl rfl rfl (q := 15) rfl ?_
      refine sn_icmp_ge O dX1_greatestLossBy_15 (t := 63) rfl (q := 18) rfl (by omega) (by omega) (fun c15 => ?_) (fun c15 => ?_)
      · refine st_iloadn O dX1_greatestLossBy_63 rfl (q := 64) rfl ?_
        refine st_ireturn O dX1_greatestLossBy_64 ?_
        exact hK
      omega
    | succ d ih =>
      intro m x6 dp hd hm hF
      have hF' := hF
      have hb1 := hfb m
      have hb2 := lsM_bd (c := c) hfb m
      have hle := iI_le hb1.1 hb1.2 hb2.1 hb2.2
      have hon := oI_none (o := (lsM f c m).1) (fun k hk => by have := lsM_lt m k hk; omega)
      have ih := fun x6 dp => ih (m + 1) x6 dp (by omega) (by omega)
      rw [lsM] at ih
      obtain ⟨j0, j1, j2, j3, j4, j5, j6, j7, j8, o, wt, tn, r0, l1, rfl⟩ := hF
      by_cases q : m = c
      · rw [if_neg (fun z => z.1 q)] at ih
        have ih := ih x6 _ hF'
        refine am_norm rfl rfl ?_
        refine st_iload O dX1_greatestLossBy_9 rfl (q := 11) rfl ?_
        refine st_aloadn O dX1_greatestLossBy_11 rfl (q := 12) rfl ?_
        refine st_geti O dX1_greatestLossBy_12 fl_X1_43 rfl rfl rfl rfl (q := 15) rfl ?_
        refine sn_icmp_ge O dX1_greatestLossBy_15 (t := 63) rfl (q := 18) rfl (by omega) (by omega) (fun c15 => ?_) (fun c15 => ?_)
        · omega
        refine st_iload O dX1_greatestLossBy_18 rfl (q := 20) rfl ?_
        refine st_iloadn O dX1_greatestLossBy_20 rfl (q := 21) rfl ?_
        refine sn_icmp_ne O dX1_greatestLossBy_21 (t := 27) rfl (q := 24) rfl (by omega) (by omega) (fun c21 => ?_) (fun c21 => ?_)
        · omega
        refine st_goto O dX1_greatestLossBy_24 (t := 57) rfl ?_
        refine st_iinc O dX1_greatestLossBy_57 rfl (by first | exact am_ii1 _ | exact rfl) rfl (q := 60) rfl ?_
        refine st_goto O dX1_greatestLossBy_60 (t := 9) rfl ?_
        exact ih
      · refine am_norm rfl rfl ?_
        refine st_iload O dX1_greatestLossBy_9 rfl (q := 11) rfl ?_
        refine st_aloadn O dX1_greatestLossBy_11 rfl (q := 12) rfl ?_
        refine st_geti O dX1_greatestLossBy_12 fl_X1_43 rfl rfl rfl rfl (q := 15) rfl ?_
        refine sn_icmp_ge O dX1_greatestLossBy_15 (t := 63) rfl (q := 18) rfl (by omega) (by omega) (fun c15 => ?_) (fun c15 => ?_)
        · omega
        refine st_iload O dX1_greatestLossBy_18 rfl (q := 20) rfl ?_
        refine st_iloadn O dX1_greatestLossBy_20 rfl (q := 21) rfl ?_
        refine sn_icmp_ne O dX1_greatestLossBy_21 (t := 27) rfl (q := 24) rfl (by omega) (by omega) (fun c21 => ?_) (fun c21 => ?_)
        · refine st_aloadn O dX1_greatestLossBy_27 rfl (q := 28) rfl ?_
          refine st_aloadn O dX1_greatestLossBy_28 rfl (q := 29) rfl ?_
          refine st_iloadn O dX1_greatestLossBy_29 rfl (q := 30) rfl ?_
          refine st_iload O dX1_greatestLossBy_30 rfl (q := 32) rfl ?_
          refine st_call O dX1_greatestLossBy_32 cs_X1_greatestLossBy_32 (q := 35) rfl (am_si rfl rfl rfl (Nat.le_of_ble_eq_true rfl) rfl ?_)
          refine ⟨n, b, w, kd, fg, la, hu, li, _, _, sd, c, m, rfl, hc, by omega, fun z => q z.symm, (by exact rfl), hF', hR, fun dp' hF2 => ?_⟩
          have ih := fun x6 => ih x6 dp' hF2
          rw [show lsz b w kd fg la li c m = f m by rw [hf]]
          obtain ⟨j0, j1, j2, j3, j4, j5, j6, j7, j8, o, wt, tn, r0, l1, rfl⟩ := hF2
          refine am_norm rfl rfl ?_
          refine st_istore O dX1_greatestLossBy_35 rfl (q := 37) rfl ?_
          refine st_iloadn O dX1_greatestLossBy_37 rfl (q := 38) rfl ?_
          refine st_bipush O dX1_greatestLossBy_38 am_bipush_m9 (q := 40) rfl ?_
          refine st_icmp_eq O dX1_greatestLossBy_40 (t := 50) rfl (q := 43) rfl (fun c40 => ?_) (fun c40 => ?_)
          · refine st_iload O dX1_greatestLossBy_50 rfl (q := 52) rfl ?_
            refine st_istoren O dX1_greatestLossBy_52 rfl (q := 53) rfl ?_
            refine st_iload O dX1_greatestLossBy_53 rfl (q := 55) rfl ?_
            refine st_istore O dX1_greatestLossBy_55 rfl (q := 57) rfl ?_
            refine st_iinc O dX1_greatestLossBy_57 rfl (by first | exact am_ii1 _ | exact rfl) rfl (q := 60) rfl ?_
            refine st_goto O dX1_greatestLossBy_60 (t := 9) rfl ?_
            first
              | (have z : m ≠ c ∧ ((lsM f c m).1 = none ∨ (lsM f c m).2 < f m) := ⟨q, Or.inl (hon.mp c40)⟩; rw [if_pos z] at ih; exact ih _)
              | (have z : m ≠ c ∧ ((lsM f c m).1 = none ∨ (lsM f c m).2 < f m) := ⟨q, Or.inr (Int.not_le.mp (fun y => c47 (hle.mpr y)))⟩; rw [if_pos z] at ih; exact ih _)
              | (have z : ¬ (m ≠ c ∧ ((lsM f c m).1 = none ∨ (lsM f c m).2 < f m)) := fun z => z.2.elim (fun y => c40 (hon.mpr y)) (fun y => by have := hle.mp c47; omega); rw [if_neg z] at ih; exact ih _)
          refine st_iload O dX1_greatestLossBy_43 rfl (q := 45) rfl ?_
          refine st_iload O dX1_greatestLossBy_45 rfl (q := 47) rfl ?_
          refine st_icmp_le O dX1_greatestLossBy_47 (t := 57) rfl (q := 50) rfl (fun c47 => ?_) (fun c47 => ?_)
          · refine st_iinc O dX1_greatestLossBy_57 rfl (by first | exact am_ii1 _ | exact rfl) rfl (q := 60) rfl ?_
            refine st_goto O dX1_greatestLossBy_60 (t := 9) rfl ?_
            first
              | (have z : m ≠ c ∧ ((lsM f c m).1 = none ∨ (lsM f c m).2 < f m) := ⟨q, Or.inl (hon.mp c40)⟩; rw [if_pos z] at ih; exact ih _)
              | (have z : m ≠ c ∧ ((lsM f c m).1 = none ∨ (lsM f c m).2 < f m) := ⟨q, Or.inr (Int.not_le.mp (fun y => c47 (hle.mpr y)))⟩; rw [if_pos z] at ih; exact ih _)
              | (have z : ¬ (m ≠ c ∧ ((lsM f c m).1 = none ∨ (lsM f c m).2 < f m)) := fun z => z.2.elim (fun y => c40 (hon.mpr y)) (fun y => by have := hle.mp c47; omega); rw [if_neg z] at ih; exact ih _)
          refine st_iload O dX1_greatestLossBy_50 rfl (q := 52) rfl ?_
          refine st_istoren O dX1_greatestLossBy_52 rfl (q := 53) rfl ?_
          refine st_iload O dX1_greatestLossBy_53 rfl (q := 55) rfl ?_
          refine st_istore O dX1_greatestLossBy_55 rfl (q := 57) rfl ?_
          refine st_iinc O dX1_greatestLossBy_57 rfl (by first | exact am_ii1 _ | exact rfl) rfl (q := 60) rfl ?_
          refine st_goto O dX1_greatestLossBy_60 (t := 9) rfl ?_
          first
            | (have z : m ≠ c ∧ ((lsM f c m).1 = none ∨ (lsM f c m).2 < f m) := ⟨q, Or.inl (hon.mp c40)⟩; rw [if_pos z] at ih; exact ih _)
            | (have z : m ≠ c ∧ ((lsM f c m).1 = none ∨ (lsM f c m).2 < f m) := ⟨q, Or.inr (Int.not_le.mp (fun y => c47 (hle.mpr y)))⟩; rw [if_pos z] at ih; exact ih _)
            | (have z : ¬ (m ≠ c ∧ ((lsM f c m).1 = none ∨ (lsM f c m).2 < f m)) := fun z => z.2.elim (fun y => c40 (hon.mpr y)) (fun y => by have := hle.mp c47; omega); rw [if_neg z] at ih; exact ih _)
        omega
  have loop := loop n 0 none dp rfl (by omega) hF
  obtain ⟨j0, j1, j2, j3, j4, j5, j6, j7, j8, o, wt, tn, r0, l1, rfl⟩ := hF
  refine am_begin rfl ?_
  refine am_norm rfl rfl ?_
  refine st_bipush O dX1_greatestLossBy_0 am_bipush_m9 (q := 2) rfl ?_
  refine st_istoren O dX1_greatestLossBy_2 rfl (q := 3) rfl ?_
  refine st_iconst O dX1_greatestLossBy_3 am_iconst_0 (q := 4) rfl ?_
  refine st_istore O dX1_greatestLossBy_4 rfl (q := 6) rfl ?_
  refine st_iconst O dX1_greatestLossBy_6 am_iconst_0 (q := 7) rfl ?_
  refine st_istore O dX1_greatestLossBy_7 rfl (q := 9) rfl ?_
  exact loop
theorem C_X1_greatestLossBy : am_ctr yX1_greatestLossBy cX1_greatestLossBy 7 (some .int) 5 115 sh_HPR [some 0, some 7, none] T_X1_greatestLossBy := am_mk (by decide) (Or.inr (Or.inl ⟨rfl, rfl⟩)) (by decide) (by decide) (by decide) fl_X1_ok kc_X1_ok ck_X1_greatestLossBy B_X1_greatestLossBy
