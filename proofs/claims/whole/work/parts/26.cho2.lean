/-! Choices: a draw, lanes by lot -/
def drS (z : Int32) : Int32 := z * 1664525 + 1013904223
def drN (z : Int32) : Nat := z.toBitVec.toNat % 2 ^ 31 / 256 % 2
theorem drN_lt (z : Int32) : drN z < 2 := Nat.mod_lt _ (by decide)
theorem dr_and (z : Int32) : z &&& 2147483647 = nI (z.toBitVec.toNat % 2 ^ 31) := pk_and z 31 (by decide)
theorem dr_div (z : Int32) : (z &&& 2147483647) / nI 256 = nI (z.toBitVec.toNat % 2 ^ 31 / 256) := by
  rw [dr_and, pk_div (Nat.mod_lt _ (by decide)) (by decide) (by decide)]
theorem dr_rem (z : Int32) : nI (z.toBitVec.toNat % 2 ^ 31 / 256) - nI (z.toBitVec.toNat % 2 ^ 31 / 256) / nI 2 * nI 2 = nI (drN z) := pk_rem (by have := Nat.mod_lt z.toBitVec.toNat (y := 2 ^ 31) (by decide); omega) (by decide) (by decide)
def cs_X1_drawLane : Nat → List am_V → am_D → am_K → Prop := am_cs []
theorem ck_X1_drawLane : ∀ X : am_X, am_cx X RX1 cX1_drawLane 1 0 0 → ∀ pc, am_csok X 1 sh_H1 pc (cs_X1_drawLane pc) := fun X hX => am_cs_ok (fun _ h => absurd h List.not_mem_nil)
abbrev ok_X1_drawLane (X : am_X) (K : List Int32 → am_D → Prop) : Prop := am_ok X RX1 cX1_drawLane 1 sh_H1 fl_X1 kc_X1 none 1 cs_X1_drawLane K
abbrev aw_X1_drawLane (X : am_X) (pc : Nat) (ls : am_L) (st : List am_V) (D : am_D) : Prop := am_aw X 1 sh_H1 pc ls st D
abbrev T_X1_drawLane : am_TT := fun is D K => ∃ z, is = [] ∧ D = [.inl [z]] ∧ K [nI (drN (drS z))] [.inl [drS z]]
theorem B_X1_drawLane : ∀ (X : am_X) (is : List Int32) (D : am_D) (K : List Int32 → am_D → Prop), ok_X1_drawLane X K → T_X1_drawLane is D K → is.length = (List.filter Option.isNone ([some 0] : List (Option Nat))).length → D.length = sh_H1.length → am_aw X 1 sh_H1 0 (am_l0 1 [some 0] is) [] D := by
  intro X is D K O hT _ _
  obtain ⟨z, rfl, rfl, hK⟩ := hT
  refine am_begin rfl ?_
  refine st_aloadn O dX1_drawLane_0 rfl (q := 1) rfl ?_
  refine st_aloadn O dX1_drawLane_1 rfl (q := 2) rfl ?_
  refine st_geti O dX1_drawLane_2 fl_X1_32 rfl rfl rfl rfl (q := 5) rfl ?_
  refine st_ldc O dX1_drawLane_5 kc_X1_69 (q := 7) rfl ?_
  refine st_imul O dX1_drawLane_7 rfl (q := 8) rfl ?_
  refine st_ldc O dX1_drawLane_8 kc_X1_70 (q := 10) rfl ?_
  refine st_iadd O dX1_drawLane_10 (show z * 1664525 + 1013904223 = drS z from rfl) (q := 11) rfl ?_
  refine st_puti O dX1_drawLane_11 fl_X1_32 rfl rfl rfl rfl rfl (q := 14) rfl ?_
  refine st_aloadn O dX1_drawLane_14 rfl (q := 15) rfl ?_
  refine st_geti O dX1_drawLane_15 fl_X1_32 rfl rfl rfl rfl (q := 18) rfl ?_
  refine st_ldc O dX1_drawLane_18 kc_X1_71 (q := 20) rfl ?_
  refine st_iand O dX1_drawLane_20 rfl (q := 21) rfl ?_
  refine st_sipush O dX1_drawLane_21 am_sipush_256 (q := 24) rfl ?_
  refine st_idiv O dX1_drawLane_24 (by decide) (dr_div (drS z)) (q := 25) rfl ?_
  refine st_iconst O dX1_drawLane_25 am_iconst_2 (q := 26) rfl ?_
  refine st_irem O dX1_drawLane_26 (by decide) (dr_rem (drS z)) (q := 27) rfl ?_
  refine st_ireturn O dX1_drawLane_27 ?_
  exact hK
theorem C_X1_drawLane : am_ctr yX1_drawLane cX1_drawLane 1 (some .int) 0 0 sh_H1 [some 0] T_X1_drawLane := am_mk (by decide) (Or.inr (Or.inl ⟨rfl, rfl⟩)) (by decide) (by decide) (by decide) fl_X1_ok kc_X1_ok ck_X1_drawLane B_X1_drawLane
/-- the seed behind k draws -/
def sdK (z : Int32) : Nat → Int32
  | 0 => z
  | k + 1 => drS (sdK z k)
/-- the lane of car c in road i of n cars -/
def lnZ (z : Int32) (n i c : Nat) : Nat := drN (sdK z (i * n + c + 1))
/-- seconds or cost of the i-th road by lot -/
def vlZ (b w : Nat) (kd fg hu : Nat → Nat) (n : Nat) (z : Int32) (wc : Bool) (i : Nat) : Nat := if wc then cst hu (simA b w kd fg (lnZ z n i) (List.range n) 0) else tot (simA b w kd fg (lnZ z n i) (List.range n) 0)
theorem qu_cong {la la' : Nat → Nat} {li : List Nat} {z a : Nat} (h : ∀ c ∈ li, la c = la' c) : qu la li z a = qu la' li z a := by
  unfold qu
  apply List.filter_congr
  intro c hc
  rw [h c hc]
theorem fl_er {li : List Nat} (hd : li.Nodup) (m : Nat) : (li.filter (fun c => decide (m ≤ c))).erase m = li.filter (fun c => decide (m + 1 ≤ c)) := by
  rw [List.Nodup.erase_eq_filter (hd.filter (fun c => decide (m ≤ c))), List.filter_filter]
  apply List.filter_congr
  intro c _
  by_cases e : c = m
  · subst e; simp
  · by_cases q : m ≤ c
    · have : m + 1 ≤ c := by omega
      simp [e, q, this]
    · have : ¬ m + 1 ≤ c := by omega
      simp [q, this]
theorem mv_line {li : List Nat} {n m : Nat} (hp : li.Perm (List.range n)) (hm : m < n) : (li.filter (fun c => decide (m ≤ c)) ++ List.range m).erase m ++ [m] = li.filter (fun c => decide (m + 1 ≤ c)) ++ List.range (m + 1) := by
  rw [List.erase_append_left _ (List.mem_filter.mpr ⟨(pl_mem hp).mpr hm, by simp⟩), fl_er (pl_nd hp), List.append_assoc, List.range_succ]
theorem fl_none {li : List Nat} {n : Nat} (hp : li.Perm (List.range n)) : li.filter (fun c => decide (n ≤ c)) = [] := by
  rw [List.filter_eq_nil_iff]
  intro c hc
  have := (pl_mem hp).mp hc
  simp
  omega
theorem fl_all (li : List Nat) : li.filter (fun c => decide (0 ≤ c)) = li := by
  rw [List.filter_eq_self]
  intro c _
  simp
def laM (z : Int32) (n i m : Nat) (la : Nat → Nat) : Nat → Nat := fun c => if c < m then lnZ z n i c else la c
theorem laM_s {z : Int32} {n i m : Nat} {la : Nat → Nat} : va_up (laM z n i m la) m (lnZ z n i m) = laM z n i (m + 1) la := by
  funext j
  have e1 : ∀ k, laM z n i k la j = if j < k then lnZ z n i j else la j := fun k => rfl
  rw [e1]
  by_cases e : j = m
  · subst e
    rw [if_pos (by omega)]
    exact if_pos rfl
  · rw [show va_up (laM z n i m la) m (lnZ z n i m) j = laM z n i m la j from if_neg e, e1]
    by_cases q : j < m
    · rw [if_pos q, if_pos (by omega)]
    · rw [if_neg q, if_neg (by omega)]
def cs_X1_byLot : Nat → List am_V → am_D → am_K → Prop := am_cs [(13, am_site 2 [some 0, some 6] T_X4_copyFrom [1, 2, 3, 4, 5, 6, 13, 14, 15, 16, 17, 18] [1, 2, 3, 4, 5, 6, 13, 14, 15, 16, 17, 18]), (45, am_site 1 [some 0] T_X1_drawLane [0] [0, 1, 7, 19, 20]), (50, am_site 3 [some 0, none, none] T_X4_moveToEndOf [1, 2, 3, 4, 5, 6] [1, 2, 3, 4, 5, 6]), (69, am_site 3 [some 0, some 6, none] T_X3_drive [7, 8, 9, 10, 11, 12, 1, 2, 3, 4, 5, 6] [7, 8, 9, 10, 11, 12, 1, 2, 3, 4, 5, 6]), (87, am_site 2 [some 0, some 6] T_X3_cost [7, 8, 9, 10, 11, 12, 1, 2, 3, 4, 5, 6] [7, 8, 9, 10, 11, 12, 1, 2, 3, 4, 5, 6])]
theorem cs_X1_byLot_13 : cs_X1_byLot 13 = am_site 2 [some 0, some 6] T_X4_copyFrom [1, 2, 3, 4, 5, 6, 13, 14, 15, 16, 17, 18] [1, 2, 3, 4, 5, 6, 13, 14, 15, 16, 17, 18] := rfl
theorem cs_X1_byLot_45 : cs_X1_byLot 45 = am_site 1 [some 0] T_X1_drawLane [0] [0, 1, 7, 19, 20] := rfl
theorem cs_X1_byLot_50 : cs_X1_byLot 50 = am_site 3 [some 0, none, none] T_X4_moveToEndOf [1, 2, 3, 4, 5, 6] [1, 2, 3, 4, 5, 6] := rfl
theorem cs_X1_byLot_69 : cs_X1_byLot 69 = am_site 3 [some 0, some 6, none] T_X3_drive [7, 8, 9, 10, 11, 12, 1, 2, 3, 4, 5, 6] [7, 8, 9, 10, 11, 12, 1, 2, 3, 4, 5, 6] := rfl
theorem cs_X1_byLot_87 : cs_X1_byLot 87 = am_site 2 [some 0, some 6] T_X3_cost [7, 8, 9, 10, 11, 12, 1, 2, 3, 4, 5, 6] [7, 8, 9, 10, 11, 12, 1, 2, 3, 4, 5, 6] := rfl
theorem ck_X1_byLot : ∀ X : am_X, am_cx X RX1 cX1_byLot 8 4 91 → ∀ pc, am_csok X 8 sh_HY pc (cs_X1_byLot pc) := fun X hX => am_cs_ok (List.forall_mem_cons.mpr ⟨am_callV hX C_X4_copyFrom mo_X4_copyFrom rfl lk_X1_50 dX1_byLot_13 rfl rfl rfl (by decide), List.forall_mem_cons.mpr ⟨am_callV hX C_X1_drawLane mo_X1_drawLane rfl lk_X1_58 dX1_byLot_45 rfl rfl rfl (by decide), List.forall_mem_cons.mpr ⟨am_callV hX C_X4_moveToEndOf mo_X4_moveToEndOf rfl lk_X1_54 dX1_byLot_50 rfl rfl rfl (by decide), List.forall_mem_cons.mpr ⟨am_callV hX C_X3_drive mo_X3_drive rfl lk_X1_36 dX1_byLot_69 rfl rfl rfl (by decide), List.forall_mem_cons.mpr ⟨am_callV hX C_X3_cost mo_X3_cost rfl lk_X1_62 dX1_byLot_87 rfl rfl rfl (by decide), fun _ h => absurd h List.not_mem_nil⟩⟩⟩⟩⟩)
abbrev ok_X1_byLot (X : am_X) (K : List Int32 → am_D → Prop) : Prop := am_ok X RX1 cX1_byLot 8 sh_HY fl_X1 kc_X1 none 1 cs_X1_byLot K
abbrev aw_X1_byLot (X : am_X) (pc : Nat) (ls : am_L) (st : List am_V) (D : am_D) : Prop := am_aw X 8 sh_HY pc ls st D
abbrev T_X1_byLot : am_TT := fun is D K => ∃ n b w kd fg la hu li dt dp dr sd v z wc, is = [nI v, z, bI wc] ∧ v ≤ 20 ∧ D = .inl [sd] :: (dt ++ (dp ++ dr)) ∧ rF dt ∧ pF dp ∧ rA n b w kd fg la hu li dr ∧ ∀ sd' dt' dp', rF dt' → pF dp' → K [nI (sm (vlZ b w kd fg hu n z wc) v)] (.inl [sd'] :: (dt' ++ (dp' ++ dr)))
set_option maxHeartbeats 4000000 in
theorem B_X1_byLot : ∀ (X : am_X) (is : List Int32) (D : am_D) (K : List Int32 → am_D → Prop), ok_X1_byLot X K → T_X1_byLot is D K → is.length = (List.filter Option.isNone ([some 0, some 13, none, none, none] : List (Option Nat))).length → D.length = sh_HY.length → am_aw X 8 sh_HY 0 (am_l0 8 [some 0, some 13, none, none, none] is) [] D := by
  intro X is D K O hT _ _
  obtain ⟨n, b, w, kd, fg, la, hu, li, dt, dp, dr, sd, v, z, wc, rfl, hv, rfl, hG, hF, hR, hK⟩ := hT
  obtain ⟨kk, ff, ll, hh, ii, rfl, hn, hb, hw, hj, hp, hi⟩ := id hR
  have inner : ∀ d m i acc (la : Nat → Nat) (li : List Nat) (dt dp : am_D), n - m = d → m ≤ n → i < v → li.Perm (List.range n) → rA n b w kd fg (laM z n i m la) hu (li.filter (fun c => decide (m ≤ c)) ++ List.range m) dt → pF dp → (∀ dt' (la' : Nat → Nat) (li' : List Nat) dp', rA n b w kd fg (lnZ z n i) hu (List.range n) dt' → pF dp' → am_aw X 8 sh_HY 60 [some (.inr 0), some (.inr 13), some (.inl (nI v)), some (.inl z), some (.inl (bI wc)), some (.inl (nI acc)), some (.inl (nI i)), some (.inl (nI n))] [] (.inl [sdK z (i * n + n)] :: (dt' ++ (dp' ++ [.inl [nI n, nI b, nI w], .inr kk, .inr ff, .inr ll, .inr hh, .inr ii])))) → am_aw X 8 sh_HY 28 [some (.inr 0), some (.inr 13), some (.inl (nI v)), some (.inl z), some (.inl (bI wc)), some (.inl (nI acc)), some (.inl (nI i)), some (.inl (nI m))] [] (.inl [sdK z (i * n + m)] :: (dt ++ (dp ++ [.inl [nI n, nI b, nI w], .inr kk, .inr ff, .inr ll, .inr hh, .inr ii]))) := by
    intro d
    induction d with
    | zero =>
      intro m i acc la li dt dp hd hm hi hp hA hF hnext
      have e : m = n := by omega
      subst e
      rw [fl_none hp, List.nil_append] at hA
      have hA : rA m b w kd fg (lnZ z m i) hu (List.range m) dt := by
        obtain ⟨k0, f0, l0, h0, i0, rfl, x1, x2, x3, hj0, x5, hi0⟩ := hA
        refine ⟨k0, f0, l0, h0, i0, rfl, x1, x2, x3, fun j hjn => ?_, x5, hi0⟩
        have := hj0 j hjn
        rw [show laM z m i m la j = lnZ z m i j from if_pos hjn] at this
        exact this
      have hnext := hnext dt la li dp hA hF
      obtain ⟨k0, f0, l0, h0, i0, rfl, -⟩ := hA
      obtain ⟨j0, j1, j2, j3, j4, j5, j6, j7, j8, o, wt, tn, r0, l1, rfl⟩ := hF
      refine am_norm rfl rfl ?_
      refine st_iload O dX1_byLot_28 rfl (q := 30) rfl ?_
      refine st_aloadn O dX1_byLot_30 rfl (q := 31) rfl ?_
      refine st_getr O dX1_byLot_31 fl_X1_12 rfl rfl rfl (q := 34) rfl ?_
      refine st_geti O dX1_byLot_34 fl_X1_43 rfl rfl rfl rfl (q := 37) rfl ?_
      refine sn_icmp_ge O dX1_byLot_37 (t := 60) rfl (q := 40) rfl (by omega) (by omega) (fun c37 => ?_) (fun c37 => ?_)
      · exact hnext
      omega
    | succ d ih =>
      intro m i acc la li dt dp hd hm hi hp hA hF hnext
      have hA' := hA
      have ih := fun dt hA => ih (m + 1) i acc la li dt dp (by omega) (by omega) hi hp hA hF hnext
      obtain ⟨k0, f0, l0, h0, i0, rfl, -⟩ := hA
      obtain ⟨j0, j1, j2, j3, j4, j5, j6, j7, j8, o, wt, tn, r0, l1, rfl⟩ := hF
      refine am_norm rfl rfl ?_
      refine st_iload O dX1_byLot_28 rfl (q := 30) rfl ?_
      refine st_aloadn O dX1_byLot_30 rfl (q := 31) rfl ?_
      refine st_getr O dX1_byLot_31 fl_X1_12 rfl rfl rfl (q := 34) rfl ?_
      refine st_geti O dX1_byLot_34 fl_X1_43 rfl rfl rfl rfl (q := 37) rfl ?_
      refine sn_icmp_ge O dX1_byLot_37 (t := 60) rfl (q := 40) rfl (by omega) (by omega) (fun c37 => ?_) (fun c37 => ?_)
      · omega
      refine st_aloadn O dX1_byLot_40 rfl (q := 41) rfl ?_
      refine st_getr O dX1_byLot_41 fl_X1_12 rfl rfl rfl (q := 44) rfl ?_
      refine st_aloadn O dX1_byLot_44 rfl (q := 45) rfl ?_
      refine st_call O dX1_byLot_45 cs_X1_byLot_45 (q := 48) rfl (am_si rfl rfl rfl (Nat.le_of_ble_eq_true rfl) rfl ?_)
      refine ⟨_, rfl, (by exact rfl), ?_⟩
      refine am_norm rfl rfl ?_
      refine st_iload O dX1_byLot_48 rfl (q := 50) rfl ?_
      refine st_call O dX1_byLot_50 cs_X1_byLot_50 (q := 53) rfl (am_si rfl rfl rfl (Nat.le_of_ble_eq_true rfl) rfl ?_)
      refine ⟨n, b, w, kd, fg, _, hu, _, drN (drS (sdK z (i * n + m))), m, hA', drN_lt _, by omega, rfl, fun D' hD' => ?_⟩
      rw [mv_line hp (by omega)] at hD'
      have hD2 : rA n b w kd fg (laM z n i (m + 1) la) hu (li.filter (fun c => decide (m + 1 ≤ c)) ++ List.range (m + 1)) D' := by
        rw [← laM_s]
        exact hD'
      have ih := ih D' hD2
      obtain ⟨k0, f0, l0, h0, i0, rfl, -⟩ := hD2
      refine am_norm rfl rfl ?_
      refine st_pop O dX1_byLot_53 (q := 54) rfl ?_
      refine st_iinc O dX1_byLot_54 rfl (by first | exact am_ii1 _ | exact rfl) rfl (q := 57) rfl ?_
      refine st_goto O dX1_byLot_57 (t := 28) rfl ?_
      exact ih
  have outer : ∀ d i x7 (la : Nat → Nat) (li : List Nat) (dt dp : am_D), v - i = d → i ≤ v → rA n b w kd fg la hu li dt → pF dp → am_aw X 8 sh_HY 19 [some (.inr 0), some (.inr 13), some (.inl (nI v)), some (.inl z), some (.inl (bI wc)), some (.inl (nI (sm (vlZ b w kd fg hu n z wc) i))), some (.inl (nI i)), x7] [] (.inl [sdK z (i * n)] :: (dt ++ (dp ++ [.inl [nI n, nI b, nI w], .inr kk, .inr ff, .inr ll, .inr hh, .inr ii]))) := by
    intro d
    induction d with
    | zero =>
      intro i x7 la li dt dp hd hm hA hF
      have e : i = v := by omega
      subst e
      have hK := hK (sdK z (i * n)) dt dp hA.form hF
      obtain ⟨k0, f0, l0, h0, i0, rfl, -⟩ := hA
      obtain ⟨j0, j1, j2, j3, j4, j5, j6, j7, j8, o, wt, tn, r0, l1, rfl⟩ := hF
      refine am_norm rfl rfl ?_
      refine st_iload O dX1_byLot_19 rfl (q := 21) rfl ?_
      refine st_iloadn O dX1_byLot_21 rfl (q := 22) rfl ?_
      refine sn_icmp_ge O dX1_byLot_22 (t := 109) rfl (q := 25) rfl (by omega) (by omega) (fun c22 => ?_) (fun c22 => ?_)
      · refine st_iload O dX1_byLot_109 rfl (q := 111) rfl ?_
        refine st_ireturn O dX1_byLot_111 ?_
        exact hK
      omega
    | succ d ih =>
      intro i x7 la li dt dp hd hm hA hF
      have hp' : li.Perm (List.range n) := by
        obtain ⟨k0, f0, l0, h0, i0, e, x1, x2, x3, hj0, x5, hi0⟩ := hA
        exact x5
      have hA0 : rA n b w kd fg (laM z n i 0 la) hu (li.filter (fun c => decide (0 ≤ c)) ++ List.range 0) dt := by
        rw [fl_all, List.range_zero, List.append_nil]
        exact hA
      have hnx : ∀ dt' (la' : Nat → Nat) (li' : List Nat) dp', rA n b w kd fg (lnZ z n i) hu (List.range n) dt' → pF dp' → am_aw X 8 sh_HY 60 [some (.inr 0), some (.inr 13), some (.inl (nI v)), some (.inl z), some (.inl (bI wc)), some (.inl (nI (sm (vlZ b w kd fg hu n z wc) i))), some (.inl (nI i)), some (.inl (nI n))] [] (.inl [sdK z (i * n + n)] :: (dt' ++ (dp' ++ [.inl [nI n, nI b, nI w], .inr kk, .inr ff, .inr ll, .inr hh, .inr ii]))) := by
        intro dt' _ _ dp' hA2 hF2
        have hF3 := hF2
        have ih := fun x7 dp hF => ih (i + 1) x7 _ _ dt' dp (by omega) (by omega) hA2 hF
        rw [show (i + 1) * n = i * n + n from Nat.succ_mul i n] at ih
        obtain ⟨k0, f0, l0, h0, i0, rfl, -⟩ := id hA2
        obtain ⟨j0, j1, j2, j3, j4, j5, j6, j7, j8, o, wt, tn, r0, l1, rfl⟩ := hF2
        cases wc with
        | true =>
          refine am_norm rfl rfl ?_
          refine st_aloadn O dX1_byLot_60 rfl (q := 61) rfl ?_
          refine st_getr O dX1_byLot_61 fl_X1_21 rfl rfl rfl (q := 64) rfl ?_
          refine st_aloadn O dX1_byLot_64 rfl (q := 65) rfl ?_
          refine st_getr O dX1_byLot_65 fl_X1_12 rfl rfl rfl (q := 68) rfl ?_
          refine st_iconst O dX1_byLot_68 am_iconst_0 (q := 69) rfl ?_
          refine st_call O dX1_byLot_69 cs_X1_byLot_69 (q := 72) rfl (am_si rfl rfl rfl (Nat.le_of_ble_eq_true rfl) rfl ?_)
          refine ⟨n, b, w, kd, fg, _, hu, _, _, _, 0, rfl, by omega, (by exact rfl), hF3, hA2, fun d hd => ?_⟩
          have ih := fun x7 => ih x7 d hd.form
          obtain ⟨j2, j3, j4, j5, j6, j7, j8, o, wt, tn, rr, l, rfl, hO⟩ := id hd
          refine am_norm rfl rfl ?_
          refine st_iload O dX1_byLot_72 rfl (q := 74) rfl ?_
          refine st_iload O dX1_byLot_74 rfl (q := 76) rfl ?_
          refine st_if_eq O dX1_byLot_76 (t := 93) rfl (q := 79) rfl (fun c76 => ?_) (fun c76 => ?_)
          · exact absurd c76 (by decide)
          refine st_aloadn O dX1_byLot_79 rfl (q := 80) rfl ?_
          refine st_getr O dX1_byLot_80 fl_X1_21 rfl rfl rfl (q := 83) rfl ?_
          refine st_aloadn O dX1_byLot_83 rfl (q := 84) rfl ?_
          refine st_getr O dX1_byLot_84 fl_X1_12 rfl rfl rfl (q := 87) rfl ?_
          refine st_call O dX1_byLot_87 cs_X1_byLot_87 (q := 90) rfl (am_sip rfl rfl rfl (Nat.le_of_ble_eq_true rfl) rfl (r := nI (vlZ b w kd fg hu n z true i)) ⟨_, n, b, w, kd, fg, _, hu, _, _, _, (by exact rfl), hd, hA2, sim_ok hn (List.Perm.refl _), rfl, rfl⟩ ?_)
          refine st_goto O dX1_byLot_90 (t := 100) rfl ?_
          refine st_iadd O dX1_byLot_100 (by first | exact nI_add _ _ | exact rfl) (q := 101) rfl ?_
          refine st_istore O dX1_byLot_101 rfl (q := 103) rfl ?_
          refine st_iinc O dX1_byLot_103 rfl (by first | exact am_ii1 _ | exact rfl) rfl (q := 106) rfl ?_
          refine st_goto O dX1_byLot_106 (t := 19) rfl ?_
          exact ih _
        | false =>
          refine am_norm rfl rfl ?_
          refine st_aloadn O dX1_byLot_60 rfl (q := 61) rfl ?_
          refine st_getr O dX1_byLot_61 fl_X1_21 rfl rfl rfl (q := 64) rfl ?_
          refine st_aloadn O dX1_byLot_64 rfl (q := 65) rfl ?_
          refine st_getr O dX1_byLot_65 fl_X1_12 rfl rfl rfl (q := 68) rfl ?_
          refine st_iconst O dX1_byLot_68 am_iconst_0 (q := 69) rfl ?_
          refine st_call O dX1_byLot_69 cs_X1_byLot_69 (q := 72) rfl (am_si rfl rfl rfl (Nat.le_of_ble_eq_true rfl) rfl ?_)
          refine ⟨n, b, w, kd, fg, _, hu, _, _, _, 0, rfl, by omega, (by exact rfl), hF3, hA2, fun d hd => ?_⟩
          have ih := fun x7 => ih x7 d hd.form
          obtain ⟨j2, j3, j4, j5, j6, j7, j8, o, wt, tn, rr, l, rfl, hO⟩ := id hd
          refine am_norm rfl rfl ?_
          refine st_iload O dX1_byLot_72 rfl (q := 74) rfl ?_
          refine st_iload O dX1_byLot_74 rfl (q := 76) rfl ?_
          refine st_if_eq O dX1_byLot_76 (t := 93) rfl (q := 79) rfl (fun c76 => ?_) (fun c76 => ?_)
          · refine st_aloadn O dX1_byLot_93 rfl (q := 94) rfl ?_
            refine st_getr O dX1_byLot_94 fl_X1_21 rfl rfl rfl (q := 97) rfl ?_
            refine st_geti O dX1_byLot_97 fl_X1_66 rfl rfl rfl rfl (q := 100) rfl ?_
            refine st_iadd O dX1_byLot_100 (by first | exact nI_add _ _ | exact rfl) (q := 101) rfl ?_
            refine st_istore O dX1_byLot_101 rfl (q := 103) rfl ?_
            refine st_iinc O dX1_byLot_103 rfl (by first | exact am_ii1 _ | exact rfl) rfl (q := 106) rfl ?_
            refine st_goto O dX1_byLot_106 (t := 19) rfl ?_
            exact ih _
          exact absurd c76 (by decide)
      have hin := inner n 0 i (sm (vlZ b w kd fg hu n z wc) i) la li dt dp rfl (Nat.zero_le _) (by omega) hp' hA0 hF hnx
      obtain ⟨k0, f0, l0, h0, i0, rfl, -⟩ := hA
      obtain ⟨j0, j1, j2, j3, j4, j5, j6, j7, j8, o, wt, tn, r0, l1, rfl⟩ := hF
      refine am_norm rfl rfl ?_
      refine st_iload O dX1_byLot_19 rfl (q := 21) rfl ?_
      refine st_iloadn O dX1_byLot_21 rfl (q := 22) rfl ?_
      refine sn_icmp_ge O dX1_byLot_22 (t := 109) rfl (q := 25) rfl (by omega) (by omega) (fun c22 => ?_) (fun c22 => ?_)
      · omega
      refine st_iconst O dX1_byLot_25 am_iconst_0 (q := 26) rfl ?_
      refine st_istore O dX1_byLot_26 rfl (q := 28) rfl ?_
      exact hin
  have hF' := hF
  have hG' := hG
  obtain ⟨j0, j1, j2, j3, j4, j5, j6, j7, j8, o, wt, tn, r0, l1, rfl⟩ := hF
  obtain ⟨a0, b0, q0, k0, f0, l0, h0, i0, rfl⟩ := hG
  refine am_begin rfl ?_
  refine am_norm rfl rfl ?_
  refine st_aloadn O dX1_byLot_0 rfl (q := 1) rfl ?_
  refine st_iloadn O dX1_byLot_1 rfl (q := 2) rfl ?_
  refine st_puti O dX1_byLot_2 fl_X1_32 rfl rfl rfl rfl rfl (q := 5) rfl ?_
  refine st_iconst O dX1_byLot_5 am_iconst_0 (q := 6) rfl ?_
  refine st_istore O dX1_byLot_6 rfl (q := 8) rfl ?_
  refine st_aloadn O dX1_byLot_8 rfl (q := 9) rfl ?_
  refine st_getr O dX1_byLot_9 fl_X1_12 rfl rfl rfl (q := 12) rfl ?_
  refine st_aloadn O dX1_byLot_12 rfl (q := 13) rfl ?_
  refine st_call O dX1_byLot_13 cs_X1_byLot_13 (q := 16) rfl (am_si rfl rfl rfl (Nat.le_of_ble_eq_true rfl) rfl ?_)
  refine ⟨n, b, w, kd, fg, la, hu, li, _, _, rfl, (by exact rfl), hG', hR, fun d hd => ?_⟩
  have outer := outer v 0 none la li d _ rfl (by omega) hd hF'
  rw [Nat.zero_mul] at outer
  obtain ⟨k0, f0, l0, h0, i0, rfl, -⟩ := hd
  refine am_norm rfl rfl ?_
  refine st_iconst O dX1_byLot_16 am_iconst_0 (q := 17) rfl ?_
  refine st_istore O dX1_byLot_17 rfl (q := 19) rfl ?_
  exact outer
theorem C_X1_byLot : am_ctr yX1_byLot cX1_byLot 8 (some .int) 4 91 sh_HY [some 0, some 13, none, none, none] T_X1_byLot := am_mk (by decide) (Or.inr (Or.inl ⟨rfl, rfl⟩)) (by decide) (by decide) (by decide) fl_X1_ok kc_X1_ok ck_X1_byLot B_X1_byLot
