/-! the class's own methods: what would be otherwise -/
/-- am_put, place by place -/
def am_at (i : Nat) : List Nat → am_D → Option am_C
  | p :: e, x :: d => match Nat.beq i p with
    | true => some x
    | false => am_at i e d
  | _, _ => none
def am_pt : Nat → am_D → List Nat → am_D → am_D
  | _, [], _, _ => []
  | i, c :: D, e, d => match am_at i e d with
    | some x => x :: am_pt (i + 1) D e d
    | none => c :: am_pt (i + 1) D e d
theorem am_at_no {i : Nat} : ∀ (e : List Nat) (d : am_D), i ∉ e → am_at i e d = none
  | [], d, _ => by cases d <;> rfl
  | p :: e, [], _ => rfl
  | p :: e, x :: d, h => by
    have h1 : Nat.beq i p = false := by
      cases hb : Nat.beq i p with
      | false => rfl
      | true => exact absurd (List.mem_cons.mpr (Or.inl (Nat.eq_of_beq_eq_true hb))) h
    unfold am_at
    rw [h1]
    exact am_at_no e d (fun z => h (List.mem_cons_of_mem _ z))
theorem am_at_get {i : Nat} : ∀ (e : List Nat) (d : am_D) (j : Nat), va_nd e = true → e[j]? = some i → j < d.length → am_at i e d = d[j]?
  | [], _, _, _, h, _ => by simp at h
  | _ :: _, [], _, _, _, h => by simp at h
  | p :: e, x :: d, 0, _, h, _ => by
    simp only [List.getElem?_cons_zero, Option.some.injEq] at h
    subst h
    unfold am_at
    rw [Nat.beq_refl]
    rfl
  | p :: e, x :: d, j + 1, hn, h, hj => by
    rw [List.getElem?_cons_succ] at h
    simp only [va_nd, Bool.and_eq_true, decide_eq_true_eq] at hn
    have h1 : Nat.beq i p = false := by
      cases hb : Nat.beq i p with
      | false => rfl
      | true => exact absurd (by rw [← Nat.eq_of_beq_eq_true hb]; exact List.mem_of_getElem? h) hn.1
    unfold am_at
    rw [h1]
    exact am_at_get e d j hn.2 h (by simp only [List.length_cons] at hj; omega)
theorem am_pt_get : ∀ (D : am_D) (i : Nat) (e : List Nat) (d : am_D) (k : Nat), (am_pt i D e d)[k]? = (D[k]?).map (fun c => match am_at (i + k) e d with
    | some x => x
    | none => c)
  | [], _, _, _, _ => by simp [am_pt]
  | c :: D, i, e, d, 0 => by
    unfold am_pt
    rw [Nat.add_zero]
    cases am_at i e d <;> rfl
  | c :: D, i, e, d, k + 1 => by
    unfold am_pt
    have ih := am_pt_get D (i + 1) e d k
    rw [show i + 1 + k = i + (k + 1) by omega] at ih
    cases am_at i e d <;> exact ih
theorem am_put_pt {e : List Nat} {d D : am_D} (hn : va_nd e = true) (hl : e.length = d.length) : am_put e d D = am_pt 0 D e d := by
  apply List.ext_getElem?
  intro k
  rw [am_pt_get, Nat.zero_add]
  by_cases hk : k ∈ e
  · obtain ⟨j, hj⟩ := List.getElem?_of_mem hk
    have hjd : j < d.length := by rw [← hl]; exact (List.getElem?_eq_some_iff.mp hj).1
    cases hD : D[k]? with
    | none =>
      have : D.length ≤ k := List.getElem?_eq_none_iff.mp hD
      rw [List.getElem?_eq_none_iff.mpr (by rw [am_put_len]; exact this)]
      rfl
    | some c =>
      rw [am_put_at e d D j k hn hj (List.getElem?_eq_some_iff.mp hD).1 hjd, am_at_get e d j hn hj hjd, List.getElem?_eq_getElem hjd]
      rfl
  · rw [am_put_ne e d D k hk, am_at_no e d hk]
    cases D[k]? <;> rfl
theorem am_nrp {X : am_X} {nL pc : Nat} {sh : am_S} {ls : am_L} {st st' : List am_V} {D D' d : am_D} {e : List Nat} (h1 : am_fzs st = some st') (hn : va_nd e = true) (hl : e.length = d.length) (h2 : am_fq (am_pt 0 D e d) = some D') (k : am_aw X nL sh pc ls st' D') : am_aw X nL sh pc ls st (am_put e d D) := by
  refine am_nrm h1 ?_ k
  rw [am_put_pt hn hl]
  exact (am_fq_eq _ _ h2).symm
def V_C (o : Int32) (σ : Sg) (D : am_D) : Prop := ∃ n0 n1 n2 n3 n4 n5 a0 a1 a2 a3 a4 a5 q0 q1 q2 q3 q4 q5, D = [.inl [o, nI σ.2.2.2.1.length], n0, n1, n2, n3, n4, n5, .inr σ.2.2.2.2, .inl [], a0, a1, a2, a3, a4, a5, q0, q1, q2, q3, q4, q5] ∧ rS σ.1 [n0, n1, n2, n3, n4, n5] ∧ rF [a0, a1, a2, a3, a4, a5] ∧ pF [q0, q1, q2, q3, q4, q5]
theorem rF_lit {D : am_D} (h : rF D) : ∃ a0 a1 a2 a3 a4 a5, D = [a0, a1, a2, a3, a4, a5] := by
  obtain ⟨a, b, c, k, f, l, h, i, rfl⟩ := h
  exact ⟨_, _, _, _, _, _, rfl⟩
theorem pF_lit6 {D : am_D} (h : pF D) : ∃ a0 a1 a2 a3 a4 a5, D = [a0, a1, a2, a3, a4, a5] := by
  obtain ⟨a, b, c, d, e, f, g, h, i, o, wt, tn, r, l, rfl⟩ := h
  exact ⟨_, _, _, _, _, _, rfl⟩
def cs_X6_bestBoard : Nat → List am_V → am_D → am_K → Prop := am_cs [(8, am_site 2 [some 0, some 13] T_X0_cheapestBoard [8, 9, 10, 11, 12, 13, 14, 15, 16, 17, 18, 19, 20, 1, 2, 3, 4, 5, 6] [8, 9, 10, 11, 12, 13, 14, 15, 16, 17, 18, 19, 20, 1, 2, 3, 4, 5, 6])]
theorem cs_X6_bestBoard_8 : cs_X6_bestBoard 8 = am_site 2 [some 0, some 13] T_X0_cheapestBoard [8, 9, 10, 11, 12, 13, 14, 15, 16, 17, 18, 19, 20, 1, 2, 3, 4, 5, 6] [8, 9, 10, 11, 12, 13, 14, 15, 16, 17, 18, 19, 20, 1, 2, 3, 4, 5, 6] := rfl
theorem ck_X6_bestBoard : ∀ X : am_X, am_cx X RX6 cX6_bestBoard 1 6 137 → ∀ pc, am_csok X 1 sh_VC pc (cs_X6_bestBoard pc) := fun X hX => am_cs_ok (List.forall_mem_cons.mpr ⟨am_callV hX C_X0_cheapestBoard mo_X0_cheapestBoard rfl lk_X6_168 dX6_bestBoard_8 rfl rfl rfl (by decide), fun _ h => absurd h List.not_mem_nil⟩)
abbrev ok_X6_bestBoard (X : am_X) (K : List Int32 → am_D → Prop) : Prop := am_ok X RX6 cX6_bestBoard 1 sh_VC fl_X6 kc_X6 none 1 cs_X6_bestBoard K
abbrev aw_X6_bestBoard (X : am_X) (pc : Nat) (ls : am_L) (st : List am_V) (D : am_D) : Prop := am_aw X 1 sh_VC pc ls st D
abbrev T_X6_bestBoard : am_TT := am_v0 V_C f_bestBoard
set_option maxHeartbeats 200000 in
theorem B_X6_bestBoard : ∀ (X : am_X) (is : List Int32) (D : am_D) (K : List Int32 → am_D → Prop), ok_X6_bestBoard X K → T_X6_bestBoard is D K → is.length = (List.filter Option.isNone ([some 0] : List (Option Nat))).length → D.length = sh_VC.length → am_aw X 1 sh_VC 0 (am_l0 1 [some 0] is) [] D := by
  intro X is D K O hT _ _
  obtain ⟨o, σ, ⟨n0, n1, n2, n3, n4, n5, a0, a1, a2, a3, a4, a5, q0, q1, q2, q3, q4, q5, rfl, hn, ha, hq⟩, rfl, hK⟩ := hT
  unfold f_bestBoard at hK
  dsimp only at hK
  refine am_begin rfl ?_
  refine st_aloadn O dX6_bestBoard_0 rfl (q := 1) rfl ?_
  refine st_getr O dX6_bestBoard_1 fl_X6_54 rfl rfl rfl (q := 4) rfl ?_
  refine st_aloadn O dX6_bestBoard_4 rfl (q := 5) rfl ?_
  refine st_getr O dX6_bestBoard_5 fl_X6_10 rfl rfl rfl (q := 8) rfl ?_
  refine st_call O dX6_bestBoard_8 cs_X6_bestBoard_8 (q := 11) rfl (am_siq rfl rfl rfl (Nat.le_of_ble_eq_true rfl) rfl ?_)
  refine ⟨gN σ, gb σ, gw σ, gk σ, gf σ, gl σ, gh σ, gq σ, [_, _, _, _, _, _], [_, _, _, _, _, _], _, rfl, rfl, ha, hq, hn, fun d1 d2 h1 h2 => ?_⟩
  obtain ⟨x0, x1, x2, x3, x4, x5, rfl⟩ := rF_lit h1
  obtain ⟨y0, y1, y2, y3, y4, y5, rfl⟩ := pF_lit6 h2
  refine am_nrp rfl rfl rfl rfl ?_
  refine st_ireturn O dX6_bestBoard_11 ?_
  exact hK _ ⟨_, _, _, _, _, _, _, _, _, _, _, _, _, _, _, _, _, _, rfl, hn, h1, h2⟩
theorem C_X6_bestBoard : am_ctr yX6_bestBoard cX6_bestBoard 1 (some .int) 6 137 sh_VC [some 0] T_X6_bestBoard := am_mk (by decide) (Or.inr (Or.inl ⟨rfl, rfl⟩)) (by decide) (by decide) (by decide) fl_X6_ok kc_X6_ok ck_X6_bestBoard B_X6_bestBoard
def cs_X6_lets : Nat → List am_V → am_D → am_K → Prop := am_cs [(8, am_site 2 [some 0, some 13] T_X0_cheapestKindOne [8, 9, 10, 11, 12, 13, 14, 15, 16, 17, 18, 19, 20, 1, 2, 3, 4, 5, 6] [8, 9, 10, 11, 12, 13, 14, 15, 16, 17, 18, 19, 20, 1, 2, 3, 4, 5, 6])]
theorem cs_X6_lets_8 : cs_X6_lets 8 = am_site 2 [some 0, some 13] T_X0_cheapestKindOne [8, 9, 10, 11, 12, 13, 14, 15, 16, 17, 18, 19, 20, 1, 2, 3, 4, 5, 6] [8, 9, 10, 11, 12, 13, 14, 15, 16, 17, 18, 19, 20, 1, 2, 3, 4, 5, 6] := rfl
theorem ck_X6_lets : ∀ X : am_X, am_cx X RX6 cX6_lets 1 6 138 → ∀ pc, am_csok X 1 sh_VC pc (cs_X6_lets pc) := fun X hX => am_cs_ok (List.forall_mem_cons.mpr ⟨am_callV hX C_X0_cheapestKindOne mo_X0_cheapestKindOne rfl lk_X6_175 dX6_lets_8 rfl rfl rfl (by decide), fun _ h => absurd h List.not_mem_nil⟩)
abbrev ok_X6_lets (X : am_X) (K : List Int32 → am_D → Prop) : Prop := am_ok X RX6 cX6_lets 1 sh_VC fl_X6 kc_X6 none 1 cs_X6_lets K
abbrev aw_X6_lets (X : am_X) (pc : Nat) (ls : am_L) (st : List am_V) (D : am_D) : Prop := am_aw X 1 sh_VC pc ls st D
abbrev T_X6_lets : am_TT := am_v0 V_C f_lets
set_option maxHeartbeats 200000 in
theorem B_X6_lets : ∀ (X : am_X) (is : List Int32) (D : am_D) (K : List Int32 → am_D → Prop), ok_X6_lets X K → T_X6_lets is D K → is.length = (List.filter Option.isNone ([some 0] : List (Option Nat))).length → D.length = sh_VC.length → am_aw X 1 sh_VC 0 (am_l0 1 [some 0] is) [] D := by
  intro X is D K O hT _ _
  obtain ⟨o, σ, ⟨n0, n1, n2, n3, n4, n5, a0, a1, a2, a3, a4, a5, q0, q1, q2, q3, q4, q5, rfl, hn, ha, hq⟩, rfl, hK⟩ := hT
  unfold f_lets at hK
  dsimp only at hK
  refine am_begin rfl ?_
  refine st_aloadn O dX6_lets_0 rfl (q := 1) rfl ?_
  refine st_getr O dX6_lets_1 fl_X6_54 rfl rfl rfl (q := 4) rfl ?_
  refine st_aloadn O dX6_lets_4 rfl (q := 5) rfl ?_
  refine st_getr O dX6_lets_5 fl_X6_10 rfl rfl rfl (q := 8) rfl ?_
  refine st_call O dX6_lets_8 cs_X6_lets_8 (q := 11) rfl (am_siq rfl rfl rfl (Nat.le_of_ble_eq_true rfl) rfl ?_)
  refine ⟨gN σ, gb σ, gw σ, gk σ, gf σ, gl σ, gh σ, gq σ, [_, _, _, _, _, _], [_, _, _, _, _, _], _, rfl, rfl, ha, hq, hn, fun d1 d2 h1 h2 => ?_⟩
  obtain ⟨x0, x1, x2, x3, x4, x5, rfl⟩ := rF_lit h1
  obtain ⟨y0, y1, y2, y3, y4, y5, rfl⟩ := pF_lit6 h2
  refine am_nrp rfl rfl rfl rfl ?_
  refine st_ireturn O dX6_lets_11 ?_
  exact hK _ ⟨_, _, _, _, _, _, _, _, _, _, _, _, _, _, _, _, _, _, rfl, hn, h1, h2⟩
theorem C_X6_lets : am_ctr yX6_lets cX6_lets 1 (some .int) 6 138 sh_VC [some 0] T_X6_lets := am_mk (by decide) (Or.inr (Or.inl ⟨rfl, rfl⟩)) (by decide) (by decide) (by decide) fl_X6_ok kc_X6_ok ck_X6_lets B_X6_lets
def cs_X6_away : Nat → List am_V → am_D → am_K → Prop := am_cs [(8, am_site 2 [some 0, some 7] T_X0_cheapestWithout [8, 15, 16, 17, 18, 19, 20, 1, 2, 3, 4, 5, 6] [8, 15, 16, 17, 18, 19, 20, 1, 2, 3, 4, 5, 6, 9])]
theorem cs_X6_away_8 : cs_X6_away 8 = am_site 2 [some 0, some 7] T_X0_cheapestWithout [8, 15, 16, 17, 18, 19, 20, 1, 2, 3, 4, 5, 6] [8, 15, 16, 17, 18, 19, 20, 1, 2, 3, 4, 5, 6, 9] := rfl
theorem ck_X6_away : ∀ X : am_X, am_cx X RX6 cX6_away 1 5 116 → ∀ pc, am_csok X 1 sh_VC pc (cs_X6_away pc) := fun X hX => am_cs_ok (List.forall_mem_cons.mpr ⟨am_callV hX C_X0_cheapestWithout mo_X0_cheapestWithout rfl lk_X6_204 dX6_away_8 rfl rfl rfl (by decide), fun _ h => absurd h List.not_mem_nil⟩)
abbrev ok_X6_away (X : am_X) (K : List Int32 → am_D → Prop) : Prop := am_ok X RX6 cX6_away 1 sh_VC fl_X6 kc_X6 none 1 cs_X6_away K
abbrev aw_X6_away (X : am_X) (pc : Nat) (ls : am_L) (st : List am_V) (D : am_D) : Prop := am_aw X 1 sh_VC pc ls st D
abbrev T_X6_away : am_TT := am_v0 V_C f_away
set_option maxHeartbeats 200000 in
theorem B_X6_away : ∀ (X : am_X) (is : List Int32) (D : am_D) (K : List Int32 → am_D → Prop), ok_X6_away X K → T_X6_away is D K → is.length = (List.filter Option.isNone ([some 0] : List (Option Nat))).length → D.length = sh_VC.length → am_aw X 1 sh_VC 0 (am_l0 1 [some 0] is) [] D := by
  intro X is D K O hT _ _
  obtain ⟨o, σ, ⟨n0, n1, n2, n3, n4, n5, a0, a1, a2, a3, a4, a5, q0, q1, q2, q3, q4, q5, rfl, hn, ha, hq⟩, rfl, hK⟩ := hT
  unfold f_away at hK
  dsimp only at hK
  refine am_begin rfl ?_
  refine st_aloadn O dX6_away_0 rfl (q := 1) rfl ?_
  refine st_getr O dX6_away_1 fl_X6_54 rfl rfl rfl (q := 4) rfl ?_
  refine st_aloadn O dX6_away_4 rfl (q := 5) rfl ?_
  refine st_getr O dX6_away_5 fl_X6_10 rfl rfl rfl (q := 8) rfl ?_
  refine st_call O dX6_away_8 cs_X6_away_8 (q := 11) rfl (am_siq rfl rfl rfl (Nat.le_of_ble_eq_true rfl) rfl ?_)
  refine ⟨gN σ, gb σ, gw σ, gk σ, gf σ, gl σ, gh σ, gq σ, [_, _, _, _, _, _], _, rfl, rfl, hq, hn, fun d2 h2 => ?_⟩
  obtain ⟨y0, y1, y2, y3, y4, y5, rfl⟩ := pF_lit6 h2
  refine am_nrp rfl rfl rfl rfl ?_
  refine st_ireturn O dX6_away_11 ?_
  exact hK _ ⟨_, _, _, _, _, _, _, _, _, _, _, _, _, _, _, _, _, _, rfl, hn, ha, h2⟩
theorem C_X6_away : am_ctr yX6_away cX6_away 1 (some .int) 5 116 sh_VC [some 0] T_X6_away := am_mk (by decide) (Or.inr (Or.inl ⟨rfl, rfl⟩)) (by decide) (by decide) (by decide) fl_X6_ok kc_X6_ok ck_X6_away B_X6_away
def cs_X6_over : Nat → List am_V → am_D → am_K → Prop := am_cs [(12, am_site 2 [some 0, none] T_X6_refuse [0, 7] [0, 7, 1, 21, 22, 23, 24, 25, 8, 26]), (35, am_site 4 [some 0, some 13, none, none] T_X0_cheapestMove [8, 9, 10, 11, 12, 13, 14, 15, 16, 17, 18, 19, 20, 1, 2, 3, 4, 5, 6] [8, 9, 10, 11, 12, 13, 14, 15, 16, 17, 18, 19, 20, 1, 2, 3, 4, 5, 6])]
theorem cs_X6_over_12 : cs_X6_over 12 = am_site 2 [some 0, none] T_X6_refuse [0, 7] [0, 7, 1, 21, 22, 23, 24, 25, 8, 26] := rfl
theorem cs_X6_over_35 : cs_X6_over 35 = am_site 4 [some 0, some 13, none, none] T_X0_cheapestMove [8, 9, 10, 11, 12, 13, 14, 15, 16, 17, 18, 19, 20, 1, 2, 3, 4, 5, 6] [8, 9, 10, 11, 12, 13, 14, 15, 16, 17, 18, 19, 20, 1, 2, 3, 4, 5, 6] := rfl
theorem ck_X6_over : ∀ X : am_X, am_cx X RX6 cX6_over 2 6 139 → ∀ pc, am_csok X 2 sh_VC pc (cs_X6_over pc) := fun X hX => am_cs_ok (List.forall_mem_cons.mpr ⟨am_callV hX C_X6_refuse mo_X6_refuse rfl lk_X6_65 dX6_over_12 rfl rfl rfl (by decide), List.forall_mem_cons.mpr ⟨am_callV hX C_X0_cheapestMove mo_X0_cheapestMove rfl lk_X6_171 dX6_over_35 rfl rfl rfl (by decide), fun _ h => absurd h List.not_mem_nil⟩⟩)
abbrev ok_X6_over (X : am_X) (K : List Int32 → am_D → Prop) : Prop := am_ok X RX6 cX6_over 2 sh_VC fl_X6 kc_X6 none 1 cs_X6_over K
abbrev aw_X6_over (X : am_X) (pc : Nat) (ls : am_L) (st : List am_V) (D : am_D) : Prop := am_aw X 2 sh_VC pc ls st D
abbrev T_X6_over : am_TT := am_v1f V_C (f_mv false)
set_option maxHeartbeats 200000 in
theorem B_X6_over : ∀ (X : am_X) (is : List Int32) (D : am_D) (K : List Int32 → am_D → Prop), ok_X6_over X K → T_X6_over is D K → is.length = (List.filter Option.isNone ([some 0, none] : List (Option Nat))).length → D.length = sh_VC.length → am_aw X 2 sh_VC 0 (am_l0 2 [some 0, none] is) [] D := by
  intro X is D K O hT _ _
  obtain ⟨o, σ, a, ⟨n0, n1, n2, n3, n4, n5, a0, a1, a2, a3, a4, a5, q0, q1, q2, q3, q4, q5, rfl, hn, ha, hq⟩, rfl, hK⟩ := hT
  by_cases h0 : a = 0
  · subst h0
    rw [show f_mv false 0 σ = (oC (lsF (cMv (gb σ) (gw σ) (gk σ) (gf σ) (gl σ) (gh σ) (gq σ) false) (gC σ) (gN σ)) false, σ) from if_pos (by decide)] at hK
    refine am_begin rfl ?_
    refine st_iloadn O dX6_over_0 rfl (q := 1) rfl ?_
    refine st_if_eq O dX6_over_1 (t := 16) rfl (q := 4) rfl (fun c1 => ?_) (fun c1 => ?_)
    · refine st_aloadn O dX6_over_16 rfl (q := 17) rfl ?_
      refine st_getr O dX6_over_17 fl_X6_54 rfl rfl rfl (q := 20) rfl ?_
      refine st_aloadn O dX6_over_20 rfl (q := 21) rfl ?_
      refine st_getr O dX6_over_21 fl_X6_10 rfl rfl rfl (q := 24) rfl ?_
      refine st_iconst O dX6_over_24 am_iconst_0 (q := 25) rfl ?_
      refine st_iloadn O dX6_over_25 rfl (q := 26) rfl ?_
      refine st_iconst O dX6_over_26 am_iconst_1 (q := 27) rfl ?_
      refine st_icmp_ne O dX6_over_27 (t := 34) rfl (q := 30) rfl (fun c27 => ?_) (fun c27 => ?_)
      · refine st_iconst O dX6_over_34 am_iconst_0 (q := 35) rfl ?_
        refine st_call O dX6_over_35 cs_X6_over_35 (q := 38) rfl (am_siq rfl rfl rfl (Nat.le_of_ble_eq_true rfl) rfl ?_)
        refine ⟨gN σ, gb σ, gw σ, gk σ, gf σ, gl σ, gh σ, gq σ, [_, _, _, _, _, _], [_, _, _, _, _, _], _, false, false, rfl, rfl, ha, hq, hn, fun d1 d2 h1 h2 => ?_⟩
        obtain ⟨x0, x1, x2, x3, x4, x5, rfl⟩ := rF_lit h1
        obtain ⟨y0, y1, y2, y3, y4, y5, rfl⟩ := pF_lit6 h2
        refine am_nrp rfl rfl rfl rfl ?_
        refine st_ireturn O dX6_over_38 ?_
        exact hK _ ⟨_, _, _, _, _, _, _, _, _, _, _, _, _, _, _, _, _, _, rfl, hn, h1, h2⟩
      exact absurd c27 (by decide)
    exact absurd c1 (by decide)
  by_cases h1 : a = 1
  · subst h1
    rw [show f_mv false 1 σ = (oC (lsF (cMv (gb σ) (gw σ) (gk σ) (gf σ) (gl σ) (gh σ) (gq σ) false) (gC σ) (gN σ)) true, σ) from if_pos (by decide)] at hK
    refine am_begin rfl ?_
    refine st_iloadn O dX6_over_0 rfl (q := 1) rfl ?_
    refine st_if_eq O dX6_over_1 (t := 16) rfl (q := 4) rfl (fun c1 => ?_) (fun c1 => ?_)
    · exact absurd c1 (by decide)
    refine st_iloadn O dX6_over_4 rfl (q := 5) rfl ?_
    refine st_iconst O dX6_over_5 am_iconst_1 (q := 6) rfl ?_
    refine st_icmp_eq O dX6_over_6 (t := 16) rfl (q := 9) rfl (fun c6 => ?_) (fun c6 => ?_)
    · refine st_aloadn O dX6_over_16 rfl (q := 17) rfl ?_
      refine st_getr O dX6_over_17 fl_X6_54 rfl rfl rfl (q := 20) rfl ?_
      refine st_aloadn O dX6_over_20 rfl (q := 21) rfl ?_
      refine st_getr O dX6_over_21 fl_X6_10 rfl rfl rfl (q := 24) rfl ?_
      refine st_iconst O dX6_over_24 am_iconst_0 (q := 25) rfl ?_
      refine st_iloadn O dX6_over_25 rfl (q := 26) rfl ?_
      refine st_iconst O dX6_over_26 am_iconst_1 (q := 27) rfl ?_
      refine st_icmp_ne O dX6_over_27 (t := 34) rfl (q := 30) rfl (fun c27 => ?_) (fun c27 => ?_)
      · exact absurd c27 (by decide)
      refine st_iconst O dX6_over_30 am_iconst_1 (q := 31) rfl ?_
      refine st_goto O dX6_over_31 (t := 35) rfl ?_
      refine st_call O dX6_over_35 cs_X6_over_35 (q := 38) rfl (am_siq rfl rfl rfl (Nat.le_of_ble_eq_true rfl) rfl ?_)
      refine ⟨gN σ, gb σ, gw σ, gk σ, gf σ, gl σ, gh σ, gq σ, [_, _, _, _, _, _], [_, _, _, _, _, _], _, false, true, rfl, rfl, ha, hq, hn, fun d1 d2 h1 h2 => ?_⟩
      obtain ⟨x0, x1, x2, x3, x4, x5, rfl⟩ := rF_lit h1
      obtain ⟨y0, y1, y2, y3, y4, y5, rfl⟩ := pF_lit6 h2
      refine am_nrp rfl rfl rfl rfl ?_
      refine st_ireturn O dX6_over_38 ?_
      exact hK _ ⟨_, _, _, _, _, _, _, _, _, _, _, _, _, _, _, _, _, _, rfl, hn, h1, h2⟩
    exact absurd c6 (by decide)
  refine am_begin rfl ?_
  refine st_iloadn O dX6_over_0 rfl (q := 1) rfl ?_
  refine st_if_eq O dX6_over_1 (t := 16) rfl (q := 4) rfl (fun c1 => ?_) (fun c1 => ?_)
  · exact absurd c1 h0
  refine st_iloadn O dX6_over_4 rfl (q := 5) rfl ?_
  refine st_iconst O dX6_over_5 am_iconst_1 (q := 6) rfl ?_
  refine st_icmp_eq O dX6_over_6 (t := 16) rfl (q := 9) rfl (fun c6 => ?_) (fun c6 => ?_)
  · exact absurd c6 h1
  refine st_aloadn O dX6_over_9 rfl (q := 10) rfl ?_
  refine st_bipush O dX6_over_10 am_bipush_m2 (q := 12) rfl ?_
  refine st_call O dX6_over_12 cs_X6_over_12 (q := 15) rfl (am_siq rfl rfl rfl (Nat.le_of_ble_eq_true rfl) rfl ?_)
  refine ⟨_, _, 2, by decide, by decide, rfl, rfl, ?_⟩
  refine am_nrq rfl rfl ?_
  rw [show f_mv false a σ = rfs 2 σ from if_neg (fun z => z.elim h0 h1)] at hK
  exact st_ireturn O dX6_over_15 (hK _ ⟨_, _, _, _, _, _, _, _, _, _, _, _, _, _, _, _, _, _, rfl, hn, ha, hq⟩)
theorem C_X6_over : am_ctr yX6_over cX6_over 2 (some .int) 6 139 sh_VC [some 0, none] T_X6_over := am_mk (by decide) (Or.inr (Or.inl ⟨rfl, rfl⟩)) (by decide) (by decide) (by decide) fl_X6_ok kc_X6_ok ck_X6_over B_X6_over
def cs_X6_first : Nat → List am_V → am_D → am_K → Prop := am_cs [(12, am_site 2 [some 0, none] T_X6_refuse [0, 7] [0, 7, 1, 21, 22, 23, 24, 25, 8, 26]), (35, am_site 4 [some 0, some 13, none, none] T_X0_cheapestMove [8, 9, 10, 11, 12, 13, 14, 15, 16, 17, 18, 19, 20, 1, 2, 3, 4, 5, 6] [8, 9, 10, 11, 12, 13, 14, 15, 16, 17, 18, 19, 20, 1, 2, 3, 4, 5, 6])]
theorem cs_X6_first_12 : cs_X6_first 12 = am_site 2 [some 0, none] T_X6_refuse [0, 7] [0, 7, 1, 21, 22, 23, 24, 25, 8, 26] := rfl
theorem cs_X6_first_35 : cs_X6_first 35 = am_site 4 [some 0, some 13, none, none] T_X0_cheapestMove [8, 9, 10, 11, 12, 13, 14, 15, 16, 17, 18, 19, 20, 1, 2, 3, 4, 5, 6] [8, 9, 10, 11, 12, 13, 14, 15, 16, 17, 18, 19, 20, 1, 2, 3, 4, 5, 6] := rfl
theorem ck_X6_first : ∀ X : am_X, am_cx X RX6 cX6_first 2 6 139 → ∀ pc, am_csok X 2 sh_VC pc (cs_X6_first pc) := fun X hX => am_cs_ok (List.forall_mem_cons.mpr ⟨am_callV hX C_X6_refuse mo_X6_refuse rfl lk_X6_65 dX6_first_12 rfl rfl rfl (by decide), List.forall_mem_cons.mpr ⟨am_callV hX C_X0_cheapestMove mo_X0_cheapestMove rfl lk_X6_171 dX6_first_35 rfl rfl rfl (by decide), fun _ h => absurd h List.not_mem_nil⟩⟩)
abbrev ok_X6_first (X : am_X) (K : List Int32 → am_D → Prop) : Prop := am_ok X RX6 cX6_first 2 sh_VC fl_X6 kc_X6 none 1 cs_X6_first K
abbrev aw_X6_first (X : am_X) (pc : Nat) (ls : am_L) (st : List am_V) (D : am_D) : Prop := am_aw X 2 sh_VC pc ls st D
abbrev T_X6_first : am_TT := am_v1f V_C (f_mv true)
set_option maxHeartbeats 200000 in
theorem B_X6_first : ∀ (X : am_X) (is : List Int32) (D : am_D) (K : List Int32 → am_D → Prop), ok_X6_first X K → T_X6_first is D K → is.length = (List.filter Option.isNone ([some 0, none] : List (Option Nat))).length → D.length = sh_VC.length → am_aw X 2 sh_VC 0 (am_l0 2 [some 0, none] is) [] D := by
  intro X is D K O hT _ _
  obtain ⟨o, σ, a, ⟨n0, n1, n2, n3, n4, n5, a0, a1, a2, a3, a4, a5, q0, q1, q2, q3, q4, q5, rfl, hn, ha, hq⟩, rfl, hK⟩ := hT
  by_cases h0 : a = 0
  · subst h0
    rw [show f_mv true 0 σ = (oC (lsF (cMv (gb σ) (gw σ) (gk σ) (gf σ) (gl σ) (gh σ) (gq σ) true) (gC σ) (gN σ)) false, σ) from if_pos (by decide)] at hK
    refine am_begin rfl ?_
    refine st_iloadn O dX6_first_0 rfl (q := 1) rfl ?_
    refine st_if_eq O dX6_first_1 (t := 16) rfl (q := 4) rfl (fun c1 => ?_) (fun c1 => ?_)
    · refine st_aloadn O dX6_first_16 rfl (q := 17) rfl ?_
      refine st_getr O dX6_first_17 fl_X6_54 rfl rfl rfl (q := 20) rfl ?_
      refine st_aloadn O dX6_first_20 rfl (q := 21) rfl ?_
      refine st_getr O dX6_first_21 fl_X6_10 rfl rfl rfl (q := 24) rfl ?_
      refine st_iconst O dX6_first_24 am_iconst_1 (q := 25) rfl ?_
      refine st_iloadn O dX6_first_25 rfl (q := 26) rfl ?_
      refine st_iconst O dX6_first_26 am_iconst_1 (q := 27) rfl ?_
      refine st_icmp_ne O dX6_first_27 (t := 34) rfl (q := 30) rfl (fun c27 => ?_) (fun c27 => ?_)
      · refine st_iconst O dX6_first_34 am_iconst_0 (q := 35) rfl ?_
        refine st_call O dX6_first_35 cs_X6_first_35 (q := 38) rfl (am_siq rfl rfl rfl (Nat.le_of_ble_eq_true rfl) rfl ?_)
        refine ⟨gN σ, gb σ, gw σ, gk σ, gf σ, gl σ, gh σ, gq σ, [_, _, _, _, _, _], [_, _, _, _, _, _], _, true, false, rfl, rfl, ha, hq, hn, fun d1 d2 h1 h2 => ?_⟩
        obtain ⟨x0, x1, x2, x3, x4, x5, rfl⟩ := rF_lit h1
        obtain ⟨y0, y1, y2, y3, y4, y5, rfl⟩ := pF_lit6 h2
        refine am_nrp rfl rfl rfl rfl ?_
        refine st_ireturn O dX6_first_38 ?_
        exact hK _ ⟨_, _, _, _, _, _, _, _, _, _, _, _, _, _, _, _, _, _, rfl, hn, h1, h2⟩
      exact absurd c27 (by decide)
    exact absurd c1 (by decide)
  by_cases h1 : a = 1
  · subst h1
    rw [show f_mv true 1 σ = (oC (lsF (cMv (gb σ) (gw σ) (gk σ) (gf σ) (gl σ) (gh σ) (gq σ) true) (gC σ) (gN σ)) true, σ) from if_pos (by decide)] at hK
    refine am_begin rfl ?_
    refine st_iloadn O dX6_first_0 rfl (q := 1) rfl ?_
    refine st_if_eq O dX6_first_1 (t := 16) rfl (q := 4) rfl (fun c1 => ?_) (fun c1 => ?_)
    · exact absurd c1 (by decide)
    refine st_iloadn O dX6_first_4 rfl (q := 5) rfl ?_
    refine st_iconst O dX6_first_5 am_iconst_1 (q := 6) rfl ?_
    refine st_icmp_eq O dX6_first_6 (t := 16) rfl (q := 9) rfl (fun c6 => ?_) (fun c6 => ?_)
    · refine st_aloadn O dX6_first_16 rfl (q := 17) rfl ?_
      refine st_getr O dX6_first_17 fl_X6_54 rfl rfl rfl (q := 20) rfl ?_
      refine st_aloadn O dX6_first_20 rfl (q := 21) rfl ?_
      refine st_getr O dX6_first_21 fl_X6_10 rfl rfl rfl (q := 24) rfl ?_
      refine st_iconst O dX6_first_24 am_iconst_1 (q := 25) rfl ?_
      refine st_iloadn O dX6_first_25 rfl (q := 26) rfl ?_
      refine st_iconst O dX6_first_26 am_iconst_1 (q := 27) rfl ?_
      refine st_icmp_ne O dX6_first_27 (t := 34) rfl (q := 30) rfl (fun c27 => ?_) (fun c27 => ?_)
      · exact absurd c27 (by decide)
      refine st_iconst O dX6_first_30 am_iconst_1 (q := 31) rfl ?_
      refine st_goto O dX6_first_31 (t := 35) rfl ?_
      refine st_call O dX6_first_35 cs_X6_first_35 (q := 38) rfl (am_siq rfl rfl rfl (Nat.le_of_ble_eq_true rfl) rfl ?_)
      refine ⟨gN σ, gb σ, gw σ, gk σ, gf σ, gl σ, gh σ, gq σ, [_, _, _, _, _, _], [_, _, _, _, _, _], _, true, true, rfl, rfl, ha, hq, hn, fun d1 d2 h1 h2 => ?_⟩
      obtain ⟨x0, x1, x2, x3, x4, x5, rfl⟩ := rF_lit h1
      obtain ⟨y0, y1, y2, y3, y4, y5, rfl⟩ := pF_lit6 h2
      refine am_nrp rfl rfl rfl rfl ?_
      refine st_ireturn O dX6_first_38 ?_
      exact hK _ ⟨_, _, _, _, _, _, _, _, _, _, _, _, _, _, _, _, _, _, rfl, hn, h1, h2⟩
    exact absurd c6 (by decide)
  refine am_begin rfl ?_
  refine st_iloadn O dX6_first_0 rfl (q := 1) rfl ?_
  refine st_if_eq O dX6_first_1 (t := 16) rfl (q := 4) rfl (fun c1 => ?_) (fun c1 => ?_)
  · exact absurd c1 h0
  refine st_iloadn O dX6_first_4 rfl (q := 5) rfl ?_
  refine st_iconst O dX6_first_5 am_iconst_1 (q := 6) rfl ?_
  refine st_icmp_eq O dX6_first_6 (t := 16) rfl (q := 9) rfl (fun c6 => ?_) (fun c6 => ?_)
  · exact absurd c6 h1
  refine st_aloadn O dX6_first_9 rfl (q := 10) rfl ?_
  refine st_bipush O dX6_first_10 am_bipush_m2 (q := 12) rfl ?_
  refine st_call O dX6_first_12 cs_X6_first_12 (q := 15) rfl (am_siq rfl rfl rfl (Nat.le_of_ble_eq_true rfl) rfl ?_)
  refine ⟨_, _, 2, by decide, by decide, rfl, rfl, ?_⟩
  refine am_nrq rfl rfl ?_
  rw [show f_mv true a σ = rfs 2 σ from if_neg (fun z => z.elim h0 h1)] at hK
  exact st_ireturn O dX6_first_15 (hK _ ⟨_, _, _, _, _, _, _, _, _, _, _, _, _, _, _, _, _, _, rfl, hn, ha, hq⟩)
theorem C_X6_first : am_ctr yX6_first cX6_first 2 (some .int) 6 139 sh_VC [some 0, none] T_X6_first := am_mk (by decide) (Or.inr (Or.inl ⟨rfl, rfl⟩)) (by decide) (by decide) (by decide) fl_X6_ok kc_X6_ok ck_X6_first B_X6_first
theorem ffS_lt {p : Nat → Nat → Bool} {lo cnt : Nat} : ∀ (k s b : Nat), ffS p lo cnt s k = some b → b < lo + cnt
  | 0, s, b, h => by cases h
  | k + 1, s, b, h => by
    have key : ∀ (c m : Nat), ffU (p s) m c = some b → b < m + c := by
      intro c
      induction c with
      | zero => intro m h; cases h
      | succ c ih =>
        intro m h
        unfold ffU at h
        split at h
        · cases h; omega
        · have := ih (m + 1) h; omega
    unfold ffS at h
    split at h
    next b' h2 => cases h; exact key cnt lo h2
    next h2 => exact ffS_lt k _ b h
def cs_X6_bitsOrHowMany : Nat → List am_V → am_D → am_K → Prop := am_cs [(15, am_site 1 [none] T_J6_bitCount_0f7a4 [] [])]
theorem cs_X6_bitsOrHowMany_15 : cs_X6_bitsOrHowMany 15 = am_site 1 [none] T_J6_bitCount_0f7a4 [] [] := rfl
theorem ck_X6_bitsOrHowMany : ∀ X : am_X, am_cx X RX6 cX6_bitsOrHowMany 2 1 20 → ∀ pc, am_csok X 2 sh_None pc (cs_X6_bitsOrHowMany pc) := fun X hX => am_cs_ok (List.forall_mem_cons.mpr ⟨am_callS hX C_J6_bitCount_0f7a4 mo_J6_bitCount_0f7a4 rfl lk_X6_244 dX6_bitsOrHowMany_15 rfl (by decide), fun _ h => absurd h List.not_mem_nil⟩)
abbrev ok_X6_bitsOrHowMany (X : am_X) (K : List Int32 → am_D → Prop) : Prop := am_ok X RX6 cX6_bitsOrHowMany 2 sh_None fl_X6 kc_X6 none 1 cs_X6_bitsOrHowMany K
abbrev aw_X6_bitsOrHowMany (X : am_X) (pc : Nat) (ls : am_L) (st : List am_V) (D : am_D) : Prop := am_aw X 2 sh_None pc ls st D
abbrev T_X6_bitsOrHowMany : am_TT := am_pure (fun is _ r => ∃ x w, (∀ s, x = some s → s < 512) ∧ is = [oI x, w] ∧ r = boh x w)
set_option maxHeartbeats 200000 in
theorem B_X6_bitsOrHowMany : ∀ (X : am_X) (is : List Int32) (D : am_D) (K : List Int32 → am_D → Prop), ok_X6_bitsOrHowMany X K → T_X6_bitsOrHowMany is D K → is.length = (List.filter Option.isNone ([none, none] : List (Option Nat))).length → D.length = sh_None.length → am_aw X 2 sh_None 0 (am_l0 2 [none, none] is) [] D := by
  intro X is D K O hT _ _
  obtain ⟨r, ⟨x, w, hx, rfl, rfl⟩, hK⟩ := hT
  have h9 := oI_none (o := x) (fun c hc => by have := hx c hc; omega)
  cases x with
  | none =>
    refine am_begin rfl ?_
    refine st_iloadn O dX6_bitsOrHowMany_0 rfl (q := 1) rfl ?_
    refine st_bipush O dX6_bitsOrHowMany_1 am_bipush_m9 (q := 3) rfl ?_
    refine st_icmp_eq O dX6_bitsOrHowMany_3 (t := 10) rfl (q := 6) rfl (fun c3 => ?_) (fun c3 => ?_)
    · refine st_iloadn O dX6_bitsOrHowMany_10 rfl (q := 11) rfl ?_
      refine st_goto O dX6_bitsOrHowMany_11 (t := 18) rfl ?_
      refine st_ireturn O dX6_bitsOrHowMany_18 ?_
      exact hK
    exact absurd (h9.mpr rfl) c3
  | some s =>
    have hs := hx s rfl
    by_cases h0 : w = 0
    · rw [show boh (some s) w = nI s from if_pos h0] at hK
      refine am_begin rfl ?_
      refine st_iloadn O dX6_bitsOrHowMany_0 rfl (q := 1) rfl ?_
      refine st_bipush O dX6_bitsOrHowMany_1 am_bipush_m9 (q := 3) rfl ?_
      refine st_icmp_eq O dX6_bitsOrHowMany_3 (t := 10) rfl (q := 6) rfl (fun c3 => ?_) (fun c3 => ?_)
      · exact absurd (h9.mp c3) (by simp)
      refine st_iloadn O dX6_bitsOrHowMany_6 rfl (q := 7) rfl ?_
      refine st_if_ne O dX6_bitsOrHowMany_7 (t := 14) rfl (q := 10) rfl (fun c7 => ?_) (fun c7 => ?_)
      · exact absurd h0 c7
      refine st_iloadn O dX6_bitsOrHowMany_10 rfl (q := 11) rfl ?_
      refine st_goto O dX6_bitsOrHowMany_11 (t := 18) rfl ?_
      refine st_ireturn O dX6_bitsOrHowMany_18 ?_
      exact hK
    · rw [show boh (some s) w = nI (pc s) from if_neg h0] at hK
      refine am_begin rfl ?_
      refine st_iloadn O dX6_bitsOrHowMany_0 rfl (q := 1) rfl ?_
      refine st_bipush O dX6_bitsOrHowMany_1 am_bipush_m9 (q := 3) rfl ?_
      refine st_icmp_eq O dX6_bitsOrHowMany_3 (t := 10) rfl (q := 6) rfl (fun c3 => ?_) (fun c3 => ?_)
      · exact absurd (h9.mp c3) (by simp)
      refine st_iloadn O dX6_bitsOrHowMany_6 rfl (q := 7) rfl ?_
      refine st_if_ne O dX6_bitsOrHowMany_7 (t := 14) rfl (q := 10) rfl (fun c7 => ?_) (fun c7 => ?_)
      · refine st_iloadn O dX6_bitsOrHowMany_14 rfl (q := 15) rfl ?_
        refine st_callS O dX6_bitsOrHowMany_15 cs_X6_bitsOrHowMany_15 (q := 18) rfl (am_sipq rfl rfl rfl (Nat.le_of_ble_eq_true rfl) rfl (r := nI (pc s)) ⟨s, hs, rfl, rfl⟩ ?_)
        refine st_ireturn O dX6_bitsOrHowMany_18 ?_
        exact hK
      exact absurd c7 h0
theorem C_X6_bitsOrHowMany : am_ctr yX6_bitsOrHowMany cX6_bitsOrHowMany 2 (some .int) 1 20 sh_None [none, none] T_X6_bitsOrHowMany := am_mk (by decide) (Or.inr (Or.inl ⟨rfl, rfl⟩)) (by decide) (by decide) (by decide) fl_X6_ok kc_X6_ok ck_X6_bitsOrHowMany B_X6_bitsOrHowMany
def cs_X6_spoil : Nat → List am_V → am_D → am_K → Prop := am_cs [(12, am_site 2 [some 0, none] T_X6_refuse [0, 7] [0, 7, 1, 21, 22, 23, 24, 25, 8, 26]), (25, am_site 3 [some 0, some 13, none] T_X0_fewestTurned [8, 9, 10, 11, 12, 13, 14, 15, 16, 17, 18, 19, 20, 1, 2, 3, 4, 5, 6] [8, 9, 10, 11, 12, 13, 14, 15, 16, 17, 18, 19, 20, 1, 2, 3, 4, 5, 6]), (29, am_site 2 [none, none] T_X6_bitsOrHowMany [] [])]
theorem cs_X6_spoil_12 : cs_X6_spoil 12 = am_site 2 [some 0, none] T_X6_refuse [0, 7] [0, 7, 1, 21, 22, 23, 24, 25, 8, 26] := rfl
theorem cs_X6_spoil_25 : cs_X6_spoil 25 = am_site 3 [some 0, some 13, none] T_X0_fewestTurned [8, 9, 10, 11, 12, 13, 14, 15, 16, 17, 18, 19, 20, 1, 2, 3, 4, 5, 6] [8, 9, 10, 11, 12, 13, 14, 15, 16, 17, 18, 19, 20, 1, 2, 3, 4, 5, 6] := rfl
theorem cs_X6_spoil_29 : cs_X6_spoil 29 = am_site 2 [none, none] T_X6_bitsOrHowMany [] [] := rfl
theorem ck_X6_spoil : ∀ X : am_X, am_cx X RX6 cX6_spoil 2 7 165 → ∀ pc, am_csok X 2 sh_VC pc (cs_X6_spoil pc) := fun X hX => am_cs_ok (List.forall_mem_cons.mpr ⟨am_callV hX C_X6_refuse mo_X6_refuse rfl lk_X6_65 dX6_spoil_12 rfl rfl rfl (by decide), List.forall_mem_cons.mpr ⟨am_callV hX C_X0_fewestTurned mo_X0_fewestTurned rfl lk_X6_178 dX6_spoil_25 rfl rfl rfl (by decide), List.forall_mem_cons.mpr ⟨am_callS hX C_X6_bitsOrHowMany mo_X6_bitsOrHowMany rfl lk_X6_182 dX6_spoil_29 rfl (by decide), fun _ h => absurd h List.not_mem_nil⟩⟩⟩)
abbrev ok_X6_spoil (X : am_X) (K : List Int32 → am_D → Prop) : Prop := am_ok X RX6 cX6_spoil 2 sh_VC fl_X6 kc_X6 none 1 cs_X6_spoil K
abbrev aw_X6_spoil (X : am_X) (pc : Nat) (ls : am_L) (st : List am_V) (D : am_D) : Prop := am_aw X 2 sh_VC pc ls st D
abbrev T_X6_spoil : am_TT := am_v1f V_C (f_few false)
set_option maxHeartbeats 200000 in
theorem B_X6_spoil : ∀ (X : am_X) (is : List Int32) (D : am_D) (K : List Int32 → am_D → Prop), ok_X6_spoil X K → T_X6_spoil is D K → is.length = (List.filter Option.isNone ([some 0, none] : List (Option Nat))).length → D.length = sh_VC.length → am_aw X 2 sh_VC 0 (am_l0 2 [some 0, none] is) [] D := by
  intro X is D K O hT _ _
  obtain ⟨o, σ, a, ⟨n0, n1, n2, n3, n4, n5, a0, a1, a2, a3, a4, a5, q0, q1, q2, q3, q4, q5, rfl, hn, ha, hq⟩, rfl, hK⟩ := hT
  have hn9 : gN σ ≤ 9 := by obtain ⟨_, _, _, _, _, _, h, _⟩ := hn; exact h
  refine am_begin rfl ?_
  refine st_iloadn O dX6_spoil_0 rfl (q := 1) rfl ?_
  refine st_if_eq O dX6_spoil_1 (t := 16) rfl (q := 4) rfl (fun c1 => ?_) (fun c1 => ?_)
  · have hor : a = 0 ∨ a = 1 := by first | exact Or.inl c1 | exact Or.inr c6
    rw [show f_few false a σ = (boh (ffS (fun s a => decide (pc a = s) && rch (gN σ) (gb σ) (gw σ) (gk σ) (gf σ) (gl σ) (gh σ) (gq σ) false a) 1 (2 ^ gN σ - 1) 1 (gN σ)) a, σ) from if_pos hor] at hK
    refine st_aloadn O dX6_spoil_16 rfl (q := 17) rfl ?_
    refine st_getr O dX6_spoil_17 fl_X6_54 rfl rfl rfl (q := 20) rfl ?_
    refine st_aloadn O dX6_spoil_20 rfl (q := 21) rfl ?_
    refine st_getr O dX6_spoil_21 fl_X6_10 rfl rfl rfl (q := 24) rfl ?_
    refine st_iconst O dX6_spoil_24 am_iconst_0 (q := 25) rfl ?_
    refine st_call O dX6_spoil_25 cs_X6_spoil_25 (q := 28) rfl (am_siq rfl rfl rfl (Nat.le_of_ble_eq_true rfl) rfl ?_)
    refine ⟨gN σ, gb σ, gw σ, gk σ, gf σ, gl σ, gh σ, gq σ, [_, _, _, _, _, _], [_, _, _, _, _, _], _, false, rfl, rfl, ha, hq, hn, fun d1 d2 h1 h2 => ?_⟩
    obtain ⟨x0, x1, x2, x3, x4, x5, rfl⟩ := rF_lit h1
    obtain ⟨y0, y1, y2, y3, y4, y5, rfl⟩ := pF_lit6 h2
    refine am_nrp rfl rfl rfl rfl ?_
    refine st_iloadn O dX6_spoil_28 rfl (q := 29) rfl ?_
    refine st_callS O dX6_spoil_29 cs_X6_spoil_29 (q := 32) rfl (am_sipq rfl rfl rfl (Nat.le_of_ble_eq_true rfl) rfl (r := boh (ffS (fun s a => decide (pc a = s) && rch (gN σ) (gb σ) (gw σ) (gk σ) (gf σ) (gl σ) (gh σ) (gq σ) false a) 1 (2 ^ gN σ - 1) 1 (gN σ)) a) ⟨_, _, fun s hs => by have := ffS_lt _ _ _ hs; have := (p2_le (gN σ) (by omega)).2; omega, rfl, rfl⟩ ?_)
    refine st_ireturn O dX6_spoil_32 ?_
    exact hK _ ⟨_, _, _, _, _, _, _, _, _, _, _, _, _, _, _, _, _, _, rfl, hn, h1, h2⟩
  refine st_iloadn O dX6_spoil_4 rfl (q := 5) rfl ?_
  refine st_iconst O dX6_spoil_5 am_iconst_1 (q := 6) rfl ?_
  refine st_icmp_eq O dX6_spoil_6 (t := 16) rfl (q := 9) rfl (fun c6 => ?_) (fun c6 => ?_)
  · have hor : a = 0 ∨ a = 1 := by first | exact Or.inl c1 | exact Or.inr c6
    rw [show f_few false a σ = (boh (ffS (fun s a => decide (pc a = s) && rch (gN σ) (gb σ) (gw σ) (gk σ) (gf σ) (gl σ) (gh σ) (gq σ) false a) 1 (2 ^ gN σ - 1) 1 (gN σ)) a, σ) from if_pos hor] at hK
    refine st_aloadn O dX6_spoil_16 rfl (q := 17) rfl ?_
    refine st_getr O dX6_spoil_17 fl_X6_54 rfl rfl rfl (q := 20) rfl ?_
    refine st_aloadn O dX6_spoil_20 rfl (q := 21) rfl ?_
    refine st_getr O dX6_spoil_21 fl_X6_10 rfl rfl rfl (q := 24) rfl ?_
    refine st_iconst O dX6_spoil_24 am_iconst_0 (q := 25) rfl ?_
    refine st_call O dX6_spoil_25 cs_X6_spoil_25 (q := 28) rfl (am_siq rfl rfl rfl (Nat.le_of_ble_eq_true rfl) rfl ?_)
    refine ⟨gN σ, gb σ, gw σ, gk σ, gf σ, gl σ, gh σ, gq σ, [_, _, _, _, _, _], [_, _, _, _, _, _], _, false, rfl, rfl, ha, hq, hn, fun d1 d2 h1 h2 => ?_⟩
    obtain ⟨x0, x1, x2, x3, x4, x5, rfl⟩ := rF_lit h1
    obtain ⟨y0, y1, y2, y3, y4, y5, rfl⟩ := pF_lit6 h2
    refine am_nrp rfl rfl rfl rfl ?_
    refine st_iloadn O dX6_spoil_28 rfl (q := 29) rfl ?_
    refine st_callS O dX6_spoil_29 cs_X6_spoil_29 (q := 32) rfl (am_sipq rfl rfl rfl (Nat.le_of_ble_eq_true rfl) rfl (r := boh (ffS (fun s a => decide (pc a = s) && rch (gN σ) (gb σ) (gw σ) (gk σ) (gf σ) (gl σ) (gh σ) (gq σ) false a) 1 (2 ^ gN σ - 1) 1 (gN σ)) a) ⟨_, _, fun s hs => by have := ffS_lt _ _ _ hs; have := (p2_le (gN σ) (by omega)).2; omega, rfl, rfl⟩ ?_)
    refine st_ireturn O dX6_spoil_32 ?_
    exact hK _ ⟨_, _, _, _, _, _, _, _, _, _, _, _, _, _, _, _, _, _, rfl, hn, h1, h2⟩
  refine st_aloadn O dX6_spoil_9 rfl (q := 10) rfl ?_
  refine st_bipush O dX6_spoil_10 am_bipush_m2 (q := 12) rfl ?_
  refine st_call O dX6_spoil_12 cs_X6_spoil_12 (q := 15) rfl (am_siq rfl rfl rfl (Nat.le_of_ble_eq_true rfl) rfl ?_)
  refine ⟨_, _, 2, by decide, by decide, rfl, rfl, ?_⟩
  refine am_nrq rfl rfl ?_
  rw [show f_few false a σ = rfs 2 σ from if_neg (fun z => z.elim c1 c6)] at hK
  exact st_ireturn O dX6_spoil_15 (hK _ ⟨_, _, _, _, _, _, _, _, _, _, _, _, _, _, _, _, _, _, rfl, hn, ha, hq⟩)
theorem C_X6_spoil : am_ctr yX6_spoil cX6_spoil 2 (some .int) 7 165 sh_VC [some 0, none] T_X6_spoil := am_mk (by decide) (Or.inr (Or.inl ⟨rfl, rfl⟩)) (by decide) (by decide) (by decide) fl_X6_ok kc_X6_ok ck_X6_spoil B_X6_spoil
def cs_X6_mend : Nat → List am_V → am_D → am_K → Prop := am_cs [(12, am_site 2 [some 0, none] T_X6_refuse [0, 7] [0, 7, 1, 21, 22, 23, 24, 25, 8, 26]), (25, am_site 3 [some 0, some 13, none] T_X0_fewestTurned [8, 9, 10, 11, 12, 13, 14, 15, 16, 17, 18, 19, 20, 1, 2, 3, 4, 5, 6] [8, 9, 10, 11, 12, 13, 14, 15, 16, 17, 18, 19, 20, 1, 2, 3, 4, 5, 6]), (29, am_site 2 [none, none] T_X6_bitsOrHowMany [] [])]
theorem cs_X6_mend_12 : cs_X6_mend 12 = am_site 2 [some 0, none] T_X6_refuse [0, 7] [0, 7, 1, 21, 22, 23, 24, 25, 8, 26] := rfl
theorem cs_X6_mend_25 : cs_X6_mend 25 = am_site 3 [some 0, some 13, none] T_X0_fewestTurned [8, 9, 10, 11, 12, 13, 14, 15, 16, 17, 18, 19, 20, 1, 2, 3, 4, 5, 6] [8, 9, 10, 11, 12, 13, 14, 15, 16, 17, 18, 19, 20, 1, 2, 3, 4, 5, 6] := rfl
theorem cs_X6_mend_29 : cs_X6_mend 29 = am_site 2 [none, none] T_X6_bitsOrHowMany [] [] := rfl
theorem ck_X6_mend : ∀ X : am_X, am_cx X RX6 cX6_mend 2 7 165 → ∀ pc, am_csok X 2 sh_VC pc (cs_X6_mend pc) := fun X hX => am_cs_ok (List.forall_mem_cons.mpr ⟨am_callV hX C_X6_refuse mo_X6_refuse rfl lk_X6_65 dX6_mend_12 rfl rfl rfl (by decide), List.forall_mem_cons.mpr ⟨am_callV hX C_X0_fewestTurned mo_X0_fewestTurned rfl lk_X6_178 dX6_mend_25 rfl rfl rfl (by decide), List.forall_mem_cons.mpr ⟨am_callS hX C_X6_bitsOrHowMany mo_X6_bitsOrHowMany rfl lk_X6_182 dX6_mend_29 rfl (by decide), fun _ h => absurd h List.not_mem_nil⟩⟩⟩)
abbrev ok_X6_mend (X : am_X) (K : List Int32 → am_D → Prop) : Prop := am_ok X RX6 cX6_mend 2 sh_VC fl_X6 kc_X6 none 1 cs_X6_mend K
abbrev aw_X6_mend (X : am_X) (pc : Nat) (ls : am_L) (st : List am_V) (D : am_D) : Prop := am_aw X 2 sh_VC pc ls st D
abbrev T_X6_mend : am_TT := am_v1f V_C (f_few true)
set_option maxHeartbeats 200000 in
theorem B_X6_mend : ∀ (X : am_X) (is : List Int32) (D : am_D) (K : List Int32 → am_D → Prop), ok_X6_mend X K → T_X6_mend is D K → is.length = (List.filter Option.isNone ([some 0, none] : List (Option Nat))).length → D.length = sh_VC.length → am_aw X 2 sh_VC 0 (am_l0 2 [some 0, none] is) [] D := by
  intro X is D K O hT _ _
  obtain ⟨o, σ, a, ⟨n0, n1, n2, n3, n4, n5, a0, a1, a2, a3, a4, a5, q0, q1, q2, q3, q4, q5, rfl, hn, ha, hq⟩, rfl, hK⟩ := hT
  have hn9 : gN σ ≤ 9 := by obtain ⟨_, _, _, _, _, _, h, _⟩ := hn; exact h
  refine am_begin rfl ?_
  refine st_iloadn O dX6_mend_0 rfl (q := 1) rfl ?_
  refine st_if_eq O dX6_mend_1 (t := 16) rfl (q := 4) rfl (fun c1 => ?_) (fun c1 => ?_)
  · have hor : a = 0 ∨ a = 1 := by first | exact Or.inl c1 | exact Or.inr c6
    rw [show f_few true a σ = (boh (ffS (fun s a => decide (pc a = s) && rch (gN σ) (gb σ) (gw σ) (gk σ) (gf σ) (gl σ) (gh σ) (gq σ) true a) 1 (2 ^ gN σ - 1) 1 (gN σ)) a, σ) from if_pos hor] at hK
    refine st_aloadn O dX6_mend_16 rfl (q := 17) rfl ?_
    refine st_getr O dX6_mend_17 fl_X6_54 rfl rfl rfl (q := 20) rfl ?_
    refine st_aloadn O dX6_mend_20 rfl (q := 21) rfl ?_
    refine st_getr O dX6_mend_21 fl_X6_10 rfl rfl rfl (q := 24) rfl ?_
    refine st_iconst O dX6_mend_24 am_iconst_1 (q := 25) rfl ?_
    refine st_call O dX6_mend_25 cs_X6_mend_25 (q := 28) rfl (am_siq rfl rfl rfl (Nat.le_of_ble_eq_true rfl) rfl ?_)
    refine ⟨gN σ, gb σ, gw σ, gk σ, gf σ, gl σ, gh σ, gq σ, [_, _, _, _, _, _], [_, _, _, _, _, _], _, true, rfl, rfl, ha, hq, hn, fun d1 d2 h1 h2 => ?_⟩
    obtain ⟨x0, x1, x2, x3, x4, x5, rfl⟩ := rF_lit h1
    obtain ⟨y0, y1, y2, y3, y4, y5, rfl⟩ := pF_lit6 h2
    refine am_nrp rfl rfl rfl rfl ?_
    refine st_iloadn O dX6_mend_28 rfl (q := 29) rfl ?_
    refine st_callS O dX6_mend_29 cs_X6_mend_29 (q := 32) rfl (am_sipq rfl rfl rfl (Nat.le_of_ble_eq_true rfl) rfl (r := boh (ffS (fun s a => decide (pc a = s) && rch (gN σ) (gb σ) (gw σ) (gk σ) (gf σ) (gl σ) (gh σ) (gq σ) true a) 1 (2 ^ gN σ - 1) 1 (gN σ)) a) ⟨_, _, fun s hs => by have := ffS_lt _ _ _ hs; have := (p2_le (gN σ) (by omega)).2; omega, rfl, rfl⟩ ?_)
    refine st_ireturn O dX6_mend_32 ?_
    exact hK _ ⟨_, _, _, _, _, _, _, _, _, _, _, _, _, _, _, _, _, _, rfl, hn, h1, h2⟩
  refine st_iloadn O dX6_mend_4 rfl (q := 5) rfl ?_
  refine st_iconst O dX6_mend_5 am_iconst_1 (q := 6) rfl ?_
  refine st_icmp_eq O dX6_mend_6 (t := 16) rfl (q := 9) rfl (fun c6 => ?_) (fun c6 => ?_)
  · have hor : a = 0 ∨ a = 1 := by first | exact Or.inl c1 | exact Or.inr c6
    rw [show f_few true a σ = (boh (ffS (fun s a => decide (pc a = s) && rch (gN σ) (gb σ) (gw σ) (gk σ) (gf σ) (gl σ) (gh σ) (gq σ) true a) 1 (2 ^ gN σ - 1) 1 (gN σ)) a, σ) from if_pos hor] at hK
    refine st_aloadn O dX6_mend_16 rfl (q := 17) rfl ?_
    refine st_getr O dX6_mend_17 fl_X6_54 rfl rfl rfl (q := 20) rfl ?_
    refine st_aloadn O dX6_mend_20 rfl (q := 21) rfl ?_
    refine st_getr O dX6_mend_21 fl_X6_10 rfl rfl rfl (q := 24) rfl ?_
    refine st_iconst O dX6_mend_24 am_iconst_1 (q := 25) rfl ?_
    refine st_call O dX6_mend_25 cs_X6_mend_25 (q := 28) rfl (am_siq rfl rfl rfl (Nat.le_of_ble_eq_true rfl) rfl ?_)
    refine ⟨gN σ, gb σ, gw σ, gk σ, gf σ, gl σ, gh σ, gq σ, [_, _, _, _, _, _], [_, _, _, _, _, _], _, true, rfl, rfl, ha, hq, hn, fun d1 d2 h1 h2 => ?_⟩
    obtain ⟨x0, x1, x2, x3, x4, x5, rfl⟩ := rF_lit h1
    obtain ⟨y0, y1, y2, y3, y4, y5, rfl⟩ := pF_lit6 h2
    refine am_nrp rfl rfl rfl rfl ?_
    refine st_iloadn O dX6_mend_28 rfl (q := 29) rfl ?_
    refine st_callS O dX6_mend_29 cs_X6_mend_29 (q := 32) rfl (am_sipq rfl rfl rfl (Nat.le_of_ble_eq_true rfl) rfl (r := boh (ffS (fun s a => decide (pc a = s) && rch (gN σ) (gb σ) (gw σ) (gk σ) (gf σ) (gl σ) (gh σ) (gq σ) true a) 1 (2 ^ gN σ - 1) 1 (gN σ)) a) ⟨_, _, fun s hs => by have := ffS_lt _ _ _ hs; have := (p2_le (gN σ) (by omega)).2; omega, rfl, rfl⟩ ?_)
    refine st_ireturn O dX6_mend_32 ?_
    exact hK _ ⟨_, _, _, _, _, _, _, _, _, _, _, _, _, _, _, _, _, _, rfl, hn, h1, h2⟩
  refine st_aloadn O dX6_mend_9 rfl (q := 10) rfl ?_
  refine st_bipush O dX6_mend_10 am_bipush_m2 (q := 12) rfl ?_
  refine st_call O dX6_mend_12 cs_X6_mend_12 (q := 15) rfl (am_siq rfl rfl rfl (Nat.le_of_ble_eq_true rfl) rfl ?_)
  refine ⟨_, _, 2, by decide, by decide, rfl, rfl, ?_⟩
  refine am_nrq rfl rfl ?_
  rw [show f_few true a σ = rfs 2 σ from if_neg (fun z => z.elim c1 c6)] at hK
  exact st_ireturn O dX6_mend_15 (hK _ ⟨_, _, _, _, _, _, _, _, _, _, _, _, _, _, _, _, _, _, rfl, hn, ha, hq⟩)
theorem C_X6_mend : am_ctr yX6_mend cX6_mend 2 (some .int) 7 165 sh_VC [some 0, none] T_X6_mend := am_mk (by decide) (Or.inr (Or.inl ⟨rfl, rfl⟩)) (by decide) (by decide) (by decide) fl_X6_ok kc_X6_ok ck_X6_mend B_X6_mend
theorem kp_lt {p : Nat → Nat → Bool} {n k s : Nat} (hn : n ≤ 9) (h : some ((ffS p 0 (2 ^ n) 0 k).getD (2 ^ n - 1)) = some s) : s < 512 := by
  have h1 := (p2_le n (by omega)).2
  have h2 := (p2_le n (by omega)).1
  cases h3 : ffS p 0 (2 ^ n) 0 k with
  | none => rw [h3] at h; cases h; show 2 ^ n - 1 < 512; omega
  | some b =>
    rw [h3] at h
    cases h
    have := ffS_lt _ _ _ h3
    show b < 512
    omega
def cs_X6_even : Nat → List am_V → am_D → am_K → Prop := am_cs [(7, am_site 2 [some 0, none] T_X6_refuse [0, 7] [0, 7, 1, 21, 22, 23, 24, 25, 8, 26]), (20, am_site 2 [some 0, none] T_X6_refuse [0, 7] [0, 7, 1, 21, 22, 23, 24, 25, 8, 26]), (33, am_site 3 [some 0, some 13, none] T_X0_leastWave [8, 9, 10, 11, 12, 13, 14, 15, 16, 17, 18, 19, 20, 1, 2, 3, 4, 5, 6] [8, 9, 10, 11, 12, 13, 14, 15, 16, 17, 18, 19, 20, 1, 2, 3, 4, 5, 6])]
theorem cs_X6_even_7 : cs_X6_even 7 = am_site 2 [some 0, none] T_X6_refuse [0, 7] [0, 7, 1, 21, 22, 23, 24, 25, 8, 26] := rfl
theorem cs_X6_even_20 : cs_X6_even 20 = am_site 2 [some 0, none] T_X6_refuse [0, 7] [0, 7, 1, 21, 22, 23, 24, 25, 8, 26] := rfl
theorem cs_X6_even_33 : cs_X6_even 33 = am_site 3 [some 0, some 13, none] T_X0_leastWave [8, 9, 10, 11, 12, 13, 14, 15, 16, 17, 18, 19, 20, 1, 2, 3, 4, 5, 6] [8, 9, 10, 11, 12, 13, 14, 15, 16, 17, 18, 19, 20, 1, 2, 3, 4, 5, 6] := rfl
theorem ck_X6_even : ∀ X : am_X, am_cx X RX6 cX6_even 2 5 114 → ∀ pc, am_csok X 2 sh_VC pc (cs_X6_even pc) := fun X hX => am_cs_ok (List.forall_mem_cons.mpr ⟨am_callV hX C_X6_refuse mo_X6_refuse rfl lk_X6_65 dX6_even_7 rfl rfl rfl (by decide), List.forall_mem_cons.mpr ⟨am_callV hX C_X6_refuse mo_X6_refuse rfl lk_X6_65 dX6_even_20 rfl rfl rfl (by decide), List.forall_mem_cons.mpr ⟨am_callV hX C_X0_leastWave mo_X0_leastWave rfl lk_X6_218 dX6_even_33 rfl rfl rfl (by decide), fun _ h => absurd h List.not_mem_nil⟩⟩⟩)
abbrev ok_X6_even (X : am_X) (K : List Int32 → am_D → Prop) : Prop := am_ok X RX6 cX6_even 2 sh_VC fl_X6 kc_X6 none 1 cs_X6_even K
abbrev aw_X6_even (X : am_X) (pc : Nat) (ls : am_L) (st : List am_V) (D : am_D) : Prop := am_aw X 2 sh_VC pc ls st D
abbrev T_X6_even : am_TT := am_v1f V_C f_even
set_option maxHeartbeats 200000 in
theorem B_X6_even : ∀ (X : am_X) (is : List Int32) (D : am_D) (K : List Int32 → am_D → Prop), ok_X6_even X K → T_X6_even is D K → is.length = (List.filter Option.isNone ([some 0, none] : List (Option Nat))).length → D.length = sh_VC.length → am_aw X 2 sh_VC 0 (am_l0 2 [some 0, none] is) [] D := by
  intro X is D K O hT _ _
  obtain ⟨o, σ, a, ⟨n0, n1, n2, n3, n4, n5, a0, a1, a2, a3, a4, a5, q0, q1, q2, q3, q4, q5, rfl, hn, ha, hq⟩, rfl, hK⟩ := hT
  refine am_begin rfl ?_
  refine st_iloadn O dX6_even_0 rfl (q := 1) rfl ?_
  refine st_if_ge O dX6_even_1 (t := 11) rfl (q := 4) rfl (fun c1 => ?_) (fun c1 => ?_)
  · refine st_iloadn O dX6_even_11 rfl (q := 12) rfl ?_
    refine st_bipush O dX6_even_12 am_bipush_99 (q := 14) rfl ?_
    refine st_icmp_le O dX6_even_14 (t := 24) rfl (q := 17) rfl (fun c14 => ?_) (fun c14 => ?_)
    · refine st_aloadn O dX6_even_24 rfl (q := 25) rfl ?_
      refine st_getr O dX6_even_25 fl_X6_54 rfl rfl rfl (q := 28) rfl ?_
      refine st_aloadn O dX6_even_28 rfl (q := 29) rfl ?_
      refine st_getr O dX6_even_29 fl_X6_10 rfl rfl rfl (q := 32) rfl ?_
      refine st_iloadn O dX6_even_32 rfl (q := 33) rfl ?_
      refine st_call O dX6_even_33 cs_X6_even_33 (q := 36) rfl (am_siq rfl rfl rfl (Nat.le_of_ble_eq_true rfl) rfl ?_)
      obtain ⟨v, hv, e⟩ := (le_iff 99 (by decide)).mp ⟨c1, c14⟩
      rw [show f_even a σ = (oI (ffU (fun x => decide (a.toNatClampNeg ≤ tot (simA (gb σ) x (gk σ) (gf σ) (gl σ) (gq σ) 0))) 0 10), σ) from (if_pos c1).trans (if_pos c14), e, nI_clamp (by omega)] at hK
      subst e
      refine ⟨gN σ, gb σ, gw σ, gk σ, gf σ, gl σ, gh σ, gq σ, [_, _, _, _, _, _], [_, _, _, _, _, _], _, v, rfl, by omega, rfl, ha, hq, hn, fun d1 d2 h1 h2 => ?_⟩
      obtain ⟨x0, x1, x2, x3, x4, x5, rfl⟩ := rF_lit h1
      obtain ⟨y0, y1, y2, y3, y4, y5, rfl⟩ := pF_lit6 h2
      refine am_nrp rfl rfl rfl rfl ?_
      refine st_ireturn O dX6_even_36 ?_
      exact hK _ ⟨_, _, _, _, _, _, _, _, _, _, _, _, _, _, _, _, _, _, rfl, hn, h1, h2⟩
    refine st_aloadn O dX6_even_17 rfl (q := 18) rfl ?_
    refine st_bipush O dX6_even_18 am_bipush_m6 (q := 20) rfl ?_
    refine st_call O dX6_even_20 cs_X6_even_20 (q := 23) rfl (am_siq rfl rfl rfl (Nat.le_of_ble_eq_true rfl) rfl ?_)
    refine ⟨_, _, 6, by decide, by decide, rfl, rfl, ?_⟩
    refine am_nrq rfl rfl ?_
    rw [show f_even a σ = rfs 6 σ from (if_pos c1).trans (if_neg c14)] at hK
    exact st_ireturn O dX6_even_23 (hK _ ⟨_, _, _, _, _, _, _, _, _, _, _, _, _, _, _, _, _, _, rfl, hn, ha, hq⟩)
  refine st_aloadn O dX6_even_4 rfl (q := 5) rfl ?_
  refine st_bipush O dX6_even_5 am_bipush_m4 (q := 7) rfl ?_
  refine st_call O dX6_even_7 cs_X6_even_7 (q := 10) rfl (am_siq rfl rfl rfl (Nat.le_of_ble_eq_true rfl) rfl ?_)
  refine ⟨_, _, 4, by decide, by decide, rfl, rfl, ?_⟩
  refine am_nrq rfl rfl ?_
  rw [show f_even a σ = rfs 4 σ from if_neg c1] at hK
  exact st_ireturn O dX6_even_10 (hK _ ⟨_, _, _, _, _, _, _, _, _, _, _, _, _, _, _, _, _, _, rfl, hn, ha, hq⟩)
theorem C_X6_even : am_ctr yX6_even cX6_even 2 (some .int) 5 114 sh_VC [some 0, none] T_X6_even := am_mk (by decide) (Or.inr (Or.inl ⟨rfl, rfl⟩)) (by decide) (by decide) (by decide) fl_X6_ok kc_X6_ok ck_X6_even B_X6_even
def cs_X6_keep : Nat → List am_V → am_D → am_K → Prop := am_cs [(7, am_site 2 [some 0, none] T_X6_refuse [0, 7] [0, 7, 1, 21, 22, 23, 24, 25, 8, 26]), (20, am_site 2 [some 0, none] T_X6_refuse [0, 7] [0, 7, 1, 21, 22, 23, 24, 25, 8, 26]), (36, am_site 2 [some 0, none] T_X6_refuse [0, 7] [0, 7, 1, 21, 22, 23, 24, 25, 8, 26]), (49, am_site 3 [some 0, some 7, none] T_X0_fewestGone [8, 15, 16, 17, 18, 19, 20, 1, 2, 3, 4, 5, 6] [8, 15, 16, 17, 18, 19, 20, 1, 2, 3, 4, 5, 6, 9]), (53, am_site 2 [none, none] T_X6_bitsOrHowMany [] [])]
theorem cs_X6_keep_7 : cs_X6_keep 7 = am_site 2 [some 0, none] T_X6_refuse [0, 7] [0, 7, 1, 21, 22, 23, 24, 25, 8, 26] := rfl
theorem cs_X6_keep_20 : cs_X6_keep 20 = am_site 2 [some 0, none] T_X6_refuse [0, 7] [0, 7, 1, 21, 22, 23, 24, 25, 8, 26] := rfl
theorem cs_X6_keep_36 : cs_X6_keep 36 = am_site 2 [some 0, none] T_X6_refuse [0, 7] [0, 7, 1, 21, 22, 23, 24, 25, 8, 26] := rfl
theorem cs_X6_keep_49 : cs_X6_keep 49 = am_site 3 [some 0, some 7, none] T_X0_fewestGone [8, 15, 16, 17, 18, 19, 20, 1, 2, 3, 4, 5, 6] [8, 15, 16, 17, 18, 19, 20, 1, 2, 3, 4, 5, 6, 9] := rfl
theorem cs_X6_keep_53 : cs_X6_keep 53 = am_site 2 [none, none] T_X6_bitsOrHowMany [] [] := rfl
theorem ck_X6_keep : ∀ X : am_X, am_cx X RX6 cX6_keep 3 6 139 → ∀ pc, am_csok X 3 sh_VC pc (cs_X6_keep pc) := fun X hX => am_cs_ok (List.forall_mem_cons.mpr ⟨am_callV hX C_X6_refuse mo_X6_refuse rfl lk_X6_65 dX6_keep_7 rfl rfl rfl (by decide), List.forall_mem_cons.mpr ⟨am_callV hX C_X6_refuse mo_X6_refuse rfl lk_X6_65 dX6_keep_20 rfl rfl rfl (by decide), List.forall_mem_cons.mpr ⟨am_callV hX C_X6_refuse mo_X6_refuse rfl lk_X6_65 dX6_keep_36 rfl rfl rfl (by decide), List.forall_mem_cons.mpr ⟨am_callV hX C_X0_fewestGone mo_X0_fewestGone rfl lk_X6_221 dX6_keep_49 rfl rfl rfl (by decide), List.forall_mem_cons.mpr ⟨am_callS hX C_X6_bitsOrHowMany mo_X6_bitsOrHowMany rfl lk_X6_182 dX6_keep_53 rfl (by decide), fun _ h => absurd h List.not_mem_nil⟩⟩⟩⟩⟩)
abbrev ok_X6_keep (X : am_X) (K : List Int32 → am_D → Prop) : Prop := am_ok X RX6 cX6_keep 3 sh_VC fl_X6 kc_X6 none 1 cs_X6_keep K
abbrev aw_X6_keep (X : am_X) (pc : Nat) (ls : am_L) (st : List am_V) (D : am_D) : Prop := am_aw X 3 sh_VC pc ls st D
abbrev T_X6_keep : am_TT := am_v2f V_C f_keep
set_option maxHeartbeats 200000 in
theorem B_X6_keep : ∀ (X : am_X) (is : List Int32) (D : am_D) (K : List Int32 → am_D → Prop), ok_X6_keep X K → T_X6_keep is D K → is.length = (List.filter Option.isNone ([some 0, none, none] : List (Option Nat))).length → D.length = sh_VC.length → am_aw X 3 sh_VC 0 (am_l0 3 [some 0, none, none] is) [] D := by
  intro X is D K O hT _ _
  obtain ⟨o, σ, a, b, ⟨n0, n1, n2, n3, n4, n5, a0, a1, a2, a3, a4, a5, q0, q1, q2, q3, q4, q5, rfl, hn, ha, hq⟩, rfl, hK⟩ := hT
  have hn9 : gN σ ≤ 9 := by obtain ⟨_, _, _, _, _, _, h, _⟩ := hn; exact h
  refine am_begin rfl ?_
  refine st_iloadn O dX6_keep_0 rfl (q := 1) rfl ?_
  refine st_if_ge O dX6_keep_1 (t := 11) rfl (q := 4) rfl (fun c1 => ?_) (fun c1 => ?_)
  · refine st_iloadn O dX6_keep_11 rfl (q := 12) rfl ?_
    refine st_bipush O dX6_keep_12 am_bipush_99 (q := 14) rfl ?_
    refine st_icmp_le O dX6_keep_14 (t := 24) rfl (q := 17) rfl (fun c14 => ?_) (fun c14 => ?_)
    · refine st_iloadn O dX6_keep_24 rfl (q := 25) rfl ?_
      refine st_if_eq O dX6_keep_25 (t := 40) rfl (q := 28) rfl (fun c25 => ?_) (fun c25 => ?_)
      · have hor : b = 0 ∨ b = 1 := by first | exact Or.inl c25 | exact Or.inr c30
        obtain ⟨v, hv, e⟩ := (le_iff 99 (by decide)).mp ⟨c1, c14⟩
        rw [show f_keep a b σ = (boh (some ((ffS (fun s x => decide (pc x = s) && wth (gb σ) (gw σ) (gk σ) (gf σ) (gl σ) (gq σ) a.toNatClampNeg x) 0 (2 ^ gN σ) 0 (gN σ + 1)).getD (2 ^ gN σ - 1))) b, σ) from (if_pos c1).trans ((if_pos c14).trans (if_pos hor)), e, nI_clamp (by omega)] at hK
        subst e
        refine st_aloadn O dX6_keep_40 rfl (q := 41) rfl ?_
        refine st_getr O dX6_keep_41 fl_X6_54 rfl rfl rfl (q := 44) rfl ?_
        refine st_aloadn O dX6_keep_44 rfl (q := 45) rfl ?_
        refine st_getr O dX6_keep_45 fl_X6_10 rfl rfl rfl (q := 48) rfl ?_
        refine st_iloadn O dX6_keep_48 rfl (q := 49) rfl ?_
        refine st_call O dX6_keep_49 cs_X6_keep_49 (q := 52) rfl (am_siq rfl rfl rfl (Nat.le_of_ble_eq_true rfl) rfl ?_)
        refine ⟨gN σ, gb σ, gw σ, gk σ, gf σ, gl σ, gh σ, gq σ, [_, _, _, _, _, _], _, v, rfl, by omega, rfl, hq, hn, fun d2 h2 => ?_⟩
        obtain ⟨y0, y1, y2, y3, y4, y5, rfl⟩ := pF_lit6 h2
        refine am_nrp rfl rfl rfl rfl ?_
        refine st_iloadn O dX6_keep_52 rfl (q := 53) rfl ?_
        refine st_callS O dX6_keep_53 cs_X6_keep_53 (q := 56) rfl (am_sipq rfl rfl rfl (Nat.le_of_ble_eq_true rfl) rfl (r := boh (some ((ffS (fun s x => decide (pc x = s) && wth (gb σ) (gw σ) (gk σ) (gf σ) (gl σ) (gq σ) v x) 0 (2 ^ gN σ) 0 (gN σ + 1)).getD (2 ^ gN σ - 1))) b) ⟨some _, _, fun s hs => kp_lt (by omega) hs, rfl, rfl⟩ ?_)
        refine st_ireturn O dX6_keep_56 ?_
        exact hK _ ⟨_, _, _, _, _, _, _, _, _, _, _, _, _, _, _, _, _, _, rfl, hn, ha, h2⟩
      refine st_iloadn O dX6_keep_28 rfl (q := 29) rfl ?_
      refine st_iconst O dX6_keep_29 am_iconst_1 (q := 30) rfl ?_
      refine st_icmp_eq O dX6_keep_30 (t := 40) rfl (q := 33) rfl (fun c30 => ?_) (fun c30 => ?_)
      · have hor : b = 0 ∨ b = 1 := by first | exact Or.inl c25 | exact Or.inr c30
        obtain ⟨v, hv, e⟩ := (le_iff 99 (by decide)).mp ⟨c1, c14⟩
        rw [show f_keep a b σ = (boh (some ((ffS (fun s x => decide (pc x = s) && wth (gb σ) (gw σ) (gk σ) (gf σ) (gl σ) (gq σ) a.toNatClampNeg x) 0 (2 ^ gN σ) 0 (gN σ + 1)).getD (2 ^ gN σ - 1))) b, σ) from (if_pos c1).trans ((if_pos c14).trans (if_pos hor)), e, nI_clamp (by omega)] at hK
        subst e
        refine st_aloadn O dX6_keep_40 rfl (q := 41) rfl ?_
        refine st_getr O dX6_keep_41 fl_X6_54 rfl rfl rfl (q := 44) rfl ?_
        refine st_aloadn O dX6_keep_44 rfl (q := 45) rfl ?_
        refine st_getr O dX6_keep_45 fl_X6_10 rfl rfl rfl (q := 48) rfl ?_
        refine st_iloadn O dX6_keep_48 rfl (q := 49) rfl ?_
        refine st_call O dX6_keep_49 cs_X6_keep_49 (q := 52) rfl (am_siq rfl rfl rfl (Nat.le_of_ble_eq_true rfl) rfl ?_)
        refine ⟨gN σ, gb σ, gw σ, gk σ, gf σ, gl σ, gh σ, gq σ, [_, _, _, _, _, _], _, v, rfl, by omega, rfl, hq, hn, fun d2 h2 => ?_⟩
        obtain ⟨y0, y1, y2, y3, y4, y5, rfl⟩ := pF_lit6 h2
        refine am_nrp rfl rfl rfl rfl ?_
        refine st_iloadn O dX6_keep_52 rfl (q := 53) rfl ?_
        refine st_callS O dX6_keep_53 cs_X6_keep_53 (q := 56) rfl (am_sipq rfl rfl rfl (Nat.le_of_ble_eq_true rfl) rfl (r := boh (some ((ffS (fun s x => decide (pc x = s) && wth (gb σ) (gw σ) (gk σ) (gf σ) (gl σ) (gq σ) v x) 0 (2 ^ gN σ) 0 (gN σ + 1)).getD (2 ^ gN σ - 1))) b) ⟨some _, _, fun s hs => kp_lt (by omega) hs, rfl, rfl⟩ ?_)
        refine st_ireturn O dX6_keep_56 ?_
        exact hK _ ⟨_, _, _, _, _, _, _, _, _, _, _, _, _, _, _, _, _, _, rfl, hn, ha, h2⟩
      refine st_aloadn O dX6_keep_33 rfl (q := 34) rfl ?_
      refine st_bipush O dX6_keep_34 am_bipush_m2 (q := 36) rfl ?_
      refine st_call O dX6_keep_36 cs_X6_keep_36 (q := 39) rfl (am_siq rfl rfl rfl (Nat.le_of_ble_eq_true rfl) rfl ?_)
      refine ⟨_, _, 2, by decide, by decide, rfl, rfl, ?_⟩
      refine am_nrq rfl rfl ?_
      rw [show f_keep a b σ = rfs 2 σ from (if_pos c1).trans ((if_pos c14).trans (if_neg (fun z => z.elim c25 c30)))] at hK
      exact st_ireturn O dX6_keep_39 (hK _ ⟨_, _, _, _, _, _, _, _, _, _, _, _, _, _, _, _, _, _, rfl, hn, ha, hq⟩)
    refine st_aloadn O dX6_keep_17 rfl (q := 18) rfl ?_
    refine st_bipush O dX6_keep_18 am_bipush_m6 (q := 20) rfl ?_
    refine st_call O dX6_keep_20 cs_X6_keep_20 (q := 23) rfl (am_siq rfl rfl rfl (Nat.le_of_ble_eq_true rfl) rfl ?_)
    refine ⟨_, _, 6, by decide, by decide, rfl, rfl, ?_⟩
    refine am_nrq rfl rfl ?_
    rw [show f_keep a b σ = rfs 6 σ from (if_pos c1).trans (if_neg c14)] at hK
    exact st_ireturn O dX6_keep_23 (hK _ ⟨_, _, _, _, _, _, _, _, _, _, _, _, _, _, _, _, _, _, rfl, hn, ha, hq⟩)
  refine st_aloadn O dX6_keep_4 rfl (q := 5) rfl ?_
  refine st_bipush O dX6_keep_5 am_bipush_m4 (q := 7) rfl ?_
  refine st_call O dX6_keep_7 cs_X6_keep_7 (q := 10) rfl (am_siq rfl rfl rfl (Nat.le_of_ble_eq_true rfl) rfl ?_)
  refine ⟨_, _, 4, by decide, by decide, rfl, rfl, ?_⟩
  refine am_nrq rfl rfl ?_
  rw [show f_keep a b σ = rfs 4 σ from if_neg c1] at hK
  exact st_ireturn O dX6_keep_10 (hK _ ⟨_, _, _, _, _, _, _, _, _, _, _, _, _, _, _, _, _, _, rfl, hn, ha, hq⟩)
theorem C_X6_keep : am_ctr yX6_keep cX6_keep 3 (some .int) 6 139 sh_VC [some 0, none, none] T_X6_keep := am_mk (by decide) (Or.inr (Or.inl ⟨rfl, rfl⟩)) (by decide) (by decide) (by decide) fl_X6_ok kc_X6_ok ck_X6_keep B_X6_keep
