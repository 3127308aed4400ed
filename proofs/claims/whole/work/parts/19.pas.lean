/-! what is read off the turns -/
def wt_ (L : List (Nat × Nat × Nat)) (i : Nat) : Nat := (L.getD i (0, 0, 0)).2.2
def cr_ (L : List (Nat × Nat × Nat)) (i : Nat) : Nat := (L.getD i (0, 0, 0)).1
def ln_ (L : List (Nat × Nat × Nat)) (i : Nat) : Nat := (L.getD i (0, 0, 0)).2.1
theorem L_at {L : List (Nat × Nat × Nat)} {i : Nat} (h : i < L.length) : L[i]? = some (L.getD i (0, 0, 0)) := by
  rw [List.getD_eq_getElem?_getD, List.getElem?_eq_getElem h]; rfl
theorem L_mem {L : List (Nat × Nat × Nat)} {i : Nat} (h : i < L.length) : L.getD i (0, 0, 0) ∈ L := List.mem_of_getElem? (L_at h)
theorem pO_o {L : List (Nat × Nat × Nat)} {o wt tn : Nat → Int32} (h : pO L o wt tn) {i : Nat} (hi : i < L.length) : o i = nI (cr_ L i) := (h i _ (L_at hi)).1
theorem pO_w {L : List (Nat × Nat × Nat)} {o wt tn : Nat → Int32} (h : pO L o wt tn) {i : Nat} (hi : i < L.length) : wt (cr_ L i) = nI (wt_ L i) := (h i _ (L_at hi)).2.1
theorem pO_t {L : List (Nat × Nat × Nat)} {o wt tn : Nat → Int32} (h : pO L o wt tn) {i : Nat} (hi : i < L.length) : tn (cr_ L i) = nI i := (h i _ (L_at hi)).2.2
/-- a sum over the first m of a list of turns -/
def su (f : Nat × Nat × Nat → Nat) (L : List (Nat × Nat × Nat)) (m : Nat) : Nat := sm (fun i => f (L.getD i (0, 0, 0))) m
def cst (hu : Nat → Nat) (L : List (Nat × Nat × Nat)) : Nat := su (fun q => q.2.2 * hu q.1) L L.length
def wts (L : List (Nat × Nat × Nat)) : Nat := su (fun q => q.2.2) L L.length
/-- cars of the turns are cars, of 9 at most -/
def okL (n : Nat) (la : Nat → Nat) (L : List (Nat × Nat × Nat)) : Prop := L.length ≤ 9 ∧ n ≤ 9 ∧ ∀ q ∈ L, q.1 < n ∧ q.2.1 = la q.1 ∧ q.2.1 < 2
def cs_X3_waitInTurn : Nat → List am_V → am_D → am_K → Prop := am_cs []
theorem ck_X3_waitInTurn : ∀ X : am_X, am_cx X RX3 cX3_waitInTurn 2 0 0 → ∀ pc, am_csok X 2 sh_Pas pc (cs_X3_waitInTurn pc) := fun X hX => am_cs_ok (fun _ h => absurd h List.not_mem_nil)
abbrev ok_X3_waitInTurn (X : am_X) (K : List Int32 → am_D → Prop) : Prop := am_ok X RX3 cX3_waitInTurn 2 sh_Pas fl_X3 kc_X3 none 1 cs_X3_waitInTurn K
abbrev aw_X3_waitInTurn (X : am_X) (pc : Nat) (ls : am_L) (st : List am_V) (D : am_D) : Prop := am_aw X 2 sh_Pas pc ls st D
abbrev T_X3_waitInTurn : am_TT := am_pure (fun is D r => ∃ L m n la, pD L D ∧ okL n la L ∧ m < L.length ∧ is = [nI m] ∧ r = nI (wt_ L m))
theorem B_X3_waitInTurn : ∀ (X : am_X) (is : List Int32) (D : am_D) (K : List Int32 → am_D → Prop), ok_X3_waitInTurn X K → T_X3_waitInTurn is D K → is.length = (List.filter Option.isNone ([some 0, none] : List (Option Nat))).length → D.length = sh_Pas.length → am_aw X 2 sh_Pas 0 (am_l0 2 [some 0, none] is) [] D := by
  intro X is D K O hT _ _
  obtain ⟨r, ⟨L, m, n, la, hL, hk, hm, rfl, rfl⟩, hK⟩ := hT
  obtain ⟨c, d, e, f, g, h, i, o, wt, tn, rr, l, rfl, hO⟩ := hL
  have h1 := (hk.2.2 _ (L_mem hm)).1
  have h2 := hk.2.1
  have h3 := hk.1
  have h4 : cr_ L m < n := h1
  refine am_begin rfl ?_
  refine st_aloadn O dX3_waitInTurn_0 rfl (q := 1) rfl ?_
  refine st_getr O dX3_waitInTurn_1 fl_X3_15 rfl rfl rfl (q := 4) rfl ?_
  refine st_aloadn O dX3_waitInTurn_4 rfl (q := 5) rfl ?_
  refine st_getr O dX3_waitInTurn_5 fl_X3_9 rfl rfl rfl (q := 8) rfl ?_
  refine st_iloadn O dX3_waitInTurn_8 rfl (q := 9) rfl ?_
  refine sn_ald O dX3_waitInTurn_9 rfl rfl rfl ⟨by omega, by decide⟩ (pO_o hO hm) (q := 10) rfl ?_
  refine sn_ald O dX3_waitInTurn_10 rfl rfl rfl ⟨by omega, by decide⟩ (pO_w hO hm) (q := 11) rfl ?_
  refine st_ireturn O dX3_waitInTurn_11 ?_
  exact hK
theorem C_X3_waitInTurn : am_ctr yX3_waitInTurn cX3_waitInTurn 2 (some .int) 0 0 sh_Pas [some 0, none] T_X3_waitInTurn := am_mk (by decide) (Or.inr (Or.inl ⟨rfl, rfl⟩)) (by decide) (by decide) (by decide) fl_X3_ok kc_X3_ok ck_X3_waitInTurn B_X3_waitInTurn
def cs_X3_allWaits : Nat → List am_V → am_D → am_K → Prop := am_cs [(15, am_site 2 [some 0, none] T_X3_waitInTurn [0, 1, 2, 3, 4, 5] [0, 1, 2, 3, 4, 5])]
theorem cs_X3_allWaits_15 : cs_X3_allWaits 15 = am_site 2 [some 0, none] T_X3_waitInTurn [0, 1, 2, 3, 4, 5] [0, 1, 2, 3, 4, 5] := rfl
theorem ck_X3_allWaits : ∀ X : am_X, am_cx X RX3 cX3_allWaits 3 1 21 → ∀ pc, am_csok X 3 sh_Pas pc (cs_X3_allWaits pc) := fun X hX => am_cs_ok (List.forall_mem_cons.mpr ⟨am_callV hX C_X3_waitInTurn mo_X3_waitInTurn rfl lk_X3_97 dX3_allWaits_15 rfl rfl rfl (by decide), fun _ h => absurd h List.not_mem_nil⟩)
abbrev ok_X3_allWaits (X : am_X) (K : List Int32 → am_D → Prop) : Prop := am_ok X RX3 cX3_allWaits 3 sh_Pas fl_X3 kc_X3 none 1 cs_X3_allWaits K
abbrev aw_X3_allWaits (X : am_X) (pc : Nat) (ls : am_L) (st : List am_V) (D : am_D) : Prop := am_aw X 3 sh_Pas pc ls st D
abbrev T_X3_allWaits : am_TT := am_pure (fun is D r => ∃ L n la, pD L D ∧ okL n la L ∧ is = [] ∧ r = nI (wts L))
theorem B_X3_allWaits : ∀ (X : am_X) (is : List Int32) (D : am_D) (K : List Int32 → am_D → Prop), ok_X3_allWaits X K → T_X3_allWaits is D K → is.length = (List.filter Option.isNone ([some 0] : List (Option Nat))).length → D.length = sh_Pas.length → am_aw X 3 sh_Pas 0 (am_l0 3 [some 0] is) [] D := by
  intro X is D K O hT _ _
  obtain ⟨r, ⟨L, n, la, hL, hk, rfl, rfl⟩, hK⟩ := hT
  obtain ⟨c, d, e, f, g, h, i, o, wt, tn, rr, l, rfl, hO⟩ := id hL
  have h3 := hk.1
  have loop : ∀ k m, L.length - m = k → m ≤ L.length → am_aw X 3 sh_Pas 4 [some (.inr 0), some (.inl (nI (su (fun q => q.2.2) L m))), some (.inl (nI m))] [] [.inl [nI L.length, nI (tot L), c, d, e, f, g, h, i], .inr o, .inr wt, .inr tn, .inr rr, .inr l] := by
    intro k
    induction k with
    | zero =>
      intro m hd hm
      have e : m = L.length := by omega
      subst e
      refine st_iloadn O dX3_allWaits_4 rfl (q := 5) rfl ?_
      refine st_aloadn O dX3_allWaits_5 rfl (q := 6) rfl ?_
      refine st_geti O dX3_allWaits_6 fl_X3_21 rfl rfl rfl rfl (q := 9) rfl ?_
      refine sn_icmp_ge O dX3_allWaits_9 (t := 26) rfl (q := 12) rfl (by omega) (by omega) (fun c9 => ?_) (fun c9 => ?_)
      · refine st_iloadn O dX3_allWaits_26 rfl (q := 27) rfl ?_
        refine st_ireturn O dX3_allWaits_27 ?_
        exact hK
      omega
    | succ k ih =>
      intro m hd hm
      refine st_iloadn O dX3_allWaits_4 rfl (q := 5) rfl ?_
      refine st_aloadn O dX3_allWaits_5 rfl (q := 6) rfl ?_
      refine st_geti O dX3_allWaits_6 fl_X3_21 rfl rfl rfl rfl (q := 9) rfl ?_
      refine sn_icmp_ge O dX3_allWaits_9 (t := 26) rfl (q := 12) rfl (by omega) (by omega) (fun c9 => ?_) (fun c9 => ?_)
      · omega
      refine st_iloadn O dX3_allWaits_12 rfl (q := 13) rfl ?_
      refine st_aloadn O dX3_allWaits_13 rfl (q := 14) rfl ?_
      refine st_iloadn O dX3_allWaits_14 rfl (q := 15) rfl ?_
      refine st_call O dX3_allWaits_15 cs_X3_allWaits_15 (q := 18) rfl (am_sip rfl rfl rfl (Nat.le_of_ble_eq_true rfl) rfl (r := nI (wt_ L m)) ⟨L, m, n, la, hL, hk, by omega, rfl, rfl⟩ ?_)
      refine st_iadd O dX3_allWaits_18 (by first | exact nI_add _ _ | exact rfl) (q := 19) rfl ?_
      refine st_istoren O dX3_allWaits_19 rfl (q := 20) rfl ?_
      refine st_iinc O dX3_allWaits_20 rfl (by first | exact am_ii1 _ | exact rfl) rfl (q := 23) rfl ?_
      refine st_goto O dX3_allWaits_23 (t := 4) rfl ?_
      exact ih (m + 1) (by omega) (by omega)
  refine am_begin rfl ?_
  refine st_iconst O dX3_allWaits_0 am_iconst_0 (q := 1) rfl ?_
  refine st_istoren O dX3_allWaits_1 rfl (q := 2) rfl ?_
  refine st_iconst O dX3_allWaits_2 am_iconst_0 (q := 3) rfl ?_
  refine st_istoren O dX3_allWaits_3 rfl (q := 4) rfl ?_
  exact loop _ 0 rfl (by omega)
theorem C_X3_allWaits : am_ctr yX3_allWaits cX3_allWaits 3 (some .int) 1 21 sh_Pas [some 0] T_X3_allWaits := am_mk (by decide) (Or.inr (Or.inl ⟨rfl, rfl⟩)) (by decide) (by decide) (by decide) fl_X3_ok kc_X3_ok ck_X3_allWaits B_X3_allWaits
def cs_X3_cost : Nat → List am_V → am_D → am_K → Prop := am_cs [(15, am_site 2 [some 0, none] T_X3_waitInTurn [0, 1, 2, 3, 4, 5] [0, 1, 2, 3, 4, 5])]
theorem cs_X3_cost_15 : cs_X3_cost 15 = am_site 2 [some 0, none] T_X3_waitInTurn [0, 1, 2, 3, 4, 5] [0, 1, 2, 3, 4, 5] := rfl
theorem ck_X3_cost : ∀ X : am_X, am_cx X RX3 cX3_cost 4 1 21 → ∀ pc, am_csok X 4 sh_PR pc (cs_X3_cost pc) := fun X hX => am_cs_ok (List.forall_mem_cons.mpr ⟨am_callV hX C_X3_waitInTurn mo_X3_waitInTurn rfl lk_X3_97 dX3_cost_15 rfl rfl rfl (by decide), fun _ h => absurd h List.not_mem_nil⟩)
abbrev ok_X3_cost (X : am_X) (K : List Int32 → am_D → Prop) : Prop := am_ok X RX3 cX3_cost 4 sh_PR fl_X3 kc_X3 none 1 cs_X3_cost K
abbrev aw_X3_cost (X : am_X) (pc : Nat) (ls : am_L) (st : List am_V) (D : am_D) : Prop := am_aw X 4 sh_PR pc ls st D
abbrev T_X3_cost : am_TT := am_pure (fun is D r => ∃ L n b w kd fg la hu li d1 d2, D = d1 ++ d2 ∧ pD L d1 ∧ rA n b w kd fg la hu li d2 ∧ okL n la L ∧ is = [] ∧ r = nI (cst hu L))
theorem B_X3_cost : ∀ (X : am_X) (is : List Int32) (D : am_D) (K : List Int32 → am_D → Prop), ok_X3_cost X K → T_X3_cost is D K → is.length = (List.filter Option.isNone ([some 0, some 6] : List (Option Nat))).length → D.length = sh_PR.length → am_aw X 4 sh_PR 0 (am_l0 4 [some 0, some 6] is) [] D := by
  intro X is D K O hT _ _
  obtain ⟨r, ⟨L, n, b, w, kd, fg, la, hu, li, d1, d2, rfl, hL, hR, hk, rfl, rfl⟩, hK⟩ := hT
  obtain ⟨c, d, e, f, g, h, i, o, wt, tn, rr, l, rfl, hO⟩ := id hL
  obtain ⟨kk, ff, ll, hh, ii, rfl, hn, hb, hw, hj, hp, hi⟩ := hR
  have h3 := hk.1
  have loop : ∀ k m, L.length - m = k → m ≤ L.length → am_aw X 4 sh_PR 4 [some (.inr 0), some (.inr 6), some (.inl (nI (su (fun q => q.2.2 * hu q.1) L m))), some (.inl (nI m))] [] [.inl [nI L.length, nI (tot L), c, d, e, f, g, h, i], .inr o, .inr wt, .inr tn, .inr rr, .inr l, .inl [nI n, nI b, nI w], .inr kk, .inr ff, .inr ll, .inr hh, .inr ii] := by
    intro k
    induction k with
    | zero =>
      intro m hd hm
      have e : m = L.length := by omega
      subst e
      refine st_iloadn O dX3_cost_4 rfl (q := 5) rfl ?_
      refine st_aloadn O dX3_cost_5 rfl (q := 6) rfl ?_
      refine st_geti O dX3_cost_6 fl_X3_21 rfl rfl rfl rfl (q := 9) rfl ?_
      refine sn_icmp_ge O dX3_cost_9 (t := 38) rfl (q := 12) rfl (by omega) (by omega) (fun c9 => ?_) (fun c9 => ?_)
      · refine st_iloadn O dX3_cost_38 rfl (q := 39) rfl ?_
        refine st_ireturn O dX3_cost_39 ?_
        exact hK
      omega
    | succ k ih =>
      intro m hd hm
      have h4 : cr_ L m < n := (hk.2.2 _ (L_mem (i := m) (by omega))).1
      refine st_iloadn O dX3_cost_4 rfl (q := 5) rfl ?_
      refine st_aloadn O dX3_cost_5 rfl (q := 6) rfl ?_
      refine st_geti O dX3_cost_6 fl_X3_21 rfl rfl rfl rfl (q := 9) rfl ?_
      refine sn_icmp_ge O dX3_cost_9 (t := 38) rfl (q := 12) rfl (by omega) (by omega) (fun c9 => ?_) (fun c9 => ?_)
      · omega
      refine st_iloadn O dX3_cost_12 rfl (q := 13) rfl ?_
      refine st_aloadn O dX3_cost_13 rfl (q := 14) rfl ?_
      refine st_iloadn O dX3_cost_14 rfl (q := 15) rfl ?_
      refine st_call O dX3_cost_15 cs_X3_cost_15 (q := 18) rfl (am_sip rfl rfl rfl (Nat.le_of_ble_eq_true rfl) rfl (r := nI (wt_ L m)) ⟨L, m, n, la, hL, hk, by omega, rfl, rfl⟩ ?_)
      refine st_aloadn O dX3_cost_18 rfl (q := 19) rfl ?_
      refine st_getr O dX3_cost_19 fl_X3_100 rfl rfl rfl (q := 22) rfl ?_
      refine st_aloadn O dX3_cost_22 rfl (q := 23) rfl ?_
      refine st_getr O dX3_cost_23 fl_X3_9 rfl rfl rfl (q := 26) rfl ?_
      refine st_iloadn O dX3_cost_26 rfl (q := 27) rfl ?_
      refine sn_ald O dX3_cost_27 rfl rfl rfl ⟨by omega, by decide⟩ (pO_o hO (by omega)) (q := 28) rfl ?_
      refine sn_ald O dX3_cost_28 rfl rfl rfl ⟨by omega, by decide⟩ (hj _ h4).2.2.2.1 (q := 29) rfl ?_
      refine st_imul O dX3_cost_29 (by first | exact pk_mul _ _ | exact rfl) (q := 30) rfl ?_
      refine st_iadd O dX3_cost_30 (by first | exact nI_add _ _ | exact rfl) (q := 31) rfl ?_
      refine st_istoren O dX3_cost_31 rfl (q := 32) rfl ?_
      refine st_iinc O dX3_cost_32 rfl (by first | exact am_ii1 _ | exact rfl) rfl (q := 35) rfl ?_
      refine st_goto O dX3_cost_35 (t := 4) rfl ?_
      exact ih (m + 1) (by omega) (by omega)
  refine am_begin rfl ?_
  refine st_iconst O dX3_cost_0 am_iconst_0 (q := 1) rfl ?_
  refine st_istoren O dX3_cost_1 rfl (q := 2) rfl ?_
  refine st_iconst O dX3_cost_2 am_iconst_0 (q := 3) rfl ?_
  refine st_istoren O dX3_cost_3 rfl (q := 4) rfl ?_
  exact loop _ 0 rfl (by omega)
theorem C_X3_cost : am_ctr yX3_cost cX3_cost 4 (some .int) 1 21 sh_PR [some 0, some 6] T_X3_cost := am_mk (by decide) (Or.inr (Or.inl ⟨rfl, rfl⟩)) (by decide) (by decide) (by decide) fl_X3_ok kc_X3_ok ck_X3_cost B_X3_cost
/-! changes of lanes, the longest run: the turns one behind the other -/
def sp (s : Nat × Nat × Nat × Nat) (q : Nat × Nat × Nat) : Nat × Nat × Nat × Nat := (q.2.1, s.2.1 + (if s.1 = 1 - q.2.1 then 1 else 0), (if s.1 = q.2.1 then s.2.2.1 + 1 else 1), max s.2.2.2 (if s.1 = q.2.1 then s.2.2.1 + 1 else 1))
def stt (L : List (Nat × Nat × Nat)) : Nat × Nat × Nat × Nat := L.foldl sp (2, 0, 0, 0)
theorem stt_s {L : List (Nat × Nat × Nat)} {m : Nat} (h : m < L.length) : stt (L.take (m + 1)) = sp (stt (L.take m)) (L.getD m (0, 0, 0)) := by
  unfold stt
  rw [List.take_succ, L_at h, List.foldl_append]
  rfl
theorem stt_l {L : List (Nat × Nat × Nat)} {m : Nat} (h : m < L.length) : (stt (L.take (m + 1))).1 = ln_ L m := by
  rw [stt_s h]; rfl
def cs_X3_laneChanges : Nat → List am_V → am_D → am_K → Prop := am_cs []
theorem ck_X3_laneChanges : ∀ X : am_X, am_cx X RX3 cX3_laneChanges 4 0 0 → ∀ pc, am_csok X 4 sh_PR pc (cs_X3_laneChanges pc) := fun X hX => am_cs_ok (fun _ h => absurd h List.not_mem_nil)
abbrev ok_X3_laneChanges (X : am_X) (K : List Int32 → am_D → Prop) : Prop := am_ok X RX3 cX3_laneChanges 4 sh_PR fl_X3 kc_X3 none 1 cs_X3_laneChanges K
abbrev aw_X3_laneChanges (X : am_X) (pc : Nat) (ls : am_L) (st : List am_V) (D : am_D) : Prop := am_aw X 4 sh_PR pc ls st D
abbrev T_X3_laneChanges : am_TT := am_pure (fun is D r => ∃ L n b w kd fg la hu li d1 d2, D = d1 ++ d2 ∧ pD L d1 ∧ rA n b w kd fg la hu li d2 ∧ okL n la L ∧ is = [] ∧ r = nI (stt L).2.1)
theorem stt_0 {L : List (Nat × Nat × Nat)} {n : Nat} {la : Nat → Nat} (hk : okL n la L) (h : L.length ≤ 1) : (stt L).2.1 = 0 := by
  match L, h, hk with
  | [], _, _ => rfl
  | [q], _, hk =>
    have := (hk.2.2 q List.mem_cons_self).2.2
    show 0 + (if (2 : Nat) = 1 - q.2.1 then 1 else 0) = 0
    rw [if_neg (by omega)]
theorem stt_1 {L : List (Nat × Nat × Nat)} {n : Nat} {la : Nat → Nat} (hk : okL n la L) (h : 0 < L.length) : (stt (L.take 1)).2.1 = 0 := by
  rw [stt_s h]
  have := (hk.2.2 _ (L_mem h)).2.2
  show 0 + (if (2 : Nat) = 1 - _ then 1 else 0) = 0
  rw [if_neg (by omega)]
theorem B_X3_laneChanges : ∀ (X : am_X) (is : List Int32) (D : am_D) (K : List Int32 → am_D → Prop), ok_X3_laneChanges X K → T_X3_laneChanges is D K → is.length = (List.filter Option.isNone ([some 0, some 6] : List (Option Nat))).length → D.length = sh_PR.length → am_aw X 4 sh_PR 0 (am_l0 4 [some 0, some 6] is) [] D := by
  intro X is D K O hT _ _
  obtain ⟨r, ⟨L, n, b, w, kd, fg, la, hu, li, d1, d2, rfl, hL, hR, hk, rfl, rfl⟩, hK⟩ := hT
  obtain ⟨c, d, e, f, g, h, i, o, wt, tn, rr, l, rfl, hO⟩ := id hL
  obtain ⟨kk, ff, ll, hh, ii, rfl, hn, hb, hw, hj, hp, hi⟩ := hR
  have h3 := hk.1
  have loop : ∀ k m, L.length - m = k → m ≤ L.length → 1 ≤ m → am_aw X 4 sh_PR 4 [some (.inr 0), some (.inr 6), some (.inl (nI (stt (L.take m)).2.1)), some (.inl (nI m))] [] [.inl [nI L.length, nI (tot L), c, d, e, f, g, h, i], .inr o, .inr wt, .inr tn, .inr rr, .inr l, .inl [nI n, nI b, nI w], .inr kk, .inr ff, .inr ll, .inr hh, .inr ii] := by
    intro k
    induction k with
    | zero =>
      intro m hd hm h1
      have e : m = L.length := by omega
      subst e
      rw [List.take_length]
      refine st_iloadn O dX3_laneChanges_4 rfl (q := 5) rfl ?_
      refine st_aloadn O dX3_laneChanges_5 rfl (q := 6) rfl ?_
      refine st_geti O dX3_laneChanges_6 fl_X3_21 rfl rfl rfl rfl (q := 9) rfl ?_
      refine sn_icmp_ge O dX3_laneChanges_9 (t := 48) rfl (q := 12) rfl (by omega) (by omega) (fun c9 => ?_) (fun c9 => ?_)
      · refine st_iloadn O dX3_laneChanges_48 rfl (q := 49) rfl ?_
        refine st_ireturn O dX3_laneChanges_49 ?_
        exact hK
      omega
    | succ k ih =>
      intro m hd hm h1
      have hm2 : m - 1 < L.length := by omega
      have h4 := hk.2.2 _ (L_mem (i := m) (by omega))
      have h5 := hk.2.2 _ (L_mem hm2)
      have h41 : cr_ L m < n := h4.1
      have h51 : cr_ L (m - 1) < n := h5.1
      have h42 : la (cr_ L m) = ln_ L m := h4.2.1.symm
      have h52 : la (cr_ L (m - 1)) = ln_ L (m - 1) := h5.2.1.symm
      have h43 : ln_ L m < 2 := h4.2.2
      have h53 : ln_ L (m - 1) < 2 := h5.2.2
      have ih := ih (m + 1) (by omega) (by omega) (by omega)
      have e1 : (stt (L.take m)).1 = ln_ L (m - 1) := by
        have := stt_l hm2
        rwa [show m - 1 + 1 = m by omega] at this
      rw [stt_s (by omega)] at ih
      have e2 : (sp (stt (L.take m)) (L.getD m (0, 0, 0))).2.1 = (stt (L.take m)).2.1 + (if (stt (L.take m)).1 = 1 - ln_ L m then 1 else 0) := rfl
      rw [e2, e1] at ih
      refine st_iloadn O dX3_laneChanges_4 rfl (q := 5) rfl ?_
      refine st_aloadn O dX3_laneChanges_5 rfl (q := 6) rfl ?_
      refine st_geti O dX3_laneChanges_6 fl_X3_21 rfl rfl rfl rfl (q := 9) rfl ?_
      refine sn_icmp_ge O dX3_laneChanges_9 (t := 48) rfl (q := 12) rfl (by omega) (by omega) (fun c9 => ?_) (fun c9 => ?_)
      · omega
      refine st_aloadn O dX3_laneChanges_12 rfl (q := 13) rfl ?_
      refine st_getr O dX3_laneChanges_13 fl_X3_75 rfl rfl rfl (q := 16) rfl ?_
      refine st_aloadn O dX3_laneChanges_16 rfl (q := 17) rfl ?_
      refine st_getr O dX3_laneChanges_17 fl_X3_9 rfl rfl rfl (q := 20) rfl ?_
      refine st_iloadn O dX3_laneChanges_20 rfl (q := 21) rfl ?_
      refine sn_ald O dX3_laneChanges_21 rfl rfl rfl ⟨by omega, by decide⟩ (pO_o hO (by omega)) (q := 22) rfl ?_
      refine sn_ald O dX3_laneChanges_22 rfl rfl rfl ⟨by omega, by decide⟩ (by rw [(hj _ h41).2.2.1.1, h42]) (q := 23) rfl ?_
      refine st_aloadn O dX3_laneChanges_23 rfl (q := 24) rfl ?_
      refine st_getr O dX3_laneChanges_24 fl_X3_75 rfl rfl rfl (q := 27) rfl ?_
      refine st_aloadn O dX3_laneChanges_27 rfl (q := 28) rfl ?_
      refine st_getr O dX3_laneChanges_28 fl_X3_9 rfl rfl rfl (q := 31) rfl ?_
      refine st_iloadn O dX3_laneChanges_31 rfl (q := 32) rfl ?_
      refine st_iconst O dX3_laneChanges_32 am_iconst_1 (q := 33) rfl ?_
      refine st_isub O dX3_laneChanges_33 (by first | exact pk_sub (by omega) | exact rfl) (q := 34) rfl ?_
      refine sn_ald O dX3_laneChanges_34 rfl rfl rfl ⟨by omega, by decide⟩ (pO_o hO hm2) (q := 35) rfl ?_
      refine sn_ald O dX3_laneChanges_35 rfl rfl rfl ⟨by omega, by decide⟩ (by rw [(hj _ h51).2.2.1.1, h52]) (q := 36) rfl ?_
      refine sn_icmp_eq O dX3_laneChanges_36 (t := 42) rfl (q := 39) rfl (by omega) (by omega) (fun c36 => ?_) (fun c36 => ?_)
      · refine st_iinc O dX3_laneChanges_42 rfl (by first | exact am_ii1 _ | exact rfl) rfl (q := 45) rfl ?_
        refine st_goto O dX3_laneChanges_45 (t := 4) rfl ?_
        first | (rw [if_neg (by omega)] at ih; exact ih) | (rw [if_pos (by omega)] at ih; exact ih)
      refine st_iinc O dX3_laneChanges_39 rfl (by first | exact am_ii1 _ | exact rfl) rfl (q := 42) rfl ?_
      refine st_iinc O dX3_laneChanges_42 rfl (by first | exact am_ii1 _ | exact rfl) rfl (q := 45) rfl ?_
      refine st_goto O dX3_laneChanges_45 (t := 4) rfl ?_
      first | (rw [if_neg (by omega)] at ih; exact ih) | (rw [if_pos (by omega)] at ih; exact ih)
  rcases Nat.eq_zero_or_pos L.length with q | q
  · rw [stt_0 hk (by omega)] at hK
    refine am_begin rfl ?_
    refine st_iconst O dX3_laneChanges_0 am_iconst_0 (q := 1) rfl ?_
    refine st_istoren O dX3_laneChanges_1 rfl (q := 2) rfl ?_
    refine st_iconst O dX3_laneChanges_2 am_iconst_1 (q := 3) rfl ?_
    refine st_istoren O dX3_laneChanges_3 rfl (q := 4) rfl ?_
    refine st_iloadn O dX3_laneChanges_4 rfl (q := 5) rfl ?_
    refine st_aloadn O dX3_laneChanges_5 rfl (q := 6) rfl ?_
    refine st_geti O dX3_laneChanges_6 fl_X3_21 rfl rfl rfl rfl (q := 9) rfl ?_
    refine sn_icmp_ge O dX3_laneChanges_9 (t := 48) rfl (q := 12) rfl (by omega) (by omega) (fun c9 => ?_) (fun c9 => ?_)
    · refine st_iloadn O dX3_laneChanges_48 rfl (q := 49) rfl ?_
      refine st_ireturn O dX3_laneChanges_49 ?_
      exact hK
    omega
  · have loop := loop _ 1 rfl q (Nat.le_refl 1)
    rw [stt_1 hk q] at loop
    refine am_begin rfl ?_
    refine st_iconst O dX3_laneChanges_0 am_iconst_0 (q := 1) rfl ?_
    refine st_istoren O dX3_laneChanges_1 rfl (q := 2) rfl ?_
    refine st_iconst O dX3_laneChanges_2 am_iconst_1 (q := 3) rfl ?_
    refine st_istoren O dX3_laneChanges_3 rfl (q := 4) rfl ?_
    exact loop
theorem C_X3_laneChanges : am_ctr yX3_laneChanges cX3_laneChanges 4 (some .int) 0 0 sh_PR [some 0, some 6] T_X3_laneChanges := am_mk (by decide) (Or.inr (Or.inl ⟨rfl, rfl⟩)) (by decide) (by decide) (by decide) fl_X3_ok kc_X3_ok ck_X3_laneChanges B_X3_laneChanges
