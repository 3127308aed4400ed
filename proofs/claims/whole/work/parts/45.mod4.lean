/-! the reference: queues of a road as it is otherwise; cost, seconds, copies -/
theorem qu_0 (la : Nat → Nat) (li : List Nat) (y : Nat) : qu la li y 0 = li.filter (fun c => decide (la c = y)) := by
  unfold qu
  apply List.filter_congr
  intro c _
  rw [Nat.zero_testBit]
  simp
theorem qu_ndz {la : Nat → Nat} {li : List Nat} {n : Nat} (hp : li.Perm (List.range n)) (y a : Nat) : (qu la li y a).Nodup := (pl_nd hp).filter _
theorem qu_mem {la : Nat → Nat} {li : List Nat} {n : Nat} (hp : li.Perm (List.range n)) {c : Nat} (hc : c < n) : c ∈ qu la li (la c) 0 := by
  rw [qu_0]
  exact List.mem_filter.mpr ⟨(pl_mem hp).mpr hc, decide_eq_true rfl⟩
theorem flt_er {li : List Nat} (hd : li.Nodup) (p : Nat → Bool) (c : Nat) : (li.erase c).filter p = (li.filter p).erase c := by
  rw [hd.erase_eq_filter, List.Nodup.erase_eq_filter (l := li.filter p) (List.Pairwise.filter p hd) c, List.filter_filter, List.filter_filter]
  apply List.filter_congr
  intro x _
  rw [Bool.and_comm]
theorem flt_no {li : List Nat} {p q : Nat → Bool} {c : Nat} (hd : li.Nodup) (h : ∀ x, x ≠ c → p x = q x) : (li.erase c).filter p = (li.erase c).filter q := by
  apply List.filter_congr
  intro x hx
  exact h x (hd.mem_erase_iff.mp hx).1
theorem qu_end {la : Nat → Nat} {li : List Nat} {n c t : Nat} (hp : li.Perm (List.range n)) (y : Nat) : qu (va_up la c t) (li.erase c ++ [c]) y 0 = if y = t then (qu la li y 0).erase c ++ [c] else (qu la li y 0).erase c := by
  rw [qu_0, qu_0, List.filter_append, ← flt_er (pl_nd hp), flt_no (q := fun x => decide (la x = y)) (pl_nd hp) (fun x hx => by simp only [va_up, if_neg hx])]
  by_cases h : y = t
  · rw [if_pos h]
    congr 1
    simp [va_up, h]
  · rw [if_neg h]
    have : [c].filter (fun x => decide (va_up la c t x = y)) = [] := by simp [va_up, Ne.symm h]
    rw [this, List.append_nil]
theorem qu_front {la : Nat → Nat} {li : List Nat} {n c : Nat} (hp : li.Perm (List.range n)) (y : Nat) : qu la (c :: li.erase c) y 0 = if y = la c then c :: (qu la li y 0).erase c else qu la li y 0 := by
  rw [qu_0, qu_0, List.filter_cons, flt_er (pl_nd hp)]
  by_cases h : y = la c
  · rw [if_pos h, if_pos (decide_eq_true h.symm)]
  · rw [if_neg h, if_neg (by simpa using fun e => h e.symm)]
    apply List.erase_of_not_mem
    intro hm
    exact h (of_decide_eq_true (List.mem_filter.mp hm).2).symm
theorem qu_ab {la : Nat → Nat} {li : List Nat} {n a a' c : Nat} (hp : li.Perm (List.range n)) (hb : ∀ j, j < n → a'.testBit j = (a.testBit j || decide (j = c))) (y : Nat) : (qu la li y a).erase c = qu la li y a' := by
  rw [List.Nodup.erase_eq_filter (qu_ndz (la := la) hp y a) c]
  unfold qu
  rw [List.filter_filter]
  apply List.filter_congr
  intro x hx
  rw [hb x ((pl_mem hp).mp hx)]
  by_cases e : x = c
  · simp [e]
  · simp [e]
theorem qu_add {la : Nat → Nat} {li : List Nat} {n t : Nat} (hp : li.Perm (List.range n)) (y : Nat) : qu (va_up la n t) (li ++ [n]) y 0 = if y = t then qu la li y 0 ++ [n] else qu la li y 0 := by
  have hnn : n ∉ li := fun h => Nat.lt_irrefl n ((pl_mem hp).mp h)
  rw [qu_0, qu_0, List.filter_append]
  have e1 : li.filter (fun c => decide (va_up la n t c = y)) = li.filter (fun c => decide (la c = y)) := by
    apply List.filter_congr
    intro x hx
    have : ¬ x = n := fun e => hnn (e ▸ hx)
    simp only [va_up, if_neg this]
  rw [e1]
  by_cases h : y = t
  · rw [if_pos h]
    congr 1
    simp [va_up, h]
  · rw [if_neg h]
    have : [n].filter (fun x => decide (va_up la n t x = y)) = [] := by simp [va_up, Ne.symm h]
    rw [this, List.append_nil]
theorem mL_congr {n : Nat} {Q Q' : Nat → List Nat} {lA pA lA' pA' : Nat → Int32} (h : mL n Q lA pA) (hQ : ∀ y, y < 2 → Q' y = Q y) (hl : ∀ c, c < n → lA' c = lA c ∧ pA' c = pA c) : mL n Q' lA' pA' := by
  refine ⟨h.1, fun z hz => ?_, fun c hc h0 h1 => ?_⟩
  · rw [hQ z hz]
    refine ⟨(h.2.1 z hz).1, fun c hc => ?_⟩
    obtain ⟨a1, a2, a3⟩ := (h.2.1 z hz).2 c hc
    rw [(hl c a1).1, (hl c a1).2]
    exact ⟨a1, a2, a3⟩
  · rw [hQ 0 (by decide)] at h0
    rw [hQ 1 (by decide)] at h1
    rw [(hl c hc).1]
    exact h.2.2 c hc h0 h1
theorem smw_congr {wd : Bool} {b w : Nat} {kd fg : Nat → Nat} {Q Q' : Nat → List Nat} (hQ : ∀ y, y < 2 → Q' y = Q y) : smw wd b w kd fg Q' = smw wd b w kd fg Q := by
  unfold smw
  rw [hQ 0 (by decide), hQ 1 (by decide)]
theorem smw_A {b w : Nat} {kd fg la : Nat → Nat} {li : List Nat} {a : Nat} {Q : Nat → List Nat} (hQ : ∀ y, y < 2 → Q y = qu la li y a) : smw false b w kd fg Q = simA b w kd fg la li a := by
  rw [smw_sim, hQ 0 (by decide), hQ 1 (by decide)]
theorem smw_perm (wd : Bool) (b w : Nat) (kd fg : Nat → Nat) (Q : Nat → List Nat) : ((smw wd b w kd fg Q).map (fun q => q.1)).Perm (Q 0 ++ Q 1) := sg_perm _ _ _ _ _ _ _ rfl
theorem smw_ok {wd : Bool} {n b w : Nat} {kd fg : Nat → Nat} {Q : Nat → List Nat} {lA pA : Nat → Int32} (h : mL n Q lA pA) : (smw wd b w kd fg Q).length ≤ n ∧ ∀ i, i < (smw wd b w kd fg Q).length → cr_ (smw wd b w kd fg Q) i < n := by
  have h1 := smw_perm wd b w kd fg Q
  have h2 := mL_sum h
  refine ⟨by have := h1.length_eq; rw [List.length_map, List.length_append] at this; omega, fun i hi => ?_⟩
  have h3 : cr_ (smw wd b w kd fg Q) i ∈ (smw wd b w kd fg Q).map (fun q => q.1) := List.mem_map_of_mem (L_mem hi)
  rcases List.mem_append.mp (h1.mem_iff.mp h3) with q | q
  · exact ((h.2.1 0 (by decide)).2 _ q).1
  · exact ((h.2.1 1 (by decide)).2 _ q).1
def cs_X7_seconds : Nat → List am_V → am_D → am_K → Prop := am_cs [(1, am_site 1 [some 0] T_X7_run [0, 1, 2, 3, 4, 5, 6, 7] [0, 1, 2, 3, 4, 5, 6, 7, 8, 9, 10, 11, 12, 13, 14, 15])]
theorem cs_X7_seconds_1 : cs_X7_seconds 1 = am_site 1 [some 0] T_X7_run [0, 1, 2, 3, 4, 5, 6, 7] [0, 1, 2, 3, 4, 5, 6, 7, 8, 9, 10, 11, 12, 13, 14, 15] := rfl
theorem ck_X7_seconds : ∀ X : am_X, am_cx X RX7 cX7_seconds 1 3 75 → ∀ pc, am_csok X 1 sh_MR pc (cs_X7_seconds pc) := fun X hX => am_cs_ok (List.forall_mem_cons.mpr ⟨am_callV hX C_X7_run mo_X7_run rfl lk_X7_161 dX7_seconds_1 rfl rfl rfl (by decide), fun _ h => absurd h List.not_mem_nil⟩)
abbrev ok_X7_seconds (X : am_X) (K : List Int32 → am_D → Prop) : Prop := am_ok X RX7 cX7_seconds 1 sh_MR fl_X7 kc_X7 none 1 cs_X7_seconds K
abbrev aw_X7_seconds (X : am_X) (pc : Nat) (ls : am_L) (st : List am_V) (D : am_D) : Prop := am_aw X 1 sh_MR pc ls st D
abbrev T_X7_seconds : am_TT := fun is D K => ∃ n b w x3 x4 x5 x6 x7 x8 x9 x10 wd kd fg Q kA fA lA pA gA wA uA, is = [] ∧ D = [.inl [nI n, nI b, nI w, x3, x4, x5, x6, x7, x8, x9, x10, bI wd], .inr kA, .inr fA, .inr lA, .inr pA, .inr gA, .inr wA, .inr uA] ∧ b ≤ 2 ∧ mK2 n kd fg kA fA ∧ mL n Q lA pA ∧ ∀ x7 x8 x9 x10 gA' wA' uA', K [nI (tot (smw wd b w kd fg Q))] [.inl [nI n, nI b, nI w, x3, x4, x5, x6, x7, x8, x9, x10, bI wd], .inr kA, .inr fA, .inr lA, .inr pA, .inr gA', .inr wA', .inr uA']
set_option maxHeartbeats 200000 in
theorem B_X7_seconds : ∀ (X : am_X) (is : List Int32) (D : am_D) (K : List Int32 → am_D → Prop), ok_X7_seconds X K → T_X7_seconds is D K → is.length = (List.filter Option.isNone ([some 0] : List (Option Nat))).length → D.length = sh_MR.length → am_aw X 1 sh_MR 0 (am_l0 1 [some 0] is) [] D := by
  intro X is D K O hT _ _
  obtain ⟨n, b, w, x3, x4, x5, x6, x7, x8, x9, x10, wd, kd, fg, Q, kA, fA, lA, pA, gA, wA, uA, rfl, rfl, hb, hk, hL, hK⟩ := hT
  refine am_begin rfl ?_
  refine st_aloadn O dX7_seconds_0 rfl (q := 1) rfl ?_
  refine st_call O dX7_seconds_1 cs_X7_seconds_1 (q := 4) rfl (am_siq rfl rfl rfl (Nat.le_of_ble_eq_true rfl) rfl ?_)
  refine ⟨n, b, w, _, _, _, _, _, _, _, _, wd, kd, fg, Q, _, _, _, _, _, _, _, rfl, rfl, hb, hk, hL, fun gA' wA' uA' hO => ?_⟩
  refine am_nrp rfl rfl rfl rfl ?_
  refine st_aloadn O dX7_seconds_4 rfl (q := 5) rfl ?_
  refine st_geti O dX7_seconds_5 fl_X7_149 rfl rfl rfl rfl (q := 8) rfl ?_
  refine st_ireturn O dX7_seconds_8 ?_
  exact hK _ _ _ _ _ _ _
theorem C_X7_seconds : am_ctr yX7_seconds cX7_seconds 1 (some .int) 3 75 sh_MR [some 0] T_X7_seconds := am_mk (by decide) (Or.inr (Or.inl ⟨rfl, rfl⟩)) (by decide) (by decide) (by decide) fl_X7_ok kc_X7_ok ck_X7_seconds B_X7_seconds
def cs_X7_cost : Nat → List am_V → am_D → am_K → Prop := am_cs [(1, am_site 1 [some 0] T_X7_run [0, 1, 2, 4, 5, 6, 7, 8] [0, 1, 2, 4, 5, 6, 7, 8, 3, 9, 10, 11, 12, 13, 14, 15])]
theorem cs_X7_cost_1 : cs_X7_cost 1 = am_site 1 [some 0] T_X7_run [0, 1, 2, 4, 5, 6, 7, 8] [0, 1, 2, 4, 5, 6, 7, 8, 3, 9, 10, 11, 12, 13, 14, 15] := rfl
theorem ck_X7_cost : ∀ X : am_X, am_cx X RX7 cX7_cost 3 3 75 → ∀ pc, am_csok X 3 sh_MC pc (cs_X7_cost pc) := fun X hX => am_cs_ok (List.forall_mem_cons.mpr ⟨am_callV hX C_X7_run mo_X7_run rfl lk_X7_161 dX7_cost_1 rfl rfl rfl (by decide), fun _ h => absurd h List.not_mem_nil⟩)
abbrev ok_X7_cost (X : am_X) (K : List Int32 → am_D → Prop) : Prop := am_ok X RX7 cX7_cost 3 sh_MC fl_X7 kc_X7 none 1 cs_X7_cost K
abbrev aw_X7_cost (X : am_X) (pc : Nat) (ls : am_L) (st : List am_V) (D : am_D) : Prop := am_aw X 3 sh_MC pc ls st D
abbrev T_X7_cost : am_TT := fun is D K => ∃ n b w x3 x4 x5 x6 x7 x8 x9 x10 wd kd fg hu Q kA fA hA lA pA gA wA uA, is = [] ∧ D = [.inl [nI n, nI b, nI w, x3, x4, x5, x6, x7, x8, x9, x10, bI wd], .inr kA, .inr fA, .inr hA, .inr lA, .inr pA, .inr gA, .inr wA, .inr uA] ∧ b ≤ 2 ∧ mK2 n kd fg kA fA ∧ (∀ c, c < n → hA c = nI (hu c)) ∧ mL n Q lA pA ∧ ∀ x7 x8 x9 x10 gA' wA' uA', K [nI (cst hu (smw wd b w kd fg Q))] [.inl [nI n, nI b, nI w, x3, x4, x5, x6, x7, x8, x9, x10, bI wd], .inr kA, .inr fA, .inr hA, .inr lA, .inr pA, .inr gA', .inr wA', .inr uA']
set_option maxHeartbeats 200000 in
theorem B_X7_cost : ∀ (X : am_X) (is : List Int32) (D : am_D) (K : List Int32 → am_D → Prop), ok_X7_cost X K → T_X7_cost is D K → is.length = (List.filter Option.isNone ([some 0] : List (Option Nat))).length → D.length = sh_MC.length → am_aw X 3 sh_MC 0 (am_l0 3 [some 0] is) [] D := by
  intro X is D K O hT _ _
  obtain ⟨n, b, w, x3, x4, x5, x6, x7, x8, x9, x10, wd, kd, fg, hu, Q, kA, fA, hA, lA, pA, gA, wA, uA, rfl, rfl, hb, hk, hh, hL, hK⟩ := hT
  have hn := hL.1
  obtain ⟨hl, hcr⟩ := smw_ok (wd := wd) (b := b) (w := w) (kd := kd) (fg := fg) hL
  have hK : ∀ x7 x8 x9 x10 gA' wA' uA', K [nI (cst hu (smw wd b w kd fg Q))] [.inl [nI n, nI b, nI w, x3, x4, x5, x6, x7, x8, x9, x10, bI wd], .inr kA, .inr fA, .inr hA, .inr lA, .inr pA, .inr gA', .inr wA', .inr uA'] := hK
  unfold cst su at hK
  have loop : ∀ gA' wA' uA', pO (smw wd b w kd fg Q) gA' wA' uA' → ∀ y8 y9 y10 d m, (smw wd b w kd fg Q).length - m = d → m ≤ (smw wd b w kd fg Q).length → am_aw X 3 sh_MC 8 [some (.inr 0), some (.inl (nI (sm (fun i => ((smw wd b w kd fg Q).getD i (0, 0, 0)).2.2 * hu ((smw wd b w kd fg Q).getD i (0, 0, 0)).1) m))), some (.inl (nI m))] [] [.inl [nI n, nI b, nI w, x3, x4, x5, x6, nI (smw wd b w kd fg Q).length, y8, y9, y10, bI wd], .inr kA, .inr fA, .inr hA, .inr lA, .inr pA, .inr gA', .inr wA', .inr uA'] := by
    intro gA' wA' uA' hO y8 y9 y10 d
    induction d with
    | zero =>
      intro m hd hm
      have e : m = (smw wd b w kd fg Q).length := by omega
      subst e
      refine st_iloadn O dX7_cost_8 rfl (q := 9) rfl ?_
      refine st_aloadn O dX7_cost_9 rfl (q := 10) rfl ?_
      refine st_geti O dX7_cost_10 fl_X7_146 rfl rfl rfl rfl (q := 13) rfl ?_
      refine sn_icmp_ge O dX7_cost_13 (t := 48) rfl (q := 16) rfl (by omega) (by omega) (fun c13 => ?_) (fun c13 => ?_)
      · refine st_iloadn O dX7_cost_48 rfl (q := 49) rfl ?_
        refine st_ireturn O dX7_cost_49 ?_
        exact hK _ _ _ _ _ _ _
      omega
    | succ d ih =>
      intro m hd hm
      have hml : m < (smw wd b w kd fg Q).length := by omega
      have h9 := hcr m hml
      have ih := ih (m + 1) (by omega) (by omega)
      refine st_iloadn O dX7_cost_8 rfl (q := 9) rfl ?_
      refine st_aloadn O dX7_cost_9 rfl (q := 10) rfl ?_
      refine st_geti O dX7_cost_10 fl_X7_146 rfl rfl rfl rfl (q := 13) rfl ?_
      refine sn_icmp_ge O dX7_cost_13 (t := 48) rfl (q := 16) rfl (by omega) (by omega) (fun c13 => ?_) (fun c13 => ?_)
      · omega
      refine st_iloadn O dX7_cost_16 rfl (q := 17) rfl ?_
      refine st_aloadn O dX7_cost_17 rfl (q := 18) rfl ?_
      refine st_getr O dX7_cost_18 fl_X7_49 rfl rfl rfl (q := 21) rfl ?_
      refine st_aloadn O dX7_cost_21 rfl (q := 22) rfl ?_
      refine st_getr O dX7_cost_22 fl_X7_46 rfl rfl rfl (q := 25) rfl ?_
      refine st_iloadn O dX7_cost_25 rfl (q := 26) rfl ?_
      refine sn_ald O dX7_cost_26 rfl rfl rfl ⟨by omega, by decide⟩ (pO_o hO hml) (q := 27) rfl ?_
      refine sn_ald O dX7_cost_27 rfl rfl rfl ⟨by omega, by decide⟩ (pO_w hO hml) (q := 28) rfl ?_
      refine st_aloadn O dX7_cost_28 rfl (q := 29) rfl ?_
      refine st_getr O dX7_cost_29 fl_X7_16 rfl rfl rfl (q := 32) rfl ?_
      refine st_aloadn O dX7_cost_32 rfl (q := 33) rfl ?_
      refine st_getr O dX7_cost_33 fl_X7_46 rfl rfl rfl (q := 36) rfl ?_
      refine st_iloadn O dX7_cost_36 rfl (q := 37) rfl ?_
      refine sn_ald O dX7_cost_37 rfl rfl rfl ⟨by omega, by decide⟩ (pO_o hO hml) (q := 38) rfl ?_
      refine sn_ald O dX7_cost_38 rfl rfl rfl ⟨by omega, by decide⟩ (hh _ h9) (q := 39) rfl ?_
      refine st_imul O dX7_cost_39 (by first | exact pk_mul _ _ | exact rfl) (q := 40) rfl ?_
      refine st_iadd O dX7_cost_40 (by first | exact nI_add _ _ | exact rfl) (q := 41) rfl ?_
      refine st_istoren O dX7_cost_41 rfl (q := 42) rfl ?_
      refine st_iinc O dX7_cost_42 rfl (by first | exact am_ii1 _ | exact rfl) rfl (q := 45) rfl ?_
      refine st_goto O dX7_cost_45 (t := 8) rfl ?_
      exact ih
  refine am_begin rfl ?_
  refine st_aloadn O dX7_cost_0 rfl (q := 1) rfl ?_
  refine st_call O dX7_cost_1 cs_X7_cost_1 (q := 4) rfl (am_siq rfl rfl rfl (Nat.le_of_ble_eq_true rfl) rfl ?_)
  refine ⟨n, b, w, _, _, _, _, _, _, _, _, wd, kd, fg, Q, _, _, _, _, _, _, _, rfl, rfl, hb, hk, hL, fun gA' wA' uA' hO => ?_⟩
  refine am_nrp rfl rfl rfl rfl ?_
  refine st_iconst O dX7_cost_4 am_iconst_0 (q := 5) rfl ?_
  refine st_istoren O dX7_cost_5 rfl (q := 6) rfl ?_
  refine st_iconst O dX7_cost_6 am_iconst_0 (q := 7) rfl ?_
  refine st_istoren O dX7_cost_7 rfl (q := 8) rfl ?_
  exact loop _ _ _ hO _ _ _ _ 0 rfl (Nat.zero_le _)
theorem C_X7_cost : am_ctr yX7_cost cX7_cost 3 (some .int) 3 75 sh_MC [some 0] T_X7_cost := am_mk (by decide) (Or.inr (Or.inl ⟨rfl, rfl⟩)) (by decide) (by decide) (by decide) fl_X7_ok kc_X7_ok ck_X7_cost B_X7_cost
def cs_X7_becomes : Nat → List am_V → am_D → am_K → Prop := am_cs []
theorem ck_X7_becomes : ∀ X : am_X, am_cx X RX7 cX7_becomes 4 0 0 → ∀ pc, am_csok X 4 sh_MB pc (cs_X7_becomes pc) := fun X hX => am_cs_ok (fun _ h => absurd h List.not_mem_nil)
abbrev ok_X7_becomes (X : am_X) (K : List Int32 → am_D → Prop) : Prop := am_ok X RX7 cX7_becomes 4 sh_MB fl_X7 kc_X7 none 0 cs_X7_becomes K
abbrev aw_X7_becomes (X : am_X) (pc : Nat) (ls : am_L) (st : List am_V) (D : am_D) : Prop := am_aw X 4 sh_MB pc ls st D
abbrev T_X7_becomes : am_TT := fun is D K => ∃ xs kA fA c k f, c < 9 ∧ is = [nI c, k, f] ∧ D = [.inl xs, .inr kA, .inr fA] ∧ K [] [.inl xs, .inr (upd kA c k), .inr (upd fA c f)]
set_option maxHeartbeats 200000 in
theorem B_X7_becomes : ∀ (X : am_X) (is : List Int32) (D : am_D) (K : List Int32 → am_D → Prop), ok_X7_becomes X K → T_X7_becomes is D K → is.length = (List.filter Option.isNone ([some 0, none, none, none] : List (Option Nat))).length → D.length = sh_MB.length → am_aw X 4 sh_MB 0 (am_l0 4 [some 0, none, none, none] is) [] D := by
  intro X is D K O hT _ _
  obtain ⟨xs, kA, fA, c, k, f, hc, rfl, rfl, hK⟩ := hT
  refine am_begin rfl ?_
  refine st_aloadn O dX7_becomes_0 rfl (q := 1) rfl ?_
  refine st_getr O dX7_becomes_1 fl_X7_7 rfl rfl rfl (q := 4) rfl ?_
  refine st_iloadn O dX7_becomes_4 rfl (q := 5) rfl ?_
  refine st_iloadn O dX7_becomes_5 rfl (q := 6) rfl ?_
  refine sn_ast O dX7_becomes_6 rfl rfl rfl ⟨by omega, by decide⟩ rfl rfl (q := 7) rfl ?_
  refine st_aloadn O dX7_becomes_7 rfl (q := 8) rfl ?_
  refine st_getr O dX7_becomes_8 fl_X7_13 rfl rfl rfl (q := 11) rfl ?_
  refine st_iloadn O dX7_becomes_11 rfl (q := 12) rfl ?_
  refine st_iloadn O dX7_becomes_12 rfl (q := 13) rfl ?_
  refine sn_ast O dX7_becomes_13 rfl rfl rfl ⟨by omega, by decide⟩ rfl rfl (q := 14) rfl ?_
  refine st_vreturn O dX7_becomes_14 ?_
  exact hK
theorem C_X7_becomes : am_ctr yX7_becomes cX7_becomes 4 none 0 0 sh_MB [some 0, none, none, none] T_X7_becomes := am_mk (by decide) (Or.inl ⟨rfl, rfl⟩) (by decide) (by decide) (by decide) fl_X7_ok kc_X7_ok ck_X7_becomes B_X7_becomes
/-- what a copy holds -/
def kpy (n b w : Nat) (kA fA hA lA pA e : Nat → Int32) : Prop := (∀ j, j < 9 → e j = kA j ∧ e (9 + j) = fA j ∧ e (18 + j) = hA j ∧ e (27 + j) = lA j ∧ e (36 + j) = pA j) ∧ e 45 = nI n ∧ e 46 = nI b ∧ e 47 = nI w
def cs_X7_keep_ : Nat → List am_V → am_D → am_K → Prop := am_cs []
theorem ck_X7_keep_ : ∀ X : am_X, am_cx X RX7 cX7_keep_ 3 0 0 → ∀ pc, am_csok X 3 sh_MKA pc (cs_X7_keep_ pc) := fun X hX => am_cs_ok (fun _ h => absurd h List.not_mem_nil)
abbrev ok_X7_keep_ (X : am_X) (K : List Int32 → am_D → Prop) : Prop := am_ok X RX7 cX7_keep_ 3 sh_MKA fl_X7 kc_X7 none 0 cs_X7_keep_ K
abbrev aw_X7_keep_ (X : am_X) (pc : Nat) (ls : am_L) (st : List am_V) (D : am_D) : Prop := am_aw X 3 sh_MKA pc ls st D
abbrev T_X7_keep_ : am_TT := fun is D K => ∃ n b w xs kA fA hA lA pA e0, is = [] ∧ D = [.inl (nI n :: nI b :: nI w :: xs), .inr kA, .inr fA, .inr hA, .inr lA, .inr pA, .inr e0] ∧ ∀ e, kpy n b w kA fA hA lA pA e → K [] [.inl (nI n :: nI b :: nI w :: xs), .inr kA, .inr fA, .inr hA, .inr lA, .inr pA, .inr e]
set_option maxHeartbeats 200000 in
theorem B_X7_keep_ : ∀ (X : am_X) (is : List Int32) (D : am_D) (K : List Int32 → am_D → Prop), ok_X7_keep_ X K → T_X7_keep_ is D K → is.length = (List.filter Option.isNone ([some 0, some 6] : List (Option Nat))).length → D.length = sh_MKA.length → am_aw X 3 sh_MKA 0 (am_l0 3 [some 0, some 6] is) [] D := by
  intro X is D K O hT _ _
  obtain ⟨n, b, w, xs, kA, fA, hA, lA, pA, e0, rfl, rfl, hK⟩ := hT
  have loop : ∀ d m e, 9 - m = d → m ≤ 9 → (∀ j, j < m → e j = kA j ∧ e (9 + j) = fA j ∧ e (18 + j) = hA j ∧ e (27 + j) = lA j ∧ e (36 + j) = pA j) → am_aw X 3 sh_MKA 2 [some (.inr 0), some (.inr 6), some (.inl (nI m))] [] [.inl (nI n :: nI b :: nI w :: xs), .inr kA, .inr fA, .inr hA, .inr lA, .inr pA, .inr e] := by
    intro d
    induction d with
    | zero =>
      intro m e hd hm hq
      have e9 : m = 9 := by omega
      subst e9
      refine st_iloadn O dX7_keep__2 rfl (q := 3) rfl ?_
      refine st_bipush O dX7_keep__3 am_bipush_9 (q := 5) rfl ?_
      refine sn_icmp_ge O dX7_keep__5 (t := 71) rfl (q := 8) rfl (by omega) (by omega) (fun c5 => ?_) (fun c5 => ?_)
      · refine st_aloadn O dX7_keep__71 rfl (q := 72) rfl ?_
        refine st_bipush O dX7_keep__72 am_bipush_45 (q := 74) rfl ?_
        refine st_aloadn O dX7_keep__74 rfl (q := 75) rfl ?_
        refine st_geti O dX7_keep__75 fl_X7_59 rfl rfl rfl rfl (q := 78) rfl ?_
        refine sn_ast O dX7_keep__78 rfl rfl rfl ⟨by omega, by decide⟩ rfl rfl (q := 79) rfl ?_
        refine st_aloadn O dX7_keep__79 rfl (q := 80) rfl ?_
        refine st_bipush O dX7_keep__80 am_bipush_46 (q := 82) rfl ?_
        refine st_aloadn O dX7_keep__82 rfl (q := 83) rfl ?_
        refine st_geti O dX7_keep__83 fl_X7_103 rfl rfl rfl rfl (q := 86) rfl ?_
        refine sn_ast O dX7_keep__86 rfl rfl rfl ⟨by omega, by decide⟩ rfl rfl (q := 87) rfl ?_
        refine st_aloadn O dX7_keep__87 rfl (q := 88) rfl ?_
        refine st_bipush O dX7_keep__88 am_bipush_47 (q := 90) rfl ?_
        refine st_aloadn O dX7_keep__90 rfl (q := 91) rfl ?_
        refine st_geti O dX7_keep__91 fl_X7_55 rfl rfl rfl rfl (q := 94) rfl ?_
        refine sn_ast O dX7_keep__94 rfl rfl rfl ⟨by omega, by decide⟩ rfl rfl (q := 95) rfl ?_
        refine st_vreturn O dX7_keep__95 ?_
        refine hK _ ⟨fun j hj => ?_, ?_, ?_, ?_⟩
        · obtain ⟨q1, q2, q3, q4, q5⟩ := hq j hj
          rw [pk_un (by omega), pk_un (by omega), pk_un (by omega), pk_un (by omega), pk_un (by omega), pk_un (by omega), pk_un (by omega), pk_un (by omega), pk_un (by omega), pk_un (by omega), pk_un (by omega), pk_un (by omega), pk_un (by omega), pk_un (by omega), pk_un (by omega)]
          exact ⟨q1, q2, q3, q4, q5⟩
        · rw [pk_un (by decide), pk_un (by decide), pk_us]
        · rw [pk_un (by decide), pk_us]
        · rw [pk_us]
      omega
    | succ d ih =>
      intro m e hd hm hq
      refine st_iloadn O dX7_keep__2 rfl (q := 3) rfl ?_
      refine st_bipush O dX7_keep__3 am_bipush_9 (q := 5) rfl ?_
      refine sn_icmp_ge O dX7_keep__5 (t := 71) rfl (q := 8) rfl (by omega) (by omega) (fun c5 => ?_) (fun c5 => ?_)
      · omega
      refine st_aloadn O dX7_keep__8 rfl (q := 9) rfl ?_
      refine st_iloadn O dX7_keep__9 rfl (q := 10) rfl ?_
      refine st_aloadn O dX7_keep__10 rfl (q := 11) rfl ?_
      refine st_getr O dX7_keep__11 fl_X7_7 rfl rfl rfl (q := 14) rfl ?_
      refine st_iloadn O dX7_keep__14 rfl (q := 15) rfl ?_
      refine sn_ald O dX7_keep__15 rfl rfl rfl ⟨by omega, by decide⟩ rfl (q := 16) rfl ?_
      refine sn_ast O dX7_keep__16 rfl rfl rfl ⟨by omega, by decide⟩ rfl rfl (q := 17) rfl ?_
      refine st_aloadn O dX7_keep__17 rfl (q := 18) rfl ?_
      refine st_bipush O dX7_keep__18 am_bipush_9 (q := 20) rfl ?_
      refine st_iloadn O dX7_keep__20 rfl (q := 21) rfl ?_
      refine st_iadd O dX7_keep__21 (by first | exact nI_add _ _ | exact rfl) (q := 22) rfl ?_
      refine st_aloadn O dX7_keep__22 rfl (q := 23) rfl ?_
      refine st_getr O dX7_keep__23 fl_X7_13 rfl rfl rfl (q := 26) rfl ?_
      refine st_iloadn O dX7_keep__26 rfl (q := 27) rfl ?_
      refine sn_ald O dX7_keep__27 rfl rfl rfl ⟨by omega, by decide⟩ rfl (q := 28) rfl ?_
      refine sn_ast O dX7_keep__28 rfl rfl rfl ⟨by omega, by decide⟩ rfl rfl (q := 29) rfl ?_
      refine st_aloadn O dX7_keep__29 rfl (q := 30) rfl ?_
      refine st_bipush O dX7_keep__30 am_bipush_18 (q := 32) rfl ?_
      refine st_iloadn O dX7_keep__32 rfl (q := 33) rfl ?_
      refine st_iadd O dX7_keep__33 (by first | exact nI_add _ _ | exact rfl) (q := 34) rfl ?_
      refine st_aloadn O dX7_keep__34 rfl (q := 35) rfl ?_
      refine st_getr O dX7_keep__35 fl_X7_16 rfl rfl rfl (q := 38) rfl ?_
      refine st_iloadn O dX7_keep__38 rfl (q := 39) rfl ?_
      refine sn_ald O dX7_keep__39 rfl rfl rfl ⟨by omega, by decide⟩ rfl (q := 40) rfl ?_
      refine sn_ast O dX7_keep__40 rfl rfl rfl ⟨by omega, by decide⟩ rfl rfl (q := 41) rfl ?_
      refine st_aloadn O dX7_keep__41 rfl (q := 42) rfl ?_
      refine st_bipush O dX7_keep__42 am_bipush_27 (q := 44) rfl ?_
      refine st_iloadn O dX7_keep__44 rfl (q := 45) rfl ?_
      refine st_iadd O dX7_keep__45 (by first | exact nI_add _ _ | exact rfl) (q := 46) rfl ?_
      refine st_aloadn O dX7_keep__46 rfl (q := 47) rfl ?_
      refine st_getr O dX7_keep__47 fl_X7_19 rfl rfl rfl (q := 50) rfl ?_
      refine st_iloadn O dX7_keep__50 rfl (q := 51) rfl ?_
      refine sn_ald O dX7_keep__51 rfl rfl rfl ⟨by omega, by decide⟩ rfl (q := 52) rfl ?_
      refine sn_ast O dX7_keep__52 rfl rfl rfl ⟨by omega, by decide⟩ rfl rfl (q := 53) rfl ?_
      refine st_aloadn O dX7_keep__53 rfl (q := 54) rfl ?_
      refine st_bipush O dX7_keep__54 am_bipush_36 (q := 56) rfl ?_
      refine st_iloadn O dX7_keep__56 rfl (q := 57) rfl ?_
      refine st_iadd O dX7_keep__57 (by first | exact nI_add _ _ | exact rfl) (q := 58) rfl ?_
      refine st_aloadn O dX7_keep__58 rfl (q := 59) rfl ?_
      refine st_getr O dX7_keep__59 fl_X7_22 rfl rfl rfl (q := 62) rfl ?_
      refine st_iloadn O dX7_keep__62 rfl (q := 63) rfl ?_
      refine sn_ald O dX7_keep__63 rfl rfl rfl ⟨by omega, by decide⟩ rfl (q := 64) rfl ?_
      refine sn_ast O dX7_keep__64 rfl rfl rfl ⟨by omega, by decide⟩ rfl rfl (q := 65) rfl ?_
      refine st_iinc O dX7_keep__65 rfl (by first | exact am_ii1 _ | exact rfl) rfl (q := 68) rfl ?_
      refine st_goto O dX7_keep__68 (t := 2) rfl ?_
      refine ih (m + 1) _ (by omega) (by omega) (fun j hj => ?_)
      simp only [upd]
      rcases (by omega : j < m ∨ j = m) with q | q
      · obtain ⟨q1, q2, q3, q4, q5⟩ := hq j q
        refine ⟨?_, ?_, ?_, ?_, ?_⟩
        all_goals (repeat rw [if_neg (by omega)])
        · exact q1
        · exact q2
        · exact q3
        · exact q4
        · exact q5
      · subst q
        refine ⟨?_, ?_, ?_, ?_, ?_⟩
        · rw [if_neg (by omega), if_neg (by omega), if_neg (by omega), if_neg (by omega), if_pos rfl]
        · rw [if_neg (by omega), if_neg (by omega), if_neg (by omega), if_pos rfl]
        · rw [if_neg (by omega), if_neg (by omega), if_pos rfl]
        · rw [if_neg (by omega), if_pos rfl]
        · rw [if_pos rfl]
  refine am_begin rfl ?_
  refine st_iconst O dX7_keep__0 am_iconst_0 (q := 1) rfl ?_
  refine st_istoren O dX7_keep__1 rfl (q := 2) rfl ?_
  exact loop 9 0 e0 rfl (by decide) (fun j hj => absurd hj (Nat.not_lt_zero j))
theorem C_X7_keep_ : am_ctr yX7_keep_ cX7_keep_ 3 none 0 0 sh_MKA [some 0, some 6] T_X7_keep_ := am_mk (by decide) (Or.inl ⟨rfl, rfl⟩) (by decide) (by decide) (by decide) fl_X7_ok kc_X7_ok ck_X7_keep_ B_X7_keep_
def cs_X7_again : Nat → List am_V → am_D → am_K → Prop := am_cs []
theorem ck_X7_again : ∀ X : am_X, am_cx X RX7 cX7_again 3 0 0 → ∀ pc, am_csok X 3 sh_MKA pc (cs_X7_again pc) := fun X hX => am_cs_ok (fun _ h => absurd h List.not_mem_nil)
abbrev ok_X7_again (X : am_X) (K : List Int32 → am_D → Prop) : Prop := am_ok X RX7 cX7_again 3 sh_MKA fl_X7 kc_X7 none 0 cs_X7_again K
abbrev aw_X7_again (X : am_X) (pc : Nat) (ls : am_L) (st : List am_V) (D : am_D) : Prop := am_aw X 3 sh_MKA pc ls st D
abbrev T_X7_again : am_TT := fun is D K => ∃ n b w m1 m2 m3 xs kA fA hA lA pA kB fB hB lB pB e, is = [] ∧ D = [.inl (m1 :: m2 :: m3 :: xs), .inr kB, .inr fB, .inr hB, .inr lB, .inr pB, .inr e] ∧ kpy n b w kA fA hA lA pA e ∧ ∀ kC fC hC lC pC, (∀ j, j < 9 → kC j = kA j ∧ fC j = fA j ∧ hC j = hA j ∧ lC j = lA j ∧ pC j = pA j) → K [] [.inl (nI n :: nI b :: nI w :: xs), .inr kC, .inr fC, .inr hC, .inr lC, .inr pC, .inr e]
set_option maxHeartbeats 200000 in
theorem B_X7_again : ∀ (X : am_X) (is : List Int32) (D : am_D) (K : List Int32 → am_D → Prop), ok_X7_again X K → T_X7_again is D K → is.length = (List.filter Option.isNone ([some 0, some 6] : List (Option Nat))).length → D.length = sh_MKA.length → am_aw X 3 sh_MKA 0 (am_l0 3 [some 0, some 6] is) [] D := by
  intro X is D K O hT _ _
  obtain ⟨n, b, w, m1, m2, m3, xs, kA, fA, hA, lA, pA, kB, fB, hB, lB, pB, e, rfl, rfl, ⟨he, he1, he2, he3⟩, hK⟩ := hT
  have loop : ∀ d m kC fC hC lC pC, 9 - m = d → m ≤ 9 → (∀ j, j < m → kC j = kA j ∧ fC j = fA j ∧ hC j = hA j ∧ lC j = lA j ∧ pC j = pA j) → am_aw X 3 sh_MKA 2 [some (.inr 0), some (.inr 6), some (.inl (nI m))] [] [.inl (m1 :: m2 :: m3 :: xs), .inr kC, .inr fC, .inr hC, .inr lC, .inr pC, .inr e] := by
    intro d
    induction d with
    | zero =>
      intro m kC fC hC lC pC hd hm hq
      have e9 : m = 9 := by omega
      subst e9
      refine st_iloadn O dX7_again_2 rfl (q := 3) rfl ?_
      refine st_bipush O dX7_again_3 am_bipush_9 (q := 5) rfl ?_
      refine sn_icmp_ge O dX7_again_5 (t := 71) rfl (q := 8) rfl (by omega) (by omega) (fun c5 => ?_) (fun c5 => ?_)
      · refine st_aloadn O dX7_again_71 rfl (q := 72) rfl ?_
        refine st_aloadn O dX7_again_72 rfl (q := 73) rfl ?_
        refine st_bipush O dX7_again_73 am_bipush_45 (q := 75) rfl ?_
        refine sn_ald O dX7_again_75 rfl rfl rfl ⟨by omega, by decide⟩ he1 (q := 76) rfl ?_
        refine st_puti O dX7_again_76 fl_X7_59 rfl rfl rfl rfl rfl (q := 79) rfl ?_
        refine st_aloadn O dX7_again_79 rfl (q := 80) rfl ?_
        refine st_aloadn O dX7_again_80 rfl (q := 81) rfl ?_
        refine st_bipush O dX7_again_81 am_bipush_46 (q := 83) rfl ?_
        refine sn_ald O dX7_again_83 rfl rfl rfl ⟨by omega, by decide⟩ he2 (q := 84) rfl ?_
        refine st_puti O dX7_again_84 fl_X7_103 rfl rfl rfl rfl rfl (q := 87) rfl ?_
        refine st_aloadn O dX7_again_87 rfl (q := 88) rfl ?_
        refine st_aloadn O dX7_again_88 rfl (q := 89) rfl ?_
        refine st_bipush O dX7_again_89 am_bipush_47 (q := 91) rfl ?_
        refine sn_ald O dX7_again_91 rfl rfl rfl ⟨by omega, by decide⟩ he3 (q := 92) rfl ?_
        refine st_puti O dX7_again_92 fl_X7_55 rfl rfl rfl rfl rfl (q := 95) rfl ?_
        refine st_vreturn O dX7_again_95 ?_
        exact hK _ _ _ _ _ hq
      omega
    | succ d ih =>
      intro m kC fC hC lC pC hd hm hq
      obtain ⟨q1, q2, q3, q4, q5⟩ := he m (by omega)
      refine st_iloadn O dX7_again_2 rfl (q := 3) rfl ?_
      refine st_bipush O dX7_again_3 am_bipush_9 (q := 5) rfl ?_
      refine sn_icmp_ge O dX7_again_5 (t := 71) rfl (q := 8) rfl (by omega) (by omega) (fun c5 => ?_) (fun c5 => ?_)
      · omega
      refine st_aloadn O dX7_again_8 rfl (q := 9) rfl ?_
      refine st_getr O dX7_again_9 fl_X7_7 rfl rfl rfl (q := 12) rfl ?_
      refine st_iloadn O dX7_again_12 rfl (q := 13) rfl ?_
      refine st_aloadn O dX7_again_13 rfl (q := 14) rfl ?_
      refine st_iloadn O dX7_again_14 rfl (q := 15) rfl ?_
      refine sn_ald O dX7_again_15 rfl rfl rfl ⟨by omega, by decide⟩ q1 (q := 16) rfl ?_
      refine sn_ast O dX7_again_16 rfl rfl rfl ⟨by omega, by decide⟩ rfl rfl (q := 17) rfl ?_
      refine st_aloadn O dX7_again_17 rfl (q := 18) rfl ?_
      refine st_getr O dX7_again_18 fl_X7_13 rfl rfl rfl (q := 21) rfl ?_
      refine st_iloadn O dX7_again_21 rfl (q := 22) rfl ?_
      refine st_aloadn O dX7_again_22 rfl (q := 23) rfl ?_
      refine st_bipush O dX7_again_23 am_bipush_9 (q := 25) rfl ?_
      refine st_iloadn O dX7_again_25 rfl (q := 26) rfl ?_
      refine st_iadd O dX7_again_26 (by first | exact nI_add _ _ | exact rfl) (q := 27) rfl ?_
      refine sn_ald O dX7_again_27 rfl rfl rfl ⟨by omega, by decide⟩ q2 (q := 28) rfl ?_
      refine sn_ast O dX7_again_28 rfl rfl rfl ⟨by omega, by decide⟩ rfl rfl (q := 29) rfl ?_
      refine st_aloadn O dX7_again_29 rfl (q := 30) rfl ?_
      refine st_getr O dX7_again_30 fl_X7_16 rfl rfl rfl (q := 33) rfl ?_
      refine st_iloadn O dX7_again_33 rfl (q := 34) rfl ?_
      refine st_aloadn O dX7_again_34 rfl (q := 35) rfl ?_
      refine st_bipush O dX7_again_35 am_bipush_18 (q := 37) rfl ?_
      refine st_iloadn O dX7_again_37 rfl (q := 38) rfl ?_
      refine st_iadd O dX7_again_38 (by first | exact nI_add _ _ | exact rfl) (q := 39) rfl ?_
      refine sn_ald O dX7_again_39 rfl rfl rfl ⟨by omega, by decide⟩ q3 (q := 40) rfl ?_
      refine sn_ast O dX7_again_40 rfl rfl rfl ⟨by omega, by decide⟩ rfl rfl (q := 41) rfl ?_
      refine st_aloadn O dX7_again_41 rfl (q := 42) rfl ?_
      refine st_getr O dX7_again_42 fl_X7_19 rfl rfl rfl (q := 45) rfl ?_
      refine st_iloadn O dX7_again_45 rfl (q := 46) rfl ?_
      refine st_aloadn O dX7_again_46 rfl (q := 47) rfl ?_
      refine st_bipush O dX7_again_47 am_bipush_27 (q := 49) rfl ?_
      refine st_iloadn O dX7_again_49 rfl (q := 50) rfl ?_
      refine st_iadd O dX7_again_50 (by first | exact nI_add _ _ | exact rfl) (q := 51) rfl ?_
      refine sn_ald O dX7_again_51 rfl rfl rfl ⟨by omega, by decide⟩ q4 (q := 52) rfl ?_
      refine sn_ast O dX7_again_52 rfl rfl rfl ⟨by omega, by decide⟩ rfl rfl (q := 53) rfl ?_
      refine st_aloadn O dX7_again_53 rfl (q := 54) rfl ?_
      refine st_getr O dX7_again_54 fl_X7_22 rfl rfl rfl (q := 57) rfl ?_
      refine st_iloadn O dX7_again_57 rfl (q := 58) rfl ?_
      refine st_aloadn O dX7_again_58 rfl (q := 59) rfl ?_
      refine st_bipush O dX7_again_59 am_bipush_36 (q := 61) rfl ?_
      refine st_iloadn O dX7_again_61 rfl (q := 62) rfl ?_
      refine st_iadd O dX7_again_62 (by first | exact nI_add _ _ | exact rfl) (q := 63) rfl ?_
      refine sn_ald O dX7_again_63 rfl rfl rfl ⟨by omega, by decide⟩ q5 (q := 64) rfl ?_
      refine sn_ast O dX7_again_64 rfl rfl rfl ⟨by omega, by decide⟩ rfl rfl (q := 65) rfl ?_
      refine st_iinc O dX7_again_65 rfl (by first | exact am_ii1 _ | exact rfl) rfl (q := 68) rfl ?_
      refine st_goto O dX7_again_68 (t := 2) rfl ?_
      refine ih (m + 1) _ _ _ _ _ (by omega) (by omega) (fun j hj => ?_)
      by_cases q : j = m
      · subst q; exact ⟨pk_us, pk_us, pk_us, pk_us, pk_us⟩
      · rw [pk_un q, pk_un q, pk_un q, pk_un q, pk_un q]; exact hq j (by omega)
  refine am_begin rfl ?_
  refine st_iconst O dX7_again_0 am_iconst_0 (q := 1) rfl ?_
  refine st_istoren O dX7_again_1 rfl (q := 2) rfl ?_
  exact loop 9 0 _ _ _ _ _ rfl (by decide) (fun j hj => absurd hj (Nat.not_lt_zero j))
theorem C_X7_again : am_ctr yX7_again cX7_again 3 none 0 0 sh_MKA [some 0, some 6] T_X7_again := am_mk (by decide) (Or.inl ⟨rfl, rfl⟩) (by decide) (by decide) (by decide) fl_X7_ok kc_X7_ok ck_X7_again B_X7_again
