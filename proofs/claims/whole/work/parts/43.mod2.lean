/-! the reference: who leaves, comes, stands first -/
theorem ix_erase {c d : Nat} (hcd : ¬ d = c) : ∀ (l : List Nat), l.Nodup → c ∈ l → d ∈ l → (l.erase c).idxOf d = if l.idxOf c < l.idxOf d then l.idxOf d - 1 else l.idxOf d
  | [], _, h, _ => by cases h
  | a :: r, hn, hc, hd => by
    obtain ⟨n1, n2⟩ := List.nodup_cons.mp hn
    by_cases ha : a = c
    · subst ha
      rw [List.erase_cons_head, List.idxOf_cons_self, ix_ne (fun e => hcd e.symm), if_pos (Nat.zero_lt_succ _)]
      rfl
    · have hcr : c ∈ r := by
        rcases List.mem_cons.mp hc with e | e
        · exact absurd e.symm ha
        · exact e
      rw [List.erase_cons_tail (by simpa using ha), ix_ne ha]
      by_cases hda : a = d
      · subst hda
        rw [List.idxOf_cons_self, List.idxOf_cons_self, if_neg (Nat.not_lt_zero _)]
      · have hdr : d ∈ r := by
          rcases List.mem_cons.mp hd with e | e
          · exact absurd e.symm hda
          · exact e
        rw [ix_ne hda, ix_ne hda, ix_erase hcd r n2 hcr hdr]
        by_cases q : r.idxOf c < r.idxOf d
        · rw [if_pos q, if_pos (by omega)]; omega
        · rw [if_neg q, if_neg (by omega)]
theorem ix_at {c : Nat} {l : List Nat} (h : c ∈ l) : l[l.idxOf c]? = some c := by
  have hl := List.idxOf_lt_length_of_mem h
  rw [List.getElem?_eq_getElem hl]
  exact congrArg some (List.getElem_idxOf hl)
theorem ix_inj {c d : Nat} {l : List Nat} (hc : c ∈ l) (hd : d ∈ l) (e : l.idxOf c = l.idxOf d) : c = d := by
  have h1 := ix_at hc
  rw [e, ix_at hd] at h1
  exact (Option.some.inj h1).symm
theorem mL_9 {n : Nat} {Q : Nat → List Nat} {lA pA : Nat → Int32} (h : mL n Q lA pA) {c z : Nat} (hz : z < 2) (hc : c ∈ Q z) : (Q z).idxOf c < 9 := by
  have h1 := List.idxOf_lt_length_of_mem hc
  have h2 := mL_len h hz
  have h3 := h.1
  omega
theorem mL_leave {n : Nat} {Q : Nat → List Nat} {lA pA pA' : Nat → Int32} (h : mL n Q lA pA) {c z : Nat} (hz : z < 2) (hc : c ∈ Q z) (hp : ∀ d, d < n → pA' d = if lA d = nI z ∧ nI ((Q z).idxOf c) < pA d then pA d - 1 else pA d) : mL n (fun y => (Q y).erase c) (upd lA c (-9)) pA' := by
  have hc9 := mL_9 h hz hc
  refine ⟨h.1, fun y hy => ⟨(h.2.1 y hy).1.erase c, fun d hd => ?_⟩, fun d hd h0 h1 => ?_⟩
  · obtain ⟨hdc, hdy⟩ := (h.2.1 y hy).1.mem_erase_iff.mp hd
    obtain ⟨d1, d2, d3⟩ := (h.2.1 y hy).2 d hdy
    refine ⟨d1, by rw [pk_un hdc]; exact d2, ?_⟩
    rw [hp d d1, d2, d3]
    by_cases e : y = z
    · subst e
      have hd9 := mL_9 h hz hdy
      show _ = nI (((Q y).erase c).idxOf d)
      rw [ix_erase hdc _ (h.2.1 y hy).1 hc hdy]
      by_cases q : (Q y).idxOf c < (Q y).idxOf d
      · rw [if_pos ⟨rfl, (nI_ltI (by omega) (by omega)).mpr q⟩, if_pos q]
        exact pk_sub (b := 1) (by omega)
      · rw [if_neg (fun z => q ((nI_ltI (by omega) (by omega)).mp z.2)), if_neg q]
    · rw [if_neg (fun q => e ((nI_eq (by omega) (by omega)).mp q.1))]
      have : c ∉ Q y := fun q => e (mL_z h hy hz q hc)
      show _ = nI (((Q y).erase c).idxOf d)
      rw [List.erase_of_not_mem this]
  · by_cases e : d = c
    · rw [e, pk_us]
    · rw [pk_un e]
      exact h.2.2 d hd (fun q => h0 ((h.2.1 0 (by decide)).1.mem_erase_iff.mpr ⟨e, q⟩)) (fun q => h1 ((h.2.1 1 (by decide)).1.mem_erase_iff.mpr ⟨e, q⟩))
theorem mL_come {n : Nat} {Q : Nat → List Nat} {lA pA : Nat → Int32} (h : mL n Q lA pA) {c t : Nat} (hcn : c < n) (ht : t < 2) (h0 : ∀ y, y < 2 → c ∉ Q y) : mL n (fun y => if y = t then Q y ++ [c] else Q y) (upd lA c (nI t)) (upd pA c (nI (Q t).length)) := by
  refine ⟨h.1, fun y hy => ?_, fun d hd g0 g1 => ?_⟩
  · by_cases e : y = t
    · subst e
      show (if y = y then Q y ++ [c] else Q y).Nodup ∧ ∀ d ∈ (if y = y then Q y ++ [c] else Q y), d < n ∧ upd lA c (nI y) d = nI y ∧ upd pA c (nI (Q y).length) d = nI ((if y = y then Q y ++ [c] else Q y).idxOf d)
      rw [if_pos rfl]
      refine ⟨List.nodup_append.mpr ⟨(h.2.1 y hy).1, by simp, fun a ha b hb => by rw [List.mem_singleton.mp hb]; exact fun q => h0 y hy (q ▸ ha)⟩, fun d hd => ?_⟩
      rcases List.mem_append.mp hd with q | q
      · obtain ⟨d1, d2, d3⟩ := (h.2.1 y hy).2 d q
        have hdc : ¬ d = c := fun e => h0 y hy (e ▸ q)
        refine ⟨d1, by rw [pk_un hdc]; exact d2, ?_⟩
        rw [pk_un hdc, d3, List.idxOf_append, if_pos q]
      · have := List.mem_singleton.mp q
        subst this
        refine ⟨hcn, pk_us, ?_⟩
        rw [pk_us, List.idxOf_append, if_neg (h0 y hy), List.idxOf_cons_self, Nat.zero_add]
    · show (if y = t then Q y ++ [c] else Q y).Nodup ∧ ∀ d ∈ (if y = t then Q y ++ [c] else Q y), d < n ∧ upd lA c (nI t) d = nI y ∧ upd pA c (nI (Q t).length) d = nI ((if y = t then Q y ++ [c] else Q y).idxOf d)
      rw [if_neg e]
      refine ⟨(h.2.1 y hy).1, fun d hd => ?_⟩
      have hdc : ¬ d = c := fun e => h0 y hy (e ▸ hd)
      rw [pk_un hdc, pk_un hdc]
      exact (h.2.1 y hy).2 d hd
  · have hdc : ¬ d = c := by
      intro e
      subst e
      rcases (by omega : t = 0 ∨ t = 1) with rfl | rfl
      · exact g0 (by show d ∈ (if 0 = 0 then Q 0 ++ [d] else Q 0); rw [if_pos rfl]; exact List.mem_append_right _ (List.mem_singleton.mpr rfl))
      · exact g1 (by show d ∈ (if 1 = 1 then Q 1 ++ [d] else Q 1); rw [if_pos rfl]; exact List.mem_append_right _ (List.mem_singleton.mpr rfl))
    rw [pk_un hdc]
    refine h.2.2 d hd (fun q => g0 ?_) (fun q => g1 ?_)
    · show d ∈ (if 0 = t then Q 0 ++ [c] else Q 0)
      split
      · exact List.mem_append_left _ q
      · exact q
    · show d ∈ (if 1 = t then Q 1 ++ [c] else Q 1)
      split
      · exact List.mem_append_left _ q
      · exact q
theorem mL_front {n : Nat} {Q : Nat → List Nat} {lA pA pA' : Nat → Int32} (h : mL n Q lA pA) {c z : Nat} (hz : z < 2) (hc : c ∈ Q z) (hp : ∀ d, d < n → pA' d = if d = c then nI 0 else if lA d = nI z ∧ pA d < nI ((Q z).idxOf c) then pA d + 1 else pA d) : mL n (fun y => if y = z then c :: (Q y).erase c else Q y) lA pA' := by
  have hc9 := mL_9 h hz hc
  refine ⟨h.1, fun y hy => ?_, fun d hd g0 g1 => ?_⟩
  · by_cases e : y = z
    · subst e
      show (if y = y then c :: (Q y).erase c else Q y).Nodup ∧ ∀ d ∈ (if y = y then c :: (Q y).erase c else Q y), d < n ∧ lA d = nI y ∧ pA' d = nI ((if y = y then c :: (Q y).erase c else Q y).idxOf d)
      rw [if_pos rfl]
      have hnd := (h.2.1 y hy).1
      refine ⟨List.nodup_cons.mpr ⟨hnd.not_mem_erase, hnd.erase c⟩, fun d hd => ?_⟩
      rcases List.mem_cons.mp hd with q | q
      · subst q
        obtain ⟨d1, d2, d3⟩ := (h.2.1 y hy).2 d hc
        refine ⟨d1, d2, ?_⟩
        rw [hp d d1, if_pos rfl, List.idxOf_cons_self]
      · obtain ⟨hdc, hdy⟩ := hnd.mem_erase_iff.mp q
        obtain ⟨d1, d2, d3⟩ := (h.2.1 y hy).2 d hdy
        have hd9 := mL_9 h hz hdy
        refine ⟨d1, d2, ?_⟩
        rw [hp d d1, if_neg hdc, d2, d3, ix_ne (fun e => hdc e.symm), ix_erase hdc _ hnd hc hdy]
        by_cases q : (Q y).idxOf d < (Q y).idxOf c
        · rw [if_pos ⟨rfl, (nI_ltI (by omega) (by omega)).mpr q⟩, if_neg (by omega)]
          exact nI_add _ 1
        · rw [if_neg (fun z => q ((nI_ltI (by omega) (by omega)).mp z.2))]
          have hne : ¬ (Q y).idxOf c = (Q y).idxOf d := fun e => hdc (ix_inj hc hdy e).symm
          rw [if_pos (by omega), Nat.sub_add_cancel (by omega)]
    · show (if y = z then c :: (Q y).erase c else Q y).Nodup ∧ ∀ d ∈ (if y = z then c :: (Q y).erase c else Q y), d < n ∧ lA d = nI y ∧ pA' d = nI ((if y = z then c :: (Q y).erase c else Q y).idxOf d)
      rw [if_neg e]
      refine ⟨(h.2.1 y hy).1, fun d hd => ?_⟩
      obtain ⟨d1, d2, d3⟩ := (h.2.1 y hy).2 d hd
      have hdc : ¬ d = c := fun q => e (mL_z h hy hz (q ▸ hd) hc)
      refine ⟨d1, d2, ?_⟩
      rw [hp d d1, if_neg hdc, if_neg (fun q => e ((nI_eq (by omega) (by omega)).mp (d2.symm.trans q.1))), d3]
  · refine h.2.2 d hd (fun q => g0 ?_) (fun q => g1 ?_)
    · show d ∈ (if 0 = z then c :: (Q 0).erase c else Q 0)
      split
      · by_cases e : d = c
        · rw [e]; exact List.mem_cons_self
        · exact List.mem_cons_of_mem _ ((h.2.1 0 (by decide)).1.mem_erase_iff.mpr ⟨e, q⟩)
      · exact q
    · show d ∈ (if 1 = z then c :: (Q 1).erase c else Q 1)
      split
      · by_cases e : d = c
        · rw [e]; exact List.mem_cons_self
        · exact List.mem_cons_of_mem _ ((h.2.1 1 (by decide)).1.mem_erase_iff.mpr ⟨e, q⟩)
      · exact q
theorem mL_at {n : Nat} {Q : Nat → List Nat} {lA pA : Nat → Int32} (h : mL n Q lA pA) {c z p : Nat} (hz : z < 2) (hp : p ≤ 9) (hc : c < n) : (lA c = nI z ∧ pA c = nI p) ↔ (Q z)[p]? = some c := by
  constructor
  · rintro ⟨h1, h2⟩
    have hq := (mL_in h hz hc).mp h1
    have h9 := mL_9 h hz hq
    rw [((h.2.1 z hz).2 c hq).2.2] at h2
    rw [← (nI_eq (by omega) (by omega)).mp h2]
    exact ix_at hq
  · intro hg
    have hq := List.mem_of_getElem? hg
    obtain ⟨-, d2, d3⟩ := (h.2.1 z hz).2 c hq
    refine ⟨d2, ?_⟩
    rw [d3]
    have h1 := ix_at hq
    rw [← hg] at h1
    rw [(List.getElem?_inj (List.idxOf_lt_length_of_mem hq) (h.2.1 z hz).1).mp h1]
def cs_X7_leaves : Nat → List am_V → am_D → am_K → Prop := am_cs [(13, am_site 3 [some 0, none, none] T_X7_closes [0, 1, 2] [0, 1, 2, 3, 4, 5, 6, 7, 8, 9, 10, 11, 12, 13, 14, 15])]
theorem cs_X7_leaves_13 : cs_X7_leaves 13 = am_site 3 [some 0, none, none] T_X7_closes [0, 1, 2] [0, 1, 2, 3, 4, 5, 6, 7, 8, 9, 10, 11, 12, 13, 14, 15] := rfl
theorem ck_X7_leaves : ∀ X : am_X, am_cx X RX7 cX7_leaves 2 1 23 → ∀ pc, am_csok X 2 sh_ML pc (cs_X7_leaves pc) := fun X hX => am_cs_ok (List.forall_mem_cons.mpr ⟨am_callV hX C_X7_closes mo_X7_closes rfl lk_X7_123 dX7_leaves_13 rfl rfl rfl (by decide), fun _ h => absurd h List.not_mem_nil⟩)
abbrev ok_X7_leaves (X : am_X) (K : List Int32 → am_D → Prop) : Prop := am_ok X RX7 cX7_leaves 2 sh_ML fl_X7 kc_X7 none 0 cs_X7_leaves K
abbrev aw_X7_leaves (X : am_X) (pc : Nat) (ls : am_L) (st : List am_V) (D : am_D) : Prop := am_aw X 2 sh_ML pc ls st D
abbrev T_X7_leaves : am_TT := fun is D K => ∃ n xs Q lA pA c z, D = [.inl (nI n :: xs), .inr lA, .inr pA] ∧ mL n Q lA pA ∧ z < 2 ∧ c ∈ Q z ∧ is = [nI c] ∧ ∀ lA' pA', mL n (fun y => (Q y).erase c) lA' pA' → K [] [.inl (nI n :: xs), .inr lA', .inr pA']
set_option maxHeartbeats 200000 in
theorem B_X7_leaves : ∀ (X : am_X) (is : List Int32) (D : am_D) (K : List Int32 → am_D → Prop), ok_X7_leaves X K → T_X7_leaves is D K → is.length = (List.filter Option.isNone ([some 0, none] : List (Option Nat))).length → D.length = sh_ML.length → am_aw X 2 sh_ML 0 (am_l0 2 [some 0, none] is) [] D := by
  intro X is D K O hT _ _
  obtain ⟨n, xs, Q, lA, pA, c, z, rfl, hL, hz, hc, rfl, hK⟩ := hT
  obtain ⟨h1, h2, h3⟩ := (hL.2.1 z hz).2 c hc
  have hn := hL.1
  refine am_begin rfl ?_
  refine st_aloadn O dX7_leaves_0 rfl (q := 1) rfl ?_
  refine st_aloadn O dX7_leaves_1 rfl (q := 2) rfl ?_
  refine st_getr O dX7_leaves_2 fl_X7_19 rfl rfl rfl (q := 5) rfl ?_
  refine st_iloadn O dX7_leaves_5 rfl (q := 6) rfl ?_
  refine sn_ald O dX7_leaves_6 rfl rfl rfl ⟨by omega, by decide⟩ h2 (q := 7) rfl ?_
  refine st_aloadn O dX7_leaves_7 rfl (q := 8) rfl ?_
  refine st_getr O dX7_leaves_8 fl_X7_22 rfl rfl rfl (q := 11) rfl ?_
  refine st_iloadn O dX7_leaves_11 rfl (q := 12) rfl ?_
  refine sn_ald O dX7_leaves_12 rfl rfl rfl ⟨by omega, by decide⟩ h3 (q := 13) rfl ?_
  refine st_call O dX7_leaves_13 cs_X7_leaves_13 (q := 16) rfl (am_siq rfl rfl rfl (Nat.le_of_ble_eq_true rfl) rfl ?_)
  refine ⟨n, xs, lA, pA, _, _, hn, rfl, rfl, fun pA' hp => ?_⟩
  refine am_nrp rfl rfl rfl rfl ?_
  refine st_aloadn O dX7_leaves_16 rfl (q := 17) rfl ?_
  refine st_getr O dX7_leaves_17 fl_X7_19 rfl rfl rfl (q := 20) rfl ?_
  refine st_iloadn O dX7_leaves_20 rfl (q := 21) rfl ?_
  refine st_bipush O dX7_leaves_21 am_bipush_m9 (q := 23) rfl ?_
  refine sn_ast O dX7_leaves_23 rfl rfl rfl ⟨by omega, by decide⟩ rfl rfl (q := 24) rfl ?_
  refine st_vreturn O dX7_leaves_24 ?_
  exact hK _ _ (mL_leave hL hz hc hp)
theorem C_X7_leaves : am_ctr yX7_leaves cX7_leaves 2 none 1 23 sh_ML [some 0, none] T_X7_leaves := am_mk (by decide) (Or.inl ⟨rfl, rfl⟩) (by decide) (by decide) (by decide) fl_X7_ok kc_X7_ok ck_X7_leaves B_X7_leaves
def cs_X7_comes : Nat → List am_V → am_D → am_K → Prop := am_cs [(13, am_site 3 [some 0, none, none] T_X7_closes [0, 1, 2] [0, 1, 2, 3, 4, 5, 6, 7, 8, 9, 10, 11, 12, 13, 14, 15]), (31, am_site 2 [some 0, none] T_X7_inLane [0, 1, 2] [0, 1, 2, 3, 4, 5, 6, 7, 8, 9, 10, 11, 12, 13, 14, 15])]
theorem cs_X7_comes_13 : cs_X7_comes 13 = am_site 3 [some 0, none, none] T_X7_closes [0, 1, 2] [0, 1, 2, 3, 4, 5, 6, 7, 8, 9, 10, 11, 12, 13, 14, 15] := rfl
theorem cs_X7_comes_31 : cs_X7_comes 31 = am_site 2 [some 0, none] T_X7_inLane [0, 1, 2] [0, 1, 2, 3, 4, 5, 6, 7, 8, 9, 10, 11, 12, 13, 14, 15] := rfl
theorem ck_X7_comes : ∀ X : am_X, am_cx X RX7 cX7_comes 3 1 23 → ∀ pc, am_csok X 3 sh_ML pc (cs_X7_comes pc) := fun X hX => am_cs_ok (List.forall_mem_cons.mpr ⟨am_callV hX C_X7_closes mo_X7_closes rfl lk_X7_123 dX7_comes_13 rfl rfl rfl (by decide), List.forall_mem_cons.mpr ⟨am_callV hX C_X7_inLane mo_X7_inLane rfl lk_X7_93 dX7_comes_31 rfl rfl rfl (by decide), fun _ h => absurd h List.not_mem_nil⟩⟩)
abbrev ok_X7_comes (X : am_X) (K : List Int32 → am_D → Prop) : Prop := am_ok X RX7 cX7_comes 3 sh_ML fl_X7 kc_X7 none 1 cs_X7_comes K
abbrev aw_X7_comes (X : am_X) (pc : Nat) (ls : am_L) (st : List am_V) (D : am_D) : Prop := am_aw X 3 sh_ML pc ls st D
abbrev T_X7_comes : am_TT := fun is D K => ∃ n xs Q lA pA c z t, D = [.inl (nI n :: xs), .inr lA, .inr pA] ∧ mL n Q lA pA ∧ z < 2 ∧ c ∈ Q z ∧ t < 2 ∧ is = [nI c, nI t] ∧ ∀ lA' pA', mL n (fun y => if y = t then (Q y).erase c ++ [c] else (Q y).erase c) lA' pA' → K [nI ((Q t).erase c).length] [.inl (nI n :: xs), .inr lA', .inr pA']
set_option maxHeartbeats 200000 in
theorem B_X7_comes : ∀ (X : am_X) (is : List Int32) (D : am_D) (K : List Int32 → am_D → Prop), ok_X7_comes X K → T_X7_comes is D K → is.length = (List.filter Option.isNone ([some 0, none, none] : List (Option Nat))).length → D.length = sh_ML.length → am_aw X 3 sh_ML 0 (am_l0 3 [some 0, none, none] is) [] D := by
  intro X is D K O hT _ _
  obtain ⟨n, xs, Q, lA, pA, c, z, t, rfl, hL, hz, hc, ht, rfl, hK⟩ := hT
  obtain ⟨h1, h2, h3⟩ := (hL.2.1 z hz).2 c hc
  have hn := hL.1
  refine am_begin rfl ?_
  refine st_aloadn O dX7_comes_0 rfl (q := 1) rfl ?_
  refine st_aloadn O dX7_comes_1 rfl (q := 2) rfl ?_
  refine st_getr O dX7_comes_2 fl_X7_19 rfl rfl rfl (q := 5) rfl ?_
  refine st_iloadn O dX7_comes_5 rfl (q := 6) rfl ?_
  refine sn_ald O dX7_comes_6 rfl rfl rfl ⟨by omega, by decide⟩ h2 (q := 7) rfl ?_
  refine st_aloadn O dX7_comes_7 rfl (q := 8) rfl ?_
  refine st_getr O dX7_comes_8 fl_X7_22 rfl rfl rfl (q := 11) rfl ?_
  refine st_iloadn O dX7_comes_11 rfl (q := 12) rfl ?_
  refine sn_ald O dX7_comes_12 rfl rfl rfl ⟨by omega, by decide⟩ h3 (q := 13) rfl ?_
  refine st_call O dX7_comes_13 cs_X7_comes_13 (q := 16) rfl (am_siq rfl rfl rfl (Nat.le_of_ble_eq_true rfl) rfl ?_)
  refine ⟨n, xs, lA, pA, _, _, hn, rfl, rfl, fun pA' hp => ?_⟩
  have hL2 := mL_leave hL hz hc hp
  refine am_nrp rfl rfl rfl rfl ?_
  refine st_aloadn O dX7_comes_16 rfl (q := 17) rfl ?_
  refine st_getr O dX7_comes_17 fl_X7_19 rfl rfl rfl (q := 20) rfl ?_
  refine st_iloadn O dX7_comes_20 rfl (q := 21) rfl ?_
  refine st_bipush O dX7_comes_21 am_bipush_m9 (q := 23) rfl ?_
  refine sn_ast O dX7_comes_23 rfl rfl rfl ⟨by omega, by decide⟩ rfl rfl (q := 24) rfl ?_
  refine st_aloadn O dX7_comes_24 rfl (q := 25) rfl ?_
  refine st_getr O dX7_comes_25 fl_X7_22 rfl rfl rfl (q := 28) rfl ?_
  refine st_iloadn O dX7_comes_28 rfl (q := 29) rfl ?_
  refine st_aloadn O dX7_comes_29 rfl (q := 30) rfl ?_
  refine st_iloadn O dX7_comes_30 rfl (q := 31) rfl ?_
  refine st_call O dX7_comes_31 cs_X7_comes_31 (q := 34) rfl (am_sipq rfl rfl rfl (Nat.le_of_ble_eq_true rfl) rfl (r := nI ((Q t).erase c).length) ⟨t, n, _, _, _, _, rfl, hL2, ht, rfl, rfl⟩ ?_)
  refine sn_ast O dX7_comes_34 rfl rfl rfl ⟨by omega, by decide⟩ rfl rfl (q := 35) rfl ?_
  refine st_aloadn O dX7_comes_35 rfl (q := 36) rfl ?_
  refine st_getr O dX7_comes_36 fl_X7_19 rfl rfl rfl (q := 39) rfl ?_
  refine st_iloadn O dX7_comes_39 rfl (q := 40) rfl ?_
  refine st_iloadn O dX7_comes_40 rfl (q := 41) rfl ?_
  refine sn_ast O dX7_comes_41 rfl rfl rfl ⟨by omega, by decide⟩ rfl rfl (q := 42) rfl ?_
  refine st_aloadn O dX7_comes_42 rfl (q := 43) rfl ?_
  refine st_getr O dX7_comes_43 fl_X7_22 rfl rfl rfl (q := 46) rfl ?_
  refine st_iloadn O dX7_comes_46 rfl (q := 47) rfl ?_
  refine sn_ald O dX7_comes_47 rfl rfl rfl ⟨by omega, by decide⟩ pk_us (q := 48) rfl ?_
  refine st_ireturn O dX7_comes_48 ?_
  exact hK _ _ (mL_come hL2 h1 ht (fun y hy q => absurd q (hL.2.1 y hy).1.not_mem_erase))
theorem C_X7_comes : am_ctr yX7_comes cX7_comes 3 (some .int) 1 23 sh_ML [some 0, none, none] T_X7_comes := am_mk (by decide) (Or.inr (Or.inl ⟨rfl, rfl⟩)) (by decide) (by decide) (by decide) fl_X7_ok kc_X7_ok ck_X7_comes B_X7_comes
def cs_X7_overGoes : Nat → List am_V → am_D → am_K → Prop := am_cs [(10, am_site 3 [some 0, none, none] T_X7_comes [0, 1, 2] [0, 1, 2, 3, 4, 5, 6, 7, 8, 9, 10, 11, 12, 13, 14, 15])]
theorem cs_X7_overGoes_10 : cs_X7_overGoes 10 = am_site 3 [some 0, none, none] T_X7_comes [0, 1, 2] [0, 1, 2, 3, 4, 5, 6, 7, 8, 9, 10, 11, 12, 13, 14, 15] := rfl
theorem ck_X7_overGoes : ∀ X : am_X, am_cx X RX7 cX7_overGoes 2 2 45 → ∀ pc, am_csok X 2 sh_ML pc (cs_X7_overGoes pc) := fun X hX => am_cs_ok (List.forall_mem_cons.mpr ⟨am_callV hX C_X7_comes mo_X7_comes rfl lk_X7_127 dX7_overGoes_10 rfl rfl rfl (by decide), fun _ h => absurd h List.not_mem_nil⟩)
abbrev ok_X7_overGoes (X : am_X) (K : List Int32 → am_D → Prop) : Prop := am_ok X RX7 cX7_overGoes 2 sh_ML fl_X7 kc_X7 none 1 cs_X7_overGoes K
abbrev aw_X7_overGoes (X : am_X) (pc : Nat) (ls : am_L) (st : List am_V) (D : am_D) : Prop := am_aw X 2 sh_ML pc ls st D
abbrev T_X7_overGoes : am_TT := fun is D K => ∃ n xs Q lA pA c z, D = [.inl (nI n :: xs), .inr lA, .inr pA] ∧ mL n Q lA pA ∧ z < 2 ∧ c ∈ Q z ∧ is = [nI c] ∧ ∀ lA' pA', mL n (fun y => if y = 1 - z then (Q y).erase c ++ [c] else (Q y).erase c) lA' pA' → K [nI ((Q (1 - z)).erase c).length] [.inl (nI n :: xs), .inr lA', .inr pA']
set_option maxHeartbeats 200000 in
theorem B_X7_overGoes : ∀ (X : am_X) (is : List Int32) (D : am_D) (K : List Int32 → am_D → Prop), ok_X7_overGoes X K → T_X7_overGoes is D K → is.length = (List.filter Option.isNone ([some 0, none] : List (Option Nat))).length → D.length = sh_ML.length → am_aw X 2 sh_ML 0 (am_l0 2 [some 0, none] is) [] D := by
  intro X is D K O hT _ _
  obtain ⟨n, xs, Q, lA, pA, c, z, rfl, hL, hz, hc, rfl, hK⟩ := hT
  obtain ⟨h1, h2, h3⟩ := (hL.2.1 z hz).2 c hc
  have hn := hL.1
  refine am_begin rfl ?_
  refine st_aloadn O dX7_overGoes_0 rfl (q := 1) rfl ?_
  refine st_iloadn O dX7_overGoes_1 rfl (q := 2) rfl ?_
  refine st_iconst O dX7_overGoes_2 am_iconst_1 (q := 3) rfl ?_
  refine st_aloadn O dX7_overGoes_3 rfl (q := 4) rfl ?_
  refine st_getr O dX7_overGoes_4 fl_X7_19 rfl rfl rfl (q := 7) rfl ?_
  refine st_iloadn O dX7_overGoes_7 rfl (q := 8) rfl ?_
  refine sn_ald O dX7_overGoes_8 rfl rfl rfl ⟨by omega, by decide⟩ h2 (q := 9) rfl ?_
  refine st_isub O dX7_overGoes_9 (by first | exact pk_sub (by omega) | exact rfl) (q := 10) rfl ?_
  refine st_call O dX7_overGoes_10 cs_X7_overGoes_10 (q := 13) rfl (am_siq rfl rfl rfl (Nat.le_of_ble_eq_true rfl) rfl ?_)
  refine ⟨n, xs, Q, lA, pA, c, z, 1 - z, rfl, hL, hz, hc, by omega, rfl, fun lA' pA' h => ?_⟩
  refine am_nrp rfl rfl rfl rfl ?_
  refine st_ireturn O dX7_overGoes_13 ?_
  exact hK _ _ h
theorem C_X7_overGoes : am_ctr yX7_overGoes cX7_overGoes 2 (some .int) 2 45 sh_ML [some 0, none] T_X7_overGoes := am_mk (by decide) (Or.inr (Or.inl ⟨rfl, rfl⟩)) (by decide) (by decide) (by decide) fl_X7_ok kc_X7_ok ck_X7_overGoes B_X7_overGoes
def cs_X7_firstStands : Nat → List am_V → am_D → am_K → Prop := am_cs []
theorem ck_X7_firstStands : ∀ X : am_X, am_cx X RX7 cX7_firstStands 4 0 0 → ∀ pc, am_csok X 4 sh_ML pc (cs_X7_firstStands pc) := fun X hX => am_cs_ok (fun _ h => absurd h List.not_mem_nil)
abbrev ok_X7_firstStands (X : am_X) (K : List Int32 → am_D → Prop) : Prop := am_ok X RX7 cX7_firstStands 4 sh_ML fl_X7 kc_X7 none 1 cs_X7_firstStands K
abbrev aw_X7_firstStands (X : am_X) (pc : Nat) (ls : am_L) (st : List am_V) (D : am_D) : Prop := am_aw X 4 sh_ML pc ls st D
abbrev T_X7_firstStands : am_TT := fun is D K => ∃ n xs Q lA pA c z, D = [.inl (nI n :: xs), .inr lA, .inr pA] ∧ mL n Q lA pA ∧ z < 2 ∧ c ∈ Q z ∧ is = [nI c] ∧ ∀ pA', mL n (fun y => if y = z then c :: (Q y).erase c else Q y) lA pA' → K [nI ((Q z).idxOf c)] [.inl (nI n :: xs), .inr lA, .inr pA']
set_option maxHeartbeats 200000 in
theorem B_X7_firstStands : ∀ (X : am_X) (is : List Int32) (D : am_D) (K : List Int32 → am_D → Prop), ok_X7_firstStands X K → T_X7_firstStands is D K → is.length = (List.filter Option.isNone ([some 0, none] : List (Option Nat))).length → D.length = sh_ML.length → am_aw X 4 sh_ML 0 (am_l0 4 [some 0, none] is) [] D := by
  intro X is D K O hT _ _
  obtain ⟨n, xs, Q, lA, pA, c, z, rfl, hL, hz, hc, rfl, hK⟩ := hT
  obtain ⟨h1, h2, h3⟩ := (hL.2.1 z hz).2 c hc
  have hn := hL.1
  have h9 := mL_9 hL hz hc
  have loop : ∀ d m qA, n - m = d → m ≤ n → (∀ c', c' < n → qA c' = if c' < m ∧ lA c' = nI z ∧ pA c' < nI ((Q z).idxOf c) then pA c' + 1 else pA c') → am_aw X 4 sh_ML 9 [some (.inr 0), some (.inl (nI c)), some (.inl (nI ((Q z).idxOf c))), some (.inl (nI m))] [] [.inl (nI n :: xs), .inr lA, .inr qA] := by
    intro d
    induction d with
    | zero =>
      intro m qA hd hm hq
      have e : m = n := by omega
      subst e
      refine st_iloadn O dX7_firstStands_9 rfl (q := 10) rfl ?_
      refine st_aloadn O dX7_firstStands_10 rfl (q := 11) rfl ?_
      refine st_geti O dX7_firstStands_11 fl_X7_59 rfl rfl rfl rfl (q := 14) rfl ?_
      refine sn_icmp_ge O dX7_firstStands_14 (t := 58) rfl (q := 17) rfl (by omega) (by omega) (fun c14 => ?_) (fun c14 => ?_)
      · refine st_aloadn O dX7_firstStands_58 rfl (q := 59) rfl ?_
        refine st_getr O dX7_firstStands_59 fl_X7_22 rfl rfl rfl (q := 62) rfl ?_
        refine st_iloadn O dX7_firstStands_62 rfl (q := 63) rfl ?_
        refine st_iconst O dX7_firstStands_63 am_iconst_0 (q := 64) rfl ?_
        refine sn_ast O dX7_firstStands_64 rfl rfl rfl ⟨by omega, by decide⟩ rfl rfl (q := 65) rfl ?_
        refine st_iloadn O dX7_firstStands_65 rfl (q := 66) rfl ?_
        refine st_ireturn O dX7_firstStands_66 ?_
        refine hK _ (mL_front hL hz hc (fun d hd => ?_))
        by_cases e : d = c
        · rw [e, pk_us, if_pos rfl]
        · rw [pk_un e, if_neg e, hq d hd]
          by_cases h : lA d = nI z ∧ pA d < nI ((Q z).idxOf c)
          · rw [if_pos ⟨hd, h⟩, if_pos h]
          · rw [if_neg h, if_neg (fun z => h z.2)]
      omega
    | succ d ih =>
      intro m qA hd hm hq
      have hm1 : qA m = pA m := by rw [hq m (by omega), if_neg (fun z => Nat.lt_irrefl _ z.1)]
      have skip : ¬ (lA m = nI z ∧ pA m < nI ((Q z).idxOf c)) → ∀ c', c' < n → qA c' = if c' < m + 1 ∧ lA c' = nI z ∧ pA c' < nI ((Q z).idxOf c) then pA c' + 1 else pA c' := by
        intro h c' hc'
        rw [hq c' hc']
        by_cases e : c' = m
        · subst e; rw [if_neg (fun z => h z.2), if_neg (fun z => h z.2)]
        · by_cases h2 : c' < m ∧ lA c' = nI z ∧ pA c' < nI ((Q z).idxOf c)
          · rw [if_pos h2, if_pos ⟨by omega, h2.2⟩]
          · rw [if_neg h2, if_neg (fun z => h2 ⟨by omega, z.2⟩)]
      refine st_iloadn O dX7_firstStands_9 rfl (q := 10) rfl ?_
      refine st_aloadn O dX7_firstStands_10 rfl (q := 11) rfl ?_
      refine st_geti O dX7_firstStands_11 fl_X7_59 rfl rfl rfl rfl (q := 14) rfl ?_
      refine sn_icmp_ge O dX7_firstStands_14 (t := 58) rfl (q := 17) rfl (by omega) (by omega) (fun c14 => ?_) (fun c14 => ?_)
      · omega
      refine st_aloadn O dX7_firstStands_17 rfl (q := 18) rfl ?_
      refine st_getr O dX7_firstStands_18 fl_X7_19 rfl rfl rfl (q := 21) rfl ?_
      refine st_iloadn O dX7_firstStands_21 rfl (q := 22) rfl ?_
      refine sn_ald O dX7_firstStands_22 rfl rfl rfl ⟨by omega, by decide⟩ rfl (q := 23) rfl ?_
      refine st_aloadn O dX7_firstStands_23 rfl (q := 24) rfl ?_
      refine st_getr O dX7_firstStands_24 fl_X7_19 rfl rfl rfl (q := 27) rfl ?_
      refine st_iloadn O dX7_firstStands_27 rfl (q := 28) rfl ?_
      refine sn_ald O dX7_firstStands_28 rfl rfl rfl ⟨by omega, by decide⟩ h2 (q := 29) rfl ?_
      refine st_icmp_ne O dX7_firstStands_29 (t := 52) rfl (q := 32) rfl (fun c29 => ?_) (fun c29 => ?_)
      · refine st_iinc O dX7_firstStands_52 rfl (by first | exact am_ii1 _ | exact rfl) rfl (q := 55) rfl ?_
        refine st_goto O dX7_firstStands_55 (t := 9) rfl ?_
        first | exact ih (m + 1) _ (by omega) (by omega) (skip (fun z => c29 z.1)) | exact ih (m + 1) _ (by omega) (by omega) (skip (fun z => absurd z.2 (Int32.not_lt.mpr c39))) | (refine ih (m + 1) _ (by omega) (by omega) (fun c' hc' => ?_); by_cases e : c' = m; (subst e; rw [pk_us, if_pos ⟨Nat.lt_succ_self _, by first | exact c29 | exact Decidable.of_not_not c29, Int32.not_le.mp c39⟩, hm1]; rfl); (rw [pk_un e, hq c' hc']; by_cases h2 : c' < m ∧ lA c' = nI z ∧ pA c' < nI ((Q z).idxOf c); rw [if_pos h2, if_pos ⟨by omega, h2.2⟩]; rw [if_neg h2, if_neg (fun z => h2 ⟨by omega, z.2⟩)]))
      refine st_aloadn O dX7_firstStands_32 rfl (q := 33) rfl ?_
      refine st_getr O dX7_firstStands_33 fl_X7_22 rfl rfl rfl (q := 36) rfl ?_
      refine st_iloadn O dX7_firstStands_36 rfl (q := 37) rfl ?_
      refine sn_ald O dX7_firstStands_37 rfl rfl rfl ⟨by omega, by decide⟩ hm1 (q := 38) rfl ?_
      refine st_iloadn O dX7_firstStands_38 rfl (q := 39) rfl ?_
      refine st_icmp_ge O dX7_firstStands_39 (t := 52) rfl (q := 42) rfl (fun c39 => ?_) (fun c39 => ?_)
      · refine st_iinc O dX7_firstStands_52 rfl (by first | exact am_ii1 _ | exact rfl) rfl (q := 55) rfl ?_
        refine st_goto O dX7_firstStands_55 (t := 9) rfl ?_
        first | exact ih (m + 1) _ (by omega) (by omega) (skip (fun z => c29 z.1)) | exact ih (m + 1) _ (by omega) (by omega) (skip (fun z => absurd z.2 (Int32.not_lt.mpr c39))) | (refine ih (m + 1) _ (by omega) (by omega) (fun c' hc' => ?_); by_cases e : c' = m; (subst e; rw [pk_us, if_pos ⟨Nat.lt_succ_self _, by first | exact c29 | exact Decidable.of_not_not c29, Int32.not_le.mp c39⟩, hm1]; rfl); (rw [pk_un e, hq c' hc']; by_cases h2 : c' < m ∧ lA c' = nI z ∧ pA c' < nI ((Q z).idxOf c); rw [if_pos h2, if_pos ⟨by omega, h2.2⟩]; rw [if_neg h2, if_neg (fun z => h2 ⟨by omega, z.2⟩)]))
      refine st_aloadn O dX7_firstStands_42 rfl (q := 43) rfl ?_
      refine st_getr O dX7_firstStands_43 fl_X7_22 rfl rfl rfl (q := 46) rfl ?_
      refine st_iloadn O dX7_firstStands_46 rfl (q := 47) rfl ?_
      refine st_dup2 O dX7_firstStands_47 (q := 48) rfl ?_
      refine sn_ald O dX7_firstStands_48 rfl rfl rfl ⟨by omega, by decide⟩ rfl (q := 49) rfl ?_
      refine st_iconst O dX7_firstStands_49 am_iconst_1 (q := 50) rfl ?_
      refine st_iadd O dX7_firstStands_50 rfl (q := 51) rfl ?_
      refine sn_ast O dX7_firstStands_51 rfl rfl rfl ⟨by omega, by decide⟩ rfl rfl (q := 52) rfl ?_
      refine st_iinc O dX7_firstStands_52 rfl (by first | exact am_ii1 _ | exact rfl) rfl (q := 55) rfl ?_
      refine st_goto O dX7_firstStands_55 (t := 9) rfl ?_
      first | exact ih (m + 1) _ (by omega) (by omega) (skip (fun z => c29 z.1)) | exact ih (m + 1) _ (by omega) (by omega) (skip (fun z => absurd z.2 (Int32.not_lt.mpr c39))) | (refine ih (m + 1) _ (by omega) (by omega) (fun c' hc' => ?_); by_cases e : c' = m; (subst e; rw [pk_us, if_pos ⟨Nat.lt_succ_self _, by first | exact c29 | exact Decidable.of_not_not c29, Int32.not_le.mp c39⟩, hm1]; rfl); (rw [pk_un e, hq c' hc']; by_cases h2 : c' < m ∧ lA c' = nI z ∧ pA c' < nI ((Q z).idxOf c); rw [if_pos h2, if_pos ⟨by omega, h2.2⟩]; rw [if_neg h2, if_neg (fun z => h2 ⟨by omega, z.2⟩)]))
  refine am_begin rfl ?_
  refine st_aloadn O dX7_firstStands_0 rfl (q := 1) rfl ?_
  refine st_getr O dX7_firstStands_1 fl_X7_22 rfl rfl rfl (q := 4) rfl ?_
  refine st_iloadn O dX7_firstStands_4 rfl (q := 5) rfl ?_
  refine sn_ald O dX7_firstStands_5 rfl rfl rfl ⟨by omega, by decide⟩ h3 (q := 6) rfl ?_
  refine st_istoren O dX7_firstStands_6 rfl (q := 7) rfl ?_
  refine st_iconst O dX7_firstStands_7 am_iconst_0 (q := 8) rfl ?_
  refine st_istoren O dX7_firstStands_8 rfl (q := 9) rfl ?_
  exact loop n 0 pA (by omega) (by omega) (fun c _ => by rw [if_neg (fun z => Nat.not_lt_zero _ z.1)])
theorem C_X7_firstStands : am_ctr yX7_firstStands cX7_firstStands 4 (some .int) 0 0 sh_ML [some 0, none] T_X7_firstStands := am_mk (by decide) (Or.inr (Or.inl ⟨rfl, rfl⟩)) (by decide) (by decide) (by decide) fl_X7_ok kc_X7_ok ck_X7_firstStands B_X7_firstStands
def cs_X7_standsAt : Nat → List am_V → am_D → am_K → Prop := am_cs []
theorem ck_X7_standsAt : ∀ X : am_X, am_cx X RX7 cX7_standsAt 4 0 0 → ∀ pc, am_csok X 4 sh_ML pc (cs_X7_standsAt pc) := fun X hX => am_cs_ok (fun _ h => absurd h List.not_mem_nil)
abbrev ok_X7_standsAt (X : am_X) (K : List Int32 → am_D → Prop) : Prop := am_ok X RX7 cX7_standsAt 4 sh_ML fl_X7 kc_X7 none 1 cs_X7_standsAt K
abbrev aw_X7_standsAt (X : am_X) (pc : Nat) (ls : am_L) (st : List am_V) (D : am_D) : Prop := am_aw X 4 sh_ML pc ls st D
abbrev T_X7_standsAt : am_TT := am_pure (fun is D r => ∃ z p n xs Q lA pA, D = [.inl (nI n :: xs), .inr lA, .inr pA] ∧ mL n Q lA pA ∧ z < 2 ∧ p ≤ 9 ∧ is = [nI z, nI p] ∧ r = oI (Q z)[p]?)
set_option maxHeartbeats 200000 in
theorem B_X7_standsAt : ∀ (X : am_X) (is : List Int32) (D : am_D) (K : List Int32 → am_D → Prop), ok_X7_standsAt X K → T_X7_standsAt is D K → is.length = (List.filter Option.isNone ([some 0, none, none] : List (Option Nat))).length → D.length = sh_ML.length → am_aw X 4 sh_ML 0 (am_l0 4 [some 0, none, none] is) [] D := by
  intro X is D K O hT _ _
  obtain ⟨r, ⟨z, p, n, xs, Q, lA, pA, rfl, hL, hz, hp, rfl, rfl⟩, hK⟩ := hT
  have hn := hL.1
  have loop : ∀ d m, n - m = d → m ≤ n → (∀ c, c < m → ¬ (Q z)[p]? = some c) → am_aw X 4 sh_ML 2 [some (.inr 0), some (.inl (nI z)), some (.inl (nI p)), some (.inl (nI m))] [] [.inl (nI n :: xs), .inr lA, .inr pA] := by
    intro d
    induction d with
    | zero =>
      intro m hd hm hne
      have e : m = n := by omega
      subst e
      have hno : (Q z)[p]? = none := by
        cases hg : (Q z)[p]? with
        | none => rfl
        | some c => exact absurd hg (hne c ((hL.2.1 z hz).2 c (List.mem_of_getElem? hg)).1)
      rw [hno] at hK
      refine st_iloadn O dX7_standsAt_2 rfl (q := 3) rfl ?_
      refine st_aloadn O dX7_standsAt_3 rfl (q := 4) rfl ?_
      refine st_geti O dX7_standsAt_4 fl_X7_59 rfl rfl rfl rfl (q := 7) rfl ?_
      refine sn_icmp_ge O dX7_standsAt_7 (t := 38) rfl (q := 10) rfl (by omega) (by omega) (fun c7 => ?_) (fun c7 => ?_)
      · refine st_bipush O dX7_standsAt_38 am_bipush_m9 (q := 40) rfl ?_
        refine st_ireturn O dX7_standsAt_40 ?_
        exact hK
      omega
    | succ d ih =>
      intro m hd hm hne
      have hat := mL_at hL hz hp (c := m) (by omega)
      refine st_iloadn O dX7_standsAt_2 rfl (q := 3) rfl ?_
      refine st_aloadn O dX7_standsAt_3 rfl (q := 4) rfl ?_
      refine st_geti O dX7_standsAt_4 fl_X7_59 rfl rfl rfl rfl (q := 7) rfl ?_
      refine sn_icmp_ge O dX7_standsAt_7 (t := 38) rfl (q := 10) rfl (by omega) (by omega) (fun c7 => ?_) (fun c7 => ?_)
      · omega
      refine st_aloadn O dX7_standsAt_10 rfl (q := 11) rfl ?_
      refine st_getr O dX7_standsAt_11 fl_X7_19 rfl rfl rfl (q := 14) rfl ?_
      refine st_iloadn O dX7_standsAt_14 rfl (q := 15) rfl ?_
      refine sn_ald O dX7_standsAt_15 rfl rfl rfl ⟨by omega, by decide⟩ rfl (q := 16) rfl ?_
      refine st_iloadn O dX7_standsAt_16 rfl (q := 17) rfl ?_
      refine st_icmp_ne O dX7_standsAt_17 (t := 32) rfl (q := 20) rfl (fun c17 => ?_) (fun c17 => ?_)
      · refine st_iinc O dX7_standsAt_32 rfl (by first | exact am_ii1 _ | exact rfl) rfl (q := 35) rfl ?_
        refine st_goto O dX7_standsAt_35 (t := 2) rfl ?_
        refine ih (m + 1) (by omega) (by omega) (fun c hc => ?_)
        by_cases e : c = m
        · rw [e]; first | exact fun g => c17 (hat.mpr g).1 | exact fun g => c27 (hat.mpr g).2
        · exact hne c (by omega)
      refine st_aloadn O dX7_standsAt_20 rfl (q := 21) rfl ?_
      refine st_getr O dX7_standsAt_21 fl_X7_22 rfl rfl rfl (q := 24) rfl ?_
      refine st_iloadn O dX7_standsAt_24 rfl (q := 25) rfl ?_
      refine sn_ald O dX7_standsAt_25 rfl rfl rfl ⟨by omega, by decide⟩ rfl (q := 26) rfl ?_
      refine st_iloadn O dX7_standsAt_26 rfl (q := 27) rfl ?_
      refine st_icmp_ne O dX7_standsAt_27 (t := 32) rfl (q := 30) rfl (fun c27 => ?_) (fun c27 => ?_)
      · refine st_iinc O dX7_standsAt_32 rfl (by first | exact am_ii1 _ | exact rfl) rfl (q := 35) rfl ?_
        refine st_goto O dX7_standsAt_35 (t := 2) rfl ?_
        refine ih (m + 1) (by omega) (by omega) (fun c hc => ?_)
        by_cases e : c = m
        · rw [e]; first | exact fun g => c17 (hat.mpr g).1 | exact fun g => c27 (hat.mpr g).2
        · exact hne c (by omega)
      refine st_iloadn O dX7_standsAt_30 rfl (q := 31) rfl ?_
      refine st_ireturn O dX7_standsAt_31 ?_
      rw [hat.mp ⟨by first | exact c17 | exact Decidable.of_not_not c17, by first | exact c27 | exact Decidable.of_not_not c27⟩] at hK; exact hK
  refine am_begin rfl ?_
  refine st_iconst O dX7_standsAt_0 am_iconst_0 (q := 1) rfl ?_
  refine st_istoren O dX7_standsAt_1 rfl (q := 2) rfl ?_
  exact loop n 0 (by omega) (by omega) (fun c hc => absurd hc (Nat.not_lt_zero c))
theorem C_X7_standsAt : am_ctr yX7_standsAt cX7_standsAt 4 (some .int) 0 0 sh_ML [some 0, none, none] T_X7_standsAt := am_mk (by decide) (Or.inr (Or.inl ⟨rfl, rfl⟩)) (by decide) (by decide) (by decide) fl_X7_ok kc_X7_ok ck_X7_standsAt B_X7_standsAt
