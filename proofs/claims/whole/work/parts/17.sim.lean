/-! THE TURNS, as a list of (car, lane, wait) -/
def dc (le : Nat → Nat) (pu : Nat → Bool) (r l : List Nat) (k la : Nat) (pd : Bool) : Bool × Nat × Bool := match r, l with
  | _, [] => (false, k, false)
  | [], _ :: _ => (true, k, false)
  | a :: _, c :: _ => if k < le a then (true, k + 1, false) else if la = 1 ∧ pd = false ∧ pu c = true then (true, k, true) else (false, k, false)
def sg (le se : Nat → Nat) (pu : Nat → Bool) (w : Nat) : Nat → List Nat → List Nat → Nat → Nat → Bool → Nat → List (Nat × Nat × Nat)
  | 0, _, _, _, _, _, _ => []
  | n + 1, r, l, k, la, pd, t => match dc le pu r l k la pd with
    | (true, k', pd') => (match l with
      | c :: l' => (c, 1, t + se c + (if la = 0 then w else 0)) :: sg le se pu w n r l' k' 1 pd' (t + se c + (if la = 0 then w else 0))
      | [] => [])
    | (false, _, pd') => (match r with
      | c :: r' => (c, 0, t + se c + (if la = 1 then w else 0)) :: sg le se pu w n r' l 0 0 pd' (t + se c + (if la = 1 then w else 0))
      | [] => [])
def sim (b w : Nat) (kd fg : Nat → Nat) (Q0 Q1 : List Nat) : List (Nat × Nat × Nat) := sg (fun c => lt (kd c) (fg c) b) (fun c => sc (kd c)) (fun c => decide (kd c = 2)) w (Q0.length + Q1.length) Q0 Q1 0 2 false 0
theorem dc_true {le : Nat → Nat} {pu : Nat → Bool} {r l : List Nat} {k la k' : Nat} {pd pd' : Bool} (h : dc le pu r l k la pd = (true, k', pd')) : ∃ c l', l = c :: l' := by
  cases l with
  | nil => cases r <;> simp [dc] at h
  | cons c l' => exact ⟨c, l', rfl⟩
theorem dc_false {le : Nat → Nat} {pu : Nat → Bool} {r l : List Nat} {k la k' : Nat} {pd pd' : Bool} (h : dc le pu r l k la pd = (false, k', pd')) (hn : 0 < r.length + l.length) : ∃ c r', r = c :: r' := by
  cases r with
  | nil =>
    cases l with
    | nil => simp at hn
    | cons c l' => simp [dc] at h
  | cons c l' => exact ⟨c, l', rfl⟩
theorem dc_k {le : Nat → Nat} {pu : Nat → Bool} {r l : List Nat} {k la k' : Nat} {b pd pd' : Bool} (h : dc le pu r l k la pd = (b, k', pd')) : k' ≤ k + 1 ∧ (b = false → k' = k) := by
  unfold dc at h
  split at h
  · cases h; exact ⟨by omega, fun _ => rfl⟩
  · cases h; exact ⟨by omega, fun _ => rfl⟩
  · split at h
    · cases h; exact ⟨by omega, fun h => by cases h⟩
    · split at h
      · cases h; exact ⟨by omega, fun h => by cases h⟩
      · cases h; exact ⟨by omega, fun _ => rfl⟩
theorem sg_L {le se : Nat → Nat} {pu : Nat → Bool} {w n k la k' t c : Nat} {r l : List Nat} {pd pd' : Bool} (h : dc le pu r (c :: l) k la pd = (true, k', pd')) : sg le se pu w (n + 1) r (c :: l) k la pd t = (c, 1, t + se c + (if la = 0 then w else 0)) :: sg le se pu w n r l k' 1 pd' (t + se c + (if la = 0 then w else 0)) := by
  rw [sg, h]
theorem sg_R {le se : Nat → Nat} {pu : Nat → Bool} {w n k la k' t c : Nat} {r l : List Nat} {pd pd' : Bool} (h : dc le pu (c :: r) l k la pd = (false, k', pd')) : sg le se pu w (n + 1) (c :: r) l k la pd t = (c, 0, t + se c + (if la = 1 then w else 0)) :: sg le se pu w n r l 0 0 pd' (t + se c + (if la = 1 then w else 0)) := by
  rw [sg, h]
theorem sg_perm {le se : Nat → Nat} {pu : Nat → Bool} {w : Nat} : ∀ (n : Nat) (r l : List Nat) (k la : Nat) (pd : Bool) (t : Nat), r.length + l.length = n → ((sg le se pu w n r l k la pd t).map (fun q => q.1)).Perm (r ++ l)
  | 0, r, l, k, la, pd, t, h => by
    have h1 : r = [] := List.length_eq_zero_iff.mp (by omega)
    have h2 : l = [] := List.length_eq_zero_iff.mp (by omega)
    subst h1; subst h2
    exact List.Perm.refl _
  | n + 1, r, l, k, la, pd, t, h => by
    rcases hd : dc le pu r l k la pd with ⟨b, k', pd'⟩
    cases b with
    | true =>
      obtain ⟨c, l', rfl⟩ := dc_true hd
      rw [sg_L hd, List.map_cons]
      have ih := sg_perm (le := le) (se := se) (pu := pu) (w := w) n r l' k' 1 pd' (t + se c + (if la = 0 then w else 0)) (by simp only [List.length_cons] at h; omega)
      exact (ih.cons c).trans List.perm_middle.symm
    | false =>
      obtain ⟨c, r', rfl⟩ := dc_false hd (by omega)
      rw [sg_R hd, List.map_cons, List.cons_append]
      exact (sg_perm (le := le) (se := se) (pu := pu) (w := w) n r' l 0 0 pd' _ (by simp only [List.length_cons] at h; omega)).cons c
theorem sim_perm (b w : Nat) (kd fg : Nat → Nat) (Q0 Q1 : List Nat) : ((sim b w kd fg Q0 Q1).map (fun q => q.1)).Perm (Q0 ++ Q1) := sg_perm _ _ _ _ _ _ _ rfl
theorem sim_len (b w : Nat) (kd fg : Nat → Nat) (Q0 Q1 : List Nat) : (sim b w kd fg Q0 Q1).length = Q0.length + Q1.length := by
  have := (sim_perm b w kd fg Q0 Q1).length_eq
  rwa [List.length_map, List.length_append] at this
def bI (b : Bool) : Int32 := if b then 1 else 0
def laI (la : Nat) : Int32 := if la = 2 then -1 else nI la
/-- an array that holds a list -/
def aL (f : Nat → Int32) (R : List Nat) : Prop := ∀ j, j < R.length → f j = nI (R.getD j 0)
theorem aL_0 {f : Nat → Int32} : aL f [] := fun j h => absurd h (Nat.not_lt_zero j)
theorem aL_push {f : Nat → Int32} {R : List Nat} (h : aL f R) (c : Nat) : aL (upd f R.length (nI c)) (R ++ [c]) := by
  intro j hj
  rw [List.length_append] at hj
  by_cases e : j = R.length
  · rw [e, pk_us, ga_last rfl]
  · have : j < R.length := by simp only [List.length_cons, List.length_nil] at hj; omega
    rw [pk_un e, ga_left this]
    exact h j this
theorem dr_cons {R : List Nat} {i : Nat} (h : i < R.length) : R.drop i = R.getD i 0 :: R.drop (i + 1) := by
  rw [List.getD_eq_getElem?_getD, List.getElem?_eq_getElem h]
  exact List.drop_eq_getElem_cons h
theorem dr_nil {R : List Nat} {i : Nat} (h : R.length ≤ i) : R.drop i = [] := List.drop_eq_nil_iff.mpr h
/-- the passage's cells of which nothing is known but their form -/
def pF (D : am_D) : Prop := ∃ (a b c d e f g h i : Int32) (o wt tn r l : Nat → Int32), D = [.inl [a, b, c, d, e, f, g, h, i], .inr o, .inr wt, .inr tn, .inr r, .inr l]
/-- the arrays that tell the turns -/
def pO (L : List (Nat × Nat × Nat)) (o wt tn : Nat → Int32) : Prop := ∀ i q, L[i]? = some q → o i = nI q.1 ∧ wt q.1 = nI q.2.2 ∧ tn q.1 = nI i
def tot (L : List (Nat × Nat × Nat)) : Nat := match L.getLast? with
  | some q => q.2.2
  | none => 0
/-- the passage's cells when all have gone -/
def pD (L : List (Nat × Nat × Nat)) (D : am_D) : Prop := ∃ (c d e f g h i : Int32) (o wt tn r l : Nat → Int32), D = [.inl [nI L.length, nI (tot L), c, d, e, f, g, h, i], .inr o, .inr wt, .inr tn, .inr r, .inr l] ∧ pO L o wt tn
theorem pD.form {L : List (Nat × Nat × Nat)} {D : am_D} (h : pD L D) : pF D := by
  obtain ⟨c, d, e, f, g, h, i, o, wt, tn, r, l, rfl, -⟩ := h
  exact ⟨_, _, _, _, _, _, _, _, _, _, _, _, _, _, rfl⟩
theorem bt_tab : ∀ a, a < 512 → ∀ c, c < 9 → ((nI a >>> (nI c &&& 31)) &&& nI 1) = if a.testBit c then nI 1 else nI 0 := by decide +kernel
theorem tk_flt (p : Nat → Bool) {li : List Nat} {m : Nat} (h : m < li.length) : (li.take (m + 1)).filter p = (li.take m).filter p ++ (if p (li.getD m 0) then [li.getD m 0] else []) := by
  rw [List.take_succ, List.filter_append, List.getD_eq_getElem?_getD, List.getElem?_eq_getElem h]
  congr 1
  by_cases hp : p li[m] = true
  · simp [hp]
  · simp [hp]
theorem tk_le (p : Nat → Bool) (li : List Nat) (m : Nat) : ((li.take m).filter p).length ≤ m := Nat.le_trans (List.length_filter_le _ _) (List.length_take_le _ _)
def cs_X3_lineUp : Nat → List am_V → am_D → am_K → Prop := am_cs []
theorem ck_X3_lineUp : ∀ X : am_X, am_cx X RX3 cX3_lineUp 5 0 0 → ∀ pc, am_csok X 5 sh_PR pc (cs_X3_lineUp pc) := fun X hX => am_cs_ok (fun _ h => absurd h List.not_mem_nil)
abbrev ok_X3_lineUp (X : am_X) (K : List Int32 → am_D → Prop) : Prop := am_ok X RX3 cX3_lineUp 5 sh_PR fl_X3 kc_X3 none 0 cs_X3_lineUp K
abbrev aw_X3_lineUp (X : am_X) (pc : Nat) (ls : am_L) (st : List am_V) (D : am_D) : Prop := am_aw X 5 sh_PR pc ls st D
abbrev T_X3_lineUp : am_TT := fun is D K => ∃ n b w kd fg la hu li d1 d2 a, is = [nI a] ∧ a < 512 ∧ D = d1 ++ d2 ∧ pF d1 ∧ rA n b w kd fg la hu li d2 ∧ ∀ o wt tn r l, aL r (li.filter (fun c => decide (la c = 0) && !a.testBit c)) → aL l (li.filter (fun c => decide (la c = 1) && !a.testBit c)) → K [] ([.inl [nI 0, nI 0, nI (li.filter (fun c => decide (la c = 0) && !a.testBit c)).length, nI (li.filter (fun c => decide (la c = 1) && !a.testBit c)).length, nI 0, nI 0, nI 0, -1, nI 0], .inr o, .inr wt, .inr tn, .inr r, .inr l] ++ d2)
theorem B_X3_lineUp : ∀ (X : am_X) (is : List Int32) (D : am_D) (K : List Int32 → am_D → Prop), ok_X3_lineUp X K → T_X3_lineUp is D K → is.length = (List.filter Option.isNone ([some 0, some 6, none] : List (Option Nat))).length → D.length = sh_PR.length → am_aw X 5 sh_PR 0 (am_l0 5 [some 0, some 6, none] is) [] D := by
  intro X is D K O hT _ _
  obtain ⟨n, b, w, kd, fg, la, hu, li, d1, d2, a, rfl, ha, rfl, h1, hR, hK⟩ := hT
  obtain ⟨i0, i1, i2, i3, i4, i5, i6, i7, i8, o, wt, tn, r0, l0, rfl⟩ := h1
  obtain ⟨k, f, l, h, i, rfl, hn, hb, hw, hj, hp, hi⟩ := hR
  have hl := pl_len hp
  have loop : ∀ d m x4 (rf lf : Nat → Int32), n - m = d → m ≤ n → aL rf ((li.take m).filter (fun c => decide (la c = 0) && !a.testBit c)) → aL lf ((li.take m).filter (fun c => decide (la c = 1) && !a.testBit c)) → am_aw X 5 sh_PR 47 [some (.inr 0), some (.inr 6), some (.inl (nI a)), some (.inl (nI m)), x4] [] [.inl [nI 0, nI 0, nI ((li.take m).filter (fun c => decide (la c = 0) && !a.testBit c)).length, nI ((li.take m).filter (fun c => decide (la c = 1) && !a.testBit c)).length, nI 0, nI 0, nI 0, -1, nI 0], .inr o, .inr wt, .inr tn, .inr rf, .inr lf, .inl [nI n, nI b, nI w], .inr k, .inr f, .inr l, .inr h, .inr i] := by
    intro d
    induction d with
    | zero =>
      intro m x4 rf lf hd hm g1 g2
      have e : m = n := by omega
      subst e
      rw [List.take_of_length_le (by omega)] at g1 g2 ⊢
      refine st_iloadn O dX3_lineUp_47 rfl (q := 48) rfl ?_
      refine st_aloadn O dX3_lineUp_48 rfl (q := 49) rfl ?_
      refine st_geti O dX3_lineUp_49 fl_X3_67 rfl rfl rfl rfl (q := 52) rfl ?_
      refine sn_icmp_ge O dX3_lineUp_52 (t := 136) rfl (q := 55) rfl (by omega) (by omega) (fun c52 => ?_) (fun c52 => ?_)
      · refine st_vreturn O dX3_lineUp_136 ?_
        exact hK o wt tn rf lf g1 g2
      omega
    | succ d ih =>
      intro m x4 rf lf hd hm g1 g2
      have hc := pl_get hp (j := m) (by omega)
      have hbt := bt_tab a ha (li.getD m 0) (by omega)
      have hlc := (hj _ hc).2.2.1
      have hl2 := hlc.2
      have ih := fun x rf lf => ih (m + 1) x rf lf (by omega) (by omega)
      rw [tk_flt _ (by omega), tk_flt _ (by omega)] at ih
      have b0 := tk_le (fun c => decide (la c = 0) && !a.testBit c) li m
      have b1 := tk_le (fun c => decide (la c = 1) && !a.testBit c) li m
      by_cases hab : a.testBit (li.getD m 0) = true
      · rw [if_pos hab] at hbt
        simp only [hab, Bool.not_true, Bool.and_false, Bool.false_eq_true, if_false, List.append_nil] at ih
        refine st_iloadn O dX3_lineUp_47 rfl (q := 48) rfl ?_
        refine st_aloadn O dX3_lineUp_48 rfl (q := 49) rfl ?_
        refine st_geti O dX3_lineUp_49 fl_X3_67 rfl rfl rfl rfl (q := 52) rfl ?_
        refine sn_icmp_ge O dX3_lineUp_52 (t := 136) rfl (q := 55) rfl (by omega) (by omega) (fun c52 => ?_) (fun c52 => ?_)
        · omega
        refine st_aloadn O dX3_lineUp_55 rfl (q := 56) rfl ?_
        refine st_getr O dX3_lineUp_56 fl_X3_72 rfl rfl rfl (q := 59) rfl ?_
        refine st_iloadn O dX3_lineUp_59 rfl (q := 60) rfl ?_
        refine sn_ald O dX3_lineUp_60 rfl rfl rfl ⟨by omega, by decide⟩ (hi m (by omega)) (q := 61) rfl ?_
        refine st_istore O dX3_lineUp_61 rfl (q := 63) rfl ?_
        refine st_iloadn O dX3_lineUp_63 rfl (q := 64) rfl ?_
        refine st_iload O dX3_lineUp_64 rfl (q := 66) rfl ?_
        refine st_ishr O dX3_lineUp_66 rfl (q := 67) rfl ?_
        refine st_iconst O dX3_lineUp_67 am_iconst_1 (q := 68) rfl ?_
        refine st_iand O dX3_lineUp_68 hbt (q := 69) rfl ?_
        refine sn_if_eq O dX3_lineUp_69 (t := 75) rfl (q := 72) rfl (by omega) (fun c69 => ?_) (fun c69 => ?_)
        · omega
        refine st_goto O dX3_lineUp_72 (t := 130) rfl ?_
        refine st_iinc O dX3_lineUp_130 rfl (by first | exact am_ii1 _ | exact rfl) rfl (q := 133) rfl ?_
        refine st_goto O dX3_lineUp_133 (t := 47) rfl ?_
        exact ih _ rf lf g1 g2
      · rw [if_neg hab] at hbt
        simp only [hab, Bool.not_false, Bool.and_true] at ih
        by_cases hz : la (li.getD m 0) = 0
        · simp only [hz, decide_true, if_true, Nat.zero_ne_one, decide_false, Bool.false_eq_true, if_false, List.append_nil, List.length_append, List.length_cons, List.length_nil, Nat.zero_add] at ih
          refine st_iloadn O dX3_lineUp_47 rfl (q := 48) rfl ?_
          refine st_aloadn O dX3_lineUp_48 rfl (q := 49) rfl ?_
          refine st_geti O dX3_lineUp_49 fl_X3_67 rfl rfl rfl rfl (q := 52) rfl ?_
          refine sn_icmp_ge O dX3_lineUp_52 (t := 136) rfl (q := 55) rfl (by omega) (by omega) (fun c52 => ?_) (fun c52 => ?_)
          · omega
          refine st_aloadn O dX3_lineUp_55 rfl (q := 56) rfl ?_
          refine st_getr O dX3_lineUp_56 fl_X3_72 rfl rfl rfl (q := 59) rfl ?_
          refine st_iloadn O dX3_lineUp_59 rfl (q := 60) rfl ?_
          refine sn_ald O dX3_lineUp_60 rfl rfl rfl ⟨by omega, by decide⟩ (hi m (by omega)) (q := 61) rfl ?_
          refine st_istore O dX3_lineUp_61 rfl (q := 63) rfl ?_
          refine st_iloadn O dX3_lineUp_63 rfl (q := 64) rfl ?_
          refine st_iload O dX3_lineUp_64 rfl (q := 66) rfl ?_
          refine st_ishr O dX3_lineUp_66 rfl (q := 67) rfl ?_
          refine st_iconst O dX3_lineUp_67 am_iconst_1 (q := 68) rfl ?_
          refine st_iand O dX3_lineUp_68 hbt (q := 69) rfl ?_
          refine sn_if_eq O dX3_lineUp_69 (t := 75) rfl (q := 72) rfl (by omega) (fun c69 => ?_) (fun c69 => ?_)
          · refine st_aloadn O dX3_lineUp_75 rfl (q := 76) rfl ?_
            refine st_getr O dX3_lineUp_76 fl_X3_75 rfl rfl rfl (q := 79) rfl ?_
            refine st_iload O dX3_lineUp_79 rfl (q := 81) rfl ?_
            refine sn_ald O dX3_lineUp_81 rfl rfl rfl ⟨by omega, by decide⟩ hlc.1 (q := 82) rfl ?_
            refine sn_if_ne O dX3_lineUp_82 (t := 109) rfl (q := 85) rfl (by omega) (fun c82 => ?_) (fun c82 => ?_)
            · omega
            refine st_aloadn O dX3_lineUp_85 rfl (q := 86) rfl ?_
            refine st_getr O dX3_lineUp_86 fl_X3_28 rfl rfl rfl (q := 89) rfl ?_
            refine st_aloadn O dX3_lineUp_89 rfl (q := 90) rfl ?_
            refine st_geti O dX3_lineUp_90 fl_X3_34 rfl rfl rfl rfl (q := 93) rfl ?_
            refine st_iload O dX3_lineUp_93 rfl (q := 95) rfl ?_
            refine sn_ast O dX3_lineUp_95 rfl rfl rfl ⟨by omega, by decide⟩ rfl rfl (q := 96) rfl ?_
            refine st_aloadn O dX3_lineUp_96 rfl (q := 97) rfl ?_
            refine st_dup O dX3_lineUp_97 (q := 98) rfl ?_
            refine st_geti O dX3_lineUp_98 fl_X3_34 rfl rfl rfl rfl (q := 101) rfl ?_
            refine st_iconst O dX3_lineUp_101 am_iconst_1 (q := 102) rfl ?_
            refine st_iadd O dX3_lineUp_102 (by first | exact nI_add _ _ | exact rfl) (q := 103) rfl ?_
            refine st_puti O dX3_lineUp_103 fl_X3_34 rfl rfl rfl rfl rfl (q := 106) rfl ?_
            refine st_goto O dX3_lineUp_106 (t := 130) rfl ?_
            refine st_iinc O dX3_lineUp_130 rfl (by first | exact am_ii1 _ | exact rfl) rfl (q := 133) rfl ?_
            refine st_goto O dX3_lineUp_133 (t := 47) rfl ?_
            exact ih _ _ lf (aL_push g1 _) g2
          omega
        · have hz1 : la (li.getD m 0) = 1 := by omega
          simp only [hz1, decide_true, if_true, Nat.one_ne_zero, decide_false, Bool.false_eq_true, if_false, List.append_nil, List.length_append, List.length_cons, List.length_nil, Nat.zero_add] at ih
          refine st_iloadn O dX3_lineUp_47 rfl (q := 48) rfl ?_
          refine st_aloadn O dX3_lineUp_48 rfl (q := 49) rfl ?_
          refine st_geti O dX3_lineUp_49 fl_X3_67 rfl rfl rfl rfl (q := 52) rfl ?_
          refine sn_icmp_ge O dX3_lineUp_52 (t := 136) rfl (q := 55) rfl (by omega) (by omega) (fun c52 => ?_) (fun c52 => ?_)
          · omega
          refine st_aloadn O dX3_lineUp_55 rfl (q := 56) rfl ?_
          refine st_getr O dX3_lineUp_56 fl_X3_72 rfl rfl rfl (q := 59) rfl ?_
          refine st_iloadn O dX3_lineUp_59 rfl (q := 60) rfl ?_
          refine sn_ald O dX3_lineUp_60 rfl rfl rfl ⟨by omega, by decide⟩ (hi m (by omega)) (q := 61) rfl ?_
          refine st_istore O dX3_lineUp_61 rfl (q := 63) rfl ?_
          refine st_iloadn O dX3_lineUp_63 rfl (q := 64) rfl ?_
          refine st_iload O dX3_lineUp_64 rfl (q := 66) rfl ?_
          refine st_ishr O dX3_lineUp_66 rfl (q := 67) rfl ?_
          refine st_iconst O dX3_lineUp_67 am_iconst_1 (q := 68) rfl ?_
          refine st_iand O dX3_lineUp_68 hbt (q := 69) rfl ?_
          refine sn_if_eq O dX3_lineUp_69 (t := 75) rfl (q := 72) rfl (by omega) (fun c69 => ?_) (fun c69 => ?_)
          · refine st_aloadn O dX3_lineUp_75 rfl (q := 76) rfl ?_
            refine st_getr O dX3_lineUp_76 fl_X3_75 rfl rfl rfl (q := 79) rfl ?_
            refine st_iload O dX3_lineUp_79 rfl (q := 81) rfl ?_
            refine sn_ald O dX3_lineUp_81 rfl rfl rfl ⟨by omega, by decide⟩ hlc.1 (q := 82) rfl ?_
            refine sn_if_ne O dX3_lineUp_82 (t := 109) rfl (q := 85) rfl (by omega) (fun c82 => ?_) (fun c82 => ?_)
            · refine st_aloadn O dX3_lineUp_109 rfl (q := 110) rfl ?_
              refine st_getr O dX3_lineUp_110 fl_X3_31 rfl rfl rfl (q := 113) rfl ?_
              refine st_aloadn O dX3_lineUp_113 rfl (q := 114) rfl ?_
              refine st_geti O dX3_lineUp_114 fl_X3_37 rfl rfl rfl rfl (q := 117) rfl ?_
              refine st_iload O dX3_lineUp_117 rfl (q := 119) rfl ?_
              refine sn_ast O dX3_lineUp_119 rfl rfl rfl ⟨by omega, by decide⟩ rfl rfl (q := 120) rfl ?_
              refine st_aloadn O dX3_lineUp_120 rfl (q := 121) rfl ?_
              refine st_dup O dX3_lineUp_121 (q := 122) rfl ?_
              refine st_geti O dX3_lineUp_122 fl_X3_37 rfl rfl rfl rfl (q := 125) rfl ?_
              refine st_iconst O dX3_lineUp_125 am_iconst_1 (q := 126) rfl ?_
              refine st_iadd O dX3_lineUp_126 (by first | exact nI_add _ _ | exact rfl) (q := 127) rfl ?_
              refine st_puti O dX3_lineUp_127 fl_X3_37 rfl rfl rfl rfl rfl (q := 130) rfl ?_
              refine st_iinc O dX3_lineUp_130 rfl (by first | exact am_ii1 _ | exact rfl) rfl (q := 133) rfl ?_
              refine st_goto O dX3_lineUp_133 (t := 47) rfl ?_
              exact ih _ rf _ g1 (aL_push g2 _)
            omega
          omega
  refine am_begin rfl ?_
  refine st_aloadn O dX3_lineUp_0 rfl (q := 1) rfl ?_
  refine st_iconst O dX3_lineUp_1 am_iconst_0 (q := 2) rfl ?_
  refine st_puti O dX3_lineUp_2 fl_X3_21 rfl rfl rfl rfl rfl (q := 5) rfl ?_
  refine st_aloadn O dX3_lineUp_5 rfl (q := 6) rfl ?_
  refine st_iconst O dX3_lineUp_6 am_iconst_0 (q := 7) rfl ?_
  refine st_puti O dX3_lineUp_7 fl_X3_25 rfl rfl rfl rfl rfl (q := 10) rfl ?_
  refine st_aloadn O dX3_lineUp_10 rfl (q := 11) rfl ?_
  refine st_iconst O dX3_lineUp_11 am_iconst_0 (q := 12) rfl ?_
  refine st_puti O dX3_lineUp_12 fl_X3_34 rfl rfl rfl rfl rfl (q := 15) rfl ?_
  refine st_aloadn O dX3_lineUp_15 rfl (q := 16) rfl ?_
  refine st_iconst O dX3_lineUp_16 am_iconst_0 (q := 17) rfl ?_
  refine st_puti O dX3_lineUp_17 fl_X3_37 rfl rfl rfl rfl rfl (q := 20) rfl ?_
  refine st_aloadn O dX3_lineUp_20 rfl (q := 21) rfl ?_
  refine st_iconst O dX3_lineUp_21 am_iconst_0 (q := 22) rfl ?_
  refine st_puti O dX3_lineUp_22 fl_X3_40 rfl rfl rfl rfl rfl (q := 25) rfl ?_
  refine st_aloadn O dX3_lineUp_25 rfl (q := 26) rfl ?_
  refine st_iconst O dX3_lineUp_26 am_iconst_0 (q := 27) rfl ?_
  refine st_puti O dX3_lineUp_27 fl_X3_43 rfl rfl rfl rfl rfl (q := 30) rfl ?_
  refine st_aloadn O dX3_lineUp_30 rfl (q := 31) rfl ?_
  refine st_iconst O dX3_lineUp_31 am_iconst_0 (q := 32) rfl ?_
  refine st_puti O dX3_lineUp_32 fl_X3_46 rfl rfl rfl rfl rfl (q := 35) rfl ?_
  refine st_aloadn O dX3_lineUp_35 rfl (q := 36) rfl ?_
  refine st_iconst O dX3_lineUp_36 am_iconst_m1 (q := 37) rfl ?_
  refine st_puti O dX3_lineUp_37 fl_X3_49 rfl rfl rfl rfl rfl (q := 40) rfl ?_
  refine st_aloadn O dX3_lineUp_40 rfl (q := 41) rfl ?_
  refine st_iconst O dX3_lineUp_41 am_iconst_0 (q := 42) rfl ?_
  refine st_putz O dX3_lineUp_42 fl_X3_52 rfl rfl rfl rfl rfl (by first | exact Or.inl rfl | exact Or.inr rfl | assumption) (q := 45) rfl ?_
  refine st_iconst O dX3_lineUp_45 am_iconst_0 (q := 46) rfl ?_
  refine st_istoren O dX3_lineUp_46 rfl (q := 47) rfl ?_
  exact loop n 0 _ r0 l0 (by omega) (by omega) aL_0 aL_0
theorem C_X3_lineUp : am_ctr yX3_lineUp cX3_lineUp 5 none 0 0 sh_PR [some 0, some 6, none] T_X3_lineUp := am_mk (by decide) (Or.inl ⟨rfl, rfl⟩) (by decide) (by decide) (by decide) fl_X3_ok kc_X3_ok ck_X3_lineUp B_X3_lineUp
