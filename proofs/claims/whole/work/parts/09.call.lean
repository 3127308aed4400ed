theorem am_w_inv (cA : ClassId) (ad : Nat → Nat) : ∀ (sh : am_S) (D : am_D) (i p : Nat) (q : Nat × va_E), (am_w cA ad i sh D)[p]? = some q → ∃ (t : am_T) (d : am_C), sh[p]? = some t ∧ D[p]? = some d ∧ q = (ad (i + p), am_ce cA ad t d)
  | [], _, _, _, _, h => by simp [am_w] at h
  | _ :: _, [], _, _, _, h => by simp [am_w] at h
  | t0 :: sh, d0 :: D, i, 0, q, h => ⟨t0, d0, rfl, rfl, by
    have h1 : some (ad i, am_ce cA ad t0 d0) = some q := h
    exact (Option.some.inj h1).symm⟩
  | t0 :: sh, d0 :: D, i, p + 1, q, h => by
    have h1 : (am_w cA ad (i + 1) sh D)[p]? = some q := h
    obtain ⟨t, d, a1, a2, a3⟩ := am_w_inv cA ad sh D (i + 1) p q h1
    exact ⟨t, d, a1, a2, by rw [a3, show i + 1 + p = i + (p + 1) by omega]⟩
theorem am_put_len : ∀ (e : List Nat) (d D : am_D), (am_put e d D).length = D.length
  | [], _, _ => rfl
  | _ :: _, [], _ => rfl
  | p :: e, x :: d, D => by
    show (am_put e d (D.set p x)).length = D.length
    rw [am_put_len e d, List.length_set]
theorem am_put_ne : ∀ (e : List Nat) (d D : am_D) (k : Nat), k ∉ e → (am_put e d D)[k]? = D[k]?
  | [], _, _, _, _ => rfl
  | _ :: _, [], _, _, _ => rfl
  | p :: e, x :: d, D, k, h => by
    show (am_put e d (D.set p x))[k]? = D[k]?
    rw [am_put_ne e d _ k (fun q => h (List.mem_cons_of_mem _ q)), List.getElem?_set_ne (fun q : p = k => h (List.mem_cons.mpr (Or.inl q.symm)))]
theorem am_put_at : ∀ (e : List Nat) (d D : am_D) (j k : Nat), va_nd e = true → e[j]? = some k → k < D.length → j < d.length → (am_put e d D)[k]? = d[j]?
  | [], _, _, _, _, _, h, _, _ => by simp at h
  | _ :: _, [], _, _, _, _, _, _, h => by simp at h
  | p :: e, x :: d, D, 0, k, hn, h, hk, hj => by
    simp only [List.getElem?_cons_zero, Option.some.injEq] at h
    subst h
    simp only [va_nd, Bool.and_eq_true, decide_eq_true_eq] at hn
    show (am_put e d (D.set p x))[p]? = some x
    rw [am_put_ne e d _ p hn.1, List.getElem?_set_self hk]
  | p :: e, x :: d, D, j + 1, k, hn, h, hk, hj => by
    rw [List.getElem?_cons_succ] at h
    simp only [va_nd, Bool.and_eq_true, decide_eq_true_eq] at hn
    show (am_put e d (D.set p x))[k]? = d[j]?
    exact am_put_at e d _ j k hn.2 h (by rw [List.length_set]; exact hk) (by simp only [List.length_cons] at hj; omega)
theorem am_ce_mt (cA : ClassId) (ad : Nat → Nat) (e : List Nat) (t : am_T) (d : am_C) : am_ce cA ad (am_mt e t) d = am_ce cA (fun i => ad (e.getD i 0)) t d := by
  have key : ∀ (xs : List Int32) (fs : List (Nat ⊕ Nat)), (fs.map (fun f => match f with
      | .inl i => (.inl i : Nat ⊕ Nat)
      | .inr q => .inr (e.getD q 0))).map (am_fv ad xs) = fs.map (am_fv (fun i => ad (e.getD i 0)) xs) := by
    intro xs fs
    rw [List.map_map]
    apply List.map_congr_left
    intro f _
    cases f <;> rfl
  cases t with
  | inl n => cases d <;> rfl
  | inr o =>
    cases d with
    | inl xs => exact congrArg (fun z => (Sum.inr (o.1, z) : va_E)) (key xs o.2)
    | inr f => exact congrArg (fun z => (Sum.inr (o.1, z) : va_E)) (key [] o.2)
theorem am_fit_at {e fe : List Nat} {sh' sh : am_S} (h : am_fit e fe sh' sh = true) : va_nd e = true ∧ e.length = sh'.length ∧ ∀ (j p : Nat), e[j]? = some p → fe.getD j 0 = p ∧ ∃ t, sh'[j]? = some t ∧ sh[p]? = some (am_mt fe t) := by
  simp only [am_fit, Bool.and_eq_true, decide_eq_true_eq] at h
  obtain ⟨⟨h1, h0⟩, h2⟩ := h
  have hl : e.length = sh'.length := by
    have := congrArg List.length h2
    simpa using this
  refine ⟨h1, hl, fun j p hj => ⟨by rw [List.getD_eq_getElem?_getD, am_pre2_at e fe h0 j p hj]; rfl, ?_⟩⟩
  have h3 : (e.map (fun p => sh[p]?))[j]? = (sh'.map (fun t => some (am_mt fe t)))[j]? := by rw [h2]
  rw [List.getElem?_map, List.getElem?_map, hj] at h3
  cases ht : sh'[j]? with
  | none => rw [ht] at h3; cases h3
  | some t =>
    rw [ht] at h3
    exact ⟨t, rfl, Option.some.inj h3⟩
theorem am_sub_eq {cA : ClassId} {ad : Nat → Nat} {e fe : List Nat} {sh' sh : am_S} {D : am_D} (h : am_fit e fe sh' sh = true) (hD : D.length = sh.length) : e.map (fun i => (am_w cA ad 0 sh D)[i]?) = (am_w cA (fun i => ad (fe.getD i 0)) 0 sh' (e.map (fun p => D.getD p (.inl [])))).map some := by
  obtain ⟨h1, h2, h3⟩ := am_fit_at h
  apply List.ext_getElem?
  intro j
  rw [List.getElem?_map, List.getElem?_map]
  cases hj : e[j]? with
  | none =>
    have hlt : e.length ≤ j := List.getElem?_eq_none_iff.mp hj
    cases hw : (am_w cA (fun i => ad (fe.getD i 0)) 0 sh' (e.map (fun p => D.getD p (.inl []))))[j]? with
    | none => rfl
    | some q =>
      obtain ⟨t, d, a1, -, -⟩ := am_w_inv _ _ _ _ _ _ _ hw
      have := (List.getElem?_eq_some_iff.mp a1).1
      omega
  | some p =>
    obtain ⟨a0, t, a1, a2⟩ := h3 j p hj
    have hp : p < D.length := by rw [hD]; exact (List.getElem?_eq_some_iff.mp a2).1
    have hd : D[p]? = some (D.getD p (.inl [])) := by
      rw [List.getD_eq_getElem?_getD, List.getElem?_eq_getElem hp]; rfl
    have g1 := am_w_get cA ad sh D 0 p _ _ a2 hd
    have g2 := am_w_get cA (fun i => ad (fe.getD i 0)) sh' (e.map (fun p => D.getD p (.inl []))) 0 j t (D.getD p (.inl [])) a1 (by rw [List.getElem?_map, hj]; rfl)
    rw [g2]
    show some ((am_w cA ad 0 sh D)[p]?) = _
    rw [g1, am_ce_mt]
    simp only [Option.map_some, Nat.zero_add]
    rw [a0]
theorem am_ag_av {ad : Nat → Nat} {e : List Nat} : ∀ (pat : List (Option Nat)) (as : List am_V) (is : List Int32), am_ag e pat as = some is → am_av (fun i => ad (e.getD i 0)) pat is = as.map (am_cv ad) ∧ is.length = (pat.filter Option.isNone).length ∧ as.length = pat.length
  | [], [], is, h => by cases h; exact ⟨rfl, rfl, rfl⟩
  | [], _ :: _, _, h => by cases h
  | none :: pat, [], _, h => by cases h
  | some q :: pat, [], _, h => by cases h
  | none :: pat, .inr p :: as, _, h => by cases h
  | some q :: pat, .inl x :: as, _, h => by cases h
  | none :: pat, .inl x :: as, is, h => by
    simp only [am_ag, Option.map_eq_some_iff] at h
    obtain ⟨is', h1, rfl⟩ := h
    obtain ⟨a1, a2, a3⟩ := am_ag_av pat as is' h1
    refine ⟨?_, ?_, ?_⟩
    · show Value.int x :: am_av _ pat is' = Value.int x :: as.map (am_cv ad)
      rw [a1]
    · simp [a2]
    · simp [a3]
  | some q :: pat, .inr p :: as, is, h => by
    simp only [am_ag] at h
    split at h
    next hq =>
      obtain ⟨a1, a2, a3⟩ := am_ag_av (ad := ad) pat as is h
      refine ⟨?_, ?_, ?_⟩
      · show Value.ref (ad (e.getD q 0)) :: am_av _ pat is = Value.ref (ad p) :: as.map (am_cv ad)
        rw [a1, List.getD_eq_getElem?_getD, hq]; rfl
      · simp [a2]
      · simp [a3]
    next => cases h
theorem am_D_alike {cA : ClassId} {ad : Nat → Nat} {A : Nat → Prop} {sh : am_S} {D D' : am_D} (h : va_D A (am_w cA ad 0 sh D)) (hl : D.length = sh.length) : va_D A (am_w cA ad 0 sh D') := by
  have key : ∀ (k : Nat) (q : Nat × va_E), (am_w cA ad 0 sh D')[k]? = some q → ∃ q0 : Nat × va_E, (am_w cA ad 0 sh D)[k]? = some q0 ∧ q0.1 = q.1 := by
    intro k q hk
    obtain ⟨t, d, a1, a2, a3⟩ := am_w_inv _ _ _ _ _ _ _ hk
    have hlt : k < D.length := by rw [hl]; exact (List.getElem?_eq_some_iff.mp a1).1
    have g := am_w_get cA ad sh D 0 k t _ a1 (List.getElem?_eq_getElem hlt)
    exact ⟨_, g, by rw [a3]⟩
  refine ⟨fun i j x y hi hj hxy => ?_, fun k q hk => ?_⟩
  · obtain ⟨x0, b1, b2⟩ := key i x hi
    obtain ⟨y0, b3, b4⟩ := key j y hj
    exact h.1 i j x0 y0 b1 b3 (b2.trans (hxy.trans b4.symm))
  · obtain ⟨q0, b1, b2⟩ := key k q hk
    rw [← b2]
    exact h.2 k q0 b1
theorem am_pre_call {dC : Nat → ClassId} {dI : Nat → Nat → Nat} {cA : ClassId} {ad : Nat → Nat} {sh : am_S} {D : am_D} {sz : Nat} {av : List Value} : FrameBlind (va_Pc av (am_pre dC dI cA ad sh D sz)) := by
  intro a U g mk h
  obtain ⟨h0, h1, h2, h3, h4, h5⟩ := h
  exact ⟨h0, h1, h2, va_K.moved (u := U) (U := U.calling g mk a) (Vm.Alike.refl U.vm) h3, h4, am_Z.same (s := U) (U := U.calling g mk a) rfl h5⟩
/-- what a method's body may lean on when it calls -/
def am_cx (X : am_X) (own : String) (cc : ByteArray) (nL fr lo : Nat) : Prop := match X with
  | (p, l, e, R, s, m, args, below, meth, c, Q, cells, slots, dC, dI, cA, ad, A) => p.tables.exec = Jvm.exec ∧ c.code = cc ∧ c.maxLocals = nL ∧ s.vm.findClass own = some m.cls ∧ (∀ w ∈ am_gt, w.before args s = true) ∧ va_K (dC, dI) vwCl [(cA, .int)] s ∧ am_Z A s s.heap ∧ (∀ q, s.heap.size ≤ q → A q) ∧ cells ≤ R.cells ∧ slots ≤ R.slots ∧ fr ≤ R.frames ∧ lo ≤ R.locals ∧ ∃ adK adV : Nat → Nat, ad 998 = adK 0 ∧ vk_S 1 [6] [[99, 107, 112, 115, 108, 116]] adK adV A s s.heap
def am_csok (X : am_X) (nL : Nat) (sh : am_S) (pc : Nat) (f : List am_V → am_D → am_K → Prop) : Prop := ∀ (st : List am_V) (D : am_D) (k : am_K) (ls : am_L), f st D k → (∀ st' D', k st' D' → am_aw X nL sh (pc + 3) ls st' D') → am_aw X nL sh pc ls st D
/-- the words of a call -/
def am_lkV (own : String) (ix : Nat) (y : MethodName) : Prop := Cond.methodLink own ix y ∈ am_gt ∧ Cond.instanceMethod y ∈ am_gt ∧ Cond.selects y.cls y y ∈ am_gt ∧ Cond.initialized y.cls ∈ am_gt
def am_lkS (own : String) (ix : Nat) (y : MethodName) : Prop := Cond.methodLink own ix y ∈ am_gt ∧ Cond.static y ∈ am_gt ∧ Cond.initialized y.cls ∈ am_gt
/-- a method's own: its code's word, its name is a plain one -/
def am_mok (y : MethodName) (cc : ByteArray) (nL : Nat) (ret : Option FieldType) (np : Nat) : Prop := Cond.code y cc nL ret ∈ am_gt ∧ y.cls ≠ "java/lang/invoke/MethodHandle" ∧ y.cls ≠ "java/lang/invoke/VarHandle" ∧ (parseMethodDescriptor y.desc).map (fun d => d.parameters.length) = some np
set_option maxHeartbeats 1000000 in
/-- what comes behind a call -/
theorem am_after {p : Program} {l : Launch} {e : Env} {R : Room} {s : State} {m : MethodId} {args : Array Value} {below : List Frame} {meth : Method} {c : Code} {Q : State → Prop} {cells slots : Nat} {dC : Nat → ClassId} {dI : Nat → Nat → Nat} {cA : ClassId} {ad : Nat → Nat} {A : Nat → Prop} {H : Heap} {locs : List Loc} {lc : Array Slot} {nL pc : Nat} {sh sh' : am_S} {el fl : List Nat} {D : am_D} {k : am_K} {ls : am_L} {rest : List am_V} {st0 : List Value} {aa : Array Value}
    (hfit : am_fit el fl sh' sh = true) (hP : va_P (dC, dI) vwCl (am_w cA ad 0 sh D) H) (hD : va_D A (am_w cA ad 0 sh D)) (hS : va_S A s.heap H locs) (hsz : D.length = sh.length) (hlen : ls.length = nL) (hl : lv_has lc nL (am_lp ad 0 ls)) (hA : ∀ q, s.heap.size ≤ q → A q)
    (hr : va_Run p l e R s m args below meth c H locs cells slots 0 0 (F0 m pc lc st0) (rest.map (am_cv ad)) (am_post dC dI cA (fun i => ad (fl.getD i 0)) sh' (va_A (am_w cA (fun i => ad (fl.getD i 0)) 0 sh' (el.map (fun p => D.getD p (.inl [])))) H.size) (fun rs d => k (rs.map .inl ++ rest) (am_put el d D)) aa) (va_A (am_w cA (fun i => ad (fl.getD i 0)) 0 sh' (el.map (fun p => D.getD p (.inl [])))) H.size))
    (hn : ∀ st' D', k st' D' → am_aw (p, l, e, R, s, m, args, below, meth, c, Q, cells, slots, dC, dI, cA, ad, A) nL sh (pc + 3) ls st' D') : W p l e R s m args below meth c H locs cells slots Q (F0 m pc lc st0) := by
  have hsub := am_sub_eq (cA := cA) (ad := ad) hfit hsz
  have hFc := va_free hD hS hA el hsub
  obtain ⟨f1, f2, f3⟩ := am_fit_at hfit
  generalize hwc : am_w cA (fun i => ad (fl.getD i 0)) 0 sh' (el.map (fun p => D.getD p (.inl []))) = wc at hr hsub hFc
  intro T hT X
  obtain ⟨v, st₀, t, T', L, h0, X', hL, e1, e2, ⟨⟨rs, d, hv, hr1, hk', hdl, hP1, hD1⟩, hz, hkp⟩, st⟩ := hr T hT X
  have hv : v = rs.head?.map Value.int := by injection hv
  rw [h0] at hz hkp
  have apart : ∀ (i : Nat) (q : Nat × va_E), (am_w cA ad 0 sh D)[i]? = some q → i ∉ el → ¬ va_A wc H.size q.1 := by
    intro i q hi hie h
    rcases h with ⟨k2, e9, h⟩ | h
    · have h5 : (wc.map some)[k2]? = some (some (q.1, e9)) := by rw [List.getElem?_map, h]; rfl
      rw [← hsub, List.getElem?_map] at h5
      cases hk2 : el[k2]? with
      | none => rw [hk2] at h5; cases h5
      | some j =>
        rw [hk2] at h5
        have h6 : (am_w cA ad 0 sh D)[j]? = some (q.1, e9) := Option.some.inj h5
        have hij := hD.1 i j q (q.1, e9) hi h6 rfl
        subst hij
        exact hie (List.mem_of_getElem? hk2)
    · exact absurd (hP i q hi).lt (by omega)
  have hP2 : va_P (dC, dI) vwCl (am_w cA ad 0 sh (am_put el d D)) T'.heap := by
    intro i q hi
    obtain ⟨t9, d9, a1, a2, a3⟩ := am_w_inv _ _ _ _ _ _ _ hi
    rw [Nat.zero_add] at a3
    by_cases hie : i ∈ el
    · obtain ⟨j, hj⟩ := List.getElem?_of_mem hie
      obtain ⟨b0, t8, b1, b2⟩ := f3 j i hj
      rw [a1] at b2
      cases b2
      have hjl : j < d.length := by rw [hdl]; exact (List.getElem?_eq_some_iff.mp b1).1
      have hiD : i < D.length := by rw [hsz]; exact (List.getElem?_eq_some_iff.mp a1).1
      rw [am_put_at el d D j i f1 hj hiD hjl] at a2
      have g2 := am_w_get cA (fun i => ad (fl.getD i 0)) sh' d 0 j t8 d9 b1 a2
      have g3 := hP1 j _ g2
      rw [← am_ce_mt] at g3
      have hje : fl.getD (0 + j) 0 = i := by rw [Nat.zero_add]; exact b0
      try dsimp only at g3
      rw [hje] at g3
      rw [a3, e1]
      exact g3
    · rw [am_put_ne el d D i hie] at a2
      have g := am_w_get cA ad sh D 0 i t9 d9 a1 a2
      rw [Nat.zero_add] at g
      rw [a3]
      refine (hP i _ g).kept ?_
      rw [e1]
      exact hkp _ (hP i _ g).lt (apart i _ g hie)
  have hD2 : va_D A (am_w cA ad 0 sh (am_put el d D)) := am_D_alike hD hsz
  have hS2 : va_S A s.heap T'.heap (locs ++ L) := ⟨Nat.le_trans hS.1 (by rw [e1]; exact hz), fun q h1 h2 => by rw [e1, hkp q (Nat.lt_of_lt_of_le h1 hS.1) (fun z => h2 (hFc q z))]; exact hS.2.1 q h1 h2, fun q hq => by
      rcases List.mem_append.mp hq with h | h
      · exact hS.2.2 q h
      · exact hFc _ (hL q h)⟩
  obtain ⟨t2, a1, b1⟩ := hn _ _ hk' T'.heap (locs ++ L) lc hP2 hD2 hS2 (by rw [am_put_len]; exact hsz) hlen hl T' rfl X'
  refine ⟨t2, st t2 ?_, b1⟩
  have hst : (rs.map Sum.inl ++ rest).map (am_cv ad) = v.toList ++ rest.map (am_cv ad) := by
    rw [hv]
    rcases rs with _ | ⟨x, _ | ⟨y, r⟩⟩
    · rfl
    · rfl
    · simp at hr1
  rw [hst] at a1
  exact a1
theorem am_pre_of {s : State} {dC : Nat → ClassId} {dI : Nat → Nat → Nat} {cA : ClassId} {ad : Nat → Nat} {A : Nat → Prop} {H : Heap} {locs : List Loc} {sh sh' : am_S} {el fl : List Nat} {D : am_D}
    (hfit : am_fit el fl sh' sh = true) (hK : va_K (dC, dI) vwCl [(cA, .int)] s) (hP : va_P (dC, dI) vwCl (am_w cA ad 0 sh D) H) (hD : va_D A (am_w cA ad 0 sh D)) (hS : va_S A s.heap H locs) (hsz : D.length = sh.length) (hA : ∀ q, s.heap.size ≤ q → A q) (hZ : am_Z A s s.heap) :
    va_P (dC, dI) vwCl (am_w cA (fun i => ad (fl.getD i 0)) 0 sh' (el.map (fun p => D.getD p (.inl [])))) H ∧ ∀ U : State, U.heap = H → s.WarmedH U.vm → am_pre dC dI cA (fun i => ad (fl.getD i 0)) sh' (el.map (fun p => D.getD p (.inl []))) H.size U := by
  have hsub := am_sub_eq (cA := cA) (ad := ad) hfit hsz
  have hFc := va_free hD hS hA el hsub
  obtain ⟨f1, f2, f3⟩ := am_fit_at hfit
  have hPc : va_P (dC, dI) vwCl (am_w cA (fun i => ad (fl.getD i 0)) 0 sh' (el.map (fun p => D.getD p (.inl [])))) H := by
    intro k q hk
    have h1 : (el.map (fun i => (am_w cA ad 0 sh D)[i]?))[k]? = some (some q) := by rw [hsub, List.getElem?_map, hk]; rfl
    rw [List.getElem?_map] at h1
    cases hi : el[k]? with
    | none => rw [hi] at h1; cases h1
    | some i => rw [hi] at h1; exact hP i q (Option.some.inj h1)
  have hDc := hD.sub el f1 hsub
  refine ⟨hPc, fun U hU hW => ⟨by rw [hU], by rw [hU]; exact hPc, va_K.moved hW.alike hK, hDc.weaken (fun _ _ _ _ => trivial), ?_⟩⟩
  rw [hU]
  exact ((hZ.kept hS.2.1).narrow hFc).warm hW
set_option maxHeartbeats 1000000 in
theorem am_callV {X : am_X} {own : String} {cc cc' : ByteArray} {nL nL' fr lo fr' lo' n ix pc q0 ci np : Nat} {sh sh' : am_S} {y : MethodName} {ret : Option FieldType} {pat : List (Option Nat)} {T : List Int32 → am_D → (List Int32 → am_D → Prop) → Prop} {el fl : List Nat} {fs : List (Nat ⊕ Nat)} {F : u_T} {N : Nat}
    (hX : am_cx X own cc nL fr lo) (C : am_ctr y cc' nL' ret fr' lo' sh' (some q0 :: pat) T) (hm : am_mok y cc' nL' ret np) (hnp : pat.length = np) (hlk : am_lkV own ix y) (hd : decode cc pc = .ok (.invokevirtual ix, 3)) (hfit : am_fit el fl sh' sh = true) (hq0 : sh'[q0]? = some (.inr (ci, fs))) (hci : vwCl[ci]? = some (y.cls, F, N)) (hR : fr' + 1 ≤ fr ∧ 8 + (nL' + 11) + lo' ≤ lo) :
    am_csok X nL sh pc (am_site n (some q0 :: pat) T el fl) := by
  obtain ⟨p, l, e, R, s, m, args, below, meth, c, Q, cells, slots, dC, dI, cA, ad, A⟩ := X
  obtain ⟨hx, hb, hml, hown, hts, hK, hZ, hA, hc1, hc2, hR1, hR2, -⟩ := hX
  intro st D k ls h hn H locs lc hP hD hS hsz hlen hl
  unfold am_site at h
  cases hag : am_ag fl (some q0 :: pat) (st.take n).reverse with
  | none => rw [hag] at h; exact h.elim
  | some is =>
    rw [hag] at h
    obtain ⟨h8, hT⟩ := h
    obtain ⟨a1, a2, a3⟩ := am_ag_av (ad := ad) _ _ _ hag
    obtain ⟨f1, f2, f3⟩ := am_fit_at hfit
    obtain ⟨hPc, hpre⟩ := am_pre_of hfit hK hP hD hS hsz hA hZ
    have hM := C l dC dI cA (fun i => ad (fl.getD i 0)) H.size is _ _ hT a2 (by rw [List.length_map]; exact f2)
    obtain ⟨m1, m2, m3, m4⟩ := hm
    obtain ⟨k1, k2, k3, k4⟩ := hlk
    have hG : GoodIn am_gt (.code y cc' nL' ret :: am_gt) := am_gok (fun _ h => h) m1
    have cB : CallB R s args own ix y cc' nL' ret (.code y cc' nL' ret :: am_gt) { frames := fr', cells := 0, slots := 0, locals := lo' } 0 0 np := callB_of np hts hG rfl rfl rfl (hts _ k4) (hts _ k1) ⟨m2, m3, m4⟩ ⟨Nat.le_trans hR.1 hR1, Nat.le_trans hR.2 hR2⟩
    obtain ⟨As, hAs⟩ : ∃ As, As = am_av (fun i => ad (fl.getD i 0)) pat is := ⟨_, rfl⟩
    have hav : am_av (fun i => ad (fl.getD i 0)) (some q0 :: pat) is = .ref (ad (fl.getD q0 0)) :: As := by rw [hAs]; rfl
    rw [hav] at hM a1
    have hAl : As.length = np := by
      have := congrArg List.length a1
      simp only [List.length_cons, List.length_map, a3] at this
      omega
    have hstk : st.map (am_cv ad) = As.reverse ++ .ref (ad (fl.getD q0 0)) :: (st.drop n).map (am_cv ad) := by
      have e3 : (st.take n).map (am_cv ad) = As.reverse ++ [.ref (ad (fl.getD q0 0))] := by
        have := congrArg List.reverse a1
        rw [List.map_reverse, List.reverse_reverse, List.reverse_cons] at this
        exact this.symm
      conv => lhs; rw [← List.take_append_drop n st]
      rw [List.map_append, e3, List.append_assoc]
      rfl
    have hd0 : (el.map (fun p => D.getD p (.inl [])))[q0]? = some ((el.map (fun p => D.getD p (.inl []))).getD q0 (.inl [])) := by
      have hlt : q0 < (el.map (fun p => D.getD p (.inl []))).length := by rw [List.length_map, f2]; exact (List.getElem?_eq_some_iff.mp hq0).1
      rw [List.getD_eq_getElem?_getD, List.getElem?_eq_getElem hlt]; rfl
    have hrecv : ∃ cell : Cell, H[ad (fl.getD q0 0)]? = some cell ∧ cell.vm.isStatics = false ∧ s.vm.findClass y.cls = some cell.cls := by
      have g := am_w_get cA (fun i => ad (fl.getD i 0)) sh' _ 0 q0 _ _ hq0 hd0
      rw [Nat.zero_add] at g
      generalize (el.map (fun p => D.getD p (.inl []))).getD q0 (.inl []) = dd at g
      cases dd with
      | inl xs => exact va_recv hK hPc hci g
      | inr f => exact va_recv hK hPc hci g
    have hsum : (((st.drop n).map (am_cv ad)).map fun v => v.category).sum ≤ 8 := by
      have e5 : ∀ r : List am_V, ((r.map (am_cv ad)).map fun v => v.category).sum = r.length := by
        intro r
        induction r with
        | nil => rfl
        | cons v r ih =>
          have hv : (am_cv ad v).category = 1 := by cases v <;> rfl
          simp only [List.map_cons, List.sum_cons, List.length_cons, hv, ih]
          omega
      rw [e5]
      exact h8
    have hrun := va_runV (nL := nL) (b := ad (fl.getD q0 0)) (As := As) (rest := (st.drop n).map (am_cv ad)) (g := F0 m pc lc (st.map (am_cv ad))) (H := H) (locs := locs) (cells := cells) (slots := slots) (Ts := am_gt) (C := y.cls) (e := e) (below := below) (meth := meth) ⟨hx, hb, hml, hown, hts⟩ hM ⟨cB, hts _ k2, hts _ k3⟩ ⟨am_pre_call, hrecv, fun U hU hW => ⟨rfl, hpre U hU hW⟩⟩ rfl hAl hl.1 hstk (lv_room hsum) hd ⟨by omega, by omega⟩
    exact am_after hfit hP hD hS hsz hlen hl hA hrun hn
set_option maxHeartbeats 1000000 in
theorem am_callS {X : am_X} {own : String} {cc cc' : ByteArray} {nL nL' fr lo fr' lo' n ix pc np : Nat} {sh sh' : am_S} {y : MethodName} {ret : Option FieldType} {pat : List (Option Nat)} {T : List Int32 → am_D → (List Int32 → am_D → Prop) → Prop} {el fl : List Nat}
    (hX : am_cx X own cc nL fr lo) (C : am_ctr y cc' nL' ret fr' lo' sh' pat T) (hm : am_mok y cc' nL' ret np) (hnp : pat.length = np) (hlk : am_lkS own ix y) (hd : decode cc pc = .ok (.invokestatic ix, 3)) (hfit : am_fit el fl sh' sh = true) (hR : fr' + 1 ≤ fr ∧ 8 + (nL' + 11) + lo' ≤ lo) :
    am_csok X nL sh pc (am_site n pat T el fl) := by
  obtain ⟨p, l, e, R, s, m, args, below, meth, c, Q, cells, slots, dC, dI, cA, ad, A⟩ := X
  obtain ⟨hx, hb, hml, hown, hts, hK, hZ, hA, hc1, hc2, hR1, hR2, -⟩ := hX
  intro st D k ls h hn H locs lc hP hD hS hsz hlen hl
  unfold am_site at h
  cases hag : am_ag fl pat (st.take n).reverse with
  | none => rw [hag] at h; exact h.elim
  | some is =>
    rw [hag] at h
    obtain ⟨h8, hT⟩ := h
    obtain ⟨a1, a2, a3⟩ := am_ag_av (ad := ad) _ _ _ hag
    obtain ⟨f1, f2, f3⟩ := am_fit_at hfit
    obtain ⟨hPc, hpre⟩ := am_pre_of hfit hK hP hD hS hsz hA hZ
    have hM := C l dC dI cA (fun i => ad (fl.getD i 0)) H.size is _ _ hT a2 (by rw [List.length_map]; exact f2)
    obtain ⟨m1, m2, m3, m4⟩ := hm
    obtain ⟨k1, k2, k4⟩ := hlk
    have hG : GoodIn am_gt (.code y cc' nL' ret :: am_gt) := am_gok (fun _ h => h) m1
    have cB : CallB R s args own ix y cc' nL' ret (.code y cc' nL' ret :: am_gt) { frames := fr', cells := 0, slots := 0, locals := lo' } 0 0 np := callB_of np hts hG rfl rfl rfl (hts _ k4) (hts _ k1) ⟨m2, m3, m4⟩ ⟨Nat.le_trans hR.1 hR1, Nat.le_trans hR.2 hR2⟩
    obtain ⟨As, hAs⟩ : ∃ As, As = am_av (fun i => ad (fl.getD i 0)) pat is := ⟨_, rfl⟩
    rw [← hAs] at hM a1
    have hAl : As.length = np := by
      have := congrArg List.length a1
      simp only [List.length_map, a3] at this
      omega
    have hstk : st.map (am_cv ad) = As.reverse ++ (st.drop n).map (am_cv ad) := by
      have e3 : (st.take n).map (am_cv ad) = As.reverse := by
        have := congrArg List.reverse a1
        rw [List.map_reverse, List.reverse_reverse] at this
        exact this.symm
      conv => lhs; rw [← List.take_append_drop n st]
      rw [List.map_append, e3]
    have hsum : (((st.drop n).map (am_cv ad)).map fun v => v.category).sum ≤ 8 := by
      have e5 : ∀ r : List am_V, ((r.map (am_cv ad)).map fun v => v.category).sum = r.length := by
        intro r
        induction r with
        | nil => rfl
        | cons v r ih =>
          have hv : (am_cv ad v).category = 1 := by cases v <;> rfl
          simp only [List.map_cons, List.sum_cons, List.length_cons, hv, ih]
          omega
      rw [e5]
      exact h8
    have hrun := va_runS (nL := nL) (As := As) (rest := (st.drop n).map (am_cv ad)) (g := F0 m pc lc (st.map (am_cv ad))) (H := H) (locs := locs) (cells := cells) (slots := slots) (Ts := am_gt) (e := e) (below := below) (meth := meth) ⟨hx, hb, hml, hown, hts⟩ hM ⟨cB, hts _ k2⟩ ⟨am_pre_call, fun U hU hW => ⟨rfl, hpre U hU hW⟩⟩ rfl hAl hl.1 hstk (lv_room hsum) hd ⟨by omega, by omega⟩
    exact am_after hfit hP hD hS hsz hlen hl hA hrun hn
