/-! THE CLAIM OUT OF ONE WALK OF THE LAW'S BODY. Your part is whole_start (and what it stands on); all else here is the same for every law, but numbers. -/
def R_law : String := "OneFromEachLaneLaw"
def lw_P (b : Addr) (xs : List Int32) (args : Array Value) (s : State) : Prop := args = #[.ref b] ∧ s.IntsAt b xs ∧ xs.length ≤ 2048 ∧ (Jvm.Cond.and given_1 narrow_1).before args s = true
def lw_Q (_ : Array Value) (s : State) (o : Outcome) (t : State) : Prop := o = .returned (some (.int 1)) ∧ Framed s o t [] 73 951
def lw_Z (below : List Frame) (a : Array Value) (s : State) : State → Prop := fun t => ∃ o, t.status = .running ∧ Ended t below o ∧ lw_Q a s o t
/-- the law's own end, with 1 on the stack, nothing written that was there before, its room as the claim has it -/
theorem lw_ret {p : Program} {l : Launch} {e : Env} {s : State} {m : MethodId} {below : List Frame} {meth : Method} {c : Code} {b : Nat} (hx : p.tables.exec = Jvm.exec) (hb : c.code = code) (hr : meth.sig.returnType = ret) (hlocks : meth.locks = false) {pc : Nat} {H : Heap} {ls : Array Slot} (hdg : decode code pc = .ok (.ireturn, 1)) : W p l e room_1 s m #[Value.ref b] below meth c H [] 73 951 (lw_Z below #[Value.ref b] s) (F0 m pc ls [.int 1]) := by
  intro T hT X
  obtain ⟨fs, hret, hrun, hended, hW, hframe⟩ := X.leave (v := some (.int 1)) (hlocks := hlocks) (fun h => by rw [hr] at h; cases h)
  have hmeth' : T.vm.method? m = some meth := X.method'
  refine ⟨T.setFrames fs, ?_, .returned (some (.int 1)), hrun, hended, rfl, ⟨_, rfl⟩, hW, hframe⟩
  jvm_step X.here [X.here.top, hx, hb, hdg, hmeth', hr, ret, narrow_b1]
  (try refine ⟨rfl, ?_⟩); (try refine ⟨rfl, ?_⟩)
  first | (intro acts; rw [hret _ acts rfl rfl rfl]) | rw [hret _ _ rfl rfl rfl]
  exact Steps.refl _
/-- what holds at the law's entry: the machine, the code, the tables' words (any of lw_tbl by 'hts w (by decide +kernel)'), the script of L ints xs at the cell b, what the Statement gives of the start (any of its parts by flat_of_before) -/
def lw_At (p : Program) (s : State) (m : MethodId) (meth : Method) (c : Code) (b L : Nat) (xs : Nat → Int32) : Prop :=
  p.tables.exec = Jvm.exec ∧ c.code = code ∧ meth.sig.returnType = ret ∧ c.maxLocals = 4 ∧ s.vm.findClass R_law = some m.cls ∧ (∀ w ∈ lw_tbl, w.before #[Value.ref b] s = true) ∧ va_X b L xs s s.heap ∧ b < s.heap.size ∧ meth.locks = false ∧ (Jvm.Cond.and given_1 narrow_1).before #[Value.ref b] s = true

/-- the classes' numbers -/
theorem lw_cls {args : Array Value} {s : State} (hts : ∀ w ∈ am_gt, w.before args s = true) : ∃ (dC : Nat → ClassId) (dI : Nat → Nat → Nat), ∀ (k : Nat) (q : vw_C), vwCl[k]? = some q → u_Kn s q.1 q.2.1 q.2.2 (dC k) (dI k) := by
  obtain ⟨c0, i0, k0⟩ := u_known (C := RX0) (T := TX0) (N := 2) (n := 2) hts am_inw_X0 (hts _ iv_X0)
  obtain ⟨c1, i1, k1⟩ := u_known (C := RX1) (T := TX1) (N := 5) (n := 5) hts am_inw_X1 (hts _ iv_X1)
  obtain ⟨c2, i2, k2⟩ := u_known (C := RX3) (T := TX3) (N := 14) (n := 14) hts am_inw_X3 (hts _ iv_X3)
  obtain ⟨c3, i3, k3⟩ := u_known (C := RX4) (T := TX4) (N := 8) (n := 8) hts am_inw_X4 (hts _ iv_X4)
  obtain ⟨c4, i4, k4⟩ := u_known (C := RX5) (T := TX5) (N := 2) (n := 2) hts am_inw_X5 (hts _ iv_X5)
  obtain ⟨c5, i5, k5⟩ := u_known (C := RX6) (T := TX6) (N := 11) (n := 11) hts am_inw_X6 (hts _ iv_X6)
  obtain ⟨c6, i6, k6⟩ := u_known (C := RX7) (T := TX7) (N := 27) (n := 27) hts am_inw_X7 (hts _ iv_X7)
  refine ⟨fun k => [c0, c1, c2, c3, c4, c5, c6].getD k c0, fun k => [i0, i1, i2, i3, i4, i5, i6].getD k i0, ?_⟩
  intro k q hq
  match k, hq with
  | 0, hq => cases hq; exact k0
  | 1, hq => cases hq; exact k1
  | 2, hq => cases hq; exact k2
  | 3, hq => cases hq; exact k3
  | 4, hq => cases hq; exact k4
  | 5, hq => cases hq; exact k5
  | 6, hq => cases hq; exact k6
  | k + 7, hq => simp [vwCl] at hq
theorem lw_arr {args : Array Value} {s : State} (hts : ∀ w ∈ am_gt, w.before args s = true) : ∃ cA : ClassId, ArrOfT s cA .int ∧ va_RA s cA .int := by
  obtain ⟨cA, kA, comp, h1, h2, h3⟩ := Cond.arrayClass_spec (hts _ iz_ai)
  exact ⟨cA, fun n z => ⟨fun k h => (by cases h), kA, h2, comp, h3⟩, h1⟩
theorem lw_Zt {b : Nat} {s : State} {A : Nat → Prop} (hts0 : ∀ w ∈ lw_tbl, w.before #[Value.ref b] s = true) (hgv : (Jvm.Cond.and given_1 narrow_1).before #[Value.ref b] s = true) (hA : ∀ a : Nat, a < s.heap.size → ¬ A a) : am_Z A s s.heap := by
  have hs := flat_of_before _ hgv
  obtain ⟨adK, adV, h1, h2⟩ := vk_Sof (args := #[Value.ref b]) (s := s) (N := 1) (tm := fun _ => Term.string "OneFromEachLane$Text" 53) (len := [6]) (byt := [[99, 107, 112, 115, 108, 116]]) (A := A) (fun i hi => by
      rw [show i = 0 by omega]; decide) (fun i _ => hs _ (by decide +kernel)) (fun i _ => hs _ (by decide +kernel)) (fun i _ => hs _ (by decide +kernel)) (fun i hi => by
      rw [show i = 0 by omega]; exact hs _ (by decide +kernel)) (fun i hi j hj => by
      have hi0 : i = 0 := by omega
      subst hi0
      have hj6 : j < 6 := hj
      rcases (show j = 0 ∨ j = 1 ∨ j = 2 ∨ j = 3 ∨ j = 4 ∨ j = 5 by omega) with rfl | rfl | rfl | rfl | rfl | rfl <;> exact hs _ (by decide +kernel)) (fun i j hi hj hne => absurd (show i = j by omega) hne) hA
  have h3 := h2 0 (by decide)
  have h4 := va_eqR (t := Term.string "OneFromEachLane$Text" 53) (u := Term.string "OneFromEachLaneModel" 80) (hs _ (by decide +kernel)) h3
  exact ⟨va_Zof (hts0 _ (by decide +kernel)) (hts0 _ (by decide +kernel)) (va_eqi (hs _ (by decide +kernel))) hA, adK, adV, h1, vk_R.of (hts0 _ (by decide +kernel)) h3, vk_R.of (hts0 _ (by decide +kernel)) h4⟩
section IZL
variable {X : iz_X} {own : String} {cc : ByteArray} {nL fr lo mc ms : Nat} {lc : Array Slot} {ws : va_W} {ce sl pc q : Nat} {st : List Value}
theorem iz_astore (O : iz_ok X own cc nL fr lo mc ms) {k : Fin 4} {i x : Nat} {lv lv' : List (Nat × Value)} (hd : decode cc pc = .ok (.astore_n k, 1)) (hi : (k : Nat) = i) (h : lv_has lc nL lv) (hn : i < nL) (hl : (i, Value.ref x) :: lv.filter (fun q => !(q.1 == i) && !(q.1 + 1 == i && q.2.category == 2)) = lv') (hq : pc + 1 = q) (kk : ∀ lc' : Array Slot, lv_has lc' nL lv' → iz_aw X lc' ws ce sl q st) : iz_aw X lc ws ce sl pc (.ref x :: st) := by
  obtain ⟨p, l, e, R, s, m, args, below, meth, c, Q, dC, dI, cA, A⟩ := X
  subst hq
  intro H locs hP hD hS
  exact lv_astore_n O.1 O.2.1 hd hi h hn hl (fun lc' hl' => kk lc' hl' H locs hP hD hS)
theorem iz_istore (O : iz_ok X own cc nL fr lo mc ms) {k : Fin 4} {i : Nat} {x : Int32} {lv lv' : List (Nat × Value)} (hd : decode cc pc = .ok (.istore_n k, 1)) (hi : (k : Nat) = i) (h : lv_has lc nL lv) (hn : i < nL) (hl : (i, Value.int x) :: lv.filter (fun q => !(q.1 == i) && !(q.1 + 1 == i && q.2.category == 2)) = lv') (hq : pc + 1 = q) (kk : ∀ lc' : Array Slot, lv_has lc' nL lv' → iz_aw X lc' ws ce sl q st) : iz_aw X lc ws ce sl pc (.int x :: st) := by
  obtain ⟨p, l, e, R, s, m, args, below, meth, c, Q, dC, dI, cA, A⟩ := X
  subst hq
  intro H locs hP hD hS
  exact lv_istore_n O.1 O.2.1 hd hi h hn hl (fun lc' hl' => kk lc' hl' H locs hP hD hS)
end IZL
/-- the two worlds, side by side, are the law's -/
def lw_ad (a1 a2 : Nat → Nat) (b k : Nat) : Nat → Nat := fun i => if i < 57 then a1 i else if i < 73 then a2 (i - 57) else if i = 999 then b else k
set_option maxRecDepth 100000 in
set_option maxHeartbeats 4000000 in
theorem lw_two (cA : ClassId) (a1 a2 : Nat → Nat) (b k : Nat) : am_w cA a1 0 sh_iX6 D_iX6 ++ am_w cA a2 0 sh_iX7 D_iX7 = am_w cA (lw_ad a1 a2 b k) 0 sh_Law (D_0 ++ E_0) := rfl
set_option maxRecDepth 100000 in
set_option maxHeartbeats 4000000 in
/-- YOUR PART: from the entry, for every script of at most 2048 ints, the law comes to its end with true -/
theorem whole_start {p : Program} {e : Env} {s : State} {m : MethodId} {below : List Frame} {meth : Method} {c : Code} (l : Launch) (hflags : l.flags = flags0) {b L : Nat} {xs : Nat → Int32} (hL : L ≤ 2048) (C0 : lw_At p s m meth c b L xs) : W p l e room_1 s m #[Value.ref b] below meth c s.heap [] 0 0 (lw_Z below #[Value.ref b] s) (entryFrame m ([Value.ref b] : List Value).toArray 4) := by
  obtain ⟨hx, hb, hr, hml, hown, hts0, hX, hbl, hlocks, hgv⟩ := id C0
  have hts : ∀ w ∈ am_gt, w.before #[Value.ref b] s = true := fun w hw => hts0 w (List.mem_filter.mp hw).1
  obtain ⟨A, hAe⟩ : ∃ A : Nat → Prop, A = fun q : Nat => s.heap.size ≤ q := ⟨_, rfl⟩
  have hA : ∀ q : Nat, s.heap.size ≤ q → A q := fun q h => by rw [hAe]; exact h
  have hA' : ∀ q : Nat, A q → s.heap.size ≤ q := fun q h => by rw [hAe] at h; exact h
  have hAn : ∀ a : Nat, a < s.heap.size → ¬ A a := fun a h h2 => Nat.not_le.mpr h (hA' a h2)
  obtain ⟨dC, dI, hKc⟩ := lw_cls hts
  obtain ⟨cA, hA1, hA2⟩ := lw_arr hts
  have hK : va_K (dC, dI) vwCl [(cA, .int)] s := ⟨hKc, fun k q h => by
    match k, h with
    | 0, h => cases h; exact ⟨hA1, hA2⟩
    | k + 1, h => simp at h⟩
  have hZ : am_Z A s s.heap := lw_Zt hts0 hgv hAn
  have hnw : iz_nw s := fun q hq => by
    have hm : ∀ q ∈ iz_nest, Cond.methodLinkNest q.1 q.2.1 q.2.2.1 q.2.2.2 ∈ lw_tbl := by decide +kernel
    exact va_Nw.of rfl (hts0 _ (hm q hq))
  have hP : va_P (dC, dI) vwCl [] s.heap := fun k q h => by simp at h
  have hD : va_D A [] := ⟨fun i j p q h => by simp at h, fun k q h => by simp at h⟩
  have hl := lv_entry ([.ref b]) (n := 4) (Nat.le_of_ble_eq_true rfl)
  rw [lg_entry_eq]
  generalize (lg_sl ([.ref b]) ++ List.replicate (4 - (lg_sl ([.ref b])).length) Slot.unset).toArray = lc at hl ⊢
  have hl : lv_has lc 4 [(0, .ref b)] := hl
  obtain ⟨Q, hQ⟩ : ∃ Q, Q = lw_Z below #[Value.ref b] s := ⟨_, rfl⟩
  rw [← hQ]
  obtain ⟨args, hargs⟩ : ∃ args, args = #[Value.ref b] := ⟨_, rfl⟩
  rw [← hargs] at hts ⊢
  have O : iz_ok (p, l, e, room_1, s, m, args, below, meth, c, Q, dC, dI, cA, A) RL cL_law 4 14 546 73 951 := ⟨hx, hb, hml, hown, hts, hK, hA, Nat.le_refl _, Nat.le_refl _, Nat.le_refl _, Nat.le_refl _, hnw⟩
  suffices key : iz_aw (p, l, e, room_1, s, m, args, below, meth, c, Q, dC, dI, cA, A) lc [] 0 0 0 [] from key s.heap [] hP hD va_S.rf
  refine iz_make O IC_X6 (ci := 5) (F := TX6) (N := 11) rfl am_inw_X6 il_0 il_1 il_2 (Or.inl il_3) il_4 il_5 rfl (by decide +kernel) tyX6_ok fd_X6 dL_law_0 dL_law_3 dL_law_4 (by decide) (ce' := 57) (sl' := 585) rfl rfl (Nat.le_of_ble_eq_true rfl) (Nat.le_of_ble_eq_true rfl) hl.1 (Nat.le_of_ble_eq_true rfl) (q := 7) rfl (fun a1 => ?_)
  refine iz_astore O dL_law_7 rfl hl (by decide) (lv' := [(1, .ref (a1 0)), (0, .ref b)]) rfl (q := 8) rfl (fun lc1 hl1 => ?_)
  refine iz_make O IC_X7 (ci := 6) (F := TX7) (N := 27) rfl am_inw_X7 il_6 il_7 il_8 (Or.inl il_9) il_10 il_11 rfl (by decide +kernel) tyX7_ok fd_X7 dL_law_8 dL_law_11 dL_law_12 (by decide) (ce' := 73) (sl' := 951) rfl rfl (Nat.le_of_ble_eq_true rfl) (Nat.le_of_ble_eq_true rfl) hl1.1 (Nat.le_of_ble_eq_true rfl) (q := 15) rfl (fun a2 => ?_)
  refine iz_astore O dL_law_15 rfl hl1 (by decide) (lv' := [(2, .ref (a2 0)), (1, .ref (a1 0)), (0, .ref b)]) rfl (q := 16) rfl (fun lc2 hl2 => ?_)
  refine iz_iconst O dL_law_16 (v := 0) rfl (q := 17) rfl ?_
  refine iz_istore O dL_law_17 rfl hl2 (by decide) (lv' := [(3, .int 0), (2, .ref (a2 0)), (1, .ref (a1 0)), (0, .ref b)]) rfl (q := 18) rfl (fun lc3 hl3 => ?_)
  obtain ⟨z1, adK, adV, z2, z3, z4⟩ := id hZ
  obtain ⟨ad, had⟩ : ∃ ad : Nat → Nat, ad = lw_ad a1 a2 b (adK 0) := ⟨_, rfl⟩
  have h0 : ad 0 = a1 0 := by rw [had]; rfl
  have h57 : ad 57 = a2 0 := by rw [had]; rfl
  have h998 : ad 998 = adK 0 := by rw [had]; rfl
  have h999 : ad 999 = b := by rw [had]; rfl
  have hw : am_w cA a1 0 sh_iX6 D_iX6 ++ am_w cA a2 0 sh_iX7 D_iX7 = am_w cA ad 0 sh_Law (D_0 ++ E_0) := by
    rw [had]
    exact lw_two cA a1 a2 b (adK 0)
  refine iz_ws (ws' := am_w cA ad 0 sh_Law (D_0 ++ E_0)) hw ?_
  have hcx : am_cx (p, l, e, room_1, s, m, args, below, meth, c, Q, 73, 951, dC, dI, cA, ad, A) RL cL_law 4 9 205 := ⟨hx, hb, hml, hown, hts, hK, hZ, hA, Nat.le_refl _, Nat.le_refl _, Nat.le_of_ble_eq_true rfl, Nat.le_of_ble_eq_true rfl, adK, adV, h998, z2⟩
  have OL : ok_L_law (p, l, e, room_1, s, m, args, below, meth, c, Q, 73, 951, dC, dI, cA, ad, A) L xs (fun rs _ => rs = [1]) := by
    refine ⟨hx, hb, hown, hK, by decide, fun ix ci n b h => absurd h (by simp), fun ix v h => absurd h (by simp), ?_, ?_, fun pc D H locs lc h1 h2 => absurd h2 (by decide), ?_⟩
    · intro L' xs' h
      cases h
      rw [h999]
      exact ⟨hX, hbl, hAn b hbl⟩
    · intro pc v D H locs lc hd hv hKv hP1 hD1 hS1 hlen
      have hv1 : v = 1 := by
        have h := hKv
        injection h
      subst hv1
      rw [hQ, hargs]
      exact va_forget (fun q hq => hA' _ (hS1.2.2 q hq)) (lw_ret hx hb hr hlocks hd)
    · intro pc st D k ls h1 h2
      exact ck_L_law _ hcx pc st D k ls h1 h2
  intro H locs hP1 hD1 hS1
  refine law_from OL hL (fun _ => rfl) H locs lc3 hP1 hD1 hS1 rfl rfl ?_
  refine lv_sub (l := [(3, .int 0), (2, .ref (a2 0)), (1, .ref (a1 0)), (0, .ref b)]) hl3 [3, 2, 1, 0] ?_
  show _ = [(0, Value.ref (ad 999)), (1, Value.ref (ad 0)), (2, Value.ref (ad 57)), (3, Value.int (nI 0))]
  rw [h999, h0, h57]
  rfl
