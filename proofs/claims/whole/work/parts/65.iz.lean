/-! CONSTRUCTORS: worlds that grow: each new cell comes last, the young object is the first -/
abbrev iz_X := Program × Launch × Env × Room × State × MethodId × Array Value × List Frame × Method × Code × (State → Prop) × (Nat → ClassId) × (Nat → Nat → Nat) × ClassId × (Nat → Prop)
def iz_cA (X : iz_X) : ClassId := X.2.2.2.2.2.2.2.2.2.2.2.2.2.1
def iz_aw (X : iz_X) (lc : Array Slot) (ws : va_W) (ce sl pc : Nat) (st : List Value) : Prop := match X with
  | (p, l, e, R, s, m, args, below, meth, c, Q, dC, dI, _, A) => ∀ (H : Heap) (locs : List Loc), va_P (dC, dI) vwCl ws H → va_D A ws → va_S A s.heap H locs → W p l e R s m args below meth c H locs ce sl Q (F0 m pc lc st)
/-- the calls of a nest mate's private constructor: their links' words are not good ones; they stand in each contract's start -/
def iz_nest : List (String × Nat × MethodName × String) := [(RX6, 9, yX4_init, RX6), (RX6, 25, yX5_init, RX6), (RX6, 46, yX3_init, RX6), (RX6, 53, yX0_init, RX6), (RX6, 60, yX1_init, RX6), (RX0, 11, yX4_init, RX6), (RX0, 20, yX3_init, RX6), (RX1, 11, yX4_init, RX6), (RX1, 20, yX3_init, RX6)]
def iz_nw (U : State) : Prop := ∀ q ∈ iz_nest, va_Nw (.methodLinkNest q.1 q.2.1 q.2.2.1 q.2.2.2) U
theorem iz_nw.warm {s U : State} (hW : s.WarmedH U.vm) (h : iz_nw s) : iz_nw U := fun q hq => va_Nw.warmM hW (h q hq)
theorem iz_nw.same {s U : State} (hv : U.vm = s.vm) (h : iz_nw s) : iz_nw U := fun q hq => va_Nw.same rfl hv.symm (h q hq)
def iz_ok (X : iz_X) (own : String) (cc : ByteArray) (nL fr lo mc ms : Nat) : Prop := match X with
  | (p, _, _, R, s, m, args, _, _, c, _, dC, dI, cA, A) => p.tables.exec = Jvm.exec ∧ c.code = cc ∧ c.maxLocals = nL ∧ s.vm.findClass own = some m.cls ∧ (∀ w ∈ am_gt, w.before args s = true) ∧ va_K (dC, dI) vwCl [(cA, .int)] s ∧ (∀ q, s.heap.size ≤ q → A q) ∧ mc ≤ R.cells ∧ ms ≤ R.slots ∧ fr ≤ R.frames ∧ lo ≤ R.locals ∧ iz_nw s
def iz_in (X : iz_X) : Prop := match X with
  | (_, _, _, _, _, _, _, _, meth, _, _, _, _, _, _) => meth.name = "<init>"
theorem iz_oi : Cond.instanceMethod objectInit ∈ am_gt := am_gin (by decide +kernel) rfl
theorem iz_oc : Cond.code objectInit ⟨#[0xb1]⟩ 1 none ∈ am_gt := am_gin (by decide +kernel) rfl
theorem iz_ai : Cond.arrayClass .int ∈ am_gt := am_gin (by decide +kernel) rfl
section IZ
variable {X : iz_X} {own : String} {cc : ByteArray} {nL fr lo mc ms : Nat} {lc : Array Slot} {ws : va_W} {ce sl pc q : Nat} {st : List Value}
theorem iz_ws {ws' : va_W} (e : ws = ws') (kk : iz_aw X lc ws' ce sl pc st) : iz_aw X lc ws ce sl pc st := e ▸ kk
theorem iz_aload (O : iz_ok X own cc nL fr lo mc ms) {k : Fin 4} {i x : Nat} (hd : decode cc pc = .ok (.aload_n k, 1)) (hi : (k : Nat) = i) (hl : lc[i]? = some (.val (.ref x))) (hq : pc + 1 = q) (kk : iz_aw X lc ws ce sl q (.ref x :: st)) : iz_aw X lc ws ce sl pc st := by
  obtain ⟨p, l, e, R, s, m, args, below, meth, c, Q, dC, dI, cA, A⟩ := X
  subst hq
  intro H locs hP hD hS
  exact lv_aload_n O.1 O.2.1 hd hi hl (kk H locs hP hD hS)
theorem iz_iconst (O : iz_ok X own cc nL fr lo mc ms) {n : Int} {v : Int32} (hd : decode cc pc = .ok (.iconst n, 1)) (hv : Int32.ofInt n = v) (hq : pc + 1 = q) (kk : iz_aw X lc ws ce sl q (.int v :: st)) : iz_aw X lc ws ce sl pc st := by
  obtain ⟨p, l, e, R, s, m, args, below, meth, c, Q, dC, dI, cA, A⟩ := X
  subst hq
  intro H locs hP hD hS
  exact lv_iconst O.1 O.2.1 hd hv (kk H locs hP hD hS)
theorem iz_bipush (O : iz_ok X own cc nL fr lo mc ms) {n : Int} {v : Int32} (hd : decode cc pc = .ok (.bipush n, 2)) (hv : (Int8.ofInt n).toInt32 = v) (hq : pc + 2 = q) (kk : iz_aw X lc ws ce sl q (.int v :: st)) : iz_aw X lc ws ce sl pc st := by
  obtain ⟨p, l, e, R, s, m, args, below, meth, c, Q, dC, dI, cA, A⟩ := X
  subst hq
  intro H locs hP hD hS
  exact lv_bipush O.1 O.2.1 hd hv (kk H locs hP hD hS)
theorem iz_obj (O : iz_ok X own cc nL fr lo mc ms) {ix a : Nat} (h1 : 1 ≤ fr) (h2 : 12 ≤ lo) (hk : Cond.methodLink own ix objectInit ∈ am_gt) (hd : decode cc pc = .ok (.invokespecial ix, 3)) (hsz : lc.size = nL) (hq : pc + 3 = q) (kk : iz_aw X lc ws ce sl q []) : iz_aw X lc ws ce sl pc [.ref a] := by
  obtain ⟨p, l, e, R, s, m, args, below, meth, c, Q, dC, dI, cA, A⟩ := X
  obtain ⟨hx, hb, hml, hown, hts, hK, hA, c1, c2, c3, c4, hnw⟩ := O
  subst hq
  intro H locs hP hD hS
  refine W.objInit hx hb hown (hts _ hk) (hts _ iz_oi) (hts _ iz_oc) rfl (by rw [hml]; exact hsz) rfl hd (Nat.le_trans h1 c3) (Nat.le_trans h2 c4) ?_
  exact W.eq (g2 := F0 m (pc + 3) lc []) rfl (kk H locs hP hD hS)
theorem iz_newa (O : iz_ok X own cc nL fr lo mc ms) {n : Int32} {N ce' sl' : Nat} {x : Nat × va_E} {r : va_W} (hd : decode cc pc = .ok (.newarray .int, 2)) (hn : ¬ n < 0) (hN : n.toNatClampNeg = N) (hbt : N ≤ 1000) (h1 : ce + 1 = ce') (h2 : sl + N = sl') (h3 : ce' ≤ mc) (h4 : sl' ≤ ms) (hq : pc + 2 = q) (kk : ∀ z : Nat, iz_aw X lc (x :: (r ++ [(z, .inl (iz_cA X, N, .inl (fun _ => 0)))])) ce' sl' q (.ref z :: st)) : iz_aw X lc (x :: r) ce sl pc (.int n :: st) := by
  obtain ⟨p, l, e, R, s, m, args, below, meth, c, Q, dC, dI, cA, A⟩ := X
  obtain ⟨hx, hb, hml, hown, hts, hK, hA, c1, c2, c3, c4, hnw⟩ := O
  subst hq; subst h1; subst h2
  intro H locs hP hD hS
  refine va_newa (atype := .int) (ty := .int) (a0 := (N, .inl (fun _ => 0))) hx hb (hts _ iz_ai) rfl hK hP hD hS hA (fun _ => rfl) hn hN (Nat.le_trans (Nat.mul_le_mul_right (componentBytes .int) hbt) (by decide)) (Nat.le_trans h3 c1) (Nat.le_trans h4 c2) hd (fun z cA' H1 hK1 hP1 hD1 hS1 => ?_)
  have e1 : s.vm.findClass _ = some cA := (hK1.2 0 _ rfl).2
  have e2 : s.vm.findClass _ = some cA' := (hK1.2 1 _ rfl).2
  have e3 : cA' = cA := Option.some.inj (e2.symm.trans e1)
  rw [e3] at hP1 hD1
  exact kk z H1 locs hP1 hD1 hS1
theorem iz_put (O : iz_ok X own cc nL fr lo mc ms) (hin : iz_in X) {ix ci k b a N : Nat} {fs fs' : List Value} {v : Value} {C : String} {T : u_T} {ty : FieldType} {r : va_W} (hd : decode cc pc = .ok (.putfield ix, 3)) (hfe : am_fe own (ix, ci, k, b)) (hci : vwCl[ci]? = some (C, T, N)) (hf : (T k).2.2.2 = false ∨ ((T k).2.2.2 = true ∧ (T k).1 = own)) (hty : parseFieldDescriptor (T k).2.2.1 = some ty) (hn : narrow ty v = v) (hfit : fits ty v = true) (hl : k < fs.length) (hfs : fs.set k v = fs') (hq : pc + 3 = q) (kk : iz_aw X lc ((a, .inr (ci, fs')) :: r) ce sl q st) : iz_aw X lc ((a, .inr (ci, fs)) :: r) ce sl pc (v :: .ref a :: st) := by
  obtain ⟨p, l, e, R, s, m, args, below, meth, c, Q, dC, dI, cA, A⟩ := X
  obtain ⟨hx, hb, hml, hown, hts, hK, hA, c1, c2, c3, c4, hnw⟩ := O
  subst hq; subst hfs
  obtain ⟨C', T', N', v1, v2, v3, v4, -⟩ := hfe
  have e0 := v1.symm.trans hci
  cases e0
  obtain ⟨ty0, t1, t2⟩ := am_vw ci C T N hci
  intro H locs hP hD hS
  rcases hf with hf | ⟨hf, hdl⟩
  · exact va_put (D := (dC, dI)) (C := C) (T := T) (N := N) hx hb hts v3 ty0 t1 t2 hown hK hP hD hS 0 rfl hci k v2 (hts _ v4) (fun _ h9 => h9) hf hty hn hfit hl hd (fun H1 locs1 hP1 hD1 hS1 => kk H1 locs1 hP1 hD1 hS1)
  · exact va_putF (D := (dC, dI)) (C := C) (T := T) (N := N) hx hb hts v3 ty0 t1 t2 hown hK hP hD hS 0 rfl hci k v2 (hts _ v4) (fun _ h9 => h9) hf hin hdl hty hn hfit hl hd (fun H1 locs1 hP1 hD1 hS1 => kk H1 locs1 hP1 hD1 hS1)
end IZ
def iz_pre (dC : Nat → ClassId) (dI : Nat → Nat → Nat) (cA : ClassId) (h0 ci : Nat) (fs : List Value) (sz : Nat) (U : State) : Prop := U.heap.size = sz ∧ va_P (dC, dI) vwCl [(h0, .inr (ci, fs))] U.heap ∧ va_K (dC, dI) vwCl [(cA, .int)] U ∧ va_D (fun _ => True) [(h0, .inr (ci, fs))] ∧ iz_nw U
def iz_at (dC : Nat → ClassId) (dI : Nat → Nat → Nat) (cA : ClassId) (sh : am_S) (D : am_D) (A : Nat → Prop) (ad : Nat → Nat) (t : State) : Prop := va_P (dC, dI) vwCl (am_w cA ad 0 sh D) t.heap ∧ va_D A (am_w cA ad 0 sh D)
/-- a constructor's contract: from a young object with the cells fs, to the world of shape sh and data D whose first place is the object -/
def iz_ctr (y : MethodName) (cc : ByteArray) (fr lo mc ms ci : Nat) (fs : List Value) (sh : am_S) (D : am_D) : Prop := ∀ (l : Launch) (dC : Nat → ClassId) (dI : Nat → Nat → Nat) (cA : ClassId) (h0 sz : Nat),
  Met l y (.code y cc 1 none :: am_gt) { frames := fr, cells := mc, slots := ms, locals := lo } (va_Pc [.ref h0] (iz_pre dC dI cA h0 ci fs sz)) (va_Qv (fun ad : Nat → Nat => ad 0 = h0) (iz_at dC dI cA sh D (va_A [(h0, .inr (ci, fs))] sz)) (va_A [(h0, .inr (ci, fs))] sz)) mc ms (va_A [(h0, .inr (ci, fs))] sz)
theorem iz_mk {y : MethodName} {cc : ByteArray} {fr lo mc ms ci pcE : Nat} {fs : List Value} {sh : am_S} {D : am_D} (hy : plainName y.cls = true) (hyn : y.name = "<init>") (hd : decode cc pcE = .ok (.return_, 1))
    (body : ∀ (X : iz_X) (lc : Array Slot) (h0 : Nat), iz_ok X y.cls cc 1 fr lo mc ms → iz_in X → lc.size = 1 → lc[0]? = some (.val (.ref h0)) → (∀ ad : Nat → Nat, ad 0 = h0 → iz_aw X lc (am_w (iz_cA X) ad 0 sh D) mc ms pcE []) → iz_aw X lc [(h0, .inr (ci, fs))] 0 0 0 []) : iz_ctr y cc fr lo mc ms ci fs sh D := by
  intro l dC dI cA h0 sz
  refine Met.ofW (cc := cc) (maxL := 1) (ret := none) hy rfl ?_
  intro p e s m args below meth c s₁ B hml hv
  obtain ⟨rfl, hsz, hP, hK, hD0, hnw⟩ := hv
  have hx := B.exec
  have hb := B.bytes
  have hr := B.returns
  have hts0 := atoms_spec (ws := Cond.code y cc 1 none :: am_gt) B.pre
  have hown : s.vm.findClass y.cls = some m.cls := findClass_of_methodNamed B.named
  have hlocks := B.notSynchronized
  have hin : meth.name = "<init>" := (name_of_methodNamed B.named B.method).1.trans hyn
  subst hsz
  have hD := hD0.self (sz := s.heap.size)
  obtain ⟨A, hAe⟩ : ∃ A, A = va_A [(h0, .inr (ci, fs))] s.heap.size := ⟨_, rfl⟩
  rw [← hAe] at hD ⊢
  have hA : ∀ q : Nat, s.heap.size ≤ q → A q := fun q h => by rw [hAe]; exact Or.inr h
  have hl := lv_entry ([.ref h0]) (n := 1) (Nat.le_of_ble_eq_true rfl)
  rw [lg_entry_eq]
  generalize (lg_sl ([.ref h0]) ++ List.replicate (1 - (lg_sl ([.ref h0])).length) Slot.unset).toArray = lc at hl ⊢
  have hl : lv_has lc 1 [(0, .ref h0)] := hl
  obtain ⟨args, hargs⟩ : ∃ args, args = ([.ref h0] : List Value).toArray := ⟨_, rfl⟩
  rw [← hargs] at hts0 ⊢
  have hts : ∀ w ∈ am_gt, w.before args s = true := fun w hw => hts0 w (List.mem_cons_of_mem _ hw)
  refine body (p, l, e, (headSpec (Cond.code y cc 1 none :: am_gt) { frames := fr, cells := mc, slots := ms, locals := lo }).room, s, m, args, below, meth, c, MQ below (va_Qv (fun ad : Nat → Nat => ad 0 = h0) (iz_at dC dI cA sh D A) A) args s mc ms A, dC, dI, cA, A) lc h0 ⟨hx, hb, hml, hown, hts, hK, hA, Nat.le_refl _, Nat.le_refl _, Nat.le_refl _, Nat.le_refl _, hnw⟩ hin hl.1 (lv_at hl 0 rfl) ?_ s.heap [] hP hD va_S.rf
  intro ad had H locs hP1 hD1 hS1
  exact W.vret hx hb hr (fun t ht hW => ⟨⟨ad, rfl, had, by rw [ht]; exact hP1, hD1⟩, hS1.F ht⟩) hS1.2.2 hd hlocks
theorem iz_nd : ∀ (l : List Nat), l.Nodup → va_nd l = true
  | [], _ => rfl
  | a :: l, h => by
    simp only [va_nd, Bool.and_eq_true, decide_eq_true_eq]
    exact ⟨(List.nodup_cons.mp h).1, iz_nd l (List.nodup_cons.mp h).2⟩
theorem iz_lst (ws : va_W) (x : Nat × va_E) : [ws.length].map (fun i => (ws ++ [x])[i]?) = [x].map some := by
  simp only [List.map_cons, List.map_nil]
  rw [List.getElem?_append_right (Nat.le_refl _), Nat.sub_self]
  rfl
theorem iz_frt (ws : va_W) (x : Nat × va_E) : (List.range ws.length).map (fun i => (ws ++ [x])[i]?) = ws.map some := by
  apply List.ext_getElem?
  intro i
  rw [List.getElem?_map, List.getElem?_map]
  by_cases h : i < ws.length
  · rw [List.getElem?_range h, Option.map_some, List.getElem?_append_left h, List.getElem?_eq_getElem h]
    rfl
  · rw [List.getElem?_eq_none (by rw [List.length_range]; omega), List.getElem?_eq_none (by omega)]
    rfl
set_option maxHeartbeats 1000000 in
/-- new, dup, and the call of a constructor by its contract -/
theorem iz_make {X : iz_X} {own : String} {cc cc' : ByteArray} {nL fr lo mc ms fr' lo' mc' ms' ci N ix iy ce sl ce' sl' pc q : Nat} {lc : Array Slot} {ws : va_W} {st : List Value} {y : MethodName} {fs : List Value} {sh : am_S} {D : am_D} {F : u_T} {tyf : Nat → FieldType}
    (O : iz_ok X own cc nL fr lo mc ms) (C : iz_ctr y cc' fr' lo' mc' ms' ci fs sh D) (hci : vwCl[ci]? = some (y.cls, F, N)) (hinw : ∀ w ∈ u_ws y.cls F N, w ∈ am_gt) (w1 : Cond.classLink own ix y.cls ∈ am_gt) (w2 : Cond.instantiable y.cls N ∈ am_gt) (w3 : Cond.initialized y.cls ∈ am_gt) (w4 : Cond.methodLink own iy y ∈ am_gt ∨ (own, iy, y, RX6) ∈ iz_nest) (w5 : Cond.instanceMethod y ∈ am_gt) (w6 : Cond.code y cc' 1 none ∈ am_gt) (hy : y.name = "<init>")
    (hyd : y.cls ≠ "java/lang/invoke/MethodHandle" ∧ y.cls ≠ "java/lang/invoke/VarHandle" ∧ (parseMethodDescriptor y.desc).map (fun d => d.parameters.length) = some 0) (htyf : ∀ k, k < N → parseFieldDescriptor (F k).2.2.1 = some (tyf k)) (hfs : ∀ j, j < N → defaultValue (tyf j) = vp_V fs j)
    (hd1 : decode cc pc = .ok (.new ix, 3)) (hd2 : decode cc (pc + 3) = .ok (.dup, 1)) (hd3 : decode cc (pc + 3 + 1) = .ok (.invokespecial iy, 3)) (hR : fr' + 1 ≤ fr ∧ 8 + (1 + 11) + lo' ≤ lo) (h1 : ce + 1 + mc' = ce') (h2 : sl + N + ms' = sl') (h3 : ce' ≤ mc) (h4 : sl' ≤ ms) (hsz : lc.size = nL) (h8 : (st.map fun v => v.category).sum ≤ 7) (hq : pc + 3 + 1 + 3 = q)
    (kk : ∀ ad : Nat → Nat, iz_aw X lc (ws ++ am_w (iz_cA X) ad 0 sh D) ce' sl' q (.ref (ad 0) :: st)) : iz_aw X lc ws ce sl pc st := by
  obtain ⟨p, l, e, R, s, m, args, below, meth, c, Q, dC, dI, cA, A⟩ := X
  obtain ⟨hx, hb, hml, hown, hts, hK, hA, c1, c2, c3, c4, hnw⟩ := O
  subst hq; subst h1; subst h2
  intro H locs hP hD hS
  refine va_new (D := (dC, dI)) (ci := ci) (fs := fs) (C := y.cls) (T := F) (N := N) hx hb hts hinw tyf htyf hown (hts _ w1) (hts _ w2) (hts _ w3) hK hP hD hS hA hci hfs (by omega) (by omega) hd1 (fun z H1 hP1 hD1 hS1 => ?_)
  refine lv_dup hx hb hd2 rfl ?_
  have hPc : va_P (dC, dI) vwCl [(z, .inr (ci, fs))] H1 := hP1.sub [ws.length] (by
    show [ws.length].filterMap (fun i => (ws ++ [(z, Sum.inr (ci, fs))])[i]?) = _
    simp only [List.filterMap_cons, List.filterMap_nil]
    rw [List.getElem?_append_right (Nat.le_refl _), Nat.sub_self]
    rfl)
  have hDc : va_D A [(z, .inr (ci, fs))] := hD1.sub [ws.length] (iz_nd _ (List.nodup_cons.mpr ⟨List.not_mem_nil, List.nodup_nil⟩)) (iz_lst ws _)
  have hFc := va_free (wc := [(z, .inr (ci, fs))]) hD1 hS1 hA [ws.length] (iz_lst ws _)
  have hpre : PreS s H1 (va_Pc [.ref z] (iz_pre dC dI cA z ci fs H1.size)) [.ref z] := ⟨fun a U g mk q => by
    obtain ⟨q0, q1, qP, qK, qD, qN⟩ := q
    exact ⟨q0, q1, qP, va_K.moved (u := U) (U := U.calling g mk a) (Vm.Alike.refl U.vm) qK, qD, iz_nw.same (s := U) (U := U.calling g mk a) rfl qN⟩, fun U hU hW => ⟨rfl, by rw [hU], by rw [hU]; exact hPc, va_K.moved hW.alike hK, hDc.weaken (fun _ _ _ _ => trivial), iz_nw.warm hW hnw⟩⟩
  have hroom : 2 * (F0 m (pc + 3 + 1) lc (.ref z :: .ref z :: st)).monitorRoom + ((.ref z :: st : List Value).map fun v => v.category).sum ≤ 8 := lv_room (by
    have e0 : (Value.ref z).category = 1 := rfl
    simp only [List.map_cons, List.sum_cons, e0]
    omega)
  have hrun : va_Run p l e R s m args below meth c H1 locs (ce + 1) (sl + N) mc' ms' (F0 m (pc + 3 + 1) lc (.ref z :: .ref z :: st)) (.ref z :: st) (va_Qv (fun ad : Nat → Nat => ad 0 = z) (iz_at dC dI cA sh D (va_A [(z, .inr (ci, fs))] H1.size)) (va_A [(z, .inr (ci, fs))] H1.size) [Value.ref z].toArray) (va_A [(z, .inr (ci, fs))] H1.size) := by
    have hG : GoodIn am_gt (.code y cc' 1 none :: am_gt) := am_gok (fun _ h => h) w6
    rcases w4 with w4 | w4
    · exact va_runI (As := []) (rest := .ref z :: st) ⟨hx, hb, hml, hown, hts⟩ (C l dC dI cA z H1.size) (cwI 0 hts hG rfl rfl rfl (hts _ w3) (hts _ w4) (hts _ w5) hy hyd ⟨Nat.le_trans hR.1 c3, Nat.le_trans hR.2 c4⟩) hpre rfl rfl hsz rfl hroom hd3 ⟨by omega, by omega⟩
    · exact va_runIN (As := []) (rest := .ref z :: st) ⟨hx, hb, hml, hown, hts⟩ (C l dC dI cA z H1.size) ⟨va_cnB 0 hts hG rfl rfl rfl (hnw _ w4) (hts _ w3) hyd ⟨Nat.le_trans hR.1 c3, Nat.le_trans hR.2 c4⟩, hy, hts _ w5⟩ hpre rfl rfl hsz rfl hroom hd3 ⟨by omega, by omega⟩
  refine va_callv hrun hS1 (fun q _ h => hFc q h) hFc (fun ad t H2 locs2 ht hvm hw hB hz1 hk1 hS2 => ?_)
  obtain ⟨hP2, hD2⟩ := hB
  rw [ht] at hP2
  obtain ⟨hP3, hD3⟩ := va_join (wr := ws) (w1 := am_w cA ad 0 sh D) hP1 hD1 [ws.length] (List.range ws.length) (iz_lst ws _) (iz_frt ws _) (iz_nd _ List.nodup_range) (fun i hi hj => by
    have h1 := List.mem_range.mp hi
    rcases List.mem_cons.mp hj with h2 | h2
    · omega
    · cases h2) hk1 hFc hP2 hD2
  have k1 := kk ad H2 locs2 hP3 hD3 hS2
  rw [hw] at k1
  exact k1
