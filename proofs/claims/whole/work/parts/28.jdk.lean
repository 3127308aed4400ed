theorem mo_J0_indexOf_0f7a4 : am_mok yJ0_indexOf_0f7a4 cJ0_indexOf_0f7a4 2 (some .int) 1 := ⟨am_gin (am_t2 (List.mem_of_getElem? (i := 31) (rfl))) rfl, by decide +kernel, by decide +kernel, by decide +kernel⟩
theorem mo_J0_indexOf_7cf53 : am_mok yJ0_indexOf_7cf53 cJ0_indexOf_7cf53 3 (some .int) 2 := ⟨am_gin (am_t2 (List.mem_of_getElem? (i := 35) (rfl))) rfl, by decide +kernel, by decide +kernel, by decide +kernel⟩
theorem mo_J0_isLatin1_aae02 : am_mok yJ0_isLatin1_aae02 cJ0_isLatin1_aae02 1 (some .boolean) 0 := ⟨am_gin (am_t2 (List.mem_of_getElem? (i := 39) (rfl))) rfl, by decide +kernel, by decide +kernel, by decide +kernel⟩
theorem mo_J0_length_8abf5 : am_mok yJ0_length_8abf5 cJ0_length_8abf5 1 (some .int) 0 := ⟨am_gin (am_t2 (List.mem_of_getElem? (i := 45) (rfl))) rfl, by decide +kernel, by decide +kernel, by decide +kernel⟩
theorem mo_J0_coder_7d493 : am_mok yJ0_coder_7d493 cJ0_coder_7d493 1 (some .byte) 0 := ⟨am_gin (am_t2 (List.mem_of_getElem? (i := 49) (rfl))) rfl, by decide +kernel, by decide +kernel, by decide +kernel⟩
theorem mo_J1_indexOf_4cfef : am_mok yJ1_indexOf_4cfef cJ1_indexOf_4cfef 4 (some .int) 4 := ⟨am_gin (am_t2 (List.mem_of_getElem? (i := 52) (rfl))) rfl, by decide +kernel, by decide +kernel, by decide +kernel⟩
theorem mo_J1_canEncode_9a6ad : am_mok yJ1_canEncode_9a6ad cJ1_canEncode_9a6ad 1 (some .boolean) 1 := ⟨am_gin (am_t2 (List.mem_of_getElem? (i := 55) (rfl))) rfl, by decide +kernel, by decide +kernel, by decide +kernel⟩
theorem mo_J9_min_7cf53 : am_mok yJ9_min_7cf53 cJ9_min_7cf53 2 (some .int) 2 := ⟨am_gin (am_t2 (List.mem_of_getElem? (i := 61) (rfl))) rfl, by decide +kernel, by decide +kernel, by decide +kernel⟩
theorem mo_J1_indexOfChar_4cfef : am_mok yJ1_indexOfChar_4cfef cJ1_indexOfChar_4cfef 6 (some .int) 4 := ⟨am_gin (am_t2 (List.mem_of_getElem? (i := 64) (rfl))) rfl, by decide +kernel, by decide +kernel, by decide +kernel⟩
theorem lk_J0_633 : am_lkV RJ0 633 yJ0_indexOf_7cf53 := ⟨am_gin (am_t2 (List.mem_of_getElem? (i := 32) (by decide +kernel))) rfl, am_gin (am_t2 (List.mem_of_getElem? (i := 33) (by decide +kernel))) rfl, am_gin (am_t2 (List.mem_of_getElem? (i := 34) (by decide +kernel))) rfl, am_gin (am_t1 (List.mem_of_getElem? (i := 8) (by decide +kernel))) rfl⟩
theorem lk_J0_492 : am_lkV RJ0 492 yJ0_isLatin1_aae02 := ⟨am_gin (am_t2 (List.mem_of_getElem? (i := 36) (by decide +kernel))) rfl, am_gin (am_t2 (List.mem_of_getElem? (i := 37) (by decide +kernel))) rfl, am_gin (am_t2 (List.mem_of_getElem? (i := 38) (by decide +kernel))) rfl, am_gin (am_t1 (List.mem_of_getElem? (i := 8) (by decide +kernel))) rfl⟩
theorem lk_J0_505 : am_lkV RJ0 505 yJ0_length_8abf5 := ⟨am_gin (am_t2 (List.mem_of_getElem? (i := 42) (by decide +kernel))) rfl, am_gin (am_t2 (List.mem_of_getElem? (i := 43) (by decide +kernel))) rfl, am_gin (am_t2 (List.mem_of_getElem? (i := 44) (by decide +kernel))) rfl, am_gin (am_t1 (List.mem_of_getElem? (i := 8) (by decide +kernel))) rfl⟩
theorem lk_J0_637 : am_lkS RJ0 637 yJ1_indexOf_4cfef := ⟨am_gin (am_t2 (List.mem_of_getElem? (i := 50) (by decide +kernel))) rfl, am_gin (am_t2 (List.mem_of_getElem? (i := 51) (by decide +kernel))) rfl, am_gin (am_t1 (List.mem_of_getElem? (i := 9) (by decide +kernel))) rfl⟩
theorem lk_J0_335 : am_lkV RJ0 335 yJ0_coder_7d493 := ⟨am_gin (am_t2 (List.mem_of_getElem? (i := 46) (by decide +kernel))) rfl, am_gin (am_t2 (List.mem_of_getElem? (i := 47) (by decide +kernel))) rfl, am_gin (am_t2 (List.mem_of_getElem? (i := 48) (by decide +kernel))) rfl, am_gin (am_t1 (List.mem_of_getElem? (i := 8) (by decide +kernel))) rfl⟩
theorem lk_J1_88 : am_lkS RJ1 88 yJ1_canEncode_9a6ad := ⟨am_gin (am_t2 (List.mem_of_getElem? (i := 53) (by decide +kernel))) rfl, am_gin (am_t2 (List.mem_of_getElem? (i := 54) (by decide +kernel))) rfl, am_gin (am_t1 (List.mem_of_getElem? (i := 9) (by decide +kernel))) rfl⟩
theorem lk_J1_95 : am_lkS RJ1 95 yJ1_indexOfChar_4cfef := ⟨am_gin (am_t2 (List.mem_of_getElem? (i := 62) (by decide +kernel))) rfl, am_gin (am_t2 (List.mem_of_getElem? (i := 63) (by decide +kernel))) rfl, am_gin (am_t1 (List.mem_of_getElem? (i := 9) (by decide +kernel))) rfl⟩
theorem lk_J1_92 : am_lkS RJ1 92 yJ9_max_7cf53 := ⟨am_gin (am_t2 (List.mem_of_getElem? (i := 56) (by decide +kernel))) rfl, am_gin (am_t2 (List.mem_of_getElem? (i := 57) (by decide +kernel))) rfl, am_gin (am_t1 (List.mem_of_getElem? (i := 10) (by decide +kernel))) rfl⟩
theorem lk_J1_38 : am_lkS RJ1 38 yJ9_min_7cf53 := ⟨am_gin (am_t2 (List.mem_of_getElem? (i := 59) (by decide +kernel))) rfl, am_gin (am_t2 (List.mem_of_getElem? (i := 60) (by decide +kernel))) rfl, am_gin (am_t1 (List.mem_of_getElem? (i := 10) (by decide +kernel))) rfl⟩
theorem fw_J0_38 : Cond.fieldLink RJ0 38 "java/lang/String" "COMPACT_STRINGS" "Z" ∈ am_gt := am_gin (am_t2 (List.mem_of_getElem? (i := 40) (by decide +kernel))) rfl
theorem fw_J0_15 : Cond.fieldLink RJ0 15 "java/lang/String" "coder" "B" ∈ am_gt := am_gin (am_t5 (List.mem_of_getElem? (i := 112) (by decide +kernel))) rfl
theorem fw_J0_9 : Cond.fieldLink RJ0 9 "java/lang/String" "value" "[B" ∈ am_gt := am_gin (am_t5 (List.mem_of_getElem? (i := 113) (by decide +kernel))) rfl
/-! the constant text "ckpslt": String.indexOf over it -/
def kxb (j : Nat) : Nat := [99, 107, 112, 115, 108, 116].getD j 0
def kxf (k : Nat) : Option Nat := if k = 99 then some 0 else if k = 107 then some 1 else if k = 112 then some 2 else if k = 115 then some 3 else if k = 108 then some 4 else if k = 116 then some 5 else none
def kx (k : Nat) : Int32 := match kxf k with
  | some j => nI j
  | none => -1
theorem kx_at : ∀ k, k < 256 → ∀ j, j < 6 → k = kxb j → kx k = nI j := by decide +kernel
theorem kx_no : ∀ k, k < 256 → (∀ j, j < 6 → ¬ k = kxb j) → kx k = -1 := by decide +kernel
theorem kx_by : ∀ k, k < 256 → ∀ j, j < 6 → ((([99, 107, 112, 115, 108, 116] : List Int32).getD (nI j).toNatClampNeg 0 = (nI k).toInt8.toInt32) ↔ k = kxb j) := by decide +kernel
def js_Z (adK adV : Nat → Nat) (A : Nat → Prop) (U : State) (H : Heap) : Prop := va_Z "java/lang/String" "COMPACT_STRINGS" "Z" (.int 1) A U H ∧ vk_S 1 [6] [[99, 107, 112, 115, 108, 116]] adK adV A U H
def js_ctr (y : MethodName) (cc : ByteArray) (nL : Nat) (ret : Option FieldType) (fr lo : Nat) (av : Nat → Nat → List Value) (r : Int32) : Prop :=
  ∀ (l : Launch) (adK adV : Nat → Nat) (sz : Nat), Met l y (.code y cc nL ret :: am_gt) { frames := fr, cells := 0, slots := 0, locals := lo } (va_Pc (av (adK 0) (adV 0)) (fun U => U.heap.size = sz ∧ js_Z adK adV (fun q => sz ≤ q) U U.heap)) (va_Qi (fun x (_ : Unit) => x = r) (fun _ _ => True) (fun q => sz ≤ q)) 0 0 (fun q => sz ≤ q)
def js_cx (p : Program) (R : Room) (s : State) (m : MethodId) (args : Array Value) (c : Code) (own : String) (cc : ByteArray) (nL fr lo : Nat) (A : Nat → Prop) (adK adV : Nat → Nat) : Prop := p.tables.exec = Jvm.exec ∧ c.code = cc ∧ c.maxLocals = nL ∧ s.vm.findClass own = some m.cls ∧ (∀ w ∈ am_gt, w.before args s = true) ∧ js_Z adK adV A s s.heap ∧ (∀ q, s.heap.size ≤ q → A q) ∧ fr ≤ R.frames ∧ lo ≤ R.locals
theorem js_mk {y : MethodName} {cc : ByteArray} {nL fr lo : Nat} {rt : FieldType} {av : Nat → Nat → List Value} {r : Int32} (hy : plainName y.cls = true) (hnL : ∀ a b, (lg_sl (av a b)).length ≤ nL) (hret : narrow rt (.int r) = .int r)
    (body : ∀ (p : Program) (l : Launch) (e : Env) (R : Room) (s : State) (m : MethodId) (args : Array Value) (below : List Frame) (meth : Method) (c : Code) (Q : State → Prop) (A : Nat → Prop) (adK adV : Nat → Nat) (lc : Array Slot), js_cx p R s m args c y.cls cc nL fr lo A adK adV → (∀ (H : Heap) (locs : List Loc) (lc : Array Slot) (pc : Nat), decode cc pc = .ok (.ireturn, 1) → va_S A s.heap H locs → W p l e R s m args below meth c H locs 0 0 Q (F0 m pc lc [.int r])) → lv_has lc nL (lv_args 0 (av (adK 0) (adV 0))) → W p l e R s m args below meth c s.heap [] 0 0 Q (F0 m 0 lc [])) : js_ctr y cc nL (some rt) fr lo av r := by
  intro l adK adV sz
  refine Met.ofW (cc := cc) (maxL := nL) (ret := some rt) hy rfl ?_
  intro p e s m args below meth c s₁ B hml hv
  obtain ⟨rfl, hsz, hZ⟩ := hv
  have hx := B.exec
  have hb := B.bytes
  have hr := B.returns
  have hts0 := atoms_spec (ws := Cond.code y cc nL (some rt) :: am_gt) B.pre
  have hown : s.vm.findClass y.cls = some m.cls := findClass_of_methodNamed B.named
  have hlocks := B.notSynchronized
  subst hsz
  have hl := lv_entry (av (adK 0) (adV 0)) (n := nL) (hnL _ _)
  rw [lg_entry_eq]
  generalize (lg_sl (av (adK 0) (adV 0)) ++ List.replicate (nL - (lg_sl (av (adK 0) (adV 0))).length) Slot.unset).toArray = ls at hl ⊢
  refine body _ _ _ _ _ _ _ _ _ _ _ (fun q => s.heap.size ≤ q) adK adV ls ⟨hx, hb, hml, hown, fun w hw => hts0 w (List.mem_cons_of_mem _ hw), hZ, fun _ h => h, Nat.le_refl _, Nat.le_refl _⟩ (fun H locs lc pc hd hS => ?_) hl
  exact W.zret hx hb hr hret (fun t ht hW => ⟨⟨r, (), rfl, rfl, trivial⟩, hS.F ht⟩) hS.2.2 hd hlocks
section JS
variable {p : Program} {l : Launch} {e : Env} {R : Room} {s : State} {m : MethodId} {args : Array Value} {below : List Frame} {meth : Method} {c : Code} {Q : State → Prop} {A : Nat → Prop} {adK adV : Nat → Nat} {lc : Array Slot} {H : Heap} {locs : List Loc} {cells slots : Nat}
theorem js_Z.to {U : State} (hZ : js_Z adK adV A s s.heap) (hA : ∀ q, s.heap.size ≤ q → A q) (hS : va_S A s.heap H locs) (hU : U.heap = H) (hW : s.WarmedH U.vm) : js_Z adK adV (fun q => H.size ≤ q) U U.heap := by
  rw [hU]
  have h : ∀ q, H.size ≤ q → A q := fun q hq => hA q (Nat.le_trans hS.1 hq)
  exact ⟨((hZ.1.kept hS.2.1).narrow h).moved hW.alike, ((hZ.2.kept hS.2.1).narrow h).moved hW.alike⟩
theorem js_pre_call {av : List Value} {sz : Nat} : FrameBlind (va_Pc av (fun U => U.heap.size = sz ∧ js_Z adK adV (fun q => sz ≤ q) U U.heap)) := by
  intro a U g mk h
  obtain ⟨h0, h1, h2, h3⟩ := h
  exact ⟨h0, h1, va_Z.moved (u := U) (U := U.calling g mk a) (Vm.Alike.refl U.vm) h2, vk_S.moved (u := U) (U := U.calling g mk a) (Vm.Alike.refl U.vm) h3⟩
theorem js_callS {own : String} {cc cc' : ByteArray} {nL nL' fr lo fr' lo' ix pc np : Nat} {y : MethodName} {ret : Option FieldType} {av : Nat → Nat → List Value} {r : Int32} {rest st : List Value} (hx : p.tables.exec = Jvm.exec) (hb : c.code = cc) (hml : c.maxLocals = nL) (hown : s.vm.findClass own = some m.cls) (hts : ∀ w ∈ am_gt, w.before args s = true) (hZ : js_Z adK adV A s s.heap) (hA : ∀ q, s.heap.size ≤ q → A q) (hR1 : fr ≤ R.frames) (hR2 : lo ≤ R.locals)
    (C : js_ctr y cc' nL' ret fr' lo' av r) (hm : am_mok y cc' nL' ret np) (hlk : am_lkS own ix y) (hd : decode cc pc = .ok (.invokestatic ix, 3)) (hnp : (av (adK 0) (adV 0)).length = np) (hst : st = (av (adK 0) (adV 0)).reverse ++ rest) (h8 : (rest.map fun v => v.category).sum ≤ 8) (hR : fr' + 1 ≤ fr ∧ 8 + (nL' + 11) + lo' ≤ lo) (hS : va_S A s.heap H locs) (hls : lc.size = nL) (hc1 : cells ≤ R.cells) (hc2 : slots ≤ R.slots)
    (k : ∀ H1 locs1, va_S A s.heap H1 locs1 → H.size ≤ H1.size → (∀ q : Nat, q < H.size → H1[q]? = H[q]?) → W p l e R s m args below meth c H1 locs1 cells slots Q (F0 m (pc + 3) lc (.int r :: rest))) : W p l e R s m args below meth c H locs cells slots Q (F0 m pc lc st) := by
  obtain ⟨m1, m2, m3, m4⟩ := hm
  obtain ⟨k1, k2, k4⟩ := hlk
  have hG : GoodIn am_gt (.code y cc' nL' ret :: am_gt) := am_gok (fun _ h => h) m1
  have cB : CallB R s args own ix y cc' nL' ret (.code y cc' nL' ret :: am_gt) { frames := fr', cells := 0, slots := 0, locals := lo' } 0 0 np := callB_of np hts hG rfl rfl rfl (hts _ k4) (hts _ k1) ⟨m2, m3, m4⟩ ⟨Nat.le_trans hR.1 hR1, Nat.le_trans hR.2 hR2⟩
  have hrun := va_runS (nL := nL) (As := av (adK 0) (adV 0)) (rest := rest) (g := F0 m pc lc st) (H := H) (locs := locs) (cells := cells) (slots := slots) (Ts := am_gt) (e := e) (below := below) (meth := meth) ⟨hx, hb, hml, hown, hts⟩ (C l adK adV H.size) ⟨cB, hts _ k2⟩ ⟨js_pre_call, fun U hU hW => ⟨rfl, by rw [hU], js_Z.to hZ hA hS hU hW⟩⟩ rfl hnp hls hst (lv_room h8) hd ⟨by omega, by omega⟩
  refine va_calli hrun hS (fun q h1 h2 => absurd h1 (Nat.not_lt.mpr h2)) (fun q h => hA q (Nat.le_trans hS.1 h)) ?_
  intro r' u t H1 locs1 ht hal hr _ hz hk hS1
  rw [show r' = r from hr]
  exact k H1 locs1 hS1 hz (fun q hq => hk q hq (fun h => absurd hq (Nat.not_lt.mpr h)))
theorem js_callV {own : String} {cc cc' : ByteArray} {nL nL' fr lo fr' lo' ix pc np : Nat} {y : MethodName} {ret : Option FieldType} {av : Nat → Nat → List Value} {r : Int32} {rest st As : List Value} (hx : p.tables.exec = Jvm.exec) (hb : c.code = cc) (hml : c.maxLocals = nL) (hown : s.vm.findClass own = some m.cls) (hts : ∀ w ∈ am_gt, w.before args s = true) (hZ : js_Z adK adV A s s.heap) (hA : ∀ q, s.heap.size ≤ q → A q) (hR1 : fr ≤ R.frames) (hR2 : lo ≤ R.locals)
    (C : js_ctr y cc' nL' ret fr' lo' av r) (hm : am_mok y cc' nL' ret np) (hlk : am_lkV own ix y) (hcl : y.cls = "java/lang/String") (hd : decode cc pc = .ok (.invokevirtual ix, 3)) (hav : av (adK 0) (adV 0) = .ref (adK 0) :: As) (hnp : As.length = np) (hst : st = As.reverse ++ .ref (adK 0) :: rest) (h8 : (rest.map fun v => v.category).sum ≤ 8) (hR : fr' + 1 ≤ fr ∧ 8 + (nL' + 11) + lo' ≤ lo) (hS : va_S A s.heap H locs) (hls : lc.size = nL) (hc1 : cells ≤ R.cells) (hc2 : slots ≤ R.slots)
    (k : ∀ H1 locs1, va_S A s.heap H1 locs1 → H.size ≤ H1.size → (∀ q : Nat, q < H.size → H1[q]? = H[q]?) → W p l e R s m args below meth c H1 locs1 cells slots Q (F0 m (pc + 3) lc (.int r :: rest))) : W p l e R s m args below meth c H locs cells slots Q (F0 m pc lc st) := by
  obtain ⟨m1, m2, m3, m4⟩ := hm
  obtain ⟨k1, k2, k3, k4⟩ := hlk
  have hG : GoodIn am_gt (.code y cc' nL' ret :: am_gt) := am_gok (fun _ h => h) m1
  have cB : CallB R s args own ix y cc' nL' ret (.code y cc' nL' ret :: am_gt) { frames := fr', cells := 0, slots := 0, locals := lo' } 0 0 np := callB_of np hts hG rfl rfl rfl (hts _ k4) (hts _ k1) ⟨m2, m3, m4⟩ ⟨Nat.le_trans hR.1 hR1, Nat.le_trans hR.2 hR2⟩
  have hM := C l adK adV H.size
  rw [hav] at hM
  have hrecv : ∃ cell : Cell, H[adK 0]? = some cell ∧ cell.vm.isStatics = false ∧ s.vm.findClass y.cls = some cell.cls := by
    rw [hcl]
    exact vk_recv hZ.2 (Nat.zero_lt_succ 0) hS
  have hrun := va_runV (nL := nL) (b := adK 0) (As := As) (rest := rest) (g := F0 m pc lc st) (H := H) (locs := locs) (cells := cells) (slots := slots) (Ts := am_gt) (C := y.cls) (e := e) (below := below) (meth := meth) ⟨hx, hb, hml, hown, hts⟩ hM ⟨cB, hts _ k2, hts _ k3⟩ ⟨js_pre_call, hrecv, fun U hU hW => ⟨rfl, by rw [hU], js_Z.to hZ hA hS hU hW⟩⟩ rfl hnp hls hst (lv_room h8) hd ⟨by omega, by omega⟩
  refine va_calli hrun hS (fun q h1 h2 => absurd h1 (Nat.not_lt.mpr h2)) (fun q h => hA q (Nat.le_trans hS.1 h)) ?_
  intro r' u t H1 locs1 ht hal hr _ hz hk hS1
  rw [show r' = r from hr]
  exact k H1 locs1 hS1 hz (fun q hq => hk q hq (fun h => absurd hq (Nat.not_lt.mpr h)))
end JS
theorem D_isLatin1 : js_ctr yJ0_isLatin1_aae02 cJ0_isLatin1_aae02 1 (some .boolean) 0 0 (fun a _ => [.ref a]) 1 := by
  refine js_mk (by decide) (fun _ _ => Nat.le_of_ble_eq_true rfl) rfl ?_
  intro p l e R s m args below meth c Q A adK adV lc ⟨hx, hb, hml, hown, hts, hZ, hA, hR1, hR2⟩ hret hl
  have hS : va_S A s.heap s.heap [] := va_S.rf
  have hl : lv_has lc 1 [(0, .ref (adK 0))] := hl
  refine va_gets hx hb hZ.1 hS hown (hts _ fw_J0_38) (fun _ h => h) dJ0_isLatin1_aae02_0 ?_
  refine lv_if_eq hx hb dJ0_isLatin1_aae02_3 (tgt := 17) rfl (fun h => absurd h (by decide)) (fun _ => ?_)
  refine lv_aload_n hx hb dJ0_isLatin1_aae02_6 rfl (lv_at hl 0 rfl) ?_
  refine vk_getf hx hb (hZ.2.1 0 (Nat.zero_lt_succ 0)).2.1 hS hown (hts _ fw_J0_15) (fun _ h => h) dJ0_isLatin1_aae02_7 ?_
  refine lv_if_ne hx hb dJ0_isLatin1_aae02_10 (tgt := 17) rfl (fun h => absurd rfl h) (fun _ => ?_)
  refine lv_iconst hx hb dJ0_isLatin1_aae02_13 (v := 1) (by decide) ?_
  refine lv_goto hx hb dJ0_isLatin1_aae02_14 (tgt := 18) rfl ?_
  exact hret _ _ _ _ dJ0_isLatin1_aae02_18 hS
theorem D_coder : js_ctr yJ0_coder_7d493 cJ0_coder_7d493 1 (some .byte) 0 0 (fun a _ => [.ref a]) 0 := by
  refine js_mk (by decide) (fun _ _ => Nat.le_of_ble_eq_true rfl) rfl ?_
  intro p l e R s m args below meth c Q A adK adV lc ⟨hx, hb, hml, hown, hts, hZ, hA, hR1, hR2⟩ hret hl
  have hS : va_S A s.heap s.heap [] := va_S.rf
  have hl : lv_has lc 1 [(0, .ref (adK 0))] := hl
  refine va_gets hx hb hZ.1 hS hown (hts _ fw_J0_38) (fun _ h => h) dJ0_coder_7d493_0 ?_
  refine lv_if_eq hx hb dJ0_coder_7d493_3 (tgt := 13) rfl (fun h => absurd h (by decide)) (fun _ => ?_)
  refine lv_aload_n hx hb dJ0_coder_7d493_6 rfl (lv_at hl 0 rfl) ?_
  refine vk_getf hx hb (hZ.2.1 0 (Nat.zero_lt_succ 0)).2.1 hS hown (hts _ fw_J0_15) (fun _ h => h) dJ0_coder_7d493_7 ?_
  refine lv_goto hx hb dJ0_coder_7d493_10 (tgt := 14) rfl ?_
  exact hret _ _ _ _ dJ0_coder_7d493_14 hS
theorem D_length : js_ctr yJ0_length_8abf5 cJ0_length_8abf5 1 (some .int) 1 20 (fun a _ => [.ref a]) 6 := by
  refine js_mk (by decide) (fun _ _ => Nat.le_of_ble_eq_true rfl) rfl ?_
  intro p l e R s m args below meth c Q A adK adV lc ⟨hx, hb, hml, hown, hts, hZ, hA, hR1, hR2⟩ hret hl
  have hS : va_S A s.heap s.heap [] := va_S.rf
  have hl : lv_has lc 1 [(0, .ref (adK 0))] := hl
  have hv := hZ.2.1 0 (Nat.zero_lt_succ 0)
  refine lv_aload_n hx hb dJ0_length_8abf5_0 rfl (lv_at hl 0 rfl) ?_
  refine vk_getf hx hb hv.2.2.1 hS hown (hts _ fw_J0_9) (fun _ h => h) dJ0_length_8abf5_1 ?_
  refine va_tlen hx hb hv.2.2.2 hS (v := 6) rfl dJ0_length_8abf5_4 ?_
  refine lv_aload_n hx hb dJ0_length_8abf5_5 rfl (lv_at hl 0 rfl) ?_
  refine js_callV (rest := [.int 6]) (As := []) hx hb hml hown hts hZ hA hR1 hR2 D_coder mo_J0_coder_7d493 lk_J0_335 rfl dJ0_length_8abf5_6 rfl rfl rfl (Nat.le_of_ble_eq_true rfl) (by decide) hS hl.1 (Nat.zero_le _) (Nat.zero_le _) (fun H1 locs1 hS1 _ _ => ?_)
  refine lv_ishr hx hb dJ0_length_8abf5_9 ?_
  exact hret _ _ _ _ dJ0_length_8abf5_10 hS1
theorem D_canEncode (k : Nat) (hk : k < 256) : js_ctr yJ1_canEncode_9a6ad cJ1_canEncode_9a6ad 1 (some .boolean) 0 0 (fun _ _ => [.int (nI k)]) 1 := by
  refine js_mk (by decide) (fun _ _ => Nat.le_of_ble_eq_true rfl) rfl ?_
  intro p l e R s m args below meth c Q A adK adV lc ⟨hx, hb, hml, hown, hts, hZ, hA, hR1, hR2⟩ hret hl
  have hS : va_S A s.heap s.heap [] := va_S.rf
  have hl : lv_has lc 1 [(0, .int (nI k))] := hl
  refine lv_iload_n hx hb dJ1_canEncode_9a6ad_0 rfl (lv_at hl 0 rfl) ?_
  refine lv_if_lt hx hb dJ1_canEncode_9a6ad_1 (tgt := 15) rfl (fun h => absurd h (nI_pos (by omega))) (fun _ => ?_)
  refine lv_iload_n hx hb dJ1_canEncode_9a6ad_4 rfl (lv_at hl 0 rfl) ?_
  refine lv_sipush hx hb dJ1_canEncode_9a6ad_5 (v := nI 255) (by decide) ?_
  refine lv_icmp_gt hx hb dJ1_canEncode_9a6ad_8 (tgt := 15) rfl (fun h => absurd ((nI_ltI (by decide) (by omega)).mp h) (by omega)) (fun _ => ?_)
  refine lv_iconst hx hb dJ1_canEncode_9a6ad_11 (v := 1) (by decide) ?_
  refine lv_goto hx hb dJ1_canEncode_9a6ad_12 (tgt := 16) rfl ?_
  exact hret _ _ _ _ dJ1_canEncode_9a6ad_16 hS
theorem D_indexOfChar (k : Nat) (hk : k < 256) : js_ctr yJ1_indexOfChar_4cfef cJ1_indexOfChar_4cfef 6 (some .int) 0 0 (fun _ v => [.ref v, .int (nI k), .int (nI 0), .int (nI 6)]) (kx k) := by
  refine js_mk (by decide) (fun _ _ => Nat.le_of_ble_eq_true rfl) rfl ?_
  intro p l e R s m args below meth c Q A adK adV lc ⟨hx, hb, hml, hown, hts, hZ, hA, hR1, hR2⟩ hret hl
  have hS : va_S A s.heap s.heap [] := va_S.rf
  have hl : lv_has lc 6 [(0, .ref (adV 0)), (1, .int (nI k)), (2, .int (nI 0)), (3, .int (nI 6))] := hl
  have hv := (hZ.2.1 0 (Nat.zero_lt_succ 0)).2.2.2
  have loop : ∀ (d j : Nat) (lc : Array Slot), 6 - j = d → j ≤ 6 → (∀ i, i < j → ¬ k = kxb i) → lv_has lc 6 [(5, .int (nI j)), (4, .int (nI k).toInt8.toInt32), (0, .ref (adV 0)), (1, .int (nI k)), (2, .int (nI 0)), (3, .int (nI 6))] → W p l e R s m args below meth c s.heap [] 0 0 Q (F0 m 7 lc []) := by
    intro d
    induction d with
    | zero =>
      intro j lc hd hj hne hl
      refine lv_iload hx hb dJ1_indexOfChar_4cfef_7 (lv_at hl 0 rfl) ?_
      refine lv_iload_n hx hb dJ1_indexOfChar_4cfef_9 rfl (lv_at hl 5 rfl) ?_
      refine lv_icmp_ge hx hb dJ1_indexOfChar_4cfef_10 (tgt := 31) rfl (fun _ => ?_) (fun h => absurd ((nI_leI (by decide) (by omega)).mpr (show 6 ≤ j by omega)) h)
      refine lv_iconst hx hb dJ1_indexOfChar_4cfef_31 (v := -1) (by decide) ?_
      have := hret s.heap [] lc _ dJ1_indexOfChar_4cfef_32 hS
      rw [kx_no k hk (fun i hi => hne i (by omega))] at this
      exact this
    | succ d ih =>
      intro j lc hd hj hne hl
      refine lv_iload hx hb dJ1_indexOfChar_4cfef_7 (lv_at hl 0 rfl) ?_
      refine lv_iload_n hx hb dJ1_indexOfChar_4cfef_9 rfl (lv_at hl 5 rfl) ?_
      refine lv_icmp_ge hx hb dJ1_indexOfChar_4cfef_10 (tgt := 31) rfl (fun h => absurd ((nI_leI (by decide) (by omega)).mp h) (show ¬ 6 ≤ j by omega)) (fun _ => ?_)
      refine lv_aload_n hx hb dJ1_indexOfChar_4cfef_13 rfl (lv_at hl 2 rfl) ?_
      refine lv_iload hx hb dJ1_indexOfChar_4cfef_14 (lv_at hl 0 rfl) ?_
      refine va_tb hx hb hv hS (vp_in_nI (show j < [6].getD 0 0 by show j < 6; omega) (by decide)) rfl dJ1_indexOfChar_4cfef_16 ?_
      refine lv_iload hx hb dJ1_indexOfChar_4cfef_17 (lv_at hl 1 rfl) ?_
      refine lv_icmp_ne hx hb dJ1_indexOfChar_4cfef_19 (tgt := 25) rfl (fun h => ?_) (fun h => ?_)
      · refine lv_iinc hx hb dJ1_indexOfChar_4cfef_25 hl (k := 0) rfl (v := nI (j + 1)) (am_ii1 j) (by decide) rfl (fun lc' hl' => ?_)
        refine lv_goto hx hb dJ1_indexOfChar_4cfef_28 (tgt := 7) rfl ?_
        refine ih (j + 1) lc' (by omega) (by omega) (fun i hi => ?_) hl'
        by_cases e : i = j
        · rw [e]; exact fun z => h ((kx_by k hk j (by omega)).mpr z)
        · exact hne i (by omega)
      · have hkj := (kx_by k hk j (by omega)).mp h
        refine lv_iload hx hb dJ1_indexOfChar_4cfef_22 (lv_at hl 0 rfl) ?_
        have := hret s.heap [] lc _ dJ1_indexOfChar_4cfef_24 hS
        rw [kx_at k hk j (by omega) hkj] at this
        exact this
  refine lv_iload_n hx hb dJ1_indexOfChar_4cfef_0 rfl (lv_at hl 1 rfl) ?_
  refine lv_i2b hx hb dJ1_indexOfChar_4cfef_1 rfl ?_
  refine lv_istore hx hb dJ1_indexOfChar_4cfef_2 hl (by decide) rfl (fun lc1 hl1 => ?_)
  refine lv_iload_n hx hb dJ1_indexOfChar_4cfef_4 rfl (lv_at hl1 3 rfl) ?_
  refine lv_istore hx hb dJ1_indexOfChar_4cfef_5 hl1 (by decide) rfl (fun lc2 hl2 => ?_)
  exact loop 6 0 lc2 rfl (by omega) (fun i hi => absurd hi (Nat.not_lt_zero i)) hl2
theorem D_indexOf1 (k : Nat) (hk : k < 256) : js_ctr yJ1_indexOf_4cfef cJ1_indexOf_4cfef 4 (some .int) 1 25 (fun _ v => [.ref v, .int (nI k), .int (nI 0), .int (nI 6)]) (kx k) := by
  refine js_mk (by decide) (fun _ _ => Nat.le_of_ble_eq_true rfl) rfl ?_
  intro p l e R s m args below meth c Q A adK adV lc ⟨hx, hb, hml, hown, hts, hZ, hA, hR1, hR2⟩ hret hl
  have hS : va_S A s.heap s.heap [] := va_S.rf
  have hl : lv_has lc 4 [(0, .ref (adV 0)), (1, .int (nI k)), (2, .int (nI 0)), (3, .int (nI 6))] := hl
  have hv := (hZ.2.1 0 (Nat.zero_lt_succ 0)).2.2.2
  refine lv_iload_n hx hb dJ1_indexOf_4cfef_0 rfl (lv_at hl 1 rfl) ?_
  refine js_callS (rest := []) hx hb hml hown hts hZ hA hR1 hR2 (D_canEncode k hk) mo_J1_canEncode_9a6ad lk_J1_88 dJ1_indexOf_4cfef_1 rfl rfl (Nat.le_of_ble_eq_true rfl) (by decide) hS hl.1 (Nat.zero_le _) (Nat.zero_le _) (fun H1 locs1 hS1 _ _ => ?_)
  refine lv_if_ne hx hb dJ1_indexOf_4cfef_4 (tgt := 9) rfl (fun _ => ?_) (fun h => absurd h (by decide))
  refine lv_iload_n hx hb dJ1_indexOf_4cfef_9 rfl (lv_at hl 2 rfl) ?_
  refine lv_iconst hx hb dJ1_indexOf_4cfef_10 (v := 0) (by decide) ?_
  refine va_mmax hx hb (by rw [hml]; exact hl.1.symm) hown (hts _ lk_J1_92.1) (hts _ lk_J1_92.2.1) (hts _ lk_J1_92.2.2) (hts _ mo_J9_max_7cf53.1) (by omega) (by show 0 + 13 ≤ _; omega) (Nat.zero_le _) (Nat.zero_le _) dJ1_indexOf_4cfef_11 ?_
  refine lv_istore_n hx hb dJ1_indexOf_4cfef_14 rfl hl (by decide) rfl (fun lc1 hl1 => ?_)
  refine lv_iload_n hx hb dJ1_indexOf_4cfef_15 rfl (lv_at hl1 3 rfl) ?_
  refine lv_aload_n hx hb dJ1_indexOf_4cfef_16 rfl (lv_at hl1 1 rfl) ?_
  refine va_tlen hx hb hv hS1 (v := nI 6) rfl dJ1_indexOf_4cfef_17 ?_
  refine va_mmin hx hb (by rw [hml]; exact hl1.1.symm) hown (hts _ lk_J1_38.1) (hts _ lk_J1_38.2.1) (hts _ lk_J1_38.2.2) (hts _ mo_J9_min_7cf53.1) (by omega) (by show 0 + 13 ≤ _; omega) (Nat.zero_le _) (Nat.zero_le _) dJ1_indexOf_4cfef_18 ?_
  refine lv_istore_n hx hb dJ1_indexOf_4cfef_21 rfl hl1 (by decide) rfl (fun lc2 hl2 => ?_)
  refine lv_iload_n hx hb dJ1_indexOf_4cfef_22 rfl (lv_at hl2 1 rfl) ?_
  refine lv_iload_n hx hb dJ1_indexOf_4cfef_23 rfl (lv_at hl2 0 rfl) ?_
  refine lv_icmp_lt hx hb dJ1_indexOf_4cfef_24 (tgt := 29) rfl (fun _ => ?_) (fun h => absurd (by decide) h)
  refine lv_aload_n hx hb dJ1_indexOf_4cfef_29 rfl (lv_at hl2 2 rfl) ?_
  refine lv_iload_n hx hb dJ1_indexOf_4cfef_30 rfl (lv_at hl2 3 rfl) ?_
  refine lv_iload_n hx hb dJ1_indexOf_4cfef_31 rfl (lv_at hl2 1 rfl) ?_
  refine lv_iload_n hx hb dJ1_indexOf_4cfef_32 rfl (lv_at hl2 0 rfl) ?_
  refine js_callS (rest := []) hx hb hml hown hts hZ hA hR1 hR2 (D_indexOfChar k hk) mo_J1_indexOfChar_4cfef lk_J1_95 dJ1_indexOf_4cfef_33 rfl rfl (Nat.le_of_ble_eq_true rfl) (by decide) hS1 hl2.1 (Nat.zero_le _) (Nat.zero_le _) (fun H2 locs2 hS2 _ _ => ?_)
  exact hret _ _ _ _ dJ1_indexOf_4cfef_36 hS2
theorem D_indexOf2 (k : Nat) (hk : k < 256) : js_ctr yJ0_indexOf_7cf53 cJ0_indexOf_7cf53 3 (some .int) 2 48 (fun a _ => [.ref a, .int (nI k), .int (nI 0)]) (kx k) := by
  refine js_mk (by decide) (fun _ _ => Nat.le_of_ble_eq_true rfl) rfl ?_
  intro p l e R s m args below meth c Q A adK adV lc ⟨hx, hb, hml, hown, hts, hZ, hA, hR1, hR2⟩ hret hl
  have hS : va_S A s.heap s.heap [] := va_S.rf
  have hl : lv_has lc 3 [(0, .ref (adK 0)), (1, .int (nI k)), (2, .int (nI 0))] := hl
  have hv := hZ.2.1 0 (Nat.zero_lt_succ 0)
  refine lv_aload_n hx hb dJ0_indexOf_7cf53_0 rfl (lv_at hl 0 rfl) ?_
  refine js_callV (rest := []) (As := []) hx hb hml hown hts hZ hA hR1 hR2 D_isLatin1 mo_J0_isLatin1_aae02 lk_J0_492 rfl dJ0_indexOf_7cf53_1 rfl rfl rfl (Nat.le_of_ble_eq_true rfl) (by decide) hS hl.1 (Nat.zero_le _) (Nat.zero_le _) (fun H1 locs1 hS1 _ _ => ?_)
  refine lv_if_eq hx hb dJ0_indexOf_7cf53_4 (tgt := 23) rfl (fun h => absurd h (by decide)) (fun _ => ?_)
  refine lv_aload_n hx hb dJ0_indexOf_7cf53_7 rfl (lv_at hl 0 rfl) ?_
  refine vk_getf hx hb hv.2.2.1 hS1 hown (hts _ fw_J0_9) (fun _ h => h) dJ0_indexOf_7cf53_8 ?_
  refine lv_iload_n hx hb dJ0_indexOf_7cf53_11 rfl (lv_at hl 1 rfl) ?_
  refine lv_iload_n hx hb dJ0_indexOf_7cf53_12 rfl (lv_at hl 2 rfl) ?_
  refine lv_aload_n hx hb dJ0_indexOf_7cf53_13 rfl (lv_at hl 0 rfl) ?_
  refine js_callV (rest := [.int (nI 0), .int (nI k), .ref (adV 0)]) (As := []) hx hb hml hown hts hZ hA hR1 hR2 D_length mo_J0_length_8abf5 lk_J0_505 rfl dJ0_indexOf_7cf53_14 rfl rfl rfl (Nat.le_of_ble_eq_true rfl) (by decide) hS1 hl.1 (Nat.zero_le _) (Nat.zero_le _) (fun H2 locs2 hS2 _ _ => ?_)
  refine js_callS (rest := []) hx hb hml hown hts hZ hA hR1 hR2 (D_indexOf1 k hk) mo_J1_indexOf_4cfef lk_J0_637 dJ0_indexOf_7cf53_17 rfl rfl (Nat.le_of_ble_eq_true rfl) (by decide) hS2 hl.1 (Nat.zero_le _) (Nat.zero_le _) (fun H3 locs3 hS3 _ _ => ?_)
  refine lv_goto hx hb dJ0_indexOf_7cf53_20 (tgt := 36) rfl ?_
  exact hret _ _ _ _ dJ0_indexOf_7cf53_36 hS3
theorem D_indexOf (k : Nat) (hk : k < 256) : js_ctr yJ0_indexOf_0f7a4 cJ0_indexOf_0f7a4 2 (some .int) 3 70 (fun a _ => [.ref a, .int (nI k)]) (kx k) := by
  refine js_mk (by decide) (fun _ _ => Nat.le_of_ble_eq_true rfl) rfl ?_
  intro p l e R s m args below meth c Q A adK adV lc ⟨hx, hb, hml, hown, hts, hZ, hA, hR1, hR2⟩ hret hl
  have hS : va_S A s.heap s.heap [] := va_S.rf
  have hl : lv_has lc 2 [(0, .ref (adK 0)), (1, .int (nI k))] := hl
  refine lv_aload_n hx hb dJ0_indexOf_0f7a4_0 rfl (lv_at hl 0 rfl) ?_
  refine lv_iload_n hx hb dJ0_indexOf_0f7a4_1 rfl (lv_at hl 1 rfl) ?_
  refine lv_iconst hx hb dJ0_indexOf_0f7a4_2 (v := nI 0) (by decide) ?_
  refine js_callV (rest := []) (As := [.int (nI k), .int (nI 0)]) hx hb hml hown hts hZ hA hR1 hR2 (D_indexOf2 k hk) mo_J0_indexOf_7cf53 lk_J0_633 rfl dJ0_indexOf_0f7a4_3 rfl rfl rfl (Nat.le_of_ble_eq_true rfl) (by decide) hS hl.1 (Nat.zero_le _) (Nat.zero_le _) (fun H1 locs1 hS1 _ _ => ?_)
  exact hret _ _ _ _ dJ0_indexOf_0f7a4_6 hS1
abbrev T_J0_indexOf_0f7a4 : am_TT := am_pure (fun is _ r => ∃ k, k < 256 ∧ is = [nI k] ∧ r = kx k)
theorem am_callIx {X : am_X} {own : String} {cc : ByteArray} {nL fr lo ix pc : Nat} {sh : am_S} (hX : am_cx X own cc nL fr lo) (hlk : am_lkV own ix yJ0_indexOf_0f7a4) (hd : decode cc pc = .ok (.invokevirtual ix, 3)) (hR : 4 ≤ fr ∧ 91 ≤ lo) : am_csok X nL sh pc (am_site 2 [some 0, none] T_J0_indexOf_0f7a4 [] [998]) := by
  obtain ⟨p, l, e, R, s, m, args, below, meth, c, Q, cells, slots, dC, dI, cA, ad, A⟩ := X
  obtain ⟨hx, hb, hml, hown, hts, hK, hZ, hA, hc1, hc2, hR1, hR2, adK, adV, had, hk⟩ := hX
  intro st D k ls h hn H locs lc hP hD hS hsz hlen hl
  unfold am_site at h
  rcases st with _ | ⟨y | v, _ | ⟨x | q, rest⟩⟩
  · exact h.elim
  · exact h.elim
  · exact h.elim
  · have hq : ad q = ad 998 ∧ ∃ is, am_ag [998] [some 0, none] (List.take 2 (Sum.inl y :: Sum.inr q :: rest)).reverse = some is ∧ is = [y] := by
      show ad q = ad 998 ∧ ∃ is, (if some 998 = some q then some [y] else none) = some is ∧ is = [y]
      by_cases e : 998 = q
      · subst e; exact ⟨rfl, [y], if_pos rfl, rfl⟩
      · exfalso
        revert h
        show (match (if some 998 = some q then some [y] else none) with
          | some is => _
          | none => False) → False
        rw [if_neg (by simpa using e)]
        exact id
    obtain ⟨eq, is, hag, rfl⟩ := hq
    rw [hag] at h
    obtain ⟨h8, r, ⟨k', hk', e1, rfl⟩, hk2⟩ := h
    cases e1
    have e5 : ∀ r : List am_V, ((r.map (am_cv ad)).map fun v => v.category).sum = r.length := by
      intro r
      induction r with
      | nil => rfl
      | cons v r ih =>
        have hv : (am_cv ad v).category = 1 := by cases v <;> rfl
        simp only [List.map_cons, List.sum_cons, List.length_cons, hv, ih]
        omega
    have hst : (Sum.inl (nI k') :: Sum.inr q :: rest).map (am_cv ad) = [Value.int (nI k')].reverse ++ Value.ref (adK 0) :: rest.map (am_cv ad) := by
      show [Value.int (nI k'), Value.ref (ad q)] ++ rest.map (am_cv ad) = _
      rw [eq, had]
      rfl
    refine js_callV (rest := rest.map (am_cv ad)) (As := [.int (nI k')]) hx hb hml hown hts ⟨hZ.1, hk⟩ hA hR1 hR2 (D_indexOf k' hk') mo_J0_indexOf_0f7a4 hlk rfl hd rfl rfl hst (by rw [e5]; exact h8) ⟨by omega, by omega⟩ hS hl.1 hc1 hc2 (fun H1 locs1 hS1 hz hk1 => ?_)
    exact hn _ _ hk2 H1 locs1 lc (fun i g hi => (hP i g hi).kept (hk1 _ (hP i g hi).lt)) hD hS1 hsz hlen hl
  · have e : am_ag [998] [some 0, none] (List.take 2 [(Sum.inr v : am_V)]).reverse = none := by
      show (if some 998 = some v then none else none) = none
      split <;> rfl
    rw [e] at h
    exact h.elim
  · exact h.elim
  · have e : am_ag [998] [some 0, none] (List.take 2 ((Sum.inr v : am_V) :: Sum.inr q :: rest)).reverse = none := by
      show (if some 998 = some q then none else none) = none
      split <;> rfl
    rw [e] at h
    exact h.elim
