def am_l0 : Nat → List (Option Nat) → List Int32 → am_L
  | n, [], _ => List.replicate n none
  | n, some p :: pat, is => some (.inr p) :: am_l0 (n - 1) pat is
  | n, none :: pat, x :: is => some (.inl x) :: am_l0 (n - 1) pat is
  | n, none :: pat, [] => some (.inl 0) :: am_l0 (n - 1) pat []
theorem am_lp_none (ad : Nat → Nat) : ∀ (n i : Nat), am_lp ad i (List.replicate n none) = []
  | 0, _ => rfl
  | n + 1, i => am_lp_none ad n (i + 1)
theorem am_l0_lp (ad : Nat → Nat) : ∀ (pat : List (Option Nat)) (is : List Int32) (n i : Nat), am_lp ad i (am_l0 n pat is) = lv_args i (am_av ad pat is)
  | [], is, n, i => by cases is <;> exact am_lp_none ad n i
  | some p :: pat, is, n, i => by
    have h := am_l0_lp ad pat is (n - 1) (i + 1)
    have e : am_av ad (some p :: pat) is = .ref (ad p) :: am_av ad pat is := by cases is <;> rfl
    have e2 : am_l0 n (some p :: pat) is = some (.inr p) :: am_l0 (n - 1) pat is := by cases is <;> rfl
    rw [e, e2]
    show (i, Value.ref (ad p)) :: am_lp ad (i + 1) (am_l0 (n - 1) pat is) = (i, Value.ref (ad p)) :: lv_args (i + 1) (am_av ad pat is)
    rw [h]
  | none :: pat, x :: is, n, i => by
    have h := am_l0_lp ad pat is (n - 1) (i + 1)
    show (i, Value.int x) :: am_lp ad (i + 1) (am_l0 (n - 1) pat is) = (i, Value.int x) :: lv_args (i + 1) (am_av ad pat is)
    rw [h]
  | none :: pat, [], n, i => by
    have h := am_l0_lp ad pat [] (n - 1) (i + 1)
    show (i, Value.int 0) :: am_lp ad (i + 1) (am_l0 (n - 1) pat []) = (i, Value.int 0) :: lv_args (i + 1) (am_av ad pat [])
    rw [h]
theorem am_l0_len : ∀ (pat : List (Option Nat)) (is : List Int32) (n : Nat), pat.length ≤ n → (am_l0 n pat is).length = n
  | [], is, n, _ => by cases is <;> exact List.length_replicate
  | some p :: pat, is, n, h => by
    simp only [List.length_cons] at h
    have e2 : am_l0 n (some p :: pat) is = some (.inr p) :: am_l0 (n - 1) pat is := by cases is <;> rfl
    rw [e2, List.length_cons, am_l0_len pat is (n - 1) (by omega)]; omega
  | none :: pat, x :: is, n, h => by
    simp only [List.length_cons] at h
    show (am_l0 (n - 1) pat is).length + 1 = n
    rw [am_l0_len pat is (n - 1) (by omega)]; omega
  | none :: pat, [], n, h => by
    simp only [List.length_cons] at h
    show (am_l0 (n - 1) pat []).length + 1 = n
    rw [am_l0_len pat [] (n - 1) (by omega)]; omega
theorem am_sl_len (ad : Nat → Nat) : ∀ (pat : List (Option Nat)) (is : List Int32), (lg_sl (am_av ad pat is)).length = pat.length
  | [], is => by cases is <;> rfl
  | some p :: pat, is => by
    have h := am_sl_len ad pat is
    have e : am_av ad (some p :: pat) is = .ref (ad p) :: am_av ad pat is := by cases is <;> rfl
    rw [e]
    simp only [lg_sl, List.flatMap_cons, List.length_append, List.length_cons] at h ⊢
    rw [h]
    show 1 + _ = _
    omega
  | none :: pat, x :: is => by
    have h := am_sl_len ad pat is
    show (lg_sl (Value.int x :: am_av ad pat is)).length = _
    simp only [lg_sl, List.flatMap_cons, List.length_append, List.length_cons] at h ⊢
    rw [h]
    show 1 + _ = _
    omega
  | none :: pat, [] => by
    have h := am_sl_len ad pat []
    show (lg_sl (Value.int 0 :: am_av ad pat [])).length = _
    simp only [lg_sl, List.flatMap_cons, List.length_append, List.length_cons] at h ⊢
    rw [h]
    show 1 + _ = _
    omega
/-- the tables' words of a class's field and number entries -/
def am_flw (own : String) (fl : Nat → Option (Nat × Nat × Nat)) : Prop := ∀ (ix ci n b : Nat), fl ix = some (ci, n, b) → ∃ (C : String) (T : u_T) (N : Nat), vwCl[ci]? = some (C, T, N) ∧ n < N ∧ (∀ w ∈ u_ws C T N, w ∈ am_gt) ∧ Cond.fieldLink own ix (T n).1 (T n).2.1 (T n).2.2.1 ∈ am_gt ∧ (b = 1 → (T n).2.2.2 = false ∧ parseFieldDescriptor (T n).2.2.1 = some .int) ∧ (b = 2 → (T n).2.2.2 = false ∧ parseFieldDescriptor (T n).2.2.1 = some .boolean)
def am_kcw (own : String) (kc : Nat → Option am_V) : Prop := ∀ (ix : Nat) (v : am_V), kc ix = some v → match v with
  | .inl x => Cond.constant own ix x ∈ am_gt
  | .inr q => q = 998 ∧ ((own = RX5 ∧ ix = 53) ∨ (own = RX7 ∧ ix = 80))
theorem am_flw_ok {own : String} {fl : Nat → Option (Nat × Nat × Nat)} (h : am_flw own fl) {args : Array Value} {s : State} (hts : ∀ w ∈ am_gt, w.before args s = true) : am_fok own args s fl := by
  intro ix ci n b hf
  obtain ⟨C, T, N, h1, h2, h3, h4, h5, h6⟩ := h ix ci n b hf
  exact ⟨C, T, N, h1, h2, fun w hw => hts w (h3 w hw), hts _ h4, h5, h6⟩
theorem am_w_ad {cA : ClassId} {ad ad' : Nat → Nat} {sh : am_S} {D : am_D} : ∀ (i : Nat), (∀ p, p < i + sh.length → ad p = ad' p) → (∀ t ∈ sh, ∀ o, t = Sum.inr o → ∀ q, Sum.inr q ∈ o.2 → ad q = ad' q) → am_w cA ad i sh D = am_w cA ad' i sh D := by
  induction sh generalizing D with
  | nil => intro i _ _; cases D <;> rfl
  | cons t sh ih =>
    intro i h1 h2
    cases D with
    | nil => rfl
    | cons d D =>
      show (ad i, am_ce cA ad t d) :: am_w cA ad (i + 1) sh D = (ad' i, am_ce cA ad' t d) :: am_w cA ad' (i + 1) sh D
      rw [ih (i + 1) (fun p hp => h1 p (by simp only [List.length_cons]; omega)) (fun t' ht' => h2 t' (List.mem_cons_of_mem _ ht')), h1 i (by simp only [List.length_cons]; omega)]
      congr 1
      congr 1
      cases t with
      | inl n => cases d <;> rfl
      | inr o =>
        have key : ∀ xs : List Int32, o.2.map (am_fv ad xs) = o.2.map (am_fv ad' xs) := by
          intro xs
          apply List.map_congr_left
          intro f hf
          cases f with
          | inl i => rfl
          | inr q => show Value.ref (ad q) = Value.ref (ad' q); rw [h2 _ List.mem_cons_self o rfl q hf]
        cases d with
        | inl xs => exact congrArg (fun z => (Sum.inr (o.1, z) : va_E)) (key xs)
        | inr f => exact congrArg (fun z => (Sum.inr (o.1, z) : va_E)) (key [])
/-- no place of a shape is the text's -/
def am_low (sh : am_S) (pat : List (Option Nat)) : Bool := decide (sh.length ≤ 998) && sh.all (fun t => match t with
  | .inl _ => true
  | .inr o => o.2.all (fun f => match f with
    | .inl _ => true
    | .inr q => decide (q < 998))) && pat.all (fun o => match o with
  | none => true
  | some q => decide (q < 998))
theorem am_av_ad {ad ad' : Nat → Nat} : ∀ (pat : List (Option Nat)) (is : List Int32), (∀ q, some q ∈ pat → ad q = ad' q) → am_av ad pat is = am_av ad' pat is
  | [], is, _ => by cases is <;> rfl
  | some p :: pat, is, h => by
    have e : ∀ ad, am_av ad (some p :: pat) is = .ref (ad p) :: am_av ad pat is := fun ad => by cases is <;> rfl
    rw [e, e, h p List.mem_cons_self, am_av_ad pat is (fun q hq => h q (List.mem_cons_of_mem _ hq))]
  | none :: pat, x :: is, h => by
    show Value.int x :: am_av ad pat is = Value.int x :: am_av ad' pat is
    rw [am_av_ad pat is (fun q hq => h q (List.mem_cons_of_mem _ hq))]
  | none :: pat, [], h => by
    show Value.int 0 :: am_av ad pat [] = Value.int 0 :: am_av ad' pat []
    rw [am_av_ad pat [] (fun q hq => h q (List.mem_cons_of_mem _ hq))]
set_option maxHeartbeats 1000000 in
/-- A CONTRACT out of the body's walk over the abstract machine -/
theorem am_mk {y : MethodName} {cc : ByteArray} {nL fr lo : Nat} {ret : Option FieldType} {sh : am_S} {pat : List (Option Nat)} {T : List Int32 → am_D → (List Int32 → am_D → Prop) → Prop} {fl : Nat → Option (Nat × Nat × Nat)} {kc : Nat → Option am_V} {rb : Nat} {cs : Nat → List am_V → am_D → am_K → Prop}
    (hy : plainName y.cls = true) (hret : (ret = none ∧ rb = 0) ∨ (ret = some .int ∧ rb = 1) ∨ (ret = some .boolean ∧ rb = 2)) (hsh : am_shok sh = true) (hlow : am_low sh pat = true) (hnL : pat.length ≤ nL) (hfl : am_flw y.cls fl) (hkc : am_kcw y.cls kc)
    (hcs : ∀ X : am_X, am_cx X y.cls cc nL fr lo → ∀ pc, am_csok X nL sh pc (cs pc))
    (body : ∀ (X : am_X) (is : List Int32) (D : am_D) (K : List Int32 → am_D → Prop), am_ok X y.cls cc nL sh fl kc none rb cs K → T is D K → is.length = (pat.filter Option.isNone).length → D.length = sh.length → am_aw X nL sh 0 (am_l0 nL pat is) [] D) : am_ctr y cc nL ret fr lo sh pat T := by
  intro l dC dI cA ad0 sz is D K hT his hDl
  refine Met.ofW (cc := cc) (maxL := nL) (ret := ret) hy rfl ?_
  intro p e s m args below meth c s₁ B hml hv
  obtain ⟨rfl, hsz, hP, hK, hD0, hZ⟩ := hv
  have hx := B.exec
  have hb := B.bytes
  have hr := B.returns
  have hts0 := atoms_spec (ws := Cond.code y cc nL ret :: am_gt) B.pre
  have hts : ∀ w ∈ am_gt, w.before (am_av ad0 pat is).toArray s = true := fun w hw => hts0 w (List.mem_cons_of_mem _ hw)
  have hown : s.vm.findClass y.cls = some m.cls := findClass_of_methodNamed B.named
  have hlocks := B.notSynchronized
  subst hsz
  obtain ⟨hz1, adK, adV, hz2, hz3, hz4⟩ := id hZ
  simp only [am_low, Bool.and_eq_true, decide_eq_true_eq] at hlow
  obtain ⟨⟨w1, w2⟩, w3⟩ := hlow
  obtain ⟨ad, had⟩ : ∃ ad : Nat → Nat, ad = fun q => if q = 998 then adK 0 else ad0 q := ⟨_, rfl⟩
  have had8 : ad 998 = adK 0 := by rw [had]; exact if_pos rfl
  have hadn : ∀ q, q ≠ 998 → ad0 q = ad q := fun q hq => by rw [had]; exact (if_neg hq).symm
  have hwe : ∀ D' : am_D, am_w cA ad0 0 sh D' = am_w cA ad 0 sh D' := fun D' => am_w_ad 0 (fun p hp => hadn p (by omega)) (fun t ht o ho q hq => hadn q (fun e => by
    subst ho; subst e
    have := List.all_eq_true.mp w2 _ ht
    have := List.all_eq_true.mp this _ hq
    simp at this))
  have hav : am_av ad0 pat is = am_av ad pat is := am_av_ad pat is (fun q hq => hadn q (fun e => by
    subst e
    have := List.all_eq_true.mp w3 _ hq
    simp at this))
  have hD := hD0.self (sz := s.heap.size)
  obtain ⟨A, hAe⟩ : ∃ A, A = va_A (am_w cA ad0 0 sh D) s.heap.size := ⟨_, rfl⟩
  rw [← hAe] at hD hZ hz2 ⊢
  have hA : ∀ q : Nat, s.heap.size ≤ q → A q := fun q h => by rw [hAe]; exact Or.inr h
  rw [hwe] at hP hD
  have hS : va_S A s.heap s.heap [] := va_S.rf
  have hl := lv_entry (am_av ad0 pat is) (n := nL) (by rw [am_sl_len]; exact hnL)
  rw [lg_entry_eq]
  generalize (lg_sl (am_av ad0 pat is) ++ List.replicate (nL - (lg_sl (am_av ad0 pat is)).length) Slot.unset).toArray = ls at hl ⊢
  rw [hav, ← am_l0_lp ad pat is nL 0] at hl
  obtain ⟨args, hargs⟩ : ∃ args, args = (am_av ad0 pat is).toArray := ⟨_, rfl⟩
  rw [← hargs] at hts ⊢
  have hwA : ∀ (D' : am_D) (H : Heap) (locs : List Loc) (rs : List Int32), rs.length ≤ 1 → K rs D' → va_P (dC, dI) vwCl (am_w cA ad 0 sh D') H → va_D A (am_w cA ad 0 sh D') → va_S A s.heap H locs → D'.length = sh.length → ∀ t : State, t.heap = H → s.WarmedH t.vm → am_post dC dI cA ad0 sh A K args s (.returned (rs.head?.map Value.int)) t := by
    intro D' H locs rs h0 h1 h2 h3 h4 h5 t ht hW
    exact ⟨⟨rs, D', rfl, h0, h1, h5, by rw [ht, hwe]; exact h2, by rw [hwe]; exact h3⟩, h4.F ht⟩
  have C0 : am_cx (p, l, e, (headSpec (Cond.code y cc nL ret :: am_gt) { frames := fr, cells := 0, slots := 0, locals := lo }).room, s, m, args, below, meth, c, MQ below (am_post dC dI cA ad0 sh A K) args s 0 0 A, 0, 0, dC, dI, cA, ad, A) y.cls cc nL fr lo := ⟨hx, hb, hml, hown, hts, hK, hZ, hA, Nat.zero_le _, Nat.zero_le _, Nat.le_refl _, Nat.le_refl _, adK, adV, had8, hz2⟩
  refine body (p, l, e, (headSpec (Cond.code y cc nL ret :: am_gt) { frames := fr, cells := 0, slots := 0, locals := lo }).room, s, m, args, below, meth, c, MQ below (am_post dC dI cA ad0 sh A K) args s 0 0 A, 0, 0, dC, dI, cA, ad, A) is D K ⟨hx, hb, hown, hK, hsh, am_flw_ok hfl hts, ?_, fun L xs h => absurd h (by simp), ?_, ?_, fun pc st D' k ls' h1 h2 => hcs _ C0 pc st D' k ls' h1 h2⟩ hT his hDl s.heap [] ls hP hD hS hDl (am_l0_len pat is nL hnL) hl
  · intro ix v hv
    have h1 := hkc ix v hv
    cases v with
    | inl x => exact hts _ h1
    | inr q =>
      obtain ⟨rfl, h2⟩ := h1
      show ∃ tx : String, vk_R y.cls ix tx (ad 998) s
      rw [had8]
      rcases h2 with ⟨e1, rfl⟩ | ⟨e1, rfl⟩
      · rw [e1]; exact ⟨_, hz3⟩
      · rw [e1]; exact ⟨_, hz4⟩
  · intro pc v D' H locs lc hd hrb hKv a1 a2 a3 a4
    rcases hret with ⟨e1, e2⟩ | ⟨e1, e2⟩ | ⟨e1, e2⟩
    · rcases hrb with h | h <;> omega
    · exact W.iret hx hb (by rw [hr, e1]) (fun t ht hW => hwA D' H locs [v] (Nat.le_refl 1) hKv a1 a2 a3 a4 t ht hW) a3.2.2 hd hlocks
    · have hv01 : v = 0 ∨ v = 1 := by
        rcases hrb with h | h
        · omega
        · exact h.2
      exact W.zret hx hb (by rw [hr, e1]) (by rcases hv01 with rfl | rfl <;> rfl) (fun t ht hW => hwA D' H locs [v] (Nat.le_refl 1) hKv a1 a2 a3 a4 t ht hW) a3.2.2 hd hlocks
  · intro pc D' H locs lc hd hrb hKv a1 a2 a3 a4
    rcases hret with ⟨e1, e2⟩ | ⟨e1, e2⟩ | ⟨e1, e2⟩
    · exact W.vret hx hb (by rw [hr, e1]) (fun t ht hW => hwA D' H locs [] (Nat.zero_le 1) hKv a1 a2 a3 a4 t ht hW) a3.2.2 hd hlocks
    · omega
    · omega
