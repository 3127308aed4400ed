/-! A SMALL ABSTRACT MACHINE: values are ints or places of a world whose shape is fixed; am_ex: what an instruction asks of what comes behind it; am_sound: it is so of the machine itself -/
abbrev am_V : Type := Int32 ⊕ Nat
abbrev am_C : Type := List Int32 ⊕ (Nat → Int32)
abbrev am_D : Type := List am_C
abbrev am_T : Type := Nat ⊕ (Nat × List (Nat ⊕ Nat))
abbrev am_S : Type := List am_T
abbrev am_L : Type := List (Option am_V)
abbrev am_K : Type := List am_V → am_D → Prop
def am_cv (ad : Nat → Nat) : am_V → Value
  | .inl x => .int x
  | .inr p => .ref (ad p)
def am_fv (ad : Nat → Nat) (xs : List Int32) : Nat ⊕ Nat → Value
  | .inl i => .int (xs.getD i 0)
  | .inr p => .ref (ad p)
def am_ce (cA : ClassId) (ad : Nat → Nat) : am_T → am_C → va_E
  | .inl n, .inr f => .inl (cA, n, .inl f)
  | .inr o, .inl xs => .inr (o.1, o.2.map (am_fv ad xs))
  | .inl n, .inl _ => .inl (cA, n, .inl (fun _ => 0))
  | .inr o, .inr _ => .inr (o.1, o.2.map (am_fv ad []))
def am_w (cA : ClassId) (ad : Nat → Nat) : Nat → am_S → am_D → va_W
  | i, t :: sh, d :: D => (ad i, am_ce cA ad t d) :: am_w cA ad (i + 1) sh D
  | _, _, _ => []
def am_lp (ad : Nat → Nat) : Nat → am_L → List (Nat × Value)
  | _, [] => []
  | i, none :: l => am_lp ad (i + 1) l
  | i, some v :: l => (i, am_cv ad v) :: am_lp ad (i + 1) l
theorem am_w_get (cA : ClassId) (ad : Nat → Nat) : ∀ (sh : am_S) (D : am_D) (i p : Nat) (t : am_T) (d : am_C), sh[p]? = some t → D[p]? = some d → (am_w cA ad i sh D)[p]? = some (ad (i + p), am_ce cA ad t d)
  | [], _, _, _, _, _, h, _ => by simp at h
  | _ :: _, [], _, _, _, _, _, h => by simp at h
  | t0 :: sh, d0 :: D, i, 0, t, d, h1, h2 => by
    simp only [List.getElem?_cons_zero, Option.some.injEq] at h1 h2
    subst h1; subst h2
    rfl
  | t0 :: sh, d0 :: D, i, p + 1, t, d, h1, h2 => by
    rw [List.getElem?_cons_succ] at h1 h2
    have := am_w_get cA ad sh D (i + 1) p t d h1 h2
    show (am_w cA ad (i + 1) sh D)[p]? = _
    rw [this, show i + 1 + p = i + (p + 1) by omega]
theorem am_w_set (cA : ClassId) (ad : Nat → Nat) : ∀ (sh : am_S) (D : am_D) (i p : Nat) (t : am_T) (d0 d : am_C), sh[p]? = some t → D[p]? = some d0 → (am_w cA ad i sh D).set p (ad (i + p), am_ce cA ad t d) = am_w cA ad i sh (D.set p d)
  | [], _, _, _, _, _, _, h, _ => by simp at h
  | _ :: _, [], _, _, _, _, _, _, h => by simp at h
  | t0 :: sh, e0 :: D, i, 0, t, d0, d, h1, h2 => by
    simp only [List.getElem?_cons_zero, Option.some.injEq] at h1
    subst h1
    rfl
  | t0 :: sh, e0 :: D, i, p + 1, t, d0, d, h1, h2 => by
    rw [List.getElem?_cons_succ] at h1 h2
    have := am_w_set cA ad sh D (i + 1) p t d0 d h1 h2
    show (ad i, am_ce cA ad t0 e0) :: (am_w cA ad (i + 1) sh D).set p _ = (ad i, am_ce cA ad t0 e0) :: am_w cA ad (i + 1) sh (D.set p d)
    rw [← this, show i + 1 + p = i + (p + 1) by omega]
theorem am_lp_mem (ad : Nat → Nat) : ∀ (l : am_L) (i j : Nat) (v : am_V), l[j]? = some (some v) → (i + j, am_cv ad v) ∈ am_lp ad i l
  | [], _, _, _, h => by simp at h
  | o :: l, i, 0, v, h => by
    simp only [List.getElem?_cons_zero, Option.some.injEq] at h
    subst h
    exact List.mem_cons_self
  | o :: l, i, j + 1, v, h => by
    rw [List.getElem?_cons_succ] at h
    have h1 := am_lp_mem ad l (i + 1) j v h
    rw [show i + 1 + j = i + (j + 1) by omega] at h1
    cases o with
    | none => exact h1
    | some w => exact List.mem_cons_of_mem _ h1
theorem am_lp_of (ad : Nat → Nat) : ∀ (l : am_L) (i : Nat) (q : Nat × Value), q ∈ am_lp ad i l → ∃ (j : Nat) (v : am_V), q = (i + j, am_cv ad v) ∧ l[j]? = some (some v)
  | [], _, q, h => by cases h
  | none :: l, i, q, h => by
    obtain ⟨j, v, h1, h2⟩ := am_lp_of ad l (i + 1) q h
    exact ⟨j + 1, v, by rw [h1, show i + 1 + j = i + (j + 1) by omega], by rw [List.getElem?_cons_succ]; exact h2⟩
  | some w :: l, i, q, h => by
    rcases List.mem_cons.mp h with h | h
    · exact ⟨0, w, h, rfl⟩
    · obtain ⟨j, v, h1, h2⟩ := am_lp_of ad l (i + 1) q h
      exact ⟨j + 1, v, by rw [h1, show i + 1 + j = i + (j + 1) by omega], by rw [List.getElem?_cons_succ]; exact h2⟩
theorem am_lh_at {ad : Nat → Nat} {lc : Array Slot} {nL : Nat} {ls : am_L} (h : lv_has lc nL (am_lp ad 0 ls)) {j : Nat} {v : am_V} (hj : ls[j]? = some (some v)) : lc[j]? = some (.val (am_cv ad v)) := by
  have h1 := am_lp_mem ad ls 0 j v hj
  rw [Nat.zero_add] at h1
  exact h.2.2 _ h1
theorem am_lh_set {ad : Nat → Nat} {lc : Array Slot} {nL : Nat} {ls : am_L} {j : Nat} {v : am_V} (h : lv_has lc nL ((j, am_cv ad v) :: (am_lp ad 0 ls).filter (fun q => !(q.1 == j) && !(q.1 + 1 == j && q.2.category == 2)))) : lv_has lc nL (am_lp ad 0 (ls.set j (some v))) := by
  refine ⟨h.1, h.2.1, fun q hq => ?_⟩
  obtain ⟨i, w, h1, h2⟩ := am_lp_of ad _ 0 q hq
  rw [Nat.zero_add] at h1
  by_cases hij : j = i
  · subst hij
    have h3 : (ls.set j (some v))[j]? = some (some v) := List.getElem?_set_self (by
      have := (List.getElem?_eq_some_iff.mp h2).1
      rw [List.length_set] at this
      exact this)
    rw [h3] at h2
    cases h2
    rw [h1]
    exact h.2.2 _ List.mem_cons_self
  · rw [List.getElem?_set_ne hij] at h2
    have h3 := am_lp_mem ad ls 0 i w h2
    rw [Nat.zero_add] at h3
    rw [h1]
    refine h.2.2 _ (List.mem_cons_of_mem _ (List.mem_filter.mpr ⟨h3, ?_⟩))
    have hc : (am_cv ad w).category = 1 := by cases w <;> rfl
    simp [hc, Ne.symm hij]
/-! the pieces of the machine -/
def am_p1 (st : List am_V) (k : Int32 → List am_V → Prop) : Prop := match st with
  | .inl x :: r => k x r
  | _ => False
def am_p2 (st : List am_V) (k : Int32 → Int32 → List am_V → Prop) : Prop := match st with
  | .inl y :: .inl x :: r => k x y r
  | _ => False
def am_v1 (st : List am_V) (k : am_V → List am_V → Prop) : Prop := match st with
  | v :: r => k v r
  | _ => False
def am_v2 (st : List am_V) (k : am_V → am_V → List am_V → Prop) : Prop := match st with
  | v :: w :: r => k v w r
  | _ => False
def am_pr (st : List am_V) (k : Nat → List am_V → Prop) : Prop := match st with
  | .inr p :: r => k p r
  | _ => False
def am_pir (st : List am_V) (k : Int32 → Nat → List am_V → Prop) : Prop := match st with
  | .inl i :: .inr p :: r => k i p r
  | _ => False
def am_piir (st : List am_V) (k : Int32 → Int32 → Nat → List am_V → Prop) : Prop := match st with
  | .inl x :: .inl i :: .inr p :: r => k x i p r
  | _ => False
def am_li (o : Option (Option am_V)) (k : Int32 → Prop) : Prop := match o with
  | some (some (.inl x)) => k x
  | _ => False
def am_la (o : Option (Option am_V)) (k : Nat → Prop) : Prop := match o with
  | some (some (.inr p)) => k p
  | _ => False
def am_sl (o : Option (Option am_V)) (k : Prop) : Prop := match o with
  | some _ => k
  | none => False
def am_gf (f : Option (Nat × Nat × Nat)) (t : Option am_T) (d : Option am_C) (k : am_V → Prop) : Prop := match f, t, d with
  | some (ci, n, _), some (.inr (cj, fs)), some (.inl xs) => ci = cj ∧ (match fs[n]? with
    | some (.inl i) => k (.inl (xs.getD i 0))
    | some (.inr q) => k (.inr q)
    | none => False)
  | _, _, _ => False
def am_pf (f : Option (Nat × Nat × Nat)) (t : Option am_T) (d : Option am_C) (x : Int32) (k : am_C → Prop) : Prop := match f, t, d with
  | some (ci, n, b), some (.inr (cj, fs)), some (.inl xs) => ci = cj ∧ (match fs[n]? with
    | some (.inl i) => i < xs.length ∧ (match b with
      | 1 => k (.inl (xs.set i x))
      | 2 => (x = 0 ∨ x = 1) ∧ k (.inl (xs.set i x))
      | _ => False)
    | _ => False)
  | _, _, _ => False
def am_wf : List (Nat ⊕ Nat) → Bool
  | [] => true
  | .inl i :: r => !(r.any (fun f => decide (f = .inl i))) && am_wf r
  | .inr _ :: r => am_wf r
def am_shok (sh : am_S) : Bool := sh.all (fun t => match t with
  | .inl n => decide (n < 2 ^ 31)
  | .inr o => am_wf o.2)
theorem am_wf_one : ∀ (fs : List (Nat ⊕ Nat)), am_wf fs = true → ∀ (n m i : Nat), fs[n]? = some (.inl i) → fs[m]? = some (.inl i) → m = n
  | [], _, n, m, i, h, _ => by simp at h
  | f :: r, hw, n, m, i, h1, h2 => by
    have key : am_wf r = true ∧ (f = .inl i → ∀ j : Nat, ¬ r[j]? = some (.inl i)) := by
      cases f with
      | inl a =>
        simp only [am_wf, Bool.and_eq_true, Bool.not_eq_true', List.any_eq_false, decide_eq_true_eq] at hw
        exact ⟨hw.2, fun e j hj => hw.1 _ (List.mem_of_getElem? hj) e.symm⟩
      | inr a => exact ⟨hw, fun e => by cases e⟩
    cases n with
    | zero =>
      cases m with
      | zero => rfl
      | succ m =>
        simp only [List.getElem?_cons_zero, Option.some.injEq] at h1
        rw [List.getElem?_cons_succ] at h2
        exact absurd h2 (key.2 h1 m)
    | succ n =>
      cases m with
      | zero =>
        simp only [List.getElem?_cons_zero, Option.some.injEq] at h2
        rw [List.getElem?_cons_succ] at h1
        exact absurd h1 (key.2 h2 n)
      | succ m =>
        rw [List.getElem?_cons_succ] at h1 h2
        rw [am_wf_one r key.1 n m i h1 h2]
theorem am_fs_set {ad : Nat → Nat} {fs : List (Nat ⊕ Nat)} {xs : List Int32} {n i : Nat} {x : Int32} (hw : am_wf fs = true) (hn : fs[n]? = some (.inl i)) (hi : i < xs.length) : (fs.map (am_fv ad xs)).set n (.int x) = fs.map (am_fv ad (xs.set i x)) := by
  apply List.ext_getElem?
  intro m
  by_cases hm : n = m
  · subst hm
    have hl := (List.getElem?_eq_some_iff.mp hn).1
    rw [List.getElem?_set_self (by rw [List.length_map]; exact hl), List.getElem?_map, hn]
    simp [am_fv, hi]
  · rw [List.getElem?_set_ne hm, List.getElem?_map, List.getElem?_map]
    cases hf : fs[m]? with
    | none => rfl
    | some f =>
      cases f with
      | inr p => rfl
      | inl j =>
        have hj : i ≠ j := fun e => by subst e; exact hm (am_wf_one fs hw m n i hf hn)
        simp [am_fv, List.getElem?_set_ne hj]
def am_ra (t : Option am_T) (d : Option am_C) (ro : Option (Nat × (Nat → Int32))) (p : Nat) (i : Int32) (k : Int32 → Prop) : Prop := match t, d with
  | some (.inl n), some (.inr f) => vp_in i n ∧ k (f i.toNatClampNeg)
  | none, _ => (match ro with
    | some (L, xs) => p = 999 ∧ vp_in i L ∧ k (xs i.toNatClampNeg)
    | none => False)
  | _, _ => False
def am_wa (t : Option am_T) (d : Option am_C) (i x : Int32) (k : am_C → Prop) : Prop := match t, d with
  | some (.inl n), some (.inr f) => vp_in i n ∧ k (.inr (upd f i.toNatClampNeg x))
  | _, _ => False
def am_al (ro : Option (Nat × (Nat → Int32))) (p : Nat) (k : Int32 → Prop) : Prop := match ro with
  | some (L, _) => p = 999 ∧ k (Int32.ofNat L)
  | none => False
def am_kc (o : Option am_V) (k : am_V → Prop) : Prop := match o with
  | some v => k v
  | none => False
def am_j (pc : Nat) (off : Int) (k : Nat → Prop) : Prop := 0 ≤ (pc : Int) + off ∧ k ((pc : Int) + off).toNat
def am_b (c : Prop) (t f : Prop) : Prop := (c → t) ∧ (¬ c → f)
def am_if (c : ClassFile.Cond) (x y : Int32) (t f : Prop) : Prop := match c with
  | .eq => (x = y → t) ∧ (¬ x = y → f)
  | .ne => (¬ x = y → t) ∧ (x = y → f)
  | .lt => (x < y → t) ∧ (¬ x < y → f)
  | .ge => (y ≤ x → t) ∧ (¬ y ≤ x → f)
  | .gt => (y < x → t) ∧ (¬ y < x → f)
  | .le => (x ≤ y → t) ∧ (¬ x ≤ y → f)
def am_sw (x : Int32) (dflt : Prop) : List (Int × Prop) → Prop
  | [] => dflt
  | (a, t) :: r => (x.toInt = a → t) ∧ (¬ x.toInt = a → am_sw x dflt r)
def am_lk (ps : List (Int × Int)) (pc : Nat) (k : Nat → Prop) : List (Int × Prop) := ps.map (fun q => (q.1, am_j pc q.2 k))
def am_tb (pc : Nat) (k : Nat → Prop) : Int → List Int → List (Int × Prop)
  | _, [] => []
  | i, o :: r => (i, am_j pc o k) :: am_tb pc k (i + 1) r
section AM
variable (sh : am_S) (fl : Nat → Option (Nat × Nat × Nat)) (kc : Nat → Option am_V) (ro : Option (Nat × (Nat → Int32))) (rb : Nat) (cs : Nat → List am_V → am_D → am_K → Prop) (K : List Int32 → am_D → Prop) (k : Nat → am_L → List am_V → am_D → Prop)
def am_in (i : Instr) (len pc : Nat) (ls : am_L) (st : List am_V) (D : am_D) : Prop := match i with
  | .iconst n => len = 1 ∧ k (pc + 1) ls (.inl (Int32.ofInt n) :: st) D
  | .bipush n => len = 2 ∧ k (pc + 2) ls (.inl (Int8.ofInt n).toInt32 :: st) D
  | .sipush n => len = 3 ∧ k (pc + 3) ls (.inl (Int16.ofInt n).toInt32 :: st) D
  | .ldc ix => len = 2 ∧ am_kc (kc ix) (fun v => k (pc + 2) ls (v :: st) D)
  | .ldc_w ix => len = 3 ∧ am_kc (kc ix) (fun v => match v with
    | .inl x => k (pc + 3) ls (.inl x :: st) D
    | .inr _ => False)
  | .iload_n j => len = 1 ∧ am_li ls[(j : Nat)]? (fun x => k (pc + 1) ls (.inl x :: st) D)
  | .iload j => len = 2 ∧ am_li ls[j]? (fun x => k (pc + 2) ls (.inl x :: st) D)
  | .aload_n j => len = 1 ∧ am_la ls[(j : Nat)]? (fun p => k (pc + 1) ls (.inr p :: st) D)
  | .aload j => len = 2 ∧ am_la ls[j]? (fun p => k (pc + 2) ls (.inr p :: st) D)
  | .istore_n j => len = 1 ∧ am_p1 st (fun x r => am_sl ls[(j : Nat)]? (k (pc + 1) (ls.set j (some (.inl x))) r D))
  | .istore j => len = 2 ∧ am_p1 st (fun x r => am_sl ls[j]? (k (pc + 2) (ls.set j (some (.inl x))) r D))
  | .iinc j n => len = 3 ∧ am_li ls[j]? (fun x => k (pc + 3) (ls.set j (some (.inl (x + Int32.ofInt n)))) st D)
  | .iadd => len = 1 ∧ am_p2 st (fun x y r => k (pc + 1) ls (.inl (x + y) :: r) D)
  | .isub => len = 1 ∧ am_p2 st (fun x y r => k (pc + 1) ls (.inl (x - y) :: r) D)
  | .imul => len = 1 ∧ am_p2 st (fun x y r => k (pc + 1) ls (.inl (x * y) :: r) D)
  | .iand => len = 1 ∧ am_p2 st (fun x y r => k (pc + 1) ls (.inl (x &&& y) :: r) D)
  | .ior => len = 1 ∧ am_p2 st (fun x y r => k (pc + 1) ls (.inl (x ||| y) :: r) D)
  | .ixor => len = 1 ∧ am_p2 st (fun x y r => k (pc + 1) ls (.inl (x ^^^ y) :: r) D)
  | .idiv => len = 1 ∧ am_p2 st (fun x y r => ¬ y = 0 ∧ k (pc + 1) ls (.inl (x / y) :: r) D)
  | .irem => len = 1 ∧ am_p2 st (fun x y r => ¬ y = 0 ∧ k (pc + 1) ls (.inl (x - x / y * y) :: r) D)
  | .ineg => len = 1 ∧ am_p1 st (fun x r => k (pc + 1) ls (.inl (-x) :: r) D)
  | .ishl => len = 1 ∧ am_p2 st (fun x y r => k (pc + 1) ls (.inl (x <<< (y &&& 31)) :: r) D)
  | .ishr => len = 1 ∧ am_p2 st (fun x y r => k (pc + 1) ls (.inl (x >>> (y &&& 31)) :: r) D)
  | .iushr => len = 1 ∧ am_p2 st (fun x y r => k (pc + 1) ls (.inl (x.toUInt32 >>> (y.toUInt32 &&& Int32.toUInt32 31)).toInt32 :: r) D)
  | .i2c => len = 1 ∧ am_p1 st (fun x r => k (pc + 1) ls (.inl (x.toUInt32 % 65536).toInt32 :: r) D)
  | .dup => len = 1 ∧ am_v1 st (fun v r => k (pc + 1) ls (v :: v :: r) D)
  | .pop => len = 1 ∧ am_v1 st (fun _ r => k (pc + 1) ls r D)
  | .dup_x1 => len = 1 ∧ am_v2 st (fun v w r => k (pc + 1) ls (v :: w :: v :: r) D)
  | .dup2 => len = 1 ∧ am_v2 st (fun v w r => k (pc + 1) ls (v :: w :: v :: w :: r) D)
  | .ifCond c off => len = 3 ∧ am_p1 st (fun x r => am_j pc off (fun t => am_if c x 0 (k t ls r D) (k (pc + 3) ls r D)))
  | .if_icmp c off => len = 3 ∧ am_p2 st (fun x y r => am_j pc off (fun t => am_if c x y (k t ls r D) (k (pc + 3) ls r D)))
  | .goto off => len = 3 ∧ am_j pc off (fun t => k t ls st D)
  | .lookupswitch dflt ps => ((ps.toList.zip (ps.toList.drop 1)).all (fun (a, next) => a.1 < next.1) = true) ∧ am_p1 st (fun x r => am_sw x (am_j pc dflt (fun t => k t ls r D)) (am_lk ps.toList pc (fun t => k t ls r D)))
  | .tableswitch dflt lo hi offs => lo + offs.toList.length = hi + 1 ∧ am_p1 st (fun x r => am_sw x (am_j pc dflt (fun t => k t ls r D)) (am_tb pc (fun t => k t ls r D) lo offs.toList))
  | .getfield ix => len = 3 ∧ am_pr st (fun p r => am_gf (fl ix) sh[p]? D[p]? (fun v => k (pc + 3) ls (v :: r) D))
  | .putfield ix => len = 3 ∧ am_pir st (fun x p r => am_pf (fl ix) sh[p]? D[p]? x (fun d => k (pc + 3) ls r (D.set p d)))
  | .iaload => len = 1 ∧ am_pir st (fun i p r => am_ra sh[p]? D[p]? ro p i (fun x => k (pc + 1) ls (.inl x :: r) D))
  | .iastore => len = 1 ∧ am_piir st (fun x i p r => am_wa sh[p]? D[p]? i x (fun d => k (pc + 1) ls r (D.set p d)))
  | .arraylength => len = 1 ∧ am_pr st (fun p r => am_al ro p (fun x => k (pc + 1) ls (.inl x :: r) D))
  | .invokevirtual _ => len = 3 ∧ cs pc st D (fun st' D' => k (pc + 3) ls st' D')
  | .invokestatic _ => len = 3 ∧ cs pc st D (fun st' D' => k (pc + 3) ls st' D')
  | .ireturn => len = 1 ∧ (match st with
    | [.inl v] => (match rb with
      | 1 => K [v] D
      | 2 => (v = 0 ∨ v = 1) ∧ K [v] D
      | _ => False)
    | _ => False)
  | .return_ => len = 1 ∧ (match st with
    | [] => rb = 0 ∧ K [] D
    | _ => False)
  | _ => False
def am_ex (cc : ByteArray) (pc : Nat) (ls : am_L) (st : List am_V) (D : am_D) : Prop := match decode cc pc with
  | .ok (i, len) => am_in sh fl kc ro rb cs K k i len pc ls st D
  | .error _ => False
end AM
abbrev am_X := Program × Launch × Env × Room × State × MethodId × Array Value × List Frame × Method × Code × (State → Prop) × Nat × Nat × (Nat → ClassId) × (Nat → Nat → Nat) × ClassId × (Nat → Nat) × (Nat → Prop)
def am_aw (X : am_X) (nL : Nat) (sh : am_S) (pc : Nat) (ls : am_L) (st : List am_V) (D : am_D) : Prop := match X with
  | (p, l, e, R, s, m, args, below, meth, c, Q, cells, slots, dC, dI, cA, ad, A) => ∀ (H : Heap) (locs : List Loc) (lc : Array Slot), va_P (dC, dI) vwCl (am_w cA ad 0 sh D) H → va_D A (am_w cA ad 0 sh D) → va_S A s.heap H locs → D.length = sh.length → ls.length = nL → lv_has lc nL (am_lp ad 0 ls) → W p l e R s m args below meth c H locs cells slots Q (F0 m pc lc (st.map (am_cv ad)))
/-- a field's entry: the class, its place in it, and of what type it is -/
def am_fok (own : String) (args : Array Value) (s : State) (fl : Nat → Option (Nat × Nat × Nat)) : Prop := ∀ (ix ci n b : Nat), fl ix = some (ci, n, b) → ∃ (C : String) (T : u_T) (N : Nat), vwCl[ci]? = some (C, T, N) ∧ n < N ∧ (∀ w ∈ u_ws C T N, w.before args s = true) ∧ (Cond.fieldLink own ix (T n).1 (T n).2.1 (T n).2.2.1).before args s = true ∧ (b = 1 → (T n).2.2.2 = false ∧ parseFieldDescriptor (T n).2.2.1 = some .int) ∧ (b = 2 → (T n).2.2.2 = false ∧ parseFieldDescriptor (T n).2.2.1 = some .boolean)
def am_kok (own : String) (args : Array Value) (s : State) (ad : Nat → Nat) (kc : Nat → Option am_V) : Prop := ∀ (ix : Nat) (v : am_V), kc ix = some v → match v with
  | .inl x => (Cond.constant own ix x).before args s = true
  | .inr q => ∃ tx : String, vk_R own ix tx (ad q) s
def am_ok (X : am_X) (own : String) (cc : ByteArray) (nL : Nat) (sh : am_S) (fl : Nat → Option (Nat × Nat × Nat)) (kc : Nat → Option am_V) (ro : Option (Nat × (Nat → Int32))) (rb : Nat) (cs : Nat → List am_V → am_D → am_K → Prop) (K : List Int32 → am_D → Prop) : Prop := match X with
  | (p, l, e, R, s, m, args, below, meth, c, Q, cells, slots, dC, dI, cA, ad, A) => p.tables.exec = Jvm.exec ∧ c.code = cc ∧ s.vm.findClass own = some m.cls ∧ va_K (dC, dI) vwCl [(cA, .int)] s ∧ am_shok sh = true ∧ am_fok own args s fl ∧ am_kok own args s ad kc ∧ (∀ (L : Nat) (xs : Nat → Int32), ro = some (L, xs) → va_X (ad 999) L xs s s.heap ∧ ad 999 < s.heap.size ∧ ¬ A (ad 999)) ∧
    (∀ (pc : Nat) (v : Int32) (D : am_D) (H : Heap) (locs : List Loc) (lc : Array Slot), decode cc pc = .ok (.ireturn, 1) → (rb = 1 ∨ rb = 2 ∧ (v = 0 ∨ v = 1)) → K [v] D → va_P (dC, dI) vwCl (am_w cA ad 0 sh D) H → va_D A (am_w cA ad 0 sh D) → va_S A s.heap H locs → D.length = sh.length → W p l e R s m args below meth c H locs cells slots Q (F0 m pc lc [.int v])) ∧
    (∀ (pc : Nat) (D : am_D) (H : Heap) (locs : List Loc) (lc : Array Slot), decode cc pc = .ok (.return_, 1) → rb = 0 → K [] D → va_P (dC, dI) vwCl (am_w cA ad 0 sh D) H → va_D A (am_w cA ad 0 sh D) → va_S A s.heap H locs → D.length = sh.length → W p l e R s m args below meth c H locs cells slots Q (F0 m pc lc [])) ∧
    (∀ (pc : Nat) (st : List am_V) (D : am_D) (k : am_K) (ls : am_L), cs pc st D k → (∀ st' D', k st' D' → am_aw (p, l, e, R, s, m, args, below, meth, c, Q, cells, slots, dC, dI, cA, ad, A) nL sh (pc + 3) ls st' D') → am_aw (p, l, e, R, s, m, args, below, meth, c, Q, cells, slots, dC, dI, cA, ad, A) nL sh pc ls st D)
theorem am_vw : ∀ (ci : Nat) (C : String) (T : u_T) (N : Nat), vwCl[ci]? = some (C, T, N) → ∃ ty0 : Nat → FieldType, (∀ k, k < N → parseFieldDescriptor (T k).2.2.1 = some (ty0 k)) ∧ ∀ a, a < N → ∀ b, b < N → a ≠ b → (T a).2.1 ≠ (T b).2.1 := by
  intro ci C T N h
  match ci, h with
  | 0, h => cases h; exact ⟨tyX0, tyX0_ok, nmX0⟩
  | 1, h => cases h; exact ⟨tyX1, tyX1_ok, nmX1⟩
  | 2, h => cases h; exact ⟨tyX3, tyX3_ok, nmX3⟩
  | 3, h => cases h; exact ⟨tyX4, tyX4_ok, nmX4⟩
  | 4, h => cases h; exact ⟨tyX5, tyX5_ok, nmX5⟩
  | 5, h => cases h; exact ⟨tyX6, tyX6_ok, nmX6⟩
  | 6, h => cases h; exact ⟨tyX7, tyX7_ok, nmX7⟩
  | k + 7, h => simp [vwCl] at h
