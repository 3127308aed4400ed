def am_cs (l : List (Nat × (List am_V → am_D → am_K → Prop))) (pc : Nat) : List am_V → am_D → am_K → Prop := match l.find? (fun q => q.1 == pc) with
  | some q => q.2
  | none => fun _ _ _ => False
theorem am_cs_ok {X : am_X} {nL : Nat} {sh : am_S} {l : List (Nat × (List am_V → am_D → am_K → Prop))} (h : ∀ q ∈ l, am_csok X nL sh q.1 q.2) : ∀ pc, am_csok X nL sh pc (am_cs l pc) := by
  intro pc
  unfold am_cs
  cases hf : l.find? (fun q => q.1 == pc) with
  | none => intro st D k ls h; exact h.elim
  | some q =>
    have h3 := List.find?_some hf
    simp only [beq_iff_eq] at h3
    rw [← h3]
    exact h q (List.mem_of_find?_eq_some hf)
abbrev am_TT : Type := List Int32 → am_D → (List Int32 → am_D → Prop) → Prop
/-- a method that changes nothing: F says what it answers -/
def am_pure (F : List Int32 → am_D → Int32 → Prop) : am_TT := fun is D K => ∃ r : Int32, F is D r ∧ K [r] D
def am_upd {α : Type} : List α → Nat → α → Option (List α)
  | [], _, _ => none
  | _ :: l, 0, v => some (v :: l)
  | x :: l, n + 1, v => match am_upd l n v with
    | some r => some (x :: r)
    | none => none
theorem am_upd_eq {α : Type} : ∀ (l : List α) (n : Nat) (v : α) (l' : List α), am_upd l n v = some l' → l' = l.set n v ∧ n < l.length
  | [], _, _, _, h => by cases h
  | x :: l, 0, v, l', h => by cases h; exact ⟨rfl, Nat.zero_lt_succ _⟩
  | x :: l, n + 1, v, l', h => by
    unfold am_upd at h
    cases hu : am_upd l n v with
    | none => rw [hu] at h; cases h
    | some r =>
      rw [hu] at h
      cases h
      obtain ⟨h1, h2⟩ := am_upd_eq l n v r hu
      exact ⟨by rw [h1]; rfl, Nat.succ_lt_succ h2⟩
/-- a list's spine, with its cells, laid open -/
def am_fzi : List Int32 → Option (List Int32)
  | [] => some []
  | x :: l => match am_fzi l with
    | some r => some (x :: r)
    | none => none
def am_fz : am_D → Option am_D
  | [] => some []
  | .inl xs :: l => match am_fzi xs with
    | some ys => (match am_fz l with
      | some r => some (.inl ys :: r)
      | none => none)
    | none => none
  | .inr f :: l => match am_fz l with
    | some r => some (.inr f :: r)
    | none => none
def am_fzs : List am_V → Option (List am_V)
  | [] => some []
  | .inl x :: l => match am_fzs l with
    | some r => some (.inl x :: r)
    | none => none
  | .inr f :: l => match am_fzs l with
    | some r => some (.inr f :: r)
    | none => none
theorem am_fzi_eq : ∀ (l r : List Int32), am_fzi l = some r → r = l
  | [], r, h => by cases h; rfl
  | x :: l, r, h => by
    unfold am_fzi at h
    cases hu : am_fzi l with
    | none => rw [hu] at h; cases h
    | some r' => rw [hu] at h; cases h; rw [am_fzi_eq l r' hu]
theorem am_fz_eq : ∀ (l r : am_D), am_fz l = some r → r = l
  | [], r, h => by cases h; rfl
  | .inl xs :: l, r, h => by
    unfold am_fz at h
    cases hv : am_fzi xs with
    | none => rw [hv] at h; cases h
    | some ys =>
      rw [hv] at h
      dsimp only at h
      cases hu : am_fz l with
      | none => rw [hu] at h; cases h
      | some r' => rw [hu] at h; cases h; rw [am_fz_eq l r' hu, am_fzi_eq xs ys hv]
  | .inr f :: l, r, h => by
    unfold am_fz at h
    cases hu : am_fz l with
    | none => rw [hu] at h; cases h
    | some r' => rw [hu] at h; cases h; rw [am_fz_eq l r' hu]
theorem am_fzs_eq : ∀ (l r : List am_V), am_fzs l = some r → r = l
  | [], r, h => by cases h; rfl
  | .inl xs :: l, r, h => by
    unfold am_fzs at h
    cases hu : am_fzs l with
    | none => rw [hu] at h; cases h
    | some r' => rw [hu] at h; cases h; rw [am_fzs_eq l r' hu]
  | .inr f :: l, r, h => by
    unfold am_fzs at h
    cases hu : am_fzs l with
    | none => rw [hu] at h; cases h
    | some r' => rw [hu] at h; cases h; rw [am_fzs_eq l r' hu]
theorem nI_lit {k : Nat} (m : Nat) (hk : k < 2 ^ 31) (hm : m < 2 ^ 31) : nI k = (OfNat.ofNat m : Int32) ↔ k = m := nI_eq hk hm
section ST
variable {X : am_X} {own : String} {cc : ByteArray} {nL : Nat} {sh : am_S} {fl : Nat → Option (Nat × Nat × Nat)} {kc : Nat → Option am_V} {ro : Option (Nat × (Nat → Int32))} {rb : Nat} {cs : Nat → List am_V → am_D → am_K → Prop} {K : List Int32 → am_D → Prop}
variable {pc q : Nat} {ls : am_L} {st : List am_V} {D : am_D}
theorem st_of (O : am_ok X own cc nL sh fl kc ro rb cs K) {i : Instr} {len : Nat} (hd : decode cc pc = .ok (i, len)) (h : am_in sh fl kc ro rb cs K (am_aw X nL sh) i len pc ls st D) : am_aw X nL sh pc ls st D := am_sound O (fun _ _ _ _ h => h) (by unfold am_ex; rw [hd]; exact h)
theorem am_norm {st' : List am_V} {D' : am_D} (h1 : am_fzs st = some st') (h2 : am_fz D = some D') (k : am_aw X nL sh pc ls st' D') : am_aw X nL sh pc ls st D := by rw [am_fzs_eq _ _ h1, am_fz_eq _ _ h2] at k; exact k
theorem st_iconst (O : am_ok X own cc nL sh fl kc ro rb cs K) {n : Int} {v : Int32} (hd : decode cc pc = .ok (.iconst n, 1)) (hv : Int32.ofInt n = v) (hq : pc + 1 = q) (k : am_aw X nL sh q ls (.inl v :: st) D) : am_aw X nL sh pc ls st D := st_of O hd ⟨rfl, by rw [hv, hq]; exact k⟩
theorem st_bipush (O : am_ok X own cc nL sh fl kc ro rb cs K) {n : Int} {v : Int32} (hd : decode cc pc = .ok (.bipush n, 2)) (hv : (Int8.ofInt n).toInt32 = v) (hq : pc + 2 = q) (k : am_aw X nL sh q ls (.inl v :: st) D) : am_aw X nL sh pc ls st D := st_of O hd ⟨rfl, by rw [hv, hq]; exact k⟩
theorem st_sipush (O : am_ok X own cc nL sh fl kc ro rb cs K) {n : Int} {v : Int32} (hd : decode cc pc = .ok (.sipush n, 3)) (hv : (Int16.ofInt n).toInt32 = v) (hq : pc + 3 = q) (k : am_aw X nL sh q ls (.inl v :: st) D) : am_aw X nL sh pc ls st D := st_of O hd ⟨rfl, by rw [hv, hq]; exact k⟩
theorem st_ldc (O : am_ok X own cc nL sh fl kc ro rb cs K) {ix : Nat} {v : am_V} (hd : decode cc pc = .ok (.ldc ix, 2)) (hv : kc ix = some v) (hq : pc + 2 = q) (k : am_aw X nL sh q ls (v :: st) D) : am_aw X nL sh pc ls st D := st_of O hd ⟨rfl, by rw [hv, hq]; exact k⟩
theorem st_ldcw (O : am_ok X own cc nL sh fl kc ro rb cs K) {ix : Nat} {v : Int32} (hd : decode cc pc = .ok (.ldc_w ix, 3)) (hv : kc ix = some (.inl v)) (hq : pc + 3 = q) (k : am_aw X nL sh q ls (.inl v :: st) D) : am_aw X nL sh pc ls st D := st_of O hd ⟨rfl, by rw [hv, hq]; exact k⟩
theorem st_iloadn (O : am_ok X own cc nL sh fl kc ro rb cs K) {j : Fin 4} {x : Int32} (hd : decode cc pc = .ok (.iload_n j, 1)) (hj : ls[(j : Nat)]? = some (some (.inl x))) (hq : pc + 1 = q) (k : am_aw X nL sh q ls (.inl x :: st) D) : am_aw X nL sh pc ls st D := st_of O hd ⟨rfl, by rw [hj, hq]; exact k⟩
theorem st_iload (O : am_ok X own cc nL sh fl kc ro rb cs K) {j : Nat} {x : Int32} (hd : decode cc pc = .ok (.iload j, 2)) (hj : ls[j]? = some (some (.inl x))) (hq : pc + 2 = q) (k : am_aw X nL sh q ls (.inl x :: st) D) : am_aw X nL sh pc ls st D := st_of O hd ⟨rfl, by rw [hj, hq]; exact k⟩
theorem st_aloadn (O : am_ok X own cc nL sh fl kc ro rb cs K) {j : Fin 4} {x : Nat} (hd : decode cc pc = .ok (.aload_n j, 1)) (hj : ls[(j : Nat)]? = some (some (.inr x))) (hq : pc + 1 = q) (k : am_aw X nL sh q ls (.inr x :: st) D) : am_aw X nL sh pc ls st D := st_of O hd ⟨rfl, by rw [hj, hq]; exact k⟩
theorem st_aload (O : am_ok X own cc nL sh fl kc ro rb cs K) {j : Nat} {x : Nat} (hd : decode cc pc = .ok (.aload j, 2)) (hj : ls[j]? = some (some (.inr x))) (hq : pc + 2 = q) (k : am_aw X nL sh q ls (.inr x :: st) D) : am_aw X nL sh pc ls st D := st_of O hd ⟨rfl, by rw [hj, hq]; exact k⟩
theorem st_istoren (O : am_ok X own cc nL sh fl kc ro rb cs K) {j : Fin 4} {x : Int32} {ls' : am_L} (hd : decode cc pc = .ok (.istore_n j, 1)) (hs : am_upd ls (j : Nat) (some (.inl x)) = some ls') (hq : pc + 1 = q) (k : am_aw X nL sh q ls' st D) : am_aw X nL sh pc ls (.inl x :: st) D := by
  obtain ⟨h1, h2⟩ := am_upd_eq _ _ _ _ hs
  refine st_of O hd ⟨rfl, ?_⟩
  show am_sl ls[(j : Nat)]? _
  rw [List.getElem?_eq_getElem h2, hq]
  rw [h1] at k
  exact k
theorem st_istore (O : am_ok X own cc nL sh fl kc ro rb cs K) {j : Nat} {x : Int32} {ls' : am_L} (hd : decode cc pc = .ok (.istore j, 2)) (hs : am_upd ls j (some (.inl x)) = some ls') (hq : pc + 2 = q) (k : am_aw X nL sh q ls' st D) : am_aw X nL sh pc ls (.inl x :: st) D := by
  obtain ⟨h1, h2⟩ := am_upd_eq _ _ _ _ hs
  refine st_of O hd ⟨rfl, ?_⟩
  show am_sl ls[j]? _
  rw [List.getElem?_eq_getElem h2, hq]
  rw [h1] at k
  exact k
theorem st_iinc (O : am_ok X own cc nL sh fl kc ro rb cs K) {j : Nat} {n : Int} {x v : Int32} {ls' : am_L} (hd : decode cc pc = .ok (.iinc j n, 3)) (hj : ls[j]? = some (some (.inl x))) (hv : x + Int32.ofInt n = v) (hs : am_upd ls j (some (.inl v)) = some ls') (hq : pc + 3 = q) (k : am_aw X nL sh q ls' st D) : am_aw X nL sh pc ls st D := by
  obtain ⟨h1, h2⟩ := am_upd_eq _ _ _ _ hs
  refine st_of O hd ⟨rfl, ?_⟩
  rw [hj, hq]
  rw [h1, ← hv] at k
  exact k
theorem st_iadd (O : am_ok X own cc nL sh fl kc ro rb cs K) {x y v : Int32} (hd : decode cc pc = .ok (.iadd, 1)) (hv : x + y = v) (hq : pc + 1 = q) (k : am_aw X nL sh q ls (.inl v :: st) D) : am_aw X nL sh pc ls (.inl y :: .inl x :: st) D := st_of O hd ⟨rfl, by rw [← hv, ← hq] at k; exact k⟩
theorem st_isub (O : am_ok X own cc nL sh fl kc ro rb cs K) {x y v : Int32} (hd : decode cc pc = .ok (.isub, 1)) (hv : x - y = v) (hq : pc + 1 = q) (k : am_aw X nL sh q ls (.inl v :: st) D) : am_aw X nL sh pc ls (.inl y :: .inl x :: st) D := st_of O hd ⟨rfl, by rw [← hv, ← hq] at k; exact k⟩
theorem st_imul (O : am_ok X own cc nL sh fl kc ro rb cs K) {x y v : Int32} (hd : decode cc pc = .ok (.imul, 1)) (hv : x * y = v) (hq : pc + 1 = q) (k : am_aw X nL sh q ls (.inl v :: st) D) : am_aw X nL sh pc ls (.inl y :: .inl x :: st) D := st_of O hd ⟨rfl, by rw [← hv, ← hq] at k; exact k⟩
theorem st_iand (O : am_ok X own cc nL sh fl kc ro rb cs K) {x y v : Int32} (hd : decode cc pc = .ok (.iand, 1)) (hv : x &&& y = v) (hq : pc + 1 = q) (k : am_aw X nL sh q ls (.inl v :: st) D) : am_aw X nL sh pc ls (.inl y :: .inl x :: st) D := st_of O hd ⟨rfl, by rw [← hv, ← hq] at k; exact k⟩
theorem st_ior (O : am_ok X own cc nL sh fl kc ro rb cs K) {x y v : Int32} (hd : decode cc pc = .ok (.ior, 1)) (hv : x ||| y = v) (hq : pc + 1 = q) (k : am_aw X nL sh q ls (.inl v :: st) D) : am_aw X nL sh pc ls (.inl y :: .inl x :: st) D := st_of O hd ⟨rfl, by rw [← hv, ← hq] at k; exact k⟩
theorem st_ixor (O : am_ok X own cc nL sh fl kc ro rb cs K) {x y v : Int32} (hd : decode cc pc = .ok (.ixor, 1)) (hv : x ^^^ y = v) (hq : pc + 1 = q) (k : am_aw X nL sh q ls (.inl v :: st) D) : am_aw X nL sh pc ls (.inl y :: .inl x :: st) D := st_of O hd ⟨rfl, by rw [← hv, ← hq] at k; exact k⟩
theorem st_ishl (O : am_ok X own cc nL sh fl kc ro rb cs K) {x y v : Int32} (hd : decode cc pc = .ok (.ishl, 1)) (hv : x <<< (y &&& 31) = v) (hq : pc + 1 = q) (k : am_aw X nL sh q ls (.inl v :: st) D) : am_aw X nL sh pc ls (.inl y :: .inl x :: st) D := st_of O hd ⟨rfl, by rw [← hv, ← hq] at k; exact k⟩
theorem st_ishr (O : am_ok X own cc nL sh fl kc ro rb cs K) {x y v : Int32} (hd : decode cc pc = .ok (.ishr, 1)) (hv : x >>> (y &&& 31) = v) (hq : pc + 1 = q) (k : am_aw X nL sh q ls (.inl v :: st) D) : am_aw X nL sh pc ls (.inl y :: .inl x :: st) D := st_of O hd ⟨rfl, by rw [← hv, ← hq] at k; exact k⟩
theorem st_iushr (O : am_ok X own cc nL sh fl kc ro rb cs K) {x y v : Int32} (hd : decode cc pc = .ok (.iushr, 1)) (hv : (x.toUInt32 >>> (y.toUInt32 &&& Int32.toUInt32 31)).toInt32 = v) (hq : pc + 1 = q) (k : am_aw X nL sh q ls (.inl v :: st) D) : am_aw X nL sh pc ls (.inl y :: .inl x :: st) D := st_of O hd ⟨rfl, by rw [← hv, ← hq] at k; exact k⟩
theorem st_idiv (O : am_ok X own cc nL sh fl kc ro rb cs K) {x y v : Int32} (hd : decode cc pc = .ok (.idiv, 1)) (h0 : ¬ y = 0) (hv : x / y = v) (hq : pc + 1 = q) (k : am_aw X nL sh q ls (.inl v :: st) D) : am_aw X nL sh pc ls (.inl y :: .inl x :: st) D := st_of O hd ⟨rfl, h0, by rw [← hv, ← hq] at k; exact k⟩
theorem st_irem (O : am_ok X own cc nL sh fl kc ro rb cs K) {x y v : Int32} (hd : decode cc pc = .ok (.irem, 1)) (h0 : ¬ y = 0) (hv : x - x / y * y = v) (hq : pc + 1 = q) (k : am_aw X nL sh q ls (.inl v :: st) D) : am_aw X nL sh pc ls (.inl y :: .inl x :: st) D := st_of O hd ⟨rfl, h0, by rw [← hv, ← hq] at k; exact k⟩
theorem st_ineg (O : am_ok X own cc nL sh fl kc ro rb cs K) {x v : Int32} (hd : decode cc pc = .ok (.ineg, 1)) (hv : -x = v) (hq : pc + 1 = q) (k : am_aw X nL sh q ls (.inl v :: st) D) : am_aw X nL sh pc ls (.inl x :: st) D := st_of O hd ⟨rfl, by rw [← hv, ← hq] at k; exact k⟩
theorem st_i2c (O : am_ok X own cc nL sh fl kc ro rb cs K) {x v : Int32} (hd : decode cc pc = .ok (.i2c, 1)) (hv : (x.toUInt32 % 65536).toInt32 = v) (hq : pc + 1 = q) (k : am_aw X nL sh q ls (.inl v :: st) D) : am_aw X nL sh pc ls (.inl x :: st) D := st_of O hd ⟨rfl, by rw [← hv, ← hq] at k; exact k⟩
theorem st_dup (O : am_ok X own cc nL sh fl kc ro rb cs K) {v : am_V} (hd : decode cc pc = .ok (.dup, 1)) (hq : pc + 1 = q) (k : am_aw X nL sh q ls (v :: v :: st) D) : am_aw X nL sh pc ls (v :: st) D := st_of O hd ⟨rfl, by rw [← hq] at k; exact k⟩
theorem st_pop (O : am_ok X own cc nL sh fl kc ro rb cs K) {v : am_V} (hd : decode cc pc = .ok (.pop, 1)) (hq : pc + 1 = q) (k : am_aw X nL sh q ls st D) : am_aw X nL sh pc ls (v :: st) D := st_of O hd ⟨rfl, by rw [← hq] at k; exact k⟩
theorem st_dup_x1 (O : am_ok X own cc nL sh fl kc ro rb cs K) {v u : am_V} (hd : decode cc pc = .ok (.dup_x1, 1)) (hq : pc + 1 = q) (k : am_aw X nL sh q ls (v :: u :: v :: st) D) : am_aw X nL sh pc ls (v :: u :: st) D := st_of O hd ⟨rfl, by rw [← hq] at k; exact k⟩
theorem st_dup2 (O : am_ok X own cc nL sh fl kc ro rb cs K) {v u : am_V} (hd : decode cc pc = .ok (.dup2, 1)) (hq : pc + 1 = q) (k : am_aw X nL sh q ls (v :: u :: v :: u :: st) D) : am_aw X nL sh pc ls (v :: u :: st) D := st_of O hd ⟨rfl, by rw [← hq] at k; exact k⟩
theorem am_jt {pc t : Nat} {off : Int} {k : Nat → Prop} (ht : (pc : Int) + off = (t : Int)) (h : k t) : am_j pc off k := by
  refine ⟨by rw [ht]; exact Int.natCast_nonneg t, ?_⟩
  rw [ht]
  exact h
theorem st_if_eq (O : am_ok X own cc nL sh fl kc ro rb cs K) {x : Int32} {off : Int} {t : Nat} (hd : decode cc pc = .ok (.ifCond .eq off, 3)) (ht : (pc : Int) + off = (t : Int)) (hq : pc + 3 = q) (kt : x = 0 → am_aw X nL sh t ls st D) (kf : ¬ x = 0 → am_aw X nL sh q ls st D) : am_aw X nL sh pc ls (.inl x :: st) D := by
  refine st_of O hd ⟨rfl, ?_⟩
  show am_j pc off (fun t => am_if .eq x 0 (am_aw X nL sh t ls st D) (am_aw X nL sh (pc + 3) ls st D))
  rw [hq]
  exact am_jt ht ⟨kt, kf⟩
theorem st_icmp_eq (O : am_ok X own cc nL sh fl kc ro rb cs K) {x y : Int32} {off : Int} {t : Nat} (hd : decode cc pc = .ok (.if_icmp .eq off, 3)) (ht : (pc : Int) + off = (t : Int)) (hq : pc + 3 = q) (kt : x = y → am_aw X nL sh t ls st D) (kf : ¬ x = y → am_aw X nL sh q ls st D) : am_aw X nL sh pc ls (.inl y :: .inl x :: st) D := by
  refine st_of O hd ⟨rfl, ?_⟩
  show am_j pc off (fun t => am_if .eq x y (am_aw X nL sh t ls st D) (am_aw X nL sh (pc + 3) ls st D))
  rw [hq]
  exact am_jt ht ⟨kt, kf⟩
theorem sn_icmp_eq (O : am_ok X own cc nL sh fl kc ro rb cs K) {a b : Nat} {off : Int} {t : Nat} (hd : decode cc pc = .ok (.if_icmp .eq off, 3)) (ht : (pc : Int) + off = (t : Int)) (hq : pc + 3 = q) (ha : a < 2 ^ 31) (hb : b < 2 ^ 31) (kt : a = b → am_aw X nL sh t ls st D) (kf : ¬ a = b → am_aw X nL sh q ls st D) : am_aw X nL sh pc ls (.inl (nI b) :: .inl (nI a) :: st) D := st_icmp_eq O hd ht hq (fun h => kt ((nI_eq ha hb).mp h)) (fun h => kf (fun e => h ((nI_eq ha hb).mpr e)))
theorem st_if_ne (O : am_ok X own cc nL sh fl kc ro rb cs K) {x : Int32} {off : Int} {t : Nat} (hd : decode cc pc = .ok (.ifCond .ne off, 3)) (ht : (pc : Int) + off = (t : Int)) (hq : pc + 3 = q) (kt : ¬ x = 0 → am_aw X nL sh t ls st D) (kf : x = 0 → am_aw X nL sh q ls st D) : am_aw X nL sh pc ls (.inl x :: st) D := by
  refine st_of O hd ⟨rfl, ?_⟩
  show am_j pc off (fun t => am_if .ne x 0 (am_aw X nL sh t ls st D) (am_aw X nL sh (pc + 3) ls st D))
  rw [hq]
  exact am_jt ht ⟨kt, kf⟩
theorem st_icmp_ne (O : am_ok X own cc nL sh fl kc ro rb cs K) {x y : Int32} {off : Int} {t : Nat} (hd : decode cc pc = .ok (.if_icmp .ne off, 3)) (ht : (pc : Int) + off = (t : Int)) (hq : pc + 3 = q) (kt : ¬ x = y → am_aw X nL sh t ls st D) (kf : x = y → am_aw X nL sh q ls st D) : am_aw X nL sh pc ls (.inl y :: .inl x :: st) D := by
  refine st_of O hd ⟨rfl, ?_⟩
  show am_j pc off (fun t => am_if .ne x y (am_aw X nL sh t ls st D) (am_aw X nL sh (pc + 3) ls st D))
  rw [hq]
  exact am_jt ht ⟨kt, kf⟩
theorem sn_icmp_ne (O : am_ok X own cc nL sh fl kc ro rb cs K) {a b : Nat} {off : Int} {t : Nat} (hd : decode cc pc = .ok (.if_icmp .ne off, 3)) (ht : (pc : Int) + off = (t : Int)) (hq : pc + 3 = q) (ha : a < 2 ^ 31) (hb : b < 2 ^ 31) (kt : ¬ a = b → am_aw X nL sh t ls st D) (kf : a = b → am_aw X nL sh q ls st D) : am_aw X nL sh pc ls (.inl (nI b) :: .inl (nI a) :: st) D := st_icmp_ne O hd ht hq (fun h => kt (fun e => h ((nI_eq ha hb).mpr e))) (fun h => kf ((nI_eq ha hb).mp h))
theorem st_if_lt (O : am_ok X own cc nL sh fl kc ro rb cs K) {x : Int32} {off : Int} {t : Nat} (hd : decode cc pc = .ok (.ifCond .lt off, 3)) (ht : (pc : Int) + off = (t : Int)) (hq : pc + 3 = q) (kt : x < 0 → am_aw X nL sh t ls st D) (kf : ¬ x < 0 → am_aw X nL sh q ls st D) : am_aw X nL sh pc ls (.inl x :: st) D := by
  refine st_of O hd ⟨rfl, ?_⟩
  show am_j pc off (fun t => am_if .lt x 0 (am_aw X nL sh t ls st D) (am_aw X nL sh (pc + 3) ls st D))
  rw [hq]
  exact am_jt ht ⟨kt, kf⟩
theorem st_icmp_lt (O : am_ok X own cc nL sh fl kc ro rb cs K) {x y : Int32} {off : Int} {t : Nat} (hd : decode cc pc = .ok (.if_icmp .lt off, 3)) (ht : (pc : Int) + off = (t : Int)) (hq : pc + 3 = q) (kt : x < y → am_aw X nL sh t ls st D) (kf : ¬ x < y → am_aw X nL sh q ls st D) : am_aw X nL sh pc ls (.inl y :: .inl x :: st) D := by
  refine st_of O hd ⟨rfl, ?_⟩
  show am_j pc off (fun t => am_if .lt x y (am_aw X nL sh t ls st D) (am_aw X nL sh (pc + 3) ls st D))
  rw [hq]
  exact am_jt ht ⟨kt, kf⟩
theorem sn_icmp_lt (O : am_ok X own cc nL sh fl kc ro rb cs K) {a b : Nat} {off : Int} {t : Nat} (hd : decode cc pc = .ok (.if_icmp .lt off, 3)) (ht : (pc : Int) + off = (t : Int)) (hq : pc + 3 = q) (ha : a < 2 ^ 31) (hb : b < 2 ^ 31) (kt : a < b → am_aw X nL sh t ls st D) (kf : b ≤ a → am_aw X nL sh q ls st D) : am_aw X nL sh pc ls (.inl (nI b) :: .inl (nI a) :: st) D := st_icmp_lt O hd ht hq (fun h => kt ((nI_ltI ha hb).mp h)) (fun h => kf (Nat.le_of_not_lt (fun e => h ((nI_ltI ha hb).mpr e))))
theorem st_if_ge (O : am_ok X own cc nL sh fl kc ro rb cs K) {x : Int32} {off : Int} {t : Nat} (hd : decode cc pc = .ok (.ifCond .ge off, 3)) (ht : (pc : Int) + off = (t : Int)) (hq : pc + 3 = q) (kt : 0 ≤ x → am_aw X nL sh t ls st D) (kf : ¬ 0 ≤ x → am_aw X nL sh q ls st D) : am_aw X nL sh pc ls (.inl x :: st) D := by
  refine st_of O hd ⟨rfl, ?_⟩
  show am_j pc off (fun t => am_if .ge x 0 (am_aw X nL sh t ls st D) (am_aw X nL sh (pc + 3) ls st D))
  rw [hq]
  exact am_jt ht ⟨kt, kf⟩
theorem st_icmp_ge (O : am_ok X own cc nL sh fl kc ro rb cs K) {x y : Int32} {off : Int} {t : Nat} (hd : decode cc pc = .ok (.if_icmp .ge off, 3)) (ht : (pc : Int) + off = (t : Int)) (hq : pc + 3 = q) (kt : y ≤ x → am_aw X nL sh t ls st D) (kf : ¬ y ≤ x → am_aw X nL sh q ls st D) : am_aw X nL sh pc ls (.inl y :: .inl x :: st) D := by
  refine st_of O hd ⟨rfl, ?_⟩
  show am_j pc off (fun t => am_if .ge x y (am_aw X nL sh t ls st D) (am_aw X nL sh (pc + 3) ls st D))
  rw [hq]
  exact am_jt ht ⟨kt, kf⟩
theorem sn_icmp_ge (O : am_ok X own cc nL sh fl kc ro rb cs K) {a b : Nat} {off : Int} {t : Nat} (hd : decode cc pc = .ok (.if_icmp .ge off, 3)) (ht : (pc : Int) + off = (t : Int)) (hq : pc + 3 = q) (ha : a < 2 ^ 31) (hb : b < 2 ^ 31) (kt : b ≤ a → am_aw X nL sh t ls st D) (kf : a < b → am_aw X nL sh q ls st D) : am_aw X nL sh pc ls (.inl (nI b) :: .inl (nI a) :: st) D := st_icmp_ge O hd ht hq (fun h => kt ((nI_leI hb ha).mp h)) (fun h => kf (Nat.lt_of_not_le (fun e => h ((nI_leI hb ha).mpr e))))
theorem st_if_gt (O : am_ok X own cc nL sh fl kc ro rb cs K) {x : Int32} {off : Int} {t : Nat} (hd : decode cc pc = .ok (.ifCond .gt off, 3)) (ht : (pc : Int) + off = (t : Int)) (hq : pc + 3 = q) (kt : 0 < x → am_aw X nL sh t ls st D) (kf : ¬ 0 < x → am_aw X nL sh q ls st D) : am_aw X nL sh pc ls (.inl x :: st) D := by
  refine st_of O hd ⟨rfl, ?_⟩
  show am_j pc off (fun t => am_if .gt x 0 (am_aw X nL sh t ls st D) (am_aw X nL sh (pc + 3) ls st D))
  rw [hq]
  exact am_jt ht ⟨kt, kf⟩
theorem st_icmp_gt (O : am_ok X own cc nL sh fl kc ro rb cs K) {x y : Int32} {off : Int} {t : Nat} (hd : decode cc pc = .ok (.if_icmp .gt off, 3)) (ht : (pc : Int) + off = (t : Int)) (hq : pc + 3 = q) (kt : y < x → am_aw X nL sh t ls st D) (kf : ¬ y < x → am_aw X nL sh q ls st D) : am_aw X nL sh pc ls (.inl y :: .inl x :: st) D := by
  refine st_of O hd ⟨rfl, ?_⟩
  show am_j pc off (fun t => am_if .gt x y (am_aw X nL sh t ls st D) (am_aw X nL sh (pc + 3) ls st D))
  rw [hq]
  exact am_jt ht ⟨kt, kf⟩
theorem sn_icmp_gt (O : am_ok X own cc nL sh fl kc ro rb cs K) {a b : Nat} {off : Int} {t : Nat} (hd : decode cc pc = .ok (.if_icmp .gt off, 3)) (ht : (pc : Int) + off = (t : Int)) (hq : pc + 3 = q) (ha : a < 2 ^ 31) (hb : b < 2 ^ 31) (kt : b < a → am_aw X nL sh t ls st D) (kf : a ≤ b → am_aw X nL sh q ls st D) : am_aw X nL sh pc ls (.inl (nI b) :: .inl (nI a) :: st) D := st_icmp_gt O hd ht hq (fun h => kt ((nI_ltI hb ha).mp h)) (fun h => kf (Nat.le_of_not_lt (fun e => h ((nI_ltI hb ha).mpr e))))
theorem st_if_le (O : am_ok X own cc nL sh fl kc ro rb cs K) {x : Int32} {off : Int} {t : Nat} (hd : decode cc pc = .ok (.ifCond .le off, 3)) (ht : (pc : Int) + off = (t : Int)) (hq : pc + 3 = q) (kt : x ≤ 0 → am_aw X nL sh t ls st D) (kf : ¬ x ≤ 0 → am_aw X nL sh q ls st D) : am_aw X nL sh pc ls (.inl x :: st) D := by
  refine st_of O hd ⟨rfl, ?_⟩
  show am_j pc off (fun t => am_if .le x 0 (am_aw X nL sh t ls st D) (am_aw X nL sh (pc + 3) ls st D))
  rw [hq]
  exact am_jt ht ⟨kt, kf⟩
theorem st_icmp_le (O : am_ok X own cc nL sh fl kc ro rb cs K) {x y : Int32} {off : Int} {t : Nat} (hd : decode cc pc = .ok (.if_icmp .le off, 3)) (ht : (pc : Int) + off = (t : Int)) (hq : pc + 3 = q) (kt : x ≤ y → am_aw X nL sh t ls st D) (kf : ¬ x ≤ y → am_aw X nL sh q ls st D) : am_aw X nL sh pc ls (.inl y :: .inl x :: st) D := by
  refine st_of O hd ⟨rfl, ?_⟩
  show am_j pc off (fun t => am_if .le x y (am_aw X nL sh t ls st D) (am_aw X nL sh (pc + 3) ls st D))
  rw [hq]
  exact am_jt ht ⟨kt, kf⟩
theorem sn_icmp_le (O : am_ok X own cc nL sh fl kc ro rb cs K) {a b : Nat} {off : Int} {t : Nat} (hd : decode cc pc = .ok (.if_icmp .le off, 3)) (ht : (pc : Int) + off = (t : Int)) (hq : pc + 3 = q) (ha : a < 2 ^ 31) (hb : b < 2 ^ 31) (kt : a ≤ b → am_aw X nL sh t ls st D) (kf : b < a → am_aw X nL sh q ls st D) : am_aw X nL sh pc ls (.inl (nI b) :: .inl (nI a) :: st) D := st_icmp_le O hd ht hq (fun h => kt ((nI_leI ha hb).mp h)) (fun h => kf (Nat.lt_of_not_le (fun e => h ((nI_leI ha hb).mpr e))))
theorem sn_if_eq (O : am_ok X own cc nL sh fl kc ro rb cs K) {a : Nat} {off : Int} {t : Nat} (hd : decode cc pc = .ok (.ifCond .eq off, 3)) (ht : (pc : Int) + off = (t : Int)) (hq : pc + 3 = q) (ha : a < 2 ^ 31) (kt : a = 0 → am_aw X nL sh t ls st D) (kf : ¬ a = 0 → am_aw X nL sh q ls st D) : am_aw X nL sh pc ls (.inl (nI a) :: st) D := st_if_eq O hd ht hq (fun h => kt ((nI_lit 0 ha (by decide)).mp h)) (fun h => kf (fun e => h ((nI_lit 0 ha (by decide)).mpr e)))
theorem sn_if_ne (O : am_ok X own cc nL sh fl kc ro rb cs K) {a : Nat} {off : Int} {t : Nat} (hd : decode cc pc = .ok (.ifCond .ne off, 3)) (ht : (pc : Int) + off = (t : Int)) (hq : pc + 3 = q) (ha : a < 2 ^ 31) (kt : ¬ a = 0 → am_aw X nL sh t ls st D) (kf : a = 0 → am_aw X nL sh q ls st D) : am_aw X nL sh pc ls (.inl (nI a) :: st) D := st_if_ne O hd ht hq (fun h => kt (fun e => h ((nI_lit 0 ha (by decide)).mpr e))) (fun h => kf ((nI_lit 0 ha (by decide)).mp h))
theorem sn_if_ge (O : am_ok X own cc nL sh fl kc ro rb cs K) {a : Nat} {off : Int} {t : Nat} (hd : decode cc pc = .ok (.ifCond .ge off, 3)) (ht : (pc : Int) + off = (t : Int)) (hq : pc + 3 = q) (ha : a < 2 ^ 31) (kt : True → am_aw X nL sh t ls st D) (kf : False → am_aw X nL sh q ls st D) : am_aw X nL sh pc ls (.inl (nI a) :: st) D := st_if_ge O hd ht hq (fun _ => kt trivial) (fun h => absurd (nI_pos' ha) h)
theorem sn_if_gt (O : am_ok X own cc nL sh fl kc ro rb cs K) {a : Nat} {off : Int} {t : Nat} (hd : decode cc pc = .ok (.ifCond .gt off, 3)) (ht : (pc : Int) + off = (t : Int)) (hq : pc + 3 = q) (ha : a < 2 ^ 31) (kt : 0 < a → am_aw X nL sh t ls st D) (kf : a = 0 → am_aw X nL sh q ls st D) : am_aw X nL sh pc ls (.inl (nI a) :: st) D := st_if_gt O hd ht hq (fun h => kt ((Nat.eq_zero_or_pos a).elim (fun e => absurd h (by rw [e]; decide)) id)) (fun h => kf ((Nat.eq_zero_or_pos a).elim id (fun e => absurd ((nI_ltI (a := 0) (by decide) ha).mpr e) h)))
theorem sn_if_le (O : am_ok X own cc nL sh fl kc ro rb cs K) {a : Nat} {off : Int} {t : Nat} (hd : decode cc pc = .ok (.ifCond .le off, 3)) (ht : (pc : Int) + off = (t : Int)) (hq : pc + 3 = q) (ha : a < 2 ^ 31) (kt : a = 0 → am_aw X nL sh t ls st D) (kf : 0 < a → am_aw X nL sh q ls st D) : am_aw X nL sh pc ls (.inl (nI a) :: st) D := st_if_le O hd ht hq (fun h => kt ((Nat.eq_zero_or_pos a).elim id (fun e => absurd h (nI_nle e ha)))) (fun h => kf ((Nat.eq_zero_or_pos a).elim (fun e => absurd (show nI a ≤ 0 by rw [e]; decide) h) id))
theorem sn_if_lt (O : am_ok X own cc nL sh fl kc ro rb cs K) {a : Nat} {off : Int} {t : Nat} (hd : decode cc pc = .ok (.ifCond .lt off, 3)) (ht : (pc : Int) + off = (t : Int)) (hq : pc + 3 = q) (ha : a < 2 ^ 31) (kt : False → am_aw X nL sh t ls st D) (kf : True → am_aw X nL sh q ls st D) : am_aw X nL sh pc ls (.inl (nI a) :: st) D := st_if_lt O hd ht hq (fun h => absurd h (nI_pos ha)) (fun _ => kf trivial)
theorem st_goto (O : am_ok X own cc nL sh fl kc ro rb cs K) {off : Int} {t : Nat} (hd : decode cc pc = .ok (.goto off, 3)) (ht : (pc : Int) + off = (t : Int)) (k : am_aw X nL sh t ls st D) : am_aw X nL sh pc ls st D := st_of O hd ⟨rfl, am_jt ht k⟩
theorem st_table (O : am_ok X own cc nL sh fl kc ro rb cs K) {x : Int32} {dflt lo hi : Int} {offs : Array Int} {len : Nat} {os : List Int} (hd : decode cc pc = .ok (.tableswitch dflt lo hi offs, len)) (ho : offs.toList = os) (hl : lo + os.length = hi + 1) (k : am_sw x (am_j pc dflt (fun t => am_aw X nL sh t ls st D)) (am_tb pc (fun t => am_aw X nL sh t ls st D) lo os)) : am_aw X nL sh pc ls (.inl x :: st) D := st_of O hd ⟨by rw [ho]; exact hl, by rw [ho]; exact k⟩
theorem st_lookup (O : am_ok X own cc nL sh fl kc ro rb cs K) {x : Int32} {dflt : Int} {ps : Array (Int × Int)} {len : Nat} {os : List (Int × Int)} (hd : decode cc pc = .ok (.lookupswitch dflt ps, len)) (ho : ps.toList = os) (hl : (os.zip (os.drop 1)).all (fun (a, next) => a.1 < next.1) = true) (k : am_sw x (am_j pc dflt (fun t => am_aw X nL sh t ls st D)) (am_lk os pc (fun t => am_aw X nL sh t ls st D))) : am_aw X nL sh pc ls (.inl x :: st) D := st_of O hd ⟨by rw [ho]; exact hl, by rw [ho]; exact k⟩
theorem sw_nilT {x : Int32} {d : Int} {lo : Int} {t : Nat} {k : Nat → Prop} (ht : (pc : Int) + d = (t : Int)) (h : k t) : am_sw x (am_j pc d k) (am_tb pc k lo []) := am_jt ht h
theorem sw_nilL {x : Int32} {d : Int} {t : Nat} {k : Nat → Prop} (ht : (pc : Int) + d = (t : Int)) (h : k t) : am_sw x (am_j pc d k) (am_lk [] pc k) := am_jt ht h
theorem sw_consT {x v : Int32} {dp : Prop} {lo lo' o : Int} {os : List Int} {t : Nat} {k : Nat → Prop} (hv : v.toInt = lo) (ht : (pc : Int) + o = (t : Int)) (hl : lo + 1 = lo') (h1 : x = v → k t) (h2 : ¬ x = v → am_sw x dp (am_tb pc k lo' os)) : am_sw x dp (am_tb pc k lo (o :: os)) := ⟨fun e => am_jt ht (h1 (Int32.toInt_inj.mp (by rw [hv]; exact e))), fun e => by rw [hl]; exact h2 (fun z => e (by rw [z, hv]))⟩
theorem sw_consL {x v : Int32} {dp : Prop} {a o : Int} {os : List (Int × Int)} {t : Nat} {k : Nat → Prop} (hv : v.toInt = a) (ht : (pc : Int) + o = (t : Int)) (h1 : x = v → k t) (h2 : ¬ x = v → am_sw x dp (am_lk os pc k)) : am_sw x dp (am_lk ((a, o) :: os) pc k) := ⟨fun e => am_jt ht (h1 (Int32.toInt_inj.mp (by rw [hv]; exact e))), fun e => h2 (fun z => e (by rw [z, hv]))⟩
theorem st_geti (O : am_ok X own cc nL sh fl kc ro rb cs K) {ix ci n b p i : Nat} {fs : List (Nat ⊕ Nat)} {xs : List Int32} {v : Int32} (hd : decode cc pc = .ok (.getfield ix, 3)) (hf : fl ix = some (ci, n, b)) (ht : sh[p]? = some (.inr (ci, fs))) (hn : fs[n]? = some (.inl i)) (hD : D[p]? = some (.inl xs)) (hx : xs[i]? = some v) (hq : pc + 3 = q) (k : am_aw X nL sh q ls (.inl v :: st) D) : am_aw X nL sh pc ls (.inr p :: st) D := by
  refine st_of O hd ⟨rfl, ?_⟩
  dsimp only [am_pr]
  rw [hf, ht, hD, hq]
  refine ⟨rfl, ?_⟩
  rw [hn]
  show am_aw X nL sh q ls (.inl (xs.getD i 0) :: st) D
  rw [List.getD_eq_getElem?_getD, hx]
  exact k
theorem st_getr (O : am_ok X own cc nL sh fl kc ro rb cs K) {ix ci n b p z : Nat} {fs : List (Nat ⊕ Nat)} {xs : List Int32} (hd : decode cc pc = .ok (.getfield ix, 3)) (hf : fl ix = some (ci, n, b)) (ht : sh[p]? = some (.inr (ci, fs))) (hn : fs[n]? = some (.inr z)) (hD : D[p]? = some (.inl xs)) (hq : pc + 3 = q) (k : am_aw X nL sh q ls (.inr z :: st) D) : am_aw X nL sh pc ls (.inr p :: st) D := by
  refine st_of O hd ⟨rfl, ?_⟩
  dsimp only [am_pr]
  rw [hf, ht, hD, hq]
  refine ⟨rfl, ?_⟩
  rw [hn]
  exact k
theorem st_puti (O : am_ok X own cc nL sh fl kc ro rb cs K) {ix ci n p i : Nat} {fs : List (Nat ⊕ Nat)} {xs xs' : List Int32} {x : Int32} {D' : am_D} (hd : decode cc pc = .ok (.putfield ix, 3)) (hf : fl ix = some (ci, n, 1)) (ht : sh[p]? = some (.inr (ci, fs))) (hn : fs[n]? = some (.inl i)) (hD : D[p]? = some (.inl xs)) (hx : am_upd xs i x = some xs') (hu : am_upd D p (.inl xs') = some D') (hq : pc + 3 = q) (k : am_aw X nL sh q ls st D') : am_aw X nL sh pc ls (.inl x :: .inr p :: st) D := by
  obtain ⟨h1, h2⟩ := am_upd_eq _ _ _ _ hx
  obtain ⟨h3, h4⟩ := am_upd_eq _ _ _ _ hu
  refine st_of O hd ⟨rfl, ?_⟩
  dsimp only [am_pir]
  rw [hf, ht, hD, hq]
  refine ⟨rfl, ?_⟩
  rw [hn]
  rw [h3, h1] at k
  exact ⟨h2, k⟩
theorem st_putz (O : am_ok X own cc nL sh fl kc ro rb cs K) {ix ci n p i : Nat} {fs : List (Nat ⊕ Nat)} {xs xs' : List Int32} {x : Int32} {D' : am_D} (hd : decode cc pc = .ok (.putfield ix, 3)) (hf : fl ix = some (ci, n, 2)) (ht : sh[p]? = some (.inr (ci, fs))) (hn : fs[n]? = some (.inl i)) (hD : D[p]? = some (.inl xs)) (hx : am_upd xs i x = some xs') (hu : am_upd D p (.inl xs') = some D') (h01 : x = 0 ∨ x = 1) (hq : pc + 3 = q) (k : am_aw X nL sh q ls st D') : am_aw X nL sh pc ls (.inl x :: .inr p :: st) D := by
  obtain ⟨h1, h2⟩ := am_upd_eq _ _ _ _ hx
  obtain ⟨h3, h4⟩ := am_upd_eq _ _ _ _ hu
  refine st_of O hd ⟨rfl, ?_⟩
  dsimp only [am_pir]
  rw [hf, ht, hD, hq]
  refine ⟨rfl, ?_⟩
  rw [hn]
  rw [h3, h1] at k
  exact ⟨h2, h01, k⟩
theorem st_ald (O : am_ok X own cc nL sh fl kc ro rb cs K) {p n : Nat} {f : Nat → Int32} {i v : Int32} (hd : decode cc pc = .ok (.iaload, 1)) (ht : sh[p]? = some (.inl n)) (hD : D[p]? = some (.inr f)) (hi : vp_in i n) (hv : f i.toNatClampNeg = v) (hq : pc + 1 = q) (k : am_aw X nL sh q ls (.inl v :: st) D) : am_aw X nL sh pc ls (.inl i :: .inr p :: st) D := by
  refine st_of O hd ⟨rfl, ?_⟩
  dsimp only [am_pir]
  rw [ht, hD, hq]
  refine ⟨hi, ?_⟩
  rw [hv]
  exact k
theorem sn_ald (O : am_ok X own cc nL sh fl kc ro rb cs K) {p n j : Nat} {f : Nat → Int32} {i v : Int32} (hd : decode cc pc = .ok (.iaload, 1)) (ht : sh[p]? = some (.inl n)) (hD : D[p]? = some (.inr f)) (hi : i = nI j) (hj : j < n ∧ n < 2 ^ 31) (hv : f j = v) (hq : pc + 1 = q) (k : am_aw X nL sh q ls (.inl v :: st) D) : am_aw X nL sh pc ls (.inl i :: .inr p :: st) D := st_ald O hd ht hD (by rw [hi]; exact vp_in_nI hj.1 hj.2) (by rw [hi, nI_clamp (by omega)]; exact hv) hq k
theorem st_ast (O : am_ok X own cc nL sh fl kc ro rb cs K) {p n : Nat} {f g : Nat → Int32} {i x : Int32} {D' : am_D} (hd : decode cc pc = .ok (.iastore, 1)) (ht : sh[p]? = some (.inl n)) (hD : D[p]? = some (.inr f)) (hi : vp_in i n) (hg : upd f i.toNatClampNeg x = g) (hu : am_upd D p (.inr g) = some D') (hq : pc + 1 = q) (k : am_aw X nL sh q ls st D') : am_aw X nL sh pc ls (.inl x :: .inl i :: .inr p :: st) D := by
  obtain ⟨h3, h4⟩ := am_upd_eq _ _ _ _ hu
  refine st_of O hd ⟨rfl, ?_⟩
  dsimp only [am_piir]
  rw [ht, hD, hq]
  refine ⟨hi, ?_⟩
  rw [h3, ← hg] at k
  exact k
theorem sn_ast (O : am_ok X own cc nL sh fl kc ro rb cs K) {p n j : Nat} {f g : Nat → Int32} {i x : Int32} {D' : am_D} (hd : decode cc pc = .ok (.iastore, 1)) (ht : sh[p]? = some (.inl n)) (hD : D[p]? = some (.inr f)) (hi : i = nI j) (hj : j < n ∧ n < 2 ^ 31) (hg : upd f j x = g) (hu : am_upd D p (.inr g) = some D') (hq : pc + 1 = q) (k : am_aw X nL sh q ls st D') : am_aw X nL sh pc ls (.inl x :: .inl i :: .inr p :: st) D := st_ast O hd ht hD (by rw [hi]; exact vp_in_nI hj.1 hj.2) (by rw [hi, nI_clamp (by omega)]; exact hg) hu hq k
theorem st_call (O : am_ok X own cc nL sh fl kc ro rb cs K) {ix : Nat} {f : List am_V → am_D → am_K → Prop} (hd : decode cc pc = .ok (.invokevirtual ix, 3)) (hf : cs pc = f) (hq : pc + 3 = q) (k : f st D (fun st' D' => am_aw X nL sh q ls st' D')) : am_aw X nL sh pc ls st D := st_of O hd ⟨rfl, by rw [hf, hq]; exact k⟩
theorem st_callS (O : am_ok X own cc nL sh fl kc ro rb cs K) {ix : Nat} {f : List am_V → am_D → am_K → Prop} (hd : decode cc pc = .ok (.invokestatic ix, 3)) (hf : cs pc = f) (hq : pc + 3 = q) (k : f st D (fun st' D' => am_aw X nL sh q ls st' D')) : am_aw X nL sh pc ls st D := st_of O hd ⟨rfl, by rw [hf, hq]; exact k⟩
def am_pk (D : am_D) : List Nat → Option am_D
  | [] => some []
  | p :: e => match D[p]?, am_pk D e with
    | some (.inl xs), some r => some (.inl xs :: r)
    | some (.inr f), some r => some (.inr f :: r)
    | _, _ => none
theorem am_pk_eq {D : am_D} : ∀ (e : List Nat) (r : am_D), am_pk D e = some r → r = e.map (fun p => D.getD p (.inl [])) ∧ ∀ (j p : Nat), e[j]? = some p → D[p]? = r[j]?
  | [], r, h => by cases h; exact ⟨rfl, fun j p h => by simp at h⟩
  | p :: e, r, h => by
    unfold am_pk at h
    cases hd : D[p]? with
    | none => rw [hd] at h; cases h
    | some d =>
      cases hr : am_pk D e with
      | none => rw [hd, hr] at h; cases d <;> cases h
      | some r' =>
        have h9 : some (d :: r') = some r := by rw [hd, hr] at h; cases d <;> exact h
        cases h9
        obtain ⟨a1, a2⟩ := am_pk_eq e r' hr
        refine ⟨?_, fun j z hj => ?_⟩
        · rw [List.map_cons, ← a1]
          congr 1
          rw [List.getD_eq_getElem?_getD, hd]
          rfl
        · cases j with
          | zero => cases hj; exact hd
          | succ j => exact a2 j z hj
theorem am_put_self {D : am_D} : ∀ (e : List Nat) (r : am_D), (∀ (j p : Nat), e[j]? = some p → D[p]? = r[j]?) → am_put e r D = D
  | [], _, _ => rfl
  | p :: e, [], h => rfl
  | p :: e, d :: r, h => by
    have h0 : D[p]? = some d := h 0 p rfl
    have e1 : D.set p d = D := by
      apply List.ext_getElem?
      intro k
      by_cases hk : p = k
      · subst hk
        rw [List.getElem?_set_self (List.getElem?_eq_some_iff.mp h0).1, h0]
      · rw [List.getElem?_set_ne hk]
    show am_put e r (D.set p d) = D
    rw [e1]
    exact am_put_self e r (fun j z hj => h (j + 1) z hj)
/-- a call's own: the numbers given, the world cut out, the stack behind -/
theorem am_si {n : Nat} {pat : List (Option Nat)} {T : am_TT} {e fe : List Nat} {k : am_K} {as rest : List am_V} {is : List Int32} {D0 : am_D} (ha : am_fzs (st.take n).reverse = some as) (hag : am_ag fe pat as = some is) (hr : am_fzs (st.drop n) = some rest) (h8 : rest.length ≤ 8) (hp : am_pk D e = some D0) (hT : T is D0 (fun rs d => k (rs.map .inl ++ rest) (am_put e d D))) : am_site n pat T e fe st D k := by
  rw [am_fzs_eq _ _ ha] at hag
  rw [am_fzs_eq _ _ hr] at hT h8
  rw [(am_pk_eq e D0 hp).1] at hT
  unfold am_site
  rw [hag]
  exact ⟨h8, hT⟩
theorem am_sip {n : Nat} {pat : List (Option Nat)} {F : List Int32 → am_D → Int32 → Prop} {e fe : List Nat} {k : am_K} {as rest : List am_V} {is : List Int32} {D0 : am_D} {r : Int32} (ha : am_fzs (st.take n).reverse = some as) (hag : am_ag fe pat as = some is) (hr : am_fzs (st.drop n) = some rest) (h8 : rest.length ≤ 8) (hp : am_pk D e = some D0) (hF : F is D0 r) (hk : k (.inl r :: rest) D) : am_site n pat (am_pure F) e fe st D k := by
  refine am_si ha hag hr h8 hp ⟨r, hF, ?_⟩
  show k (.inl r :: rest) (am_put e D0 D)
  rw [am_put_self e D0 (am_pk_eq e D0 hp).2]
  exact hk
theorem st_ireturn (O : am_ok X own cc nL sh fl kc ro 1 cs K) {v : Int32} (hd : decode cc pc = .ok (.ireturn, 1)) (k : K [v] D) : am_aw X nL sh pc ls [.inl v] D := st_of O hd ⟨rfl, k⟩
theorem st_zreturn (O : am_ok X own cc nL sh fl kc ro 2 cs K) {v : Int32} (hd : decode cc pc = .ok (.ireturn, 1)) (h01 : v = 0 ∨ v = 1) (k : K [v] D) : am_aw X nL sh pc ls [.inl v] D := st_of O hd ⟨rfl, h01, k⟩
theorem st_vreturn (O : am_ok X own cc nL sh fl kc ro 0 cs K) (hd : decode cc pc = .ok (.return_, 1)) (k : K [] D) : am_aw X nL sh pc ls [] D := st_of O hd ⟨rfl, rfl, k⟩
end ST
def am_fzl : am_L → Option am_L
  | [] => some []
  | none :: l => match am_fzl l with
    | some r => some (none :: r)
    | none => none
  | some (.inl x) :: l => match am_fzl l with
    | some r => some (some (.inl x) :: r)
    | none => none
  | some (.inr x) :: l => match am_fzl l with
    | some r => some (some (.inr x) :: r)
    | none => none
theorem am_fzl_eq : ∀ (l r : am_L), am_fzl l = some r → r = l
  | [], r, h => by cases h; rfl
  | none :: l, r, h => by
    unfold am_fzl at h
    cases hu : am_fzl l with
    | none => rw [hu] at h; cases h
    | some r' => rw [hu] at h; cases h; rw [am_fzl_eq l r' hu]
  | some (.inl x) :: l, r, h => by
    unfold am_fzl at h
    cases hu : am_fzl l with
    | none => rw [hu] at h; cases h
    | some r' => rw [hu] at h; cases h; rw [am_fzl_eq l r' hu]
  | some (.inr x) :: l, r, h => by
    unfold am_fzl at h
    cases hu : am_fzl l with
    | none => rw [hu] at h; cases h
    | some r' => rw [hu] at h; cases h; rw [am_fzl_eq l r' hu]
theorem am_begin {X : am_X} {nL pc : Nat} {sh : am_S} {ls ls' : am_L} {st : List am_V} {D : am_D} (h : am_fzl ls = some ls') (k : am_aw X nL sh pc ls' st D) : am_aw X nL sh pc ls st D := by rw [am_fzl_eq _ _ h] at k; exact k
theorem am_iim {a : Nat} (h : 0 < a) : nI a + Int32.ofInt (-1) = nI (a - 1) := sb_m1 h
theorem am_ii1 (a : Nat) : nI a + Int32.ofInt 1 = nI (a + 1) := nI_1 a
theorem am_bipush_m9 : (Int8.ofInt (-9)).toInt32 = (-9 : Int32) := by decide
theorem am_bipush_m6 : (Int8.ofInt (-6)).toInt32 = (-6 : Int32) := by decide
theorem am_bipush_m4 : (Int8.ofInt (-4)).toInt32 = (-4 : Int32) := by decide
theorem am_bipush_m3 : (Int8.ofInt (-3)).toInt32 = (-3 : Int32) := by decide
theorem am_bipush_m2 : (Int8.ofInt (-2)).toInt32 = (-2 : Int32) := by decide
theorem am_bipush_6 : (Int8.ofInt 6).toInt32 = nI 6 := by decide
theorem am_bipush_7 : (Int8.ofInt 7).toInt32 = nI 7 := by decide
theorem am_bipush_8 : (Int8.ofInt 8).toInt32 = nI 8 := by decide
theorem am_bipush_9 : (Int8.ofInt 9).toInt32 = nI 9 := by decide
theorem am_bipush_10 : (Int8.ofInt 10).toInt32 = nI 10 := by decide
theorem am_bipush_11 : (Int8.ofInt 11).toInt32 = nI 11 := by decide
theorem am_bipush_12 : (Int8.ofInt 12).toInt32 = nI 12 := by decide
theorem am_bipush_16 : (Int8.ofInt 16).toInt32 = nI 16 := by decide
theorem am_bipush_17 : (Int8.ofInt 17).toInt32 = nI 17 := by decide
theorem am_bipush_18 : (Int8.ofInt 18).toInt32 = nI 18 := by decide
theorem am_bipush_20 : (Int8.ofInt 20).toInt32 = nI 20 := by decide
theorem am_bipush_27 : (Int8.ofInt 27).toInt32 = nI 27 := by decide
theorem am_bipush_36 : (Int8.ofInt 36).toInt32 = nI 36 := by decide
theorem am_bipush_45 : (Int8.ofInt 45).toInt32 = nI 45 := by decide
theorem am_bipush_46 : (Int8.ofInt 46).toInt32 = nI 46 := by decide
theorem am_bipush_47 : (Int8.ofInt 47).toInt32 = nI 47 := by decide
theorem am_bipush_48 : (Int8.ofInt 48).toInt32 = nI 48 := by decide
theorem am_bipush_57 : (Int8.ofInt 57).toInt32 = nI 57 := by decide
theorem am_bipush_59 : (Int8.ofInt 59).toInt32 = nI 59 := by decide
theorem am_bipush_63 : (Int8.ofInt 63).toInt32 = nI 63 := by decide
theorem am_bipush_96 : (Int8.ofInt 96).toInt32 = nI 96 := by decide
theorem am_bipush_98 : (Int8.ofInt 98).toInt32 = nI 98 := by decide
theorem am_bipush_99 : (Int8.ofInt 99).toInt32 = nI 99 := by decide
theorem am_bipush_102 : (Int8.ofInt 102).toInt32 = nI 102 := by decide
theorem am_bipush_111 : (Int8.ofInt 111).toInt32 = nI 111 := by decide
theorem am_bipush_119 : (Int8.ofInt 119).toInt32 = nI 119 := by decide
theorem am_bipush_120 : (Int8.ofInt 120).toInt32 = nI 120 := by decide
theorem am_iconst_m1 : Int32.ofInt (-1) = (-1 : Int32) := by decide
theorem am_iconst_0 : Int32.ofInt 0 = nI 0 := by decide
theorem am_iconst_1 : Int32.ofInt 1 = nI 1 := by decide
theorem am_iconst_2 : Int32.ofInt 2 = nI 2 := by decide
theorem am_iconst_3 : Int32.ofInt 3 = nI 3 := by decide
theorem am_iconst_4 : Int32.ofInt 4 = nI 4 := by decide
theorem am_iconst_5 : Int32.ofInt 5 = nI 5 := by decide
theorem am_sipush_m2000 : (Int16.ofInt (-2000)).toInt32 = (-2000 : Int32) := by decide
theorem am_sipush_m1000 : (Int16.ofInt (-1000)).toInt32 = (-1000 : Int32) := by decide
theorem am_sipush_255 : (Int16.ofInt 255).toInt32 = nI 255 := by decide
theorem am_sipush_256 : (Int16.ofInt 256).toInt32 = nI 256 := by decide
theorem am_sipush_1023 : (Int16.ofInt 1023).toInt32 = nI 1023 := by decide
abbrev sh_None : am_S := []
abbrev sh_Road : am_S := [.inr (3, [.inl 0, .inl 1, .inl 2, .inr 1, .inr 2, .inr 3, .inr 4, .inr 5]), .inl 9, .inl 9, .inl 9, .inl 9, .inl 9]
abbrev sh_RR : am_S := [.inr (3, [.inl 0, .inl 1, .inl 2, .inr 1, .inr 2, .inr 3, .inr 4, .inr 5]), .inl 9, .inl 9, .inl 9, .inl 9, .inl 9, .inr (3, [.inl 0, .inl 1, .inl 2, .inr 7, .inr 8, .inr 9, .inr 10, .inr 11]), .inl 9, .inl 9, .inl 9, .inl 9, .inl 9]
abbrev sh_Pas : am_S := [.inr (2, [.inr 1, .inr 2, .inr 3, .inl 0, .inl 1, .inr 4, .inr 5, .inl 2, .inl 3, .inl 4, .inl 5, .inl 6, .inl 7, .inl 8]), .inl 9, .inl 9, .inl 9, .inl 9, .inl 9]
abbrev sh_PR : am_S := [.inr (2, [.inr 1, .inr 2, .inr 3, .inl 0, .inl 1, .inr 4, .inr 5, .inl 2, .inl 3, .inl 4, .inl 5, .inl 6, .inl 7, .inl 8]), .inl 9, .inl 9, .inl 9, .inl 9, .inl 9, .inr (3, [.inl 0, .inl 1, .inl 2, .inr 7, .inr 8, .inr 9, .inr 10, .inr 11]), .inl 9, .inl 9, .inl 9, .inl 9, .inl 9]
abbrev sh_Txt : am_S := [.inr (4, [.inl 0, .inr 1]), .inl 96]
abbrev sh_TR : am_S := [.inr (4, [.inl 0, .inr 1]), .inl 96, .inr (3, [.inl 0, .inl 1, .inl 2, .inr 3, .inr 4, .inr 5, .inr 6, .inr 7]), .inl 9, .inl 9, .inl 9, .inl 9, .inl 9]
abbrev sh_TRR : am_S := [.inr (4, [.inl 0, .inr 1]), .inl 96, .inr (3, [.inl 0, .inl 1, .inl 2, .inr 3, .inr 4, .inr 5, .inr 6, .inr 7]), .inl 9, .inl 9, .inl 9, .inl 9, .inl 9, .inr (3, [.inl 0, .inl 1, .inl 2, .inr 9, .inr 10, .inr 11, .inr 12, .inr 13]), .inl 9, .inl 9, .inl 9, .inl 9, .inl 9]
abbrev sh_Mod : am_S := [.inr (6, [.inl 0, .inr 1, .inr 2, .inr 3, .inr 4, .inr 5, .inl 1, .inl 2, .inl 3, .inr 6, .inl 4, .inr 7, .inl 5, .inr 8, .inr 9, .inl 6, .inr 10, .inr 11, .inr 12, .inl 7, .inr 13, .inr 14, .inr 15, .inl 8, .inl 9, .inl 10, .inl 11]), .inl 9, .inl 9, .inl 9, .inl 9, .inl 9, .inl 96, .inl 8, .inl 12, .inl 7, .inl 48, .inl 48, .inl 48, .inl 9, .inl 9, .inl 9]
abbrev sh_R1 : am_S := [.inr (3, [.inl 0, .inl 1, .inl 2, .inr 1, .inr 2, .inr 3, .inr 4, .inr 5])]
abbrev sh_CPR : am_S := [.inr (0, [.inr 13, .inr 1]), .inr (2, [.inr 2, .inr 3, .inr 4, .inl 0, .inl 1, .inr 5, .inr 6, .inl 2, .inl 3, .inl 4, .inl 5, .inl 6, .inl 7, .inl 8]), .inl 9, .inl 9, .inl 9, .inl 9, .inl 9, .inr (3, [.inl 0, .inl 1, .inl 2, .inr 8, .inr 9, .inr 10, .inr 11, .inr 12]), .inl 9, .inl 9, .inl 9, .inl 9, .inl 9]
abbrev sh_CX : am_S := [.inr (0, [.inr 1, .inr 7]), .inr (3, [.inl 0, .inl 1, .inl 2, .inr 2, .inr 3, .inr 4, .inr 5, .inr 6]), .inl 9, .inl 9, .inl 9, .inl 9, .inl 9, .inr (2, [.inr 8, .inr 9, .inr 10, .inl 0, .inl 1, .inr 11, .inr 12, .inl 2, .inl 3, .inl 4, .inl 5, .inl 6, .inl 7, .inl 8]), .inl 9, .inl 9, .inl 9, .inl 9, .inl 9, .inr (3, [.inl 0, .inl 1, .inl 2, .inr 14, .inr 15, .inr 16, .inr 17, .inr 18]), .inl 9, .inl 9, .inl 9, .inl 9, .inl 9]
