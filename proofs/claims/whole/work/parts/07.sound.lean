section AMS
variable {p : Program} {l : Launch} {e : Env} {R : Room} {s : State} {m : MethodId} {args : Array Value} {below : List Frame} {meth : Method} {c : Code} {Q : State → Prop} {cells slots : Nat} {dC : Nat → ClassId} {dI : Nat → Nat → Nat} {cA : ClassId} {ad : Nat → Nat} {A : Nat → Prop}
theorem am_j_of {pc : Nat} {off : Int} {k : Nat → Prop} (h : am_j pc off k) : ∃ t : Nat, (pc : Int) + off = (t : Int) ∧ k t := ⟨((pc : Int) + off).toNat, (Int.toNat_of_nonneg h.1).symm, h.2⟩
theorem am_sw_lk {x : Int32} {pc : Nat} {d : Int} {k : Nat → Prop} : ∀ (ps : List (Int × Int)), am_sw x (am_j pc d k) (am_lk ps pc k) → am_j pc (Op.lookupswitch.offset ps d x.toInt) k
  | [], h => by
    have e : Op.lookupswitch.offset [] d x.toInt = d := rfl
    rw [e]
    exact h
  | (a, o) :: r, h => by
    rw [Op.lookupswitch.offset_cons]
    obtain ⟨h1, h2⟩ := h
    by_cases hx : a = x.toInt
    · rw [if_pos hx]
      exact h1 hx.symm
    · rw [if_neg hx]
      exact am_sw_lk r (h2 (fun q => hx q.symm))
theorem am_sw_tb {x : Int32} {pc : Nat} {d : Prop} {k : Nat → Prop} : ∀ (os : List Int) (lo : Int), am_sw x d (am_tb pc k lo os) → ((x.toInt < lo ∨ lo + os.length ≤ x.toInt) ∧ d) ∨ ∃ o : Int, lo ≤ x.toInt ∧ x.toInt < lo + os.length ∧ os[(x.toInt - lo).toNat]? = some o ∧ am_j pc o k
  | [], lo, h => Or.inl ⟨by simp only [List.length_nil]; omega, h⟩
  | o :: r, lo, h => by
    obtain ⟨h1, h2⟩ := h
    by_cases hx : x.toInt = lo
    · exact Or.inr ⟨o, by omega, by simp only [List.length_cons]; omega, by rw [hx, Int.sub_self]; rfl, h1 hx⟩
    · rcases am_sw_tb r (lo + 1) (h2 hx) with ⟨h3, h4⟩ | ⟨o', h3, h4, h5, h6⟩
      · exact Or.inl ⟨by simp only [List.length_cons]; omega, h4⟩
      · refine Or.inr ⟨o', by omega, by simp only [List.length_cons]; omega, ?_, h6⟩
        rw [show (x.toInt - lo).toNat = (x.toInt - (lo + 1)).toNat + 1 by omega, List.getElem?_cons_succ]
        exact h5
set_option maxHeartbeats 4000000 in
theorem am_sound {X : am_X} {own : String} {cc : ByteArray} {nL : Nat} {sh : am_S} {fl : Nat → Option (Nat × Nat × Nat)} {kc : Nat → Option am_V} {ro : Option (Nat × (Nat → Int32))} {rb : Nat} {cs : Nat → List am_V → am_D → am_K → Prop} {K : List Int32 → am_D → Prop} (O : am_ok X own cc nL sh fl kc ro rb cs K) {k : Nat → am_L → List am_V → am_D → Prop} (hk : ∀ pc ls st D, k pc ls st D → am_aw X nL sh pc ls st D) {pc : Nat} {ls : am_L} {st : List am_V} {D : am_D} (h : am_ex sh fl kc ro rb cs K k cc pc ls st D) : am_aw X nL sh pc ls st D := by
  obtain ⟨p, l, e, R, s, m, args, below, meth, c, Q, cells, slots, dC, dI, cA, ad, A⟩ := X
  obtain ⟨hx, hb, hown, hK, hsh, hfl, hkc, hro, hri, hrv, hcs⟩ := O
  unfold am_ex at h
  cases hd : decode cc pc with
  | error _ => rw [hd] at h; exact h.elim
  | ok q =>
    obtain ⟨i, len⟩ := q
    rw [hd] at h
    dsimp only at h
    have wfo : ∀ (q : Nat) (ci : Nat) (fs : List (Nat ⊕ Nat)), sh[q]? = some (.inr (ci, fs)) → am_wf fs = true := by
      intro q ci fs hq
      have := List.all_eq_true.mp hsh _ (List.mem_of_getElem? hq)
      exact this
    intro H locs lc hP hD hS hsz hlen hl
    have go : ∀ {pc' : Nat} {ls' : am_L} {st' : List am_V} {D' : am_D} {H' : Heap} {locs' : List Loc} {lc' : Array Slot}, k pc' ls' st' D' → va_P (dC, dI) vwCl (am_w cA ad 0 sh D') H' → va_D A (am_w cA ad 0 sh D') → va_S A s.heap H' locs' → D'.length = sh.length → ls'.length = nL → lv_has lc' nL (am_lp ad 0 ls') → W p l e R s m args below meth c H' locs' cells slots Q (F0 m pc' lc' (st'.map (am_cv ad))) := fun h1 h2 h3 h4 h5 h6 h7 => hk _ _ _ _ h1 _ _ _ h2 h3 h4 h5 h6 h7
    have cat : ∀ v : am_V, (am_cv ad v).category = 1 := fun v => by cases v <;> rfl
    have lt_of_ls : ∀ {j : Nat} {o : Option am_V}, ls[j]? = some o → j < nL := fun hj => by rw [← hlen]; exact (List.getElem?_eq_some_iff.mp hj).1
    cases i with
    | iconst n =>
      obtain ⟨rfl, h⟩ := h
      exact lv_iconst hx hb hd rfl (go h hP hD hS hsz hlen hl)
    | bipush n =>
      obtain ⟨rfl, h⟩ := h
      exact lv_bipush hx hb hd rfl (go h hP hD hS hsz hlen hl)
    | sipush n =>
      obtain ⟨rfl, h⟩ := h
      exact lv_sipush hx hb hd rfl (go h hP hD hS hsz hlen hl)
    | ldc ix =>
      obtain ⟨rfl, h⟩ := h
      cases hv : kc ix with
      | none => rw [hv] at h; exact h.elim
      | some v =>
        rw [hv] at h
        have h1 := hkc ix v hv
        cases v with
        | inl x => exact lv_ldc hx hb hown h1 hd (go h hP hD hS hsz hlen hl)
        | inr q =>
          obtain ⟨tx, h1⟩ := h1
          exact va_ldcS hx hb hown h1 hd (go h hP hD hS hsz hlen hl)
    | ldc_w ix =>
      obtain ⟨rfl, h⟩ := h
      cases hv : kc ix with
      | none => rw [hv] at h; exact h.elim
      | some v =>
        rw [hv] at h
        have h1 := hkc ix v hv
        cases v with
        | inl x => exact lv_ldcw hx hb hown h1 hd (go h hP hD hS hsz hlen hl)
        | inr q => exact h.elim
    | iload_n j =>
      obtain ⟨rfl, h⟩ := h
      cases hj : ls[(j : Nat)]? with
      | none => rw [hj] at h; exact h.elim
      | some o =>
        rcases o with _ | ⟨x | q⟩ <;> rw [hj] at h
        · exact h.elim
        · exact lv_iload_n hx hb hd rfl (am_lh_at hl hj) (go h hP hD hS hsz hlen hl)
        · exact h.elim
    | iload j =>
      obtain ⟨rfl, h⟩ := h
      cases hj : ls[j]? with
      | none => rw [hj] at h; exact h.elim
      | some o =>
        rcases o with _ | ⟨x | q⟩ <;> rw [hj] at h
        · exact h.elim
        · exact lv_iload hx hb hd (am_lh_at hl hj) (go h hP hD hS hsz hlen hl)
        · exact h.elim
    | aload_n j =>
      obtain ⟨rfl, h⟩ := h
      cases hj : ls[(j : Nat)]? with
      | none => rw [hj] at h; exact h.elim
      | some o =>
        rcases o with _ | ⟨x | q⟩ <;> rw [hj] at h
        · exact h.elim
        · exact h.elim
        · exact lv_aload_n hx hb hd rfl (am_lh_at hl hj) (go h hP hD hS hsz hlen hl)
    | aload j =>
      obtain ⟨rfl, h⟩ := h
      cases hj : ls[j]? with
      | none => rw [hj] at h; exact h.elim
      | some o =>
        rcases o with _ | ⟨x | q⟩ <;> rw [hj] at h
        · exact h.elim
        · exact h.elim
        · exact lv_aload hx hb hd (am_lh_at hl hj) (go h hP hD hS hsz hlen hl)
    | istore_n j =>
      obtain ⟨rfl, h⟩ := h
      rcases st with _ | ⟨x | _, r⟩
      · exact h.elim
      · cases hj : ls[(j : Nat)]? with
        | none => simp only [am_p1, hj, am_sl] at h
        | some o =>
          simp only [am_p1, hj, am_sl] at h
          exact lv_istore_n hx hb hd rfl hl (lt_of_ls hj) rfl (fun lc' hl' => go h hP hD hS hsz (by rw [List.length_set]; exact hlen) (am_lh_set (v := .inl x) hl'))
      · exact h.elim
    | istore j =>
      obtain ⟨rfl, h⟩ := h
      rcases st with _ | ⟨x | _, r⟩
      · exact h.elim
      · cases hj : ls[j]? with
        | none => simp only [am_p1, hj, am_sl] at h
        | some o =>
          simp only [am_p1, hj, am_sl] at h
          exact lv_istore hx hb hd hl (lt_of_ls hj) rfl (fun lc' hl' => go h hP hD hS hsz (by rw [List.length_set]; exact hlen) (am_lh_set (v := .inl x) hl'))
      · exact h.elim
    | iinc j n =>
      obtain ⟨rfl, h⟩ := h
      cases hj : ls[j]? with
      | none => rw [hj] at h; exact h.elim
      | some o =>
        rcases o with _ | ⟨x | q⟩ <;> rw [hj] at h
        · exact h.elim
        · obtain ⟨i, hi⟩ := List.getElem?_of_mem (am_lp_mem ad ls 0 j _ hj)
          rw [Nat.zero_add] at hi
          exact lv_iinc hx hb hd hl hi rfl (lt_of_ls hj) rfl (fun lc' hl' => go h hP hD hS hsz (by rw [List.length_set]; exact hlen) (am_lh_set (v := .inl _) hl'))
        · exact h.elim
    | iadd =>
      obtain ⟨rfl, h⟩ := h
      rcases st with _ | ⟨y | _, _ | ⟨x | _, r⟩⟩ <;> first | exact h.elim | exact lv_iadd hx hb hd (go h hP hD hS hsz hlen hl)
    | isub =>
      obtain ⟨rfl, h⟩ := h
      rcases st with _ | ⟨y | _, _ | ⟨x | _, r⟩⟩ <;> first | exact h.elim | exact lv_isub hx hb hd (go h hP hD hS hsz hlen hl)
    | imul =>
      obtain ⟨rfl, h⟩ := h
      rcases st with _ | ⟨y | _, _ | ⟨x | _, r⟩⟩ <;> first | exact h.elim | exact lv_imul hx hb hd (go h hP hD hS hsz hlen hl)
    | iand =>
      obtain ⟨rfl, h⟩ := h
      rcases st with _ | ⟨y | _, _ | ⟨x | _, r⟩⟩ <;> first | exact h.elim | exact lv_iand hx hb hd (go h hP hD hS hsz hlen hl)
    | ior =>
      obtain ⟨rfl, h⟩ := h
      rcases st with _ | ⟨y | _, _ | ⟨x | _, r⟩⟩ <;> first | exact h.elim | exact lv_ior hx hb hd (go h hP hD hS hsz hlen hl)
    | ixor =>
      obtain ⟨rfl, h⟩ := h
      rcases st with _ | ⟨y | _, _ | ⟨x | _, r⟩⟩ <;> first | exact h.elim | exact lv_ixor hx hb hd (go h hP hD hS hsz hlen hl)
    | idiv =>
      obtain ⟨rfl, h⟩ := h
      rcases st with _ | ⟨y | _, _ | ⟨x | _, r⟩⟩ <;> first | exact h.elim | exact lv_idiv hx hb hd h.1 (go h.2 hP hD hS hsz hlen hl)
    | irem =>
      obtain ⟨rfl, h⟩ := h
      rcases st with _ | ⟨y | _, _ | ⟨x | _, r⟩⟩ <;> first | exact h.elim | exact lv_irem hx hb hd h.1 (go h.2 hP hD hS hsz hlen hl)
    | ineg =>
      obtain ⟨rfl, h⟩ := h
      rcases st with _ | ⟨y | _, r⟩ <;> first | exact h.elim | exact lv_ineg hx hb hd (go h hP hD hS hsz hlen hl)
    | ishl =>
      obtain ⟨rfl, h⟩ := h
      rcases st with _ | ⟨y | _, _ | ⟨x | _, r⟩⟩ <;> first | exact h.elim | exact lv_ishl hx hb hd (go h hP hD hS hsz hlen hl)
    | ishr =>
      obtain ⟨rfl, h⟩ := h
      rcases st with _ | ⟨y | _, _ | ⟨x | _, r⟩⟩ <;> first | exact h.elim | exact lv_ishr hx hb hd (go h hP hD hS hsz hlen hl)
    | iushr =>
      obtain ⟨rfl, h⟩ := h
      rcases st with _ | ⟨y | _, _ | ⟨x | _, r⟩⟩ <;> first | exact h.elim | exact lv_iushr hx hb hd rfl (go h hP hD hS hsz hlen hl)
    | i2c =>
      obtain ⟨rfl, h⟩ := h
      rcases st with _ | ⟨y | _, r⟩ <;> first | exact h.elim | exact lv_i2c hx hb hd rfl (go h hP hD hS hsz hlen hl)
    | dup =>
      obtain ⟨rfl, h⟩ := h
      rcases st with _ | ⟨v, r⟩ <;> first | exact h.elim | exact lv_dup hx hb hd (cat v) (go h hP hD hS hsz hlen hl)
    | pop =>
      obtain ⟨rfl, h⟩ := h
      rcases st with _ | ⟨v, r⟩ <;> first | exact h.elim | exact lv_pop hx hb hd (cat v) (go h hP hD hS hsz hlen hl)
    | dup_x1 =>
      obtain ⟨rfl, h⟩ := h
      rcases st with _ | ⟨v, _ | ⟨w, r⟩⟩ <;> first | exact h.elim | exact lv_dup_x1 hx hb hd (cat v) (cat w) (go h hP hD hS hsz hlen hl)
    | dup2 =>
      obtain ⟨rfl, h⟩ := h
      rcases st with _ | ⟨v, _ | ⟨w, r⟩⟩ <;> first | exact h.elim | exact lv_dup2_11 hx hb hd (cat v) (cat w) (go h hP hD hS hsz hlen hl)
    | ifCond cd off =>
      obtain ⟨rfl, h⟩ := h
      rcases st with _ | ⟨x | _, r⟩
      · exact h.elim
      · simp only [am_p1, am_p2] at h
        obtain ⟨t, e1, h⟩ := am_j_of h
        cases cd with
        | eq => exact lv_if_eq hx hb hd e1 (fun q => go (h.1 q) hP hD hS hsz hlen hl) (fun q => go (h.2 q) hP hD hS hsz hlen hl)
        | ne => exact lv_if_ne hx hb hd e1 (fun q => go (h.1 q) hP hD hS hsz hlen hl) (fun q => go (h.2 q) hP hD hS hsz hlen hl)
        | lt => exact lv_if_lt hx hb hd e1 (fun q => go (h.1 q) hP hD hS hsz hlen hl) (fun q => go (h.2 q) hP hD hS hsz hlen hl)
        | ge => exact lv_if_ge hx hb hd e1 (fun q => go (h.1 q) hP hD hS hsz hlen hl) (fun q => go (h.2 q) hP hD hS hsz hlen hl)
        | gt => exact lv_if_gt hx hb hd e1 (fun q => go (h.1 q) hP hD hS hsz hlen hl) (fun q => go (h.2 q) hP hD hS hsz hlen hl)
        | le => exact lv_if_le hx hb hd e1 (fun q => go (h.1 q) hP hD hS hsz hlen hl) (fun q => go (h.2 q) hP hD hS hsz hlen hl)
      · exact h.elim
    | if_icmp cd off =>
      obtain ⟨rfl, h⟩ := h
      rcases st with _ | ⟨y | _, _ | ⟨x | _, r⟩⟩
      · exact h.elim
      · exact h.elim
      · simp only [am_p1, am_p2] at h
        obtain ⟨t, e1, h⟩ := am_j_of h
        cases cd with
        | eq => exact lv_icmp_eq hx hb hd e1 (fun q => go (h.1 q) hP hD hS hsz hlen hl) (fun q => go (h.2 q) hP hD hS hsz hlen hl)
        | ne => exact lv_icmp_ne hx hb hd e1 (fun q => go (h.1 q) hP hD hS hsz hlen hl) (fun q => go (h.2 q) hP hD hS hsz hlen hl)
        | lt => exact lv_icmp_lt hx hb hd e1 (fun q => go (h.1 q) hP hD hS hsz hlen hl) (fun q => go (h.2 q) hP hD hS hsz hlen hl)
        | ge => exact lv_icmp_ge hx hb hd e1 (fun q => go (h.1 q) hP hD hS hsz hlen hl) (fun q => go (h.2 q) hP hD hS hsz hlen hl)
        | gt => exact lv_icmp_gt hx hb hd e1 (fun q => go (h.1 q) hP hD hS hsz hlen hl) (fun q => go (h.2 q) hP hD hS hsz hlen hl)
        | le => exact lv_icmp_le hx hb hd e1 (fun q => go (h.1 q) hP hD hS hsz hlen hl) (fun q => go (h.2 q) hP hD hS hsz hlen hl)
      all_goals exact h.elim
    | goto off =>
      obtain ⟨rfl, h⟩ := h
      obtain ⟨t, e1, h⟩ := am_j_of h
      exact lv_goto hx hb hd e1 (go h hP hD hS hsz hlen hl)
    | lookupswitch dflt ps =>
      obtain ⟨hp, h⟩ := h
      rcases st with _ | ⟨x | _, r⟩
      · exact h.elim
      · obtain ⟨t, e1, h⟩ := am_j_of (am_sw_lk ps.toList h)
        exact lv_lookup hx hb hd hp rfl e1 (go h hP hD hS hsz hlen hl)
      · exact h.elim
    | tableswitch dflt lo hi offs =>
      obtain ⟨hp, h⟩ := h
      rcases st with _ | ⟨x | _, r⟩
      · exact h.elim
      · rcases am_sw_tb offs.toList lo h with ⟨h1, h2⟩ | ⟨o, h1, h2, h3, h4⟩
        · obtain ⟨t, e1, h⟩ := am_j_of h2
          exact lv_tableOut hx hb hd (by omega) e1 (go h hP hD hS hsz hlen hl)
        · obtain ⟨t, e1, h⟩ := am_j_of h4
          exact lv_tableIn hx hb hd (by omega) (by omega) (by rw [← Array.getElem?_toList]; exact h3) e1 (go h hP hD hS hsz hlen hl)
      · exact h.elim
    | getfield ix =>
      obtain ⟨rfl, h⟩ := h
      rcases st with _ | ⟨_ | q, r⟩
      · exact h.elim
      · exact h.elim
      · simp only [am_pr] at h
        rcases hf : fl ix with _ | ⟨ci, n, b⟩
        · rw [hf] at h; exact h.elim
        · rcases ht : sh[q]? with _ | ⟨a | ⟨cj, fs⟩⟩
          · rw [hf, ht] at h; exact h.elim
          · rw [hf, ht] at h; exact h.elim
          · rcases hdq : D[q]? with _ | ⟨xs | g⟩
            · rw [hf, ht, hdq] at h; exact h.elim
            · rw [hf, ht, hdq] at h
              obtain ⟨rfl, h⟩ := h
              obtain ⟨C, T, N, v1, v2, v3, v4, -, -⟩ := hfl ix ci n b hf
              have he := am_w_get cA ad sh D 0 q _ _ ht hdq
              rw [Nat.zero_add] at he
              rcases hn : fs[n]? with _ | ⟨i | z⟩
              · rw [hn] at h; exact h.elim
              · rw [hn] at h
                exact va_get (D := (dC, dI)) (C := C) (T := T) (N := N) hx hb v3 (fun _ z => z) hown hK hP q he v1 n v2 v4 (fun _ z => z) (v := .int (xs.getD i 0)) (by rw [List.getElem?_map, hn]; rfl) hd (go h hP hD hS hsz hlen hl)
              · rw [hn] at h
                exact va_get (D := (dC, dI)) (C := C) (T := T) (N := N) hx hb v3 (fun _ z => z) hown hK hP q he v1 n v2 v4 (fun _ z => z) (v := .ref (ad z)) (by rw [List.getElem?_map, hn]; rfl) hd (go h hP hD hS hsz hlen hl)
            · rw [hf, ht, hdq] at h; exact h.elim
    | putfield ix =>
      obtain ⟨rfl, h⟩ := h
      rcases st with _ | ⟨x | _, _ | ⟨_ | q, r⟩⟩
      · exact h.elim
      · exact h.elim
      · exact h.elim
      · simp only [am_pir] at h
        rcases hf : fl ix with _ | ⟨ci, n, b⟩
        · rw [hf] at h; exact h.elim
        · rcases ht : sh[q]? with _ | ⟨a | ⟨cj, fs⟩⟩
          · rw [hf, ht] at h; exact h.elim
          · rw [hf, ht] at h; exact h.elim
          · rcases hdq : D[q]? with _ | ⟨xs | g⟩
            · rw [hf, ht, hdq] at h; exact h.elim
            · rw [hf, ht, hdq] at h
              obtain ⟨rfl, h⟩ := h
              obtain ⟨C, T, N, v1, v2, v3, v4, v5, v6⟩ := hfl ix ci n b hf
              obtain ⟨ty0, t1, t2⟩ := am_vw ci C T N v1
              have he := am_w_get cA ad sh D 0 q _ _ ht hdq
              have hset := fun d => am_w_set cA ad sh D 0 q _ _ d ht hdq
              rw [Nat.zero_add] at he hset
              have hwf := wfo q ci fs ht
              rcases hn : fs[n]? with _ | ⟨i | z⟩
              · rw [hn] at h; exact h.elim
              · rw [hn] at h
                obtain ⟨hi, h⟩ := h
                have hset2 : (am_w cA ad 0 sh D).set q (ad q, .inr (ci, (fs.map (am_fv ad xs)).set n (.int x))) = am_w cA ad 0 sh (D.set q (.inl (xs.set i x))) := by
                  rw [am_fs_set hwf hn hi, ← hset]
                  rfl
                have hlen2 : n < (fs.map (am_fv ad xs)).length := by rw [List.length_map]; exact (List.getElem?_eq_some_iff.mp hn).1
                match b, h, v5, v6 with
                | 0, h, _, _ => exact h.elim
                | 1, h, v5, _ =>
                  obtain ⟨f1, f2⟩ := v5 rfl
                  exact va_put (D := (dC, dI)) (C := C) (T := T) (N := N) hx hb v3 (fun _ z => z) ty0 t1 t2 hown hK hP hD hS q he v1 n v2 v4 (fun _ z => z) f1 (v := .int x) f2 rfl rfl hlen2 hd (fun H1 locs1 a1 a2 a3 => go h (hset2 ▸ a1) (hset2 ▸ a2) a3 (by rw [List.length_set]; exact hsz) hlen hl)
                | 2, h, _, v6 =>
                  obtain ⟨f1, f2⟩ := v6 rfl
                  obtain ⟨h0, h⟩ := h
                  exact va_put (D := (dC, dI)) (C := C) (T := T) (N := N) hx hb v3 (fun _ z => z) ty0 t1 t2 hown hK hP hD hS q he v1 n v2 v4 (fun _ z => z) f1 (v := .int x) f2 (by rcases h0 with rfl | rfl <;> rfl) (by rcases h0 with rfl | rfl <;> rfl) hlen2 hd (fun H1 locs1 a1 a2 a3 => go h (hset2 ▸ a1) (hset2 ▸ a2) a3 (by rw [List.length_set]; exact hsz) hlen hl)
                | b + 3, h, _, _ => exact h.elim
              · rw [hn] at h; exact h.elim
            · rw [hf, ht, hdq] at h; exact h.elim
      · exact h.elim
      · exact h.elim
      · exact h.elim
    | iaload =>
      obtain ⟨rfl, h⟩ := h
      rcases st with _ | ⟨i | _, _ | ⟨_ | q, r⟩⟩
      · exact h.elim
      · exact h.elim
      · exact h.elim
      · simp only [am_pir] at h
        rcases ht : sh[q]? with _ | ⟨n | ⟨cj, fs⟩⟩
        · rw [ht] at h
          rcases hr : ro with _ | ⟨L, xs⟩
          · rw [hr] at h; cases hdq : D[q]? <;> (rw [hdq] at h; exact h.elim)
          · have h : q = 999 ∧ vp_in i L ∧ k (pc + 1) ls (.inl (xs i.toNatClampNeg) :: r) D := by
              rw [hr] at h; cases hdq : D[q]? <;> (rw [hdq] at h; exact h)
            obtain ⟨rfl, h1, h2⟩ := h
            obtain ⟨r1, r2, r3⟩ := hro L xs hr
            exact va_sld hx hb r1 r2 r3 hS h1 hd (go h2 hP hD hS hsz hlen hl)
        · rcases hdq : D[q]? with _ | ⟨xs | g⟩
          · rw [ht, hdq] at h; exact h.elim
          · rw [ht, hdq] at h; exact h.elim
          · rw [ht, hdq] at h
            have he := am_w_get cA ad sh D 0 q _ _ ht hdq
            rw [Nat.zero_add] at he
            exact va_iald (D := (dC, dI)) hx hb hK hP q 0 he rfl h.1 hd (go h.2 hP hD hS hsz hlen hl)
        · rw [ht] at h; cases hdq : D[q]? <;> (rw [hdq] at h; exact h.elim)
      · exact h.elim
      · exact h.elim
      · exact h.elim
    | iastore =>
      obtain ⟨rfl, h⟩ := h
      rcases st with _ | ⟨x | _, _ | ⟨i | _, _ | ⟨_ | q, r⟩⟩⟩
      · exact h.elim
      · exact h.elim
      · exact h.elim
      · exact h.elim
      · simp only [am_piir] at h
        rcases ht : sh[q]? with _ | ⟨n | ⟨cj, fs⟩⟩
        · rw [ht] at h; exact h.elim
        · rcases hdq : D[q]? with _ | ⟨xs | g⟩
          · rw [ht, hdq] at h; exact h.elim
          · rw [ht, hdq] at h; exact h.elim
          · rw [ht, hdq] at h
            have he := am_w_get cA ad sh D 0 q _ _ ht hdq
            have hset := am_w_set cA ad sh D 0 q _ _ (.inr (upd g i.toNatClampNeg x)) ht hdq
            rw [Nat.zero_add] at he hset
            exact va_iast (D := (dC, dI)) hx hb hK hP hD hS q 0 he rfl h.1 hd (fun H1 locs1 a1 a2 a3 => go h.2 (hset ▸ a1) (hset ▸ a2) a3 (by rw [List.length_set]; exact hsz) hlen hl)
        · rw [ht] at h; exact h.elim
      all_goals exact h.elim
    | arraylength =>
      obtain ⟨rfl, h⟩ := h
      rcases st with _ | ⟨_ | q, r⟩
      · exact h.elim
      · exact h.elim
      · simp only [am_pr] at h
        rcases hr : ro with _ | ⟨L, xs⟩
        · rw [hr] at h; exact h.elim
        · rw [hr] at h
          obtain ⟨rfl, h2⟩ := h
          obtain ⟨r1, r2, r3⟩ := hro L xs hr
          exact va_slen hx hb r1 r2 r3 hS hd (go h2 hP hD hS hsz hlen hl)
    | invokevirtual ix =>
      obtain ⟨rfl, h⟩ := h
      exact hcs pc st D _ ls h (fun st' D' q => hk _ _ _ _ q) H locs lc hP hD hS hsz hlen hl
    | invokestatic ix =>
      obtain ⟨rfl, h⟩ := h
      exact hcs pc st D _ ls h (fun st' D' q => hk _ _ _ _ q) H locs lc hP hD hS hsz hlen hl
    | ireturn =>
      obtain ⟨rfl, h⟩ := h
      rcases st with _ | ⟨v | _, _ | ⟨w, r⟩⟩
      · exact h.elim
      · match rb, h, hri with
        | 0, h, _ => exact h.elim
        | 1, h, hri => exact hri pc v D H locs lc hd (Or.inl rfl) h hP hD hS hsz
        | 2, h, hri => exact hri pc v D H locs lc hd (Or.inr ⟨rfl, h.1⟩) h.2 hP hD hS hsz
        | n + 3, h, _ => exact h.elim
      all_goals exact h.elim
    | return_ =>
      obtain ⟨rfl, h⟩ := h
      rcases st with _ | ⟨w, r⟩
      · exact hrv pc D H locs lc hd h.1 h.2 hP hD hS hsz
      · exact h.elim
    | _ => exact h.elim
end AMS
