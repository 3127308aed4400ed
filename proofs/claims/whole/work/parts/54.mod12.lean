/-! the reference's calls: wider, keep, lots -/
def Wv (le : Nat → Nat) (pu : Nat → Bool) (w : Nat) : Nat → List Nat → List Nat → Nat → Nat → Bool → Nat
  | 0, _, _, _, _, _ => 0
  | n + 1, r, l, k, la, pd => match dc le pu r l k la pd with
    | (true, k', pd') => (match l with
      | _ :: l' => (if la = 0 then w else 0) + Wv le pu w n r l' k' 1 pd'
      | [] => 0)
    | (false, _, pd') => (match r with
      | _ :: r' => (if la = 1 then w else 0) + Wv le pu w n r' l 0 0 pd'
      | [] => 0)
theorem Wv_L {le : Nat → Nat} {pu : Nat → Bool} {w n k la k' c : Nat} {r l : List Nat} {pd pd' : Bool} (h : dc le pu r (c :: l) k la pd = (true, k', pd')) : Wv le pu w (n + 1) r (c :: l) k la pd = (if la = 0 then w else 0) + Wv le pu w n r l k' 1 pd' := by rw [Wv, h]
theorem Wv_R {le : Nat → Nat} {pu : Nat → Bool} {w n k la k' c : Nat} {r l : List Nat} {pd pd' : Bool} (h : dc le pu (c :: r) l k la pd = (false, k', pd')) : Wv le pu w (n + 1) (c :: r) l k la pd = (if la = 1 then w else 0) + Wv le pu w n r l 0 0 pd' := by rw [Wv, h]
def lsT (L : List (Nat × Nat × Nat)) (t : Nat) : Nat := match L.getLast? with
  | some q => q.2.2
  | none => t
theorem lsT_c (q : Nat × Nat × Nat) (L : List (Nat × Nat × Nat)) (t : Nat) : lsT (q :: L) t = lsT L q.2.2 := by
  unfold lsT
  rw [List.getLast?_cons]
  cases L.getLast? <;> rfl
def lsm (f : Nat → Nat) (l : List Nat) : Nat := (l.map f).sum
theorem lsm_c (f : Nat → Nat) (c : Nat) (l : List Nat) : lsm f (c :: l) = f c + lsm f l := by
  unfold lsm
  rw [List.map_cons, List.sum_cons]
theorem sg_tot {le se : Nat → Nat} {pu : Nat → Bool} {w : Nat} : ∀ (n : Nat) (r l : List Nat) (k la : Nat) (pd : Bool) (t : Nat), r.length + l.length = n → lsT (sg le se pu w n r l k la pd t) t = t + lsm se r + lsm se l + Wv le pu w n r l k la pd
  | 0, r, l, k, la, pd, t, h => by
    have h1 : r = [] := List.length_eq_zero_iff.mp (by omega)
    have h2 : l = [] := List.length_eq_zero_iff.mp (by omega)
    subst h1; subst h2
    rfl
  | n + 1, r, l, k, la, pd, t, h => by
    rcases hd : dc le pu r l k la pd with ⟨b, k', pd'⟩
    cases b with
    | true =>
      obtain ⟨c, l', rfl⟩ := dc_true hd
      simp only [List.length_cons] at h
      rw [sg_L hd, Wv_L hd, lsT_c, lsm_c]
      have ih := sg_tot (le := le) (se := se) (pu := pu) (w := w) n r l' k' 1 pd' (t + se c + (if la = 0 then w else 0)) (by omega)
      dsimp only
      rw [ih]
      omega
    | false =>
      obtain ⟨c, r', rfl⟩ := dc_false hd (by omega)
      simp only [List.length_cons] at h
      rw [sg_R hd, Wv_R hd, lsT_c, lsm_c]
      have ih := sg_tot (le := le) (se := se) (pu := pu) (w := w) n r' l 0 0 pd' (t + se c + (if la = 1 then w else 0)) (by omega)
      dsimp only
      rw [ih]
      omega
theorem tot_lsT (L : List (Nat × Nat × Nat)) : tot L = lsT L 0 := by
  unfold tot lsT
  cases L.getLast? <;> rfl
theorem qu_lsm {la : Nat → Nat} (f : Nat → Nat) : ∀ {li : List Nat}, (∀ c ∈ li, la c < 2) → lsm f (qu la li 0 0) + lsm f (qu la li 1 0) = lsm f li
  | [], _ => rfl
  | c :: r, h => by
    have ih := qu_lsm (la := la) f (li := r) (fun x hx => h x (List.mem_cons_of_mem _ hx))
    have hc := h c List.mem_cons_self
    rw [qu_0, qu_0] at ih ⊢
    rw [List.filter_cons, List.filter_cons, lsm_c]
    rcases (by omega : la c = 0 ∨ la c = 1) with e | e
    · rw [if_pos (decide_eq_true e), if_neg (by rw [e]; decide), lsm_c]; omega
    · rw [if_neg (by rw [e]; decide), if_pos (decide_eq_true e), lsm_c]; omega
theorem lsm_rg (f : Nat → Nat) : ∀ n, lsm f (List.range n) = sm f n
  | 0 => rfl
  | n + 1 => by
    have ih := lsm_rg f n
    unfold lsm at ih ⊢
    rw [List.range_succ, List.map_append, List.sum_append, ih]
    rfl
theorem sm_add {f g : Nat → Nat} (h : ∀ c, g c ≤ f c) : ∀ n, sm f n = sm g n + sm (fun c => f c - g c) n
  | 0 => rfl
  | n + 1 => by
    have ih := sm_add h n
    have hn := h n
    show sm f n + f n = sm g n + g n + (sm (fun c => f c - g c) n + (f n - g n))
    omega
theorem smw_tot {wd : Bool} {n b w : Nat} {kd fg la : Nat → Nat} {li : List Nat} (hp : li.Perm (List.range n)) (hl : ∀ c, c < n → la c < 2) : tot (smw wd b w kd fg (fun z => qu la li z 0)) = sm (fun c => scw wd (kd c)) n + Wv (fun c => lt (kd c) (fg c) b) (fun c => decide (kd c = 2)) w ((qu la li 0 0).length + (qu la li 1 0).length) (qu la li 0 0) (qu la li 1 0) 0 2 false := by
  rw [tot_lsT]
  unfold smw
  rw [sg_tot _ _ _ _ _ _ _ rfl]
  have h1 := qu_lsm (fun c => scw wd (kd c)) (la := la) (li := li) (fun c hc => hl c ((pl_mem hp).mp hc))
  have h2 : lsm (fun c => scw wd (kd c)) li = sm (fun c => scw wd (kd c)) n := by
    rw [← lsm_rg]
    exact (hp.map _).sum_nat
  dsimp only
  omega
def cs_X7_wider : Nat → List am_V → am_D → am_K → Prop := am_cs [(1, am_site 1 [some 0] T_X7_seconds [0, 1, 2, 4, 5, 13, 14, 15] [0, 1, 2, 4, 5, 13, 14, 15, 3, 6, 7, 8, 9, 10, 11, 12]), (11, am_site 1 [some 0] T_X7_seconds [0, 1, 2, 4, 5, 13, 14, 15] [0, 1, 2, 4, 5, 13, 14, 15, 3, 6, 7, 8, 9, 10, 11, 12])]
theorem cs_X7_wider_1 : cs_X7_wider 1 = am_site 1 [some 0] T_X7_seconds [0, 1, 2, 4, 5, 13, 14, 15] [0, 1, 2, 4, 5, 13, 14, 15, 3, 6, 7, 8, 9, 10, 11, 12] := rfl
theorem cs_X7_wider_11 : cs_X7_wider 11 = am_site 1 [some 0] T_X7_seconds [0, 1, 2, 4, 5, 13, 14, 15] [0, 1, 2, 4, 5, 13, 14, 15, 3, 6, 7, 8, 9, 10, 11, 12] := rfl
theorem ck_X7_wider : ∀ X : am_X, am_cx X RX7 cX7_wider 3 4 95 → ∀ pc, am_csok X 3 sh_Mod pc (cs_X7_wider pc) := fun X hX => am_cs_ok (List.forall_mem_cons.mpr ⟨am_callV hX C_X7_seconds mo_X7_seconds rfl lk_X7_164 dX7_wider_1 rfl rfl rfl (by decide), List.forall_mem_cons.mpr ⟨am_callV hX C_X7_seconds mo_X7_seconds rfl lk_X7_164 dX7_wider_11 rfl rfl rfl (by decide), fun _ h => absurd h List.not_mem_nil⟩⟩)
abbrev ok_X7_wider (X : am_X) (K : List Int32 → am_D → Prop) : Prop := am_ok X RX7 cX7_wider 3 sh_Mod fl_X7 kc_X7 none 1 cs_X7_wider K
abbrev aw_X7_wider (X : am_X) (pc : Nat) (ls : am_L) (st : List am_V) (D : am_D) : Prop := am_aw X 3 sh_Mod pc ls st D
abbrev T_X7_wider : am_TT := am_s0 IM f_wider
set_option maxHeartbeats 200000 in
theorem B_X7_wider : ∀ (X : am_X) (is : List Int32) (D : am_D) (K : List Int32 → am_D → Prop), ok_X7_wider X K → T_X7_wider is D K → is.length = (List.filter Option.isNone ([some 0] : List (Option Nat))).length → D.length = sh_Mod.length → am_aw X 3 sh_Mod 0 (am_l0 3 [some 0] is) [] D := by
  intro X is D K O hT _ _
  obtain ⟨σ, ⟨aT, iM, tU, aS, cH, lO, kA, fA, hA, lA, pA, tA, vA, oA, eA, xA, nA, gA, wA, uA, rfl, hR, ht, ho, hk⟩, rfl, hK⟩ := hT
  obtain ⟨hb, hw, hp, hj, hL⟩ := id hR
  have hn : gN σ ≤ 9 := hL.1
  have eN : gN σ = σ.1.1 := rfl
  have hl2 : ∀ c, c < gN σ → gl σ c < 2 := fun c hc => (hj c hc).2.2.2
  have t0 := smw_tot (wd := false) (n := gN σ) (b := gb σ) (w := gw σ) (kd := gk σ) (fg := gf σ) (la := gl σ) hp hl2
  have t1' := smw_tot (wd := true) (n := gN σ) (b := gb σ) (w := gw σ) (kd := gk σ) (fg := gf σ) (la := gl σ) hp hl2
  have hs := sm_add (f := fun c => scw false (gk σ c)) (g := fun c => scw true (gk σ c)) (fun c => by have := sc_le (gk σ c); show max 1 (sc (gk σ c) - 1) ≤ sc (gk σ c); omega) (gN σ)
  have hs2 : sm (fun c => scw false (gk σ c) - scw true (gk σ c)) (gN σ) = sm (fun c => sc (gk σ c) - max 1 (sc (gk σ c) - 1)) (gN σ) := rfl
  have hK : ∀ D', IM σ D' → K [nI (sm (fun c => sc (gk σ c) - max 1 (sc (gk σ c) - 1)) (gN σ))] D' := hK
  have hsub : nI (tot (smw false (gb σ) (gw σ) (gk σ) (gf σ) (fun z => qu (gl σ) (gq σ) z 0))) - nI (tot (smw true (gb σ) (gw σ) (gk σ) (gf σ) (fun z => qu (gl σ) (gq σ) z 0))) = nI (sm (fun c => sc (gk σ c) - max 1 (sc (gk σ c) - 1)) (gN σ)) := by
    rw [pk_sub (by rw [t0, t1', hs]; omega), t0, t1', hs, ← hs2]
    congr 1
    omega
  refine am_begin rfl ?_
  refine st_aloadn O dX7_wider_0 rfl (q := 1) rfl ?_
  refine st_call O dX7_wider_1 cs_X7_wider_1 (q := 4) rfl (am_siq rfl rfl rfl (Nat.le_of_ble_eq_true rfl) rfl ?_)
  refine ⟨gN σ, gb σ, gw σ, _, _, _, _, _, _, _, _, false, gk σ, gf σ, (fun z => qu (gl σ) (gq σ) z 0), _, _, _, _, _, _, _, rfl, rfl, hb, hR.k2, hL, fun t1 t2 t3 t4 g1 g2 g3 => ?_⟩
  refine am_nrp rfl rfl rfl rfl ?_
  refine st_istoren O dX7_wider_4 rfl (q := 5) rfl ?_
  refine st_aloadn O dX7_wider_5 rfl (q := 6) rfl ?_
  refine st_iconst O dX7_wider_6 am_iconst_1 (q := 7) rfl ?_
  refine st_putz O dX7_wider_7 fl_X7_136 rfl rfl rfl rfl rfl (by first | exact Or.inl rfl | exact Or.inr rfl | assumption) (q := 10) rfl ?_
  refine st_aloadn O dX7_wider_10 rfl (q := 11) rfl ?_
  refine st_call O dX7_wider_11 cs_X7_wider_11 (q := 14) rfl (am_siq rfl rfl rfl (Nat.le_of_ble_eq_true rfl) rfl ?_)
  refine ⟨gN σ, gb σ, gw σ, _, _, _, _, _, _, _, _, true, gk σ, gf σ, (fun z => qu (gl σ) (gq σ) z 0), _, _, _, _, _, _, _, rfl, rfl, hb, hR.k2, hL, fun q1 q2 q3 q4 g4 g5 g6 => ?_⟩
  refine am_nrp rfl rfl rfl rfl ?_
  refine st_istoren O dX7_wider_14 rfl (q := 15) rfl ?_
  refine st_aloadn O dX7_wider_15 rfl (q := 16) rfl ?_
  refine st_iconst O dX7_wider_16 am_iconst_0 (q := 17) rfl ?_
  refine st_putz O dX7_wider_17 fl_X7_136 rfl rfl rfl rfl rfl (by first | exact Or.inl rfl | exact Or.inr rfl | assumption) (q := 20) rfl ?_
  refine st_iloadn O dX7_wider_20 rfl (q := 21) rfl ?_
  refine st_iloadn O dX7_wider_21 rfl (q := 22) rfl ?_
  refine st_isub O dX7_wider_22 hsub (q := 23) rfl ?_
  refine st_ireturn O dX7_wider_23 ?_
  exact hK _ ⟨_, _, _, _, _, _, _, _, _, _, _, _, _, _, _, _, _, _, _, _, rfl, hR, ht, ho, hk⟩
theorem C_X7_wider : am_ctr yX7_wider cX7_wider 3 (some .int) 4 95 sh_Mod [some 0] T_X7_wider := am_mk (by decide) (Or.inr (Or.inl ⟨rfl, rfl⟩)) (by decide) (by decide) (by decide) fl_X7_ok kc_X7_ok ck_X7_wider B_X7_wider
theorem qu_cg {la : Nat → Nat} {li : List Nat} {n a a' : Nat} (hp : li.Perm (List.range n)) (hb : ∀ j, j < n → a'.testBit j = a.testBit j) (y : Nat) : qu la li y a' = qu la li y a := by
  unfold qu
  apply List.filter_congr
  intro x hx
  rw [hb x ((pl_mem hp).mp hx)]
theorem qu_memA {la : Nat → Nat} {li : List Nat} {n a c : Nat} (hp : li.Perm (List.range n)) (hc : c < n) (ha : a.testBit c = false) : c ∈ qu la li (la c) a := by
  unfold qu
  refine List.mem_filter.mpr ⟨(pl_mem hp).mpr hc, ?_⟩
  rw [ha, decide_eq_true rfl]
  rfl
def cs_X7_keep : Nat → List am_V → am_D → am_K → Prop := am_cs [(7, am_site 2 [some 0, none] T_X7_no [0, 9] [0, 9, 1, 2, 3, 4, 5, 6, 7, 8, 10, 11, 12, 13, 14, 15]), (20, am_site 2 [some 0, none] T_X7_no [0, 9] [0, 9, 1, 2, 3, 4, 5, 6, 7, 8, 10, 11, 12, 13, 14, 15]), (27, am_site 3 [none, none, none] T_X7_within [] []), (36, am_site 2 [some 0, none] T_X7_no [0, 9] [0, 9, 1, 2, 3, 4, 5, 6, 7, 8, 10, 11, 12, 13, 14, 15]), (54, am_site 2 [some 0, some 6] T_X7_keep_ [0, 1, 2, 3, 4, 5, 12] [0, 1, 2, 3, 4, 5, 12, 6, 7, 8, 9, 10, 11, 12, 13, 14, 15]), (73, am_site 1 [none] T_J6_bitCount_0f7a4 [] []), (77, am_site 1 [none] T_J6_bitCount_0f7a4 [] []), (112, am_site 2 [some 0, none] T_X7_leaves [0, 4, 5] [0, 4, 5, 1, 2, 3, 6, 7, 8, 9, 10, 11, 12, 13, 14, 15]), (122, am_site 1 [some 0] T_X7_seconds [0, 1, 2, 4, 5, 13, 14, 15] [0, 1, 2, 4, 5, 13, 14, 15, 3, 6, 7, 8, 9, 10, 11, 12]), (141, am_site 2 [some 0, some 6] T_X7_again [0, 1, 2, 3, 4, 5, 12] [0, 1, 2, 3, 4, 5, 12, 6, 7, 8, 9, 10, 11, 12, 13, 14, 15]), (167, am_site 1 [none] T_J6_bitCount_0f7a4 [] [])]
theorem cs_X7_keep_7 : cs_X7_keep 7 = am_site 2 [some 0, none] T_X7_no [0, 9] [0, 9, 1, 2, 3, 4, 5, 6, 7, 8, 10, 11, 12, 13, 14, 15] := rfl
theorem cs_X7_keep_20 : cs_X7_keep 20 = am_site 2 [some 0, none] T_X7_no [0, 9] [0, 9, 1, 2, 3, 4, 5, 6, 7, 8, 10, 11, 12, 13, 14, 15] := rfl
theorem cs_X7_keep_27 : cs_X7_keep 27 = am_site 3 [none, none, none] T_X7_within [] [] := rfl
theorem cs_X7_keep_36 : cs_X7_keep 36 = am_site 2 [some 0, none] T_X7_no [0, 9] [0, 9, 1, 2, 3, 4, 5, 6, 7, 8, 10, 11, 12, 13, 14, 15] := rfl
theorem cs_X7_keep_54 : cs_X7_keep 54 = am_site 2 [some 0, some 6] T_X7_keep_ [0, 1, 2, 3, 4, 5, 12] [0, 1, 2, 3, 4, 5, 12, 6, 7, 8, 9, 10, 11, 12, 13, 14, 15] := rfl
theorem cs_X7_keep_73 : cs_X7_keep 73 = am_site 1 [none] T_J6_bitCount_0f7a4 [] [] := rfl
theorem cs_X7_keep_77 : cs_X7_keep 77 = am_site 1 [none] T_J6_bitCount_0f7a4 [] [] := rfl
theorem cs_X7_keep_112 : cs_X7_keep 112 = am_site 2 [some 0, none] T_X7_leaves [0, 4, 5] [0, 4, 5, 1, 2, 3, 6, 7, 8, 9, 10, 11, 12, 13, 14, 15] := rfl
theorem cs_X7_keep_122 : cs_X7_keep 122 = am_site 1 [some 0] T_X7_seconds [0, 1, 2, 4, 5, 13, 14, 15] [0, 1, 2, 4, 5, 13, 14, 15, 3, 6, 7, 8, 9, 10, 11, 12] := rfl
theorem cs_X7_keep_141 : cs_X7_keep 141 = am_site 2 [some 0, some 6] T_X7_again [0, 1, 2, 3, 4, 5, 12] [0, 1, 2, 3, 4, 5, 12, 6, 7, 8, 9, 10, 11, 12, 13, 14, 15] := rfl
theorem cs_X7_keep_167 : cs_X7_keep 167 = am_site 1 [none] T_J6_bitCount_0f7a4 [] [] := rfl
theorem ck_X7_keep : ∀ X : am_X, am_cx X RX7 cX7_keep 6 4 95 → ∀ pc, am_csok X 6 sh_Mod pc (cs_X7_keep pc) := fun X hX => am_cs_ok (List.forall_mem_cons.mpr ⟨am_callV hX C_X7_no mo_X7_no rfl lk_X7_66 dX7_keep_7 rfl rfl rfl (by decide), List.forall_mem_cons.mpr ⟨am_callV hX C_X7_no mo_X7_no rfl lk_X7_66 dX7_keep_20 rfl rfl rfl (by decide), List.forall_mem_cons.mpr ⟨am_callS hX C_X7_within mo_X7_within rfl lk_X7_62 dX7_keep_27 rfl (by decide), List.forall_mem_cons.mpr ⟨am_callV hX C_X7_no mo_X7_no rfl lk_X7_66 dX7_keep_36 rfl rfl rfl (by decide), List.forall_mem_cons.mpr ⟨am_callV hX C_X7_keep_ mo_X7_keep_ rfl lk_X7_116 dX7_keep_54 rfl rfl rfl (by decide), List.forall_mem_cons.mpr ⟨am_callS hX C_J6_bitCount_0f7a4 mo_J6_bitCount_0f7a4 rfl lk_X7_175 dX7_keep_73 rfl (by decide), List.forall_mem_cons.mpr ⟨am_callS hX C_J6_bitCount_0f7a4 mo_J6_bitCount_0f7a4 rfl lk_X7_175 dX7_keep_77 rfl (by decide), List.forall_mem_cons.mpr ⟨am_callV hX C_X7_leaves mo_X7_leaves rfl lk_X7_183 dX7_keep_112 rfl rfl rfl (by decide), List.forall_mem_cons.mpr ⟨am_callV hX C_X7_seconds mo_X7_seconds rfl lk_X7_164 dX7_keep_122 rfl rfl rfl (by decide), List.forall_mem_cons.mpr ⟨am_callV hX C_X7_again mo_X7_again rfl lk_X7_120 dX7_keep_141 rfl rfl rfl (by decide), List.forall_mem_cons.mpr ⟨am_callS hX C_J6_bitCount_0f7a4 mo_J6_bitCount_0f7a4 rfl lk_X7_175 dX7_keep_167 rfl (by decide), fun _ h => absurd h List.not_mem_nil⟩⟩⟩⟩⟩⟩⟩⟩⟩⟩⟩)
abbrev ok_X7_keep (X : am_X) (K : List Int32 → am_D → Prop) : Prop := am_ok X RX7 cX7_keep 6 sh_Mod fl_X7 kc_X7 none 1 cs_X7_keep K
abbrev aw_X7_keep (X : am_X) (pc : Nat) (ls : am_L) (st : List am_V) (D : am_D) : Prop := am_aw X 6 sh_Mod pc ls st D
abbrev T_X7_keep : am_TT := am_s2 IM f_keep
set_option maxHeartbeats 200000 in
theorem B_X7_keep : ∀ (X : am_X) (is : List Int32) (D : am_D) (K : List Int32 → am_D → Prop), ok_X7_keep X K → T_X7_keep is D K → is.length = (List.filter Option.isNone ([some 0, none, none] : List (Option Nat))).length → D.length = sh_Mod.length → am_aw X 6 sh_Mod 0 (am_l0 6 [some 0, none, none] is) [] D := by
  intro X is D K O hT _ _
  obtain ⟨σ, a, w, ⟨aT, iM, tU, aS, cH, lO, kA, fA, hA, lA, pA, tA, vA, oA, eA, xA, nA, gA, wA, uA, rfl, hR, ht, ho, hk⟩, rfl, hK⟩ := hT
  obtain ⟨hb, hw, hp, hj, hL⟩ := id hR
  have hn : gN σ ≤ 9 := hL.1
  have eN : gN σ = σ.1.1 := rfl
  obtain ⟨p21, p22⟩ := p2_le (gN σ) (by omega)
  have hsh := sh_tab2 (gN σ) (by omega)
  have main : ∀ v, a = nI v → v ≤ 99 → (∀ D', IM σ D' → K [boh (some (fdK (wth (gb σ) (gw σ) (gk σ) (gf σ) (gl σ) (gq σ) v) (2 ^ gN σ - 1) (2 ^ gN σ))) w] D') → am_aw X 6 sh_Mod 40 [some (.inr 0), some (.inl a), some (.inl w), none, none, none] [] [.inl [nI (gN σ), nI (gb σ), nI (gw σ), nI σ.2.2.1.length, aT, nI σ.2.2.2.1.length, iM, tU, aS, cH, lO, bI false], .inr kA, .inr fA, .inr hA, .inr lA, .inr pA, .inr tA, .inr vA, .inr oA, .inr σ.2.2.2.2, .inr eA, .inr xA, .inr nA, .inr gA, .inr wA, .inr uA] := by
    intro v hav hv hK2
    subst hav
    obtain ⟨p, hP⟩ : ∃ p, p = wth (gb σ) (gw σ) (gk σ) (gf σ) (gl σ) (gq σ) v := ⟨_, rfl⟩
    rw [← hP] at hK2
    have hfd : ∀ m, m ≤ 2 ^ gN σ → fdK p (2 ^ gN σ - 1) m < 512 := fun m hm => by have := (fdK_spec (p := p) (T := 2 ^ gN σ - 1) m).1; omega
    have loop : ∀ d s tU aS cH lO kA fA hA lA pA nA gA wA uA y5 k0 f0 h0 l0 p0, mR σ.1 kA fA hA lA pA → mR σ.1 k0 f0 h0 l0 p0 → kpy (gN σ) (gb σ) (gw σ) k0 f0 h0 l0 p0 nA → 2 ^ gN σ - s = d → s ≤ 2 ^ gN σ → am_aw X 6 sh_Mod 60 [some (.inr 0), some (.inl (nI v)), some (.inl w), some (.inl (nI (fdK p (2 ^ gN σ - 1) s))), some (.inl (nI s)), y5] [] [.inl [nI (gN σ), nI (gb σ), nI (gw σ), nI σ.2.2.1.length, aT, nI σ.2.2.2.1.length, iM, tU, aS, cH, lO, bI false], .inr kA, .inr fA, .inr hA, .inr lA, .inr pA, .inr tA, .inr vA, .inr oA, .inr σ.2.2.2.2, .inr eA, .inr xA, .inr nA, .inr gA, .inr wA, .inr uA] := by
      intro d
      induction d with
      | zero =>
        intro s tU aS cH lO kA fA hA lA pA nA gA wA uA y5 k0 f0 h0 l0 p0 hR h00 hc0 hd hm
        have e : s = 2 ^ gN σ := by omega
        subst e
        have hf5 := hfd _ (Nat.le_refl _)
        have hK2 : ∀ D', IM σ D' → K [if w = 0 then nI (fdK p (2 ^ gN σ - 1) (2 ^ gN σ)) else nI (pc (fdK p (2 ^ gN σ - 1) (2 ^ gN σ)))] D' := hK2
        refine st_iload O dX7_keep_60 rfl (q := 62) rfl ?_
        refine st_iconst O dX7_keep_62 am_iconst_1 (q := 63) rfl ?_
        refine st_aloadn O dX7_keep_63 rfl (q := 64) rfl ?_
        refine st_geti O dX7_keep_64 fl_X7_59 rfl rfl rfl rfl (q := 67) rfl ?_
        refine st_ishl O dX7_keep_67 hsh (q := 68) rfl ?_
        refine sn_icmp_ge O dX7_keep_68 (t := 158) rfl (q := 71) rfl (by omega) (by omega) (fun c68 => ?_) (fun c68 => ?_)
        · refine st_iloadn O dX7_keep_158 rfl (q := 159) rfl ?_
          refine st_if_ne O dX7_keep_159 (t := 166) rfl (q := 162) rfl (fun c159 => ?_) (fun c159 => ?_)
          · refine st_iloadn O dX7_keep_166 rfl (q := 167) rfl ?_
            refine st_callS O dX7_keep_167 cs_X7_keep_167 (q := 170) rfl (am_sipq rfl rfl rfl (Nat.le_of_ble_eq_true rfl) rfl (r := nI (pc (fdK p (2 ^ gN σ - 1) (2 ^ gN σ)))) ⟨_, hf5, rfl, rfl⟩ ?_)
            refine st_ireturn O dX7_keep_170 ?_
            first | (rw [if_pos (by first | exact c159 | exact Decidable.of_not_not c159)] at hK2; exact hK2 _ ⟨_, _, _, _, _, _, _, _, _, _, _, _, _, _, _, _, _, _, _, _, rfl, hR, ht, ho, hk⟩) | (rw [if_neg c159] at hK2; exact hK2 _ ⟨_, _, _, _, _, _, _, _, _, _, _, _, _, _, _, _, _, _, _, _, rfl, hR, ht, ho, hk⟩)
          refine st_iloadn O dX7_keep_162 rfl (q := 163) rfl ?_
          refine st_goto O dX7_keep_163 (t := 170) rfl ?_
          refine st_ireturn O dX7_keep_170 ?_
          first | (rw [if_pos (by first | exact c159 | exact Decidable.of_not_not c159)] at hK2; exact hK2 _ ⟨_, _, _, _, _, _, _, _, _, _, _, _, _, _, _, _, _, _, _, _, rfl, hR, ht, ho, hk⟩) | (rw [if_neg c159] at hK2; exact hK2 _ ⟨_, _, _, _, _, _, _, _, _, _, _, _, _, _, _, _, _, _, _, _, rfl, hR, ht, ho, hk⟩)
        omega
      | succ d ih =>
        intro s tU aS cH lO kA fA hA lA pA nA gA wA uA y5 k0 f0 h0 l0 p0 hR h00 hc0 hd hm
        obtain ⟨-, -, -, hj, hL⟩ := id hR
        have hs2 : s < 2 ^ gN σ := by omega
        have hs5 : s < 512 := by omega
        have hf5 := hfd s (by omega)
        have pc9 := pc_le s
        have pcf := pc_le (fdK p (2 ^ gN σ - 1) s)
        have ih := fun tU aS cH lO kA fA hA lA pA nA gA wA uA y5 h => ih (s + 1) tU aS cH lO kA fA hA lA pA nA gA wA uA y5 k0 f0 h0 l0 p0 h h00
        unfold fdK at ih
        by_cases hlt : pc s < pc (fdK p (2 ^ gN σ - 1) s)
        · have inner : ∀ d c lB pB, gN σ - c = d → c ≤ gN σ → mL (gN σ) (fun y => qu (gl σ) (gq σ) y (s % 2 ^ c)) lB pB → am_aw X 6 sh_Mod 89 [some (.inr 0), some (.inl (nI v)), some (.inl w), some (.inl (nI (fdK p (2 ^ gN σ - 1) s))), some (.inl (nI s)), some (.inl (nI c))] [] [.inl [nI (gN σ), nI (gb σ), nI (gw σ), nI σ.2.2.1.length, aT, nI σ.2.2.2.1.length, iM, tU, aS, cH, lO, bI false], .inr kA, .inr fA, .inr hA, .inr lB, .inr pB, .inr tA, .inr vA, .inr oA, .inr σ.2.2.2.2, .inr eA, .inr xA, .inr nA, .inr gA, .inr wA, .inr uA] := by
            intro d
            induction d with
            | zero =>
              intro c lB pB hd hc hLB
              have e : c = gN σ := by omega
              subst e
              have h3 : tot (smw false (gb σ) (gw σ) (gk σ) (gf σ) (fun y => qu (gl σ) (gq σ) y (s % 2 ^ gN σ))) = tot (simA (gb σ) (gw σ) (gk σ) (gf σ) (gl σ) (gq σ) s) := by
                rw [Nat.mod_eq_of_lt hs2, smw_A (fun _ _ => rfl)]
              have hb3 := (simA_bd (n := gN σ) (hu := gh σ) (b := gb σ) (w := gw σ) (kd := gk σ) (fg := gf σ) (la := gl σ) (li := gq σ) hn hw (fun c hc => (hj c hc).2.2.1.2) hp s).1
              have hps : p s = decide (tot (simA (gb σ) (gw σ) (gk σ) (gf σ) (gl σ) (gq σ) s) ≤ v) := by rw [hP]; rfl
              by_cases hle : tot (simA (gb σ) (gw σ) (gk σ) (gf σ) (gl σ) (gq σ) s) ≤ v
              · rw [decide_eq_true hle] at hps
                simp only [if_pos (⟨hlt, hps⟩ : pc s < pc (fdK p (2 ^ gN σ - 1) s) ∧ p s = true)] at ih
                refine st_iload O dX7_keep_89 rfl (q := 91) rfl ?_
                refine st_aloadn O dX7_keep_91 rfl (q := 92) rfl ?_
                refine st_geti O dX7_keep_92 fl_X7_59 rfl rfl rfl rfl (q := 95) rfl ?_
                refine sn_icmp_ge O dX7_keep_95 (t := 121) rfl (q := 98) rfl (by omega) (by omega) (fun c95 => ?_) (fun c95 => ?_)
                · refine st_aloadn O dX7_keep_121 rfl (q := 122) rfl ?_
                  refine st_call O dX7_keep_122 cs_X7_keep_122 (q := 125) rfl (am_siq rfl rfl rfl (Nat.le_of_ble_eq_true rfl) rfl ?_)
                  refine ⟨gN σ, gb σ, gw σ, _, _, _, _, _, _, _, _, false, gk σ, gf σ, _, _, _, _, _, _, _, _, rfl, rfl, hb, hR.k2, hLB, fun t1 t2 t3 t4 g1 g2 g3 => ?_⟩
                  refine am_nrp rfl rfl rfl rfl ?_
                  rw [h3]
                  refine st_iloadn O dX7_keep_125 rfl (q := 126) rfl ?_
                  refine sn_icmp_gt O dX7_keep_126 (t := 133) rfl (q := 129) rfl (Nat.lt_of_le_of_lt hb3 (by decide)) (by omega) (fun c126 => ?_) (fun c126 => ?_)
                  · exact absurd hle (Nat.not_le.mpr c126)
                  refine st_iconst O dX7_keep_129 am_iconst_1 (q := 130) rfl ?_
                  refine st_goto O dX7_keep_130 (t := 134) rfl ?_
                  refine st_istore O dX7_keep_134 rfl (q := 136) rfl ?_
                  refine st_aloadn O dX7_keep_136 rfl (q := 137) rfl ?_
                  refine st_aloadn O dX7_keep_137 rfl (q := 138) rfl ?_
                  refine st_getr O dX7_keep_138 fl_X7_43 rfl rfl rfl (q := 141) rfl ?_
                  refine st_call O dX7_keep_141 cs_X7_keep_141 (q := 144) rfl (am_siq rfl rfl rfl (Nat.le_of_ble_eq_true rfl) rfl ?_)
                  refine ⟨gN σ, gb σ, gw σ, _, _, _, _, k0, f0, h0, l0, p0, _, _, _, _, _, _, rfl, rfl, hc0, fun kC fC hC lC pC hcc => ?_⟩
                  refine am_nrp rfl rfl rfl rfl ?_
                  refine st_iload O dX7_keep_144 rfl (q := 146) rfl ?_
                  refine st_if_eq O dX7_keep_146 (t := 152) rfl (q := 149) rfl (fun c146 => ?_) (fun c146 => ?_)
                  · exact absurd c146 (by decide)
                  refine st_iload O dX7_keep_149 rfl (q := 151) rfl ?_
                  refine st_istoren O dX7_keep_151 rfl (q := 152) rfl ?_
                  refine st_iinc O dX7_keep_152 rfl (by first | exact am_ii1 _ | exact rfl) rfl (q := 155) rfl ?_
                  refine st_goto O dX7_keep_155 (t := 60) rfl ?_
                  exact ih _ _ _ _ _ _ _ _ _ _ _ _ _ _ (mR_congr h00 hcc) hc0 (by omega) (by omega)
                omega
              · rw [decide_eq_false hle] at hps
                simp only [if_neg (fun z => by rw [hps] at z; exact absurd z.2 (by decide) : ¬ (pc s < pc (fdK p (2 ^ gN σ - 1) s) ∧ p s = true))] at ih
                refine st_iload O dX7_keep_89 rfl (q := 91) rfl ?_
                refine st_aloadn O dX7_keep_91 rfl (q := 92) rfl ?_
                refine st_geti O dX7_keep_92 fl_X7_59 rfl rfl rfl rfl (q := 95) rfl ?_
                refine sn_icmp_ge O dX7_keep_95 (t := 121) rfl (q := 98) rfl (by omega) (by omega) (fun c95 => ?_) (fun c95 => ?_)
                · refine st_aloadn O dX7_keep_121 rfl (q := 122) rfl ?_
                  refine st_call O dX7_keep_122 cs_X7_keep_122 (q := 125) rfl (am_siq rfl rfl rfl (Nat.le_of_ble_eq_true rfl) rfl ?_)
                  refine ⟨gN σ, gb σ, gw σ, _, _, _, _, _, _, _, _, false, gk σ, gf σ, _, _, _, _, _, _, _, _, rfl, rfl, hb, hR.k2, hLB, fun t1 t2 t3 t4 g1 g2 g3 => ?_⟩
                  refine am_nrp rfl rfl rfl rfl ?_
                  rw [h3]
                  refine st_iloadn O dX7_keep_125 rfl (q := 126) rfl ?_
                  refine sn_icmp_gt O dX7_keep_126 (t := 133) rfl (q := 129) rfl (Nat.lt_of_le_of_lt hb3 (by decide)) (by omega) (fun c126 => ?_) (fun c126 => ?_)
                  · refine st_iconst O dX7_keep_133 am_iconst_0 (q := 134) rfl ?_
                    refine st_istore O dX7_keep_134 rfl (q := 136) rfl ?_
                    refine st_aloadn O dX7_keep_136 rfl (q := 137) rfl ?_
                    refine st_aloadn O dX7_keep_137 rfl (q := 138) rfl ?_
                    refine st_getr O dX7_keep_138 fl_X7_43 rfl rfl rfl (q := 141) rfl ?_
                    refine st_call O dX7_keep_141 cs_X7_keep_141 (q := 144) rfl (am_siq rfl rfl rfl (Nat.le_of_ble_eq_true rfl) rfl ?_)
                    refine ⟨gN σ, gb σ, gw σ, _, _, _, _, k0, f0, h0, l0, p0, _, _, _, _, _, _, rfl, rfl, hc0, fun kC fC hC lC pC hcc => ?_⟩
                    refine am_nrp rfl rfl rfl rfl ?_
                    refine st_iload O dX7_keep_144 rfl (q := 146) rfl ?_
                    refine st_if_eq O dX7_keep_146 (t := 152) rfl (q := 149) rfl (fun c146 => ?_) (fun c146 => ?_)
                    · refine st_iinc O dX7_keep_152 rfl (by first | exact am_ii1 _ | exact rfl) rfl (q := 155) rfl ?_
                      refine st_goto O dX7_keep_155 (t := 60) rfl ?_
                      exact ih _ _ _ _ _ _ _ _ _ _ _ _ _ _ (mR_congr h00 hcc) hc0 (by omega) (by omega)
                    exact absurd c146 (by decide)
                  exact absurd c126 hle
                omega
            | succ d ih2 =>
              intro c lB pB hd hc hLB
              have hcn : c < gN σ := by omega
              have hbt := bt_tab s hs5 c (by omega)
              have ih2 := fun lB pB => ih2 (c + 1) lB pB (by omega) (by omega)
              by_cases hb : s.testBit c = true
              · rw [if_pos hb] at hbt
                refine st_iload O dX7_keep_89 rfl (q := 91) rfl ?_
                refine st_aloadn O dX7_keep_91 rfl (q := 92) rfl ?_
                refine st_geti O dX7_keep_92 fl_X7_59 rfl rfl rfl rfl (q := 95) rfl ?_
                refine sn_icmp_ge O dX7_keep_95 (t := 121) rfl (q := 98) rfl (by omega) (by omega) (fun c95 => ?_) (fun c95 => ?_)
                · omega
                refine st_iload O dX7_keep_98 rfl (q := 100) rfl ?_
                refine st_iload O dX7_keep_100 rfl (q := 102) rfl ?_
                refine st_ishr O dX7_keep_102 rfl (q := 103) rfl ?_
                refine st_iconst O dX7_keep_103 am_iconst_1 (q := 104) rfl ?_
                refine st_iand O dX7_keep_104 hbt (q := 105) rfl ?_
                refine st_iconst O dX7_keep_105 am_iconst_1 (q := 106) rfl ?_
                refine sn_icmp_ne O dX7_keep_106 (t := 115) rfl (q := 109) rfl (by omega) (by omega) (fun c106 => ?_) (fun c106 => ?_)
                · exact absurd rfl c106
                refine st_aloadn O dX7_keep_109 rfl (q := 110) rfl ?_
                refine st_iload O dX7_keep_110 rfl (q := 112) rfl ?_
                refine st_call O dX7_keep_112 cs_X7_keep_112 (q := 115) rfl (am_siq rfl rfl rfl (Nat.le_of_ble_eq_true rfl) rfl ?_)
                refine ⟨gN σ, _, _, lB, pB, c, gl σ c, rfl, hLB, (hj c hcn).2.2.2, qu_memA hp hcn (by rw [Nat.testBit_mod_two_pow]; simp), rfl, fun lC pC hLC => ?_⟩
                refine am_nrp rfl rfl rfl rfl ?_
                refine st_iinc O dX7_keep_115 rfl (by first | exact am_ii1 _ | exact rfl) rfl (q := 118) rfl ?_
                refine st_goto O dX7_keep_118 (t := 89) rfl ?_
                refine ih2 _ _ (mL_congr hLC (fun y _ => (qu_ab hp (fun j _ => ?_) y).symm) (fun _ _ => ⟨rfl, rfl⟩))
                rw [Nat.testBit_mod_two_pow, Nat.testBit_mod_two_pow]
                by_cases e : j = c
                · subst e; simp [hb]
                · rw [decide_eq_false e, Bool.or_false]
                  congr 1
                  exact decide_eq_decide.mpr (by omega)
              · rw [if_neg hb] at hbt
                refine st_iload O dX7_keep_89 rfl (q := 91) rfl ?_
                refine st_aloadn O dX7_keep_91 rfl (q := 92) rfl ?_
                refine st_geti O dX7_keep_92 fl_X7_59 rfl rfl rfl rfl (q := 95) rfl ?_
                refine sn_icmp_ge O dX7_keep_95 (t := 121) rfl (q := 98) rfl (by omega) (by omega) (fun c95 => ?_) (fun c95 => ?_)
                · omega
                refine st_iload O dX7_keep_98 rfl (q := 100) rfl ?_
                refine st_iload O dX7_keep_100 rfl (q := 102) rfl ?_
                refine st_ishr O dX7_keep_102 rfl (q := 103) rfl ?_
                refine st_iconst O dX7_keep_103 am_iconst_1 (q := 104) rfl ?_
                refine st_iand O dX7_keep_104 hbt (q := 105) rfl ?_
                refine st_iconst O dX7_keep_105 am_iconst_1 (q := 106) rfl ?_
                refine sn_icmp_ne O dX7_keep_106 (t := 115) rfl (q := 109) rfl (by omega) (by omega) (fun c106 => ?_) (fun c106 => ?_)
                · refine st_iinc O dX7_keep_115 rfl (by first | exact am_ii1 _ | exact rfl) rfl (q := 118) rfl ?_
                  refine st_goto O dX7_keep_118 (t := 89) rfl ?_
                  refine ih2 _ _ (mL_congr hLB (fun y _ => qu_cg hp (fun j _ => ?_) y) (fun _ _ => ⟨rfl, rfl⟩))
                  rw [Nat.testBit_mod_two_pow, Nat.testBit_mod_two_pow]
                  by_cases e : j = c
                  · subst e; rw [Bool.not_eq_true] at hb; rw [hb]; simp
                  · congr 1
                    exact decide_eq_decide.mpr (by omega)
                exact absurd c106 (by decide)
          refine st_iload O dX7_keep_60 rfl (q := 62) rfl ?_
          refine st_iconst O dX7_keep_62 am_iconst_1 (q := 63) rfl ?_
          refine st_aloadn O dX7_keep_63 rfl (q := 64) rfl ?_
          refine st_geti O dX7_keep_64 fl_X7_59 rfl rfl rfl rfl (q := 67) rfl ?_
          refine st_ishl O dX7_keep_67 hsh (q := 68) rfl ?_
          refine sn_icmp_ge O dX7_keep_68 (t := 158) rfl (q := 71) rfl (by omega) (by omega) (fun c68 => ?_) (fun c68 => ?_)
          · omega
          refine st_iload O dX7_keep_71 rfl (q := 73) rfl ?_
          refine st_callS O dX7_keep_73 cs_X7_keep_73 (q := 76) rfl (am_sipq rfl rfl rfl (Nat.le_of_ble_eq_true rfl) rfl (r := nI (pc s)) ⟨s, hs5, rfl, rfl⟩ ?_)
          refine st_iloadn O dX7_keep_76 rfl (q := 77) rfl ?_
          refine st_callS O dX7_keep_77 cs_X7_keep_77 (q := 80) rfl (am_sipq rfl rfl rfl (Nat.le_of_ble_eq_true rfl) rfl (r := nI (pc (fdK p (2 ^ gN σ - 1) s))) ⟨_, hf5, rfl, rfl⟩ ?_)
          refine sn_icmp_lt O dX7_keep_80 (t := 86) rfl (q := 83) rfl (by omega) (by omega) (fun c80 => ?_) (fun c80 => ?_)
          · refine st_iconst O dX7_keep_86 am_iconst_0 (q := 87) rfl ?_
            refine st_istore O dX7_keep_87 rfl (q := 89) rfl ?_
            exact inner (gN σ) 0 _ _ rfl (Nat.zero_le _) (mL_congr hL (fun y _ => by rw [Nat.pow_zero, Nat.mod_one]) (fun _ _ => ⟨rfl, rfl⟩))
          omega
        · simp only [if_neg (fun z => hlt z.1 : ¬ (pc s < pc (fdK p (2 ^ gN σ - 1) s) ∧ p s = true))] at ih
          refine st_iload O dX7_keep_60 rfl (q := 62) rfl ?_
          refine st_iconst O dX7_keep_62 am_iconst_1 (q := 63) rfl ?_
          refine st_aloadn O dX7_keep_63 rfl (q := 64) rfl ?_
          refine st_geti O dX7_keep_64 fl_X7_59 rfl rfl rfl rfl (q := 67) rfl ?_
          refine st_ishl O dX7_keep_67 hsh (q := 68) rfl ?_
          refine sn_icmp_ge O dX7_keep_68 (t := 158) rfl (q := 71) rfl (by omega) (by omega) (fun c68 => ?_) (fun c68 => ?_)
          · omega
          refine st_iload O dX7_keep_71 rfl (q := 73) rfl ?_
          refine st_callS O dX7_keep_73 cs_X7_keep_73 (q := 76) rfl (am_sipq rfl rfl rfl (Nat.le_of_ble_eq_true rfl) rfl (r := nI (pc s)) ⟨s, hs5, rfl, rfl⟩ ?_)
          refine st_iloadn O dX7_keep_76 rfl (q := 77) rfl ?_
          refine st_callS O dX7_keep_77 cs_X7_keep_77 (q := 80) rfl (am_sipq rfl rfl rfl (Nat.le_of_ble_eq_true rfl) rfl (r := nI (pc (fdK p (2 ^ gN σ - 1) s))) ⟨_, hf5, rfl, rfl⟩ ?_)
          refine sn_icmp_lt O dX7_keep_80 (t := 86) rfl (q := 83) rfl (by omega) (by omega) (fun c80 => ?_) (fun c80 => ?_)
          · omega
          refine st_goto O dX7_keep_83 (t := 152) rfl ?_
          refine st_iinc O dX7_keep_152 rfl (by first | exact am_ii1 _ | exact rfl) rfl (q := 155) rfl ?_
          refine st_goto O dX7_keep_155 (t := 60) rfl ?_
          exact ih _ _ _ _ _ _ _ _ _ _ _ _ _ _ hR hc0 (by omega) (by omega)
    refine st_iconst O dX7_keep_40 am_iconst_1 (q := 41) rfl ?_
    refine st_aloadn O dX7_keep_41 rfl (q := 42) rfl ?_
    refine st_geti O dX7_keep_42 fl_X7_59 rfl rfl rfl rfl (q := 45) rfl ?_
    refine st_ishl O dX7_keep_45 hsh (q := 46) rfl ?_
    refine st_iconst O dX7_keep_46 am_iconst_1 (q := 47) rfl ?_
    refine st_isub O dX7_keep_47 (show nI (2 ^ gN σ) - nI 1 = nI (2 ^ gN σ - 1) from pk_sub (by omega)) (q := 48) rfl ?_
    refine st_istoren O dX7_keep_48 rfl (q := 49) rfl ?_
    refine st_aloadn O dX7_keep_49 rfl (q := 50) rfl ?_
    refine st_aloadn O dX7_keep_50 rfl (q := 51) rfl ?_
    refine st_getr O dX7_keep_51 fl_X7_43 rfl rfl rfl (q := 54) rfl ?_
    refine st_call O dX7_keep_54 cs_X7_keep_54 (q := 57) rfl (am_siq rfl rfl rfl (Nat.le_of_ble_eq_true rfl) rfl ?_)
    refine ⟨gN σ, gb σ, gw σ, _, kA, fA, hA, lA, pA, _, rfl, rfl, fun e he => ?_⟩
    refine am_nrp rfl rfl rfl rfl ?_
    refine st_iconst O dX7_keep_57 am_iconst_0 (q := 58) rfl ?_
    refine st_istore O dX7_keep_58 rfl (q := 60) rfl ?_
    exact loop (2 ^ gN σ) 0 _ _ _ _ _ _ _ _ _ _ _ _ _ _ kA fA hA lA pA hR hR he rfl (Nat.zero_le _)
  by_cases h01 : w = 0 ∨ w = 1
  · refine am_begin rfl ?_
    refine st_iloadn O dX7_keep_0 rfl (q := 1) rfl ?_
    refine st_if_ge O dX7_keep_1 (t := 11) rfl (q := 4) rfl (fun c1 => ?_) (fun c1 => ?_)
    · refine st_iloadn O dX7_keep_11 rfl (q := 12) rfl ?_
      refine st_bipush O dX7_keep_12 am_bipush_99 (q := 14) rfl ?_
      refine st_icmp_le O dX7_keep_14 (t := 24) rfl (q := 17) rfl (fun c14 => ?_) (fun c14 => ?_)
      · refine st_iloadn O dX7_keep_24 rfl (q := 25) rfl ?_
        refine st_iconst O dX7_keep_25 am_iconst_0 (q := 26) rfl ?_
        refine st_iconst O dX7_keep_26 am_iconst_1 (q := 27) rfl ?_
        refine st_callS O dX7_keep_27 cs_X7_keep_27 (q := 30) rfl (am_sipq rfl rfl rfl (Nat.le_of_ble_eq_true rfl) rfl (r := 1) ⟨_, _, _, rfl, wiT h01⟩ ?_)
        refine st_if_ne O dX7_keep_30 (t := 40) rfl (q := 33) rfl (fun c30 => ?_) (fun c30 => ?_)
        · obtain ⟨v, hv, e⟩ := (le_iff 99 (by decide)).mp ⟨c1, c14⟩
          rw [show f_keep a w σ = (boh (some ((ffS (fun s x => decide (pc x = s) && wth (gb σ) (gw σ) (gk σ) (gf σ) (gl σ) (gq σ) a.toNatClampNeg x) 0 (2 ^ gN σ) 0 (gN σ + 1)).getD (2 ^ gN σ - 1))) w, σ) from (if_pos c1).trans ((if_pos c14).trans (if_pos h01)), e, nI_clamp (by omega)] at hK
          exact main v e hv (by rw [fdK_ff hn]; exact hK)
        exact absurd c30 (by decide)
      refine st_aloadn O dX7_keep_17 rfl (q := 18) rfl ?_
      refine st_bipush O dX7_keep_18 am_bipush_m6 (q := 20) rfl ?_
      refine st_call O dX7_keep_20 cs_X7_keep_20 (q := 23) rfl (am_siq rfl rfl rfl (Nat.le_of_ble_eq_true rfl) rfl ?_)
      refine ⟨_, _, 6, by decide, by decide, rfl, rfl, ?_⟩
      refine am_nrq rfl rfl ?_
      rw [show f_keep a w σ = rfs 6 σ from (if_pos c1).trans (if_neg c14)] at hK
      exact st_ireturn O dX7_keep_23 (hK _ ⟨_, _, _, _, _, _, _, _, _, _, _, _, _, _, _, _, _, _, _, _, rfl, hR, ht, ho, hk⟩)
    refine st_aloadn O dX7_keep_4 rfl (q := 5) rfl ?_
    refine st_bipush O dX7_keep_5 am_bipush_m4 (q := 7) rfl ?_
    refine st_call O dX7_keep_7 cs_X7_keep_7 (q := 10) rfl (am_siq rfl rfl rfl (Nat.le_of_ble_eq_true rfl) rfl ?_)
    refine ⟨_, _, 4, by decide, by decide, rfl, rfl, ?_⟩
    refine am_nrq rfl rfl ?_
    rw [show f_keep a w σ = rfs 4 σ from if_neg c1] at hK
    exact st_ireturn O dX7_keep_10 (hK _ ⟨_, _, _, _, _, _, _, _, _, _, _, _, _, _, _, _, _, _, _, _, rfl, hR, ht, ho, hk⟩)
  · refine am_begin rfl ?_
    refine st_iloadn O dX7_keep_0 rfl (q := 1) rfl ?_
    refine st_if_ge O dX7_keep_1 (t := 11) rfl (q := 4) rfl (fun c1 => ?_) (fun c1 => ?_)
    · refine st_iloadn O dX7_keep_11 rfl (q := 12) rfl ?_
      refine st_bipush O dX7_keep_12 am_bipush_99 (q := 14) rfl ?_
      refine st_icmp_le O dX7_keep_14 (t := 24) rfl (q := 17) rfl (fun c14 => ?_) (fun c14 => ?_)
      · refine st_iloadn O dX7_keep_24 rfl (q := 25) rfl ?_
        refine st_iconst O dX7_keep_25 am_iconst_0 (q := 26) rfl ?_
        refine st_iconst O dX7_keep_26 am_iconst_1 (q := 27) rfl ?_
        refine st_callS O dX7_keep_27 cs_X7_keep_27 (q := 30) rfl (am_sipq rfl rfl rfl (Nat.le_of_ble_eq_true rfl) rfl (r := 0) ⟨_, _, _, rfl, wiF h01⟩ ?_)
        refine st_if_ne O dX7_keep_30 (t := 40) rfl (q := 33) rfl (fun c30 => ?_) (fun c30 => ?_)
        · exact absurd c30 (by decide)
        refine st_aloadn O dX7_keep_33 rfl (q := 34) rfl ?_
        refine st_bipush O dX7_keep_34 am_bipush_m2 (q := 36) rfl ?_
        refine st_call O dX7_keep_36 cs_X7_keep_36 (q := 39) rfl (am_siq rfl rfl rfl (Nat.le_of_ble_eq_true rfl) rfl ?_)
        refine ⟨_, _, 2, by decide, by decide, rfl, rfl, ?_⟩
        refine am_nrq rfl rfl ?_
        rw [show f_keep a w σ = rfs 2 σ from (if_pos c1).trans ((if_pos c14).trans (if_neg h01))] at hK
        exact st_ireturn O dX7_keep_39 (hK _ ⟨_, _, _, _, _, _, _, _, _, _, _, _, _, _, _, _, _, _, _, _, rfl, hR, ht, ho, hk⟩)
      refine st_aloadn O dX7_keep_17 rfl (q := 18) rfl ?_
      refine st_bipush O dX7_keep_18 am_bipush_m6 (q := 20) rfl ?_
      refine st_call O dX7_keep_20 cs_X7_keep_20 (q := 23) rfl (am_siq rfl rfl rfl (Nat.le_of_ble_eq_true rfl) rfl ?_)
      refine ⟨_, _, 6, by decide, by decide, rfl, rfl, ?_⟩
      refine am_nrq rfl rfl ?_
      rw [show f_keep a w σ = rfs 6 σ from (if_pos c1).trans (if_neg c14)] at hK
      exact st_ireturn O dX7_keep_23 (hK _ ⟨_, _, _, _, _, _, _, _, _, _, _, _, _, _, _, _, _, _, _, _, rfl, hR, ht, ho, hk⟩)
    refine st_aloadn O dX7_keep_4 rfl (q := 5) rfl ?_
    refine st_bipush O dX7_keep_5 am_bipush_m4 (q := 7) rfl ?_
    refine st_call O dX7_keep_7 cs_X7_keep_7 (q := 10) rfl (am_siq rfl rfl rfl (Nat.le_of_ble_eq_true rfl) rfl ?_)
    refine ⟨_, _, 4, by decide, by decide, rfl, rfl, ?_⟩
    refine am_nrq rfl rfl ?_
    rw [show f_keep a w σ = rfs 4 σ from if_neg c1] at hK
    exact st_ireturn O dX7_keep_10 (hK _ ⟨_, _, _, _, _, _, _, _, _, _, _, _, _, _, _, _, _, _, _, _, rfl, hR, ht, ho, hk⟩)
theorem C_X7_keep : am_ctr yX7_keep cX7_keep 6 (some .int) 4 95 sh_Mod [some 0, none, none] T_X7_keep := am_mk (by decide) (Or.inr (Or.inl ⟨rfl, rfl⟩)) (by decide) (by decide) (by decide) fl_X7_ok kc_X7_ok ck_X7_keep B_X7_keep
def cs_X7_lots : Nat → List am_V → am_D → am_K → Prop := am_cs [(8, am_site 2 [some 0, none] T_X7_no [0, 9] [0, 9, 1, 2, 3, 4, 5, 6, 7, 8, 10, 11, 12, 13, 14, 15]), (21, am_site 2 [some 0, none] T_X7_no [0, 9] [0, 9, 1, 2, 3, 4, 5, 6, 7, 8, 10, 11, 12, 13, 14, 15]), (28, am_site 3 [none, none, none] T_X7_within [] []), (37, am_site 2 [some 0, none] T_X7_no [0, 9] [0, 9, 1, 2, 3, 4, 5, 6, 7, 8, 10, 11, 12, 13, 14, 15]), (46, am_site 2 [some 0, some 6] T_X7_keep_ [0, 1, 2, 3, 4, 5, 12] [0, 1, 2, 3, 4, 5, 12, 6, 7, 8, 9, 10, 11, 12, 13, 14, 15]), (135, am_site 2 [some 0, none] T_X7_inLane [0, 4, 5] [0, 4, 5, 1, 2, 3, 6, 7, 8, 9, 10, 11, 12, 13, 14, 15]), (161, am_site 1 [some 0] T_X7_seconds [0, 1, 2, 4, 5, 13, 14, 15] [0, 1, 2, 4, 5, 13, 14, 15, 3, 6, 7, 8, 9, 10, 11, 12]), (168, am_site 1 [some 0] T_X7_cost [0, 1, 2, 3, 4, 5, 13, 14, 15] [0, 1, 2, 3, 4, 5, 13, 14, 15, 6, 7, 8, 9, 10, 11, 12]), (185, am_site 2 [some 0, some 6] T_X7_again [0, 1, 2, 3, 4, 5, 12] [0, 1, 2, 3, 4, 5, 12, 6, 7, 8, 9, 10, 11, 12, 13, 14, 15])]
theorem cs_X7_lots_8 : cs_X7_lots 8 = am_site 2 [some 0, none] T_X7_no [0, 9] [0, 9, 1, 2, 3, 4, 5, 6, 7, 8, 10, 11, 12, 13, 14, 15] := rfl
theorem cs_X7_lots_21 : cs_X7_lots 21 = am_site 2 [some 0, none] T_X7_no [0, 9] [0, 9, 1, 2, 3, 4, 5, 6, 7, 8, 10, 11, 12, 13, 14, 15] := rfl
theorem cs_X7_lots_28 : cs_X7_lots 28 = am_site 3 [none, none, none] T_X7_within [] [] := rfl
theorem cs_X7_lots_37 : cs_X7_lots 37 = am_site 2 [some 0, none] T_X7_no [0, 9] [0, 9, 1, 2, 3, 4, 5, 6, 7, 8, 10, 11, 12, 13, 14, 15] := rfl
theorem cs_X7_lots_46 : cs_X7_lots 46 = am_site 2 [some 0, some 6] T_X7_keep_ [0, 1, 2, 3, 4, 5, 12] [0, 1, 2, 3, 4, 5, 12, 6, 7, 8, 9, 10, 11, 12, 13, 14, 15] := rfl
theorem cs_X7_lots_135 : cs_X7_lots 135 = am_site 2 [some 0, none] T_X7_inLane [0, 4, 5] [0, 4, 5, 1, 2, 3, 6, 7, 8, 9, 10, 11, 12, 13, 14, 15] := rfl
theorem cs_X7_lots_161 : cs_X7_lots 161 = am_site 1 [some 0] T_X7_seconds [0, 1, 2, 4, 5, 13, 14, 15] [0, 1, 2, 4, 5, 13, 14, 15, 3, 6, 7, 8, 9, 10, 11, 12] := rfl
theorem cs_X7_lots_168 : cs_X7_lots 168 = am_site 1 [some 0] T_X7_cost [0, 1, 2, 3, 4, 5, 13, 14, 15] [0, 1, 2, 3, 4, 5, 13, 14, 15, 6, 7, 8, 9, 10, 11, 12] := rfl
theorem cs_X7_lots_185 : cs_X7_lots 185 = am_site 2 [some 0, some 6] T_X7_again [0, 1, 2, 3, 4, 5, 12] [0, 1, 2, 3, 4, 5, 12, 6, 7, 8, 9, 10, 11, 12, 13, 14, 15] := rfl
theorem ck_X7_lots : ∀ X : am_X, am_cx X RX7 cX7_lots 9 4 97 → ∀ pc, am_csok X 9 sh_Mod pc (cs_X7_lots pc) := fun X hX => am_cs_ok (List.forall_mem_cons.mpr ⟨am_callV hX C_X7_no mo_X7_no rfl lk_X7_66 dX7_lots_8 rfl rfl rfl (by decide), List.forall_mem_cons.mpr ⟨am_callV hX C_X7_no mo_X7_no rfl lk_X7_66 dX7_lots_21 rfl rfl rfl (by decide), List.forall_mem_cons.mpr ⟨am_callS hX C_X7_within mo_X7_within rfl lk_X7_62 dX7_lots_28 rfl (by decide), List.forall_mem_cons.mpr ⟨am_callV hX C_X7_no mo_X7_no rfl lk_X7_66 dX7_lots_37 rfl rfl rfl (by decide), List.forall_mem_cons.mpr ⟨am_callV hX C_X7_keep_ mo_X7_keep_ rfl lk_X7_116 dX7_lots_46 rfl rfl rfl (by decide), List.forall_mem_cons.mpr ⟨am_callV hX C_X7_inLane mo_X7_inLane rfl lk_X7_93 dX7_lots_135 rfl rfl rfl (by decide), List.forall_mem_cons.mpr ⟨am_callV hX C_X7_seconds mo_X7_seconds rfl lk_X7_164 dX7_lots_161 rfl rfl rfl (by decide), List.forall_mem_cons.mpr ⟨am_callV hX C_X7_cost mo_X7_cost rfl lk_X7_168 dX7_lots_168 rfl rfl rfl (by decide), List.forall_mem_cons.mpr ⟨am_callV hX C_X7_again mo_X7_again rfl lk_X7_120 dX7_lots_185 rfl rfl rfl (by decide), fun _ h => absurd h List.not_mem_nil⟩⟩⟩⟩⟩⟩⟩⟩⟩)
abbrev ok_X7_lots (X : am_X) (K : List Int32 → am_D → Prop) : Prop := am_ok X RX7 cX7_lots 9 sh_Mod fl_X7 kc_X7 none 1 cs_X7_lots K
abbrev aw_X7_lots (X : am_X) (pc : Nat) (ls : am_L) (st : List am_V) (D : am_D) : Prop := am_aw X 9 sh_Mod pc ls st D
abbrev T_X7_lots : am_TT := am_s3 IM f_lots
theorem rg_fl (f : Nat → Nat) (y c : Nat) : (List.range (c + 1)).filter (fun x => decide (f x = y)) = if y = f c then (List.range c).filter (fun x => decide (f x = y)) ++ [c] else (List.range c).filter (fun x => decide (f x = y)) := by
  rw [List.range_succ, List.filter_append]
  by_cases h : y = f c
  · rw [if_pos h]
    congr 1
    simp [h]
  · rw [if_neg h]
    have : [c].filter (fun x => decide (f x = y)) = [] := by simp [Ne.symm h]
    rw [this, List.append_nil]
set_option maxHeartbeats 200000 in
theorem B_X7_lots : ∀ (X : am_X) (is : List Int32) (D : am_D) (K : List Int32 → am_D → Prop), ok_X7_lots X K → T_X7_lots is D K → is.length = (List.filter Option.isNone ([some 0, none, none, none] : List (Option Nat))).length → D.length = sh_Mod.length → am_aw X 9 sh_Mod 0 (am_l0 9 [some 0, none, none, none] is) [] D := by
  intro X is D K O hT _ _
  obtain ⟨σ, a, z0, w, ⟨aT, iM, tU, aS, cH, lO, kA, fA, hA, lA, pA, tA, vA, oA, eA, xA, nA, gA, wA, uA, rfl, hR, ht, ho, hk⟩, rfl, hK⟩ := hT
  obtain ⟨hb, hw, hp, hj, hL⟩ := id hR
  have hn : gN σ ≤ 9 := hL.1
  have eN : gN σ = σ.1.1 := rfl
  have main : ∀ v, a = nI v → v ≤ 20 → (w = 0 ∨ w = 1) → (∀ D', IM σ D' → K [nI (sm (vlZ (gb σ) (gw σ) (gk σ) (gf σ) (gh σ) (gN σ) z0 (decide (w = 1))) v)] D') → am_aw X 9 sh_Mod 41 [some (.inr 0), some (.inl a), some (.inl z0), some (.inl w), none, none, none, none, none] [] [.inl [nI (gN σ), nI (gb σ), nI (gw σ), nI σ.2.2.1.length, aT, nI σ.2.2.2.1.length, iM, tU, aS, cH, lO, bI false], .inr kA, .inr fA, .inr hA, .inr lA, .inr pA, .inr tA, .inr vA, .inr oA, .inr σ.2.2.2.2, .inr eA, .inr xA, .inr nA, .inr gA, .inr wA, .inr uA] := by
    intro v hav hv h01 hK2
    subst hav
    have hR0 := hR
    obtain ⟨l0, hl0⟩ : ∃ l0, l0 = lA := ⟨_, rfl⟩
    obtain ⟨p0, hp0⟩ : ∃ p0, p0 = pA := ⟨_, rfl⟩
    rw [← hl0, ← hp0] at hR0
    have loop : ∀ d i tU aS cH lO lA pA nA gA wA uA y7 y8, kpy (gN σ) (gb σ) (gw σ) kA fA hA l0 p0 nA → v - i = d → i ≤ v → am_aw X 9 sh_Mod 58 [some (.inr 0), some (.inl (nI v)), some (.inl z0), some (.inl w), some (.inl (sdK z0 (i * gN σ))), some (.inl (nI (sm (vlZ (gb σ) (gw σ) (gk σ) (gf σ) (gh σ) (gN σ) z0 (decide (w = 1))) i))), some (.inl (nI i)), y7, y8] [] [.inl [nI (gN σ), nI (gb σ), nI (gw σ), nI σ.2.2.1.length, aT, nI σ.2.2.2.1.length, iM, tU, aS, cH, lO, bI false], .inr kA, .inr fA, .inr hA, .inr lA, .inr pA, .inr tA, .inr vA, .inr oA, .inr σ.2.2.2.2, .inr eA, .inr xA, .inr nA, .inr gA, .inr wA, .inr uA] := by
      intro d
      induction d with
      | zero =>
        intro i tU aS cH lO lA pA nA gA wA uA y7 y8 hc0 hd hm
        have e : i = v := by omega
        subst e
        refine st_iload O dX7_lots_58 rfl (q := 60) rfl ?_
        refine st_iloadn O dX7_lots_60 rfl (q := 61) rfl ?_
        refine sn_icmp_ge O dX7_lots_61 (t := 180) rfl (q := 64) rfl (by omega) (by omega) (fun c61 => ?_) (fun c61 => ?_)
        · refine st_aloadn O dX7_lots_180 rfl (q := 181) rfl ?_
          refine st_aloadn O dX7_lots_181 rfl (q := 182) rfl ?_
          refine st_getr O dX7_lots_182 fl_X7_43 rfl rfl rfl (q := 185) rfl ?_
          refine st_call O dX7_lots_185 cs_X7_lots_185 (q := 188) rfl (am_siq rfl rfl rfl (Nat.le_of_ble_eq_true rfl) rfl ?_)
          refine ⟨gN σ, gb σ, gw σ, _, _, _, _, kA, fA, hA, l0, p0, _, _, _, _, _, _, rfl, rfl, hc0, fun kC fC hC lC pC hcc => ?_⟩
          refine am_nrp rfl rfl rfl rfl ?_
          refine st_iload O dX7_lots_188 rfl (q := 190) rfl ?_
          refine st_ireturn O dX7_lots_190 ?_
          exact hK2 _ ⟨_, _, _, _, _, _, _, _, _, _, _, _, _, _, _, _, _, _, _, _, rfl, mR_congr hR0 hcc, ht, ho, hk⟩
        omega
      | succ d ih =>
        intro i tU aS cH lO lA pA nA gA wA uA y7 y8 hc0 hd hm
        have ih := fun tU aS cH lO lA pA gA wA uA y7 y8 => ih (i + 1) tU aS cH lO lA pA nA gA wA uA y7 y8 hc0 (by omega) (by omega)
        have toss : ∀ d c lB pB y8, gN σ - c = d → c ≤ gN σ → mL (gN σ) (fun y => (List.range c).filter (fun x => decide (lnZ z0 (gN σ) i x = y))) lB pB → am_aw X 9 sh_Mod 94 [some (.inr 0), some (.inl (nI v)), some (.inl z0), some (.inl w), some (.inl (sdK z0 (i * gN σ + c))), some (.inl (nI (sm (vlZ (gb σ) (gw σ) (gk σ) (gf σ) (gh σ) (gN σ) z0 (decide (w = 1))) i))), some (.inl (nI i)), some (.inl (nI c)), y8] [] [.inl [nI (gN σ), nI (gb σ), nI (gw σ), nI σ.2.2.1.length, aT, nI σ.2.2.2.1.length, iM, tU, aS, cH, lO, bI false], .inr kA, .inr fA, .inr hA, .inr lB, .inr pB, .inr tA, .inr vA, .inr oA, .inr σ.2.2.2.2, .inr eA, .inr xA, .inr nA, .inr gA, .inr wA, .inr uA] := by
          intro d
          induction d with
          | zero =>
            intro c lB pB y8 hd hc hLB
            have e : c = gN σ := by omega
            subst e
            have h3 : smw false (gb σ) (gw σ) (gk σ) (gf σ) (fun y => (List.range (gN σ)).filter (fun x => decide (lnZ z0 (gN σ) i x = y))) = simA (gb σ) (gw σ) (gk σ) (gf σ) (lnZ z0 (gN σ) i) (List.range (gN σ)) 0 := smw_A (fun y _ => (qu_0 _ _ _).symm)
            rw [show i * gN σ + gN σ = (i + 1) * gN σ from (Nat.succ_mul _ _).symm]
            rcases h01 with hw0 | hw1
            · have ih := ih
              have hv0 : vlZ (gb σ) (gw σ) (gk σ) (gf σ) (gh σ) (gN σ) z0 (decide (w = 1)) i = tot (simA (gb σ) (gw σ) (gk σ) (gf σ) (lnZ z0 (gN σ) i) (List.range (gN σ)) 0) := by rw [hw0]; rfl
              rw [show sm (vlZ (gb σ) (gw σ) (gk σ) (gf σ) (gh σ) (gN σ) z0 (decide (w = 1))) (i + 1) = sm (vlZ (gb σ) (gw σ) (gk σ) (gf σ) (gh σ) (gN σ) z0 (decide (w = 1))) i + vlZ (gb σ) (gw σ) (gk σ) (gf σ) (gh σ) (gN σ) z0 (decide (w = 1)) i from rfl, hv0] at ih
              refine st_iload O dX7_lots_94 rfl (q := 96) rfl ?_
              refine st_aloadn O dX7_lots_96 rfl (q := 97) rfl ?_
              refine st_geti O dX7_lots_97 fl_X7_59 rfl rfl rfl rfl (q := 100) rfl ?_
              refine sn_icmp_ge O dX7_lots_100 (t := 154) rfl (q := 103) rfl (by omega) (by omega) (fun c100 => ?_) (fun c100 => ?_)
              · refine st_iload O dX7_lots_154 rfl (q := 156) rfl ?_
                refine st_iloadn O dX7_lots_156 rfl (q := 157) rfl ?_
                refine st_if_ne O dX7_lots_157 (t := 167) rfl (q := 160) rfl (fun c157 => ?_) (fun c157 => ?_)
                · exact absurd hw0 c157
                refine st_aloadn O dX7_lots_160 rfl (q := 161) rfl ?_
                refine st_call O dX7_lots_161 cs_X7_lots_161 (q := 164) rfl (am_siq rfl rfl rfl (Nat.le_of_ble_eq_true rfl) rfl ?_)
                refine ⟨gN σ, gb σ, gw σ, _, _, _, _, _, _, _, _, false, gk σ, gf σ, _, _, _, _, _, _, _, _, rfl, rfl, hb, hR0.k2, hLB, fun t1 t2 t3 t4 g1 g2 g3 => ?_⟩
                refine am_nrp rfl rfl rfl rfl ?_
                rw [h3]
                refine st_goto O dX7_lots_164 (t := 171) rfl ?_
                refine st_iadd O dX7_lots_171 (by first | exact nI_add _ _ | exact rfl) (q := 172) rfl ?_
                refine st_istore O dX7_lots_172 rfl (q := 174) rfl ?_
                refine st_iinc O dX7_lots_174 rfl (by first | exact am_ii1 _ | exact rfl) rfl (q := 177) rfl ?_
                refine st_goto O dX7_lots_177 (t := 58) rfl ?_
                exact ih _ _ _ _ _ _ _ _ _ _ _
              omega
            · have ih := ih
              have hv0 : vlZ (gb σ) (gw σ) (gk σ) (gf σ) (gh σ) (gN σ) z0 (decide (w = 1)) i = cst (gh σ) (simA (gb σ) (gw σ) (gk σ) (gf σ) (lnZ z0 (gN σ) i) (List.range (gN σ)) 0) := by rw [hw1]; rfl
              rw [show sm (vlZ (gb σ) (gw σ) (gk σ) (gf σ) (gh σ) (gN σ) z0 (decide (w = 1))) (i + 1) = sm (vlZ (gb σ) (gw σ) (gk σ) (gf σ) (gh σ) (gN σ) z0 (decide (w = 1))) i + vlZ (gb σ) (gw σ) (gk σ) (gf σ) (gh σ) (gN σ) z0 (decide (w = 1)) i from rfl, hv0] at ih
              refine st_iload O dX7_lots_94 rfl (q := 96) rfl ?_
              refine st_aloadn O dX7_lots_96 rfl (q := 97) rfl ?_
              refine st_geti O dX7_lots_97 fl_X7_59 rfl rfl rfl rfl (q := 100) rfl ?_
              refine sn_icmp_ge O dX7_lots_100 (t := 154) rfl (q := 103) rfl (by omega) (by omega) (fun c100 => ?_) (fun c100 => ?_)
              · refine st_iload O dX7_lots_154 rfl (q := 156) rfl ?_
                refine st_iloadn O dX7_lots_156 rfl (q := 157) rfl ?_
                refine st_if_ne O dX7_lots_157 (t := 167) rfl (q := 160) rfl (fun c157 => ?_) (fun c157 => ?_)
                · refine st_aloadn O dX7_lots_167 rfl (q := 168) rfl ?_
                  refine st_call O dX7_lots_168 cs_X7_lots_168 (q := 171) rfl (am_siq rfl rfl rfl (Nat.le_of_ble_eq_true rfl) rfl ?_)
                  refine ⟨gN σ, gb σ, gw σ, _, _, _, _, _, _, _, _, false, gk σ, gf σ, gh σ, _, _, _, _, _, _, _, _, _, rfl, rfl, hb, hR0.k2, hR0.h2, hLB, fun t1 t2 t3 t4 g1 g2 g3 => ?_⟩
                  refine am_nrp rfl rfl rfl rfl ?_
                  rw [h3]
                  refine st_iadd O dX7_lots_171 (by first | exact nI_add _ _ | exact rfl) (q := 172) rfl ?_
                  refine st_istore O dX7_lots_172 rfl (q := 174) rfl ?_
                  refine st_iinc O dX7_lots_174 rfl (by first | exact am_ii1 _ | exact rfl) rfl (q := 177) rfl ?_
                  refine st_goto O dX7_lots_177 (t := 58) rfl ?_
                  exact ih _ _ _ _ _ _ _ _ _ _ _
                exact absurd (hw1.symm.trans c157) (by decide)
              omega
          | succ d ih2 =>
            intro c lB pB y8 hd hc hLB
            have hcn : c < gN σ := by omega
            have ih2 := fun lB pB y8 => ih2 (c + 1) lB pB y8 (by omega) (by omega)
            have hst : drS (sdK z0 (i * gN σ + c)) = sdK z0 (i * gN σ + (c + 1)) := rfl
            have htl : drN (sdK z0 (i * gN σ + (c + 1))) = lnZ z0 (gN σ) i c := rfl
            have htl2 : lnZ z0 (gN σ) i c < 2 := drN_lt _
            refine st_iload O dX7_lots_94 rfl (q := 96) rfl ?_
            refine st_aloadn O dX7_lots_96 rfl (q := 97) rfl ?_
            refine st_geti O dX7_lots_97 fl_X7_59 rfl rfl rfl rfl (q := 100) rfl ?_
            refine sn_icmp_ge O dX7_lots_100 (t := 154) rfl (q := 103) rfl (by omega) (by omega) (fun c100 => ?_) (fun c100 => ?_)
            · omega
            refine st_iload O dX7_lots_103 rfl (q := 105) rfl ?_
            refine st_ldc O dX7_lots_105 kc_X7_204 (q := 107) rfl ?_
            refine st_imul O dX7_lots_107 rfl (q := 108) rfl ?_
            refine st_ldc O dX7_lots_108 kc_X7_205 (q := 110) rfl ?_
            refine st_iadd O dX7_lots_110 (show sdK z0 (i * gN σ + c) * 1664525 + 1013904223 = sdK z0 (i * gN σ + (c + 1)) from rfl) (q := 111) rfl ?_
            refine st_istore O dX7_lots_111 rfl (q := 113) rfl ?_
            refine st_iload O dX7_lots_113 rfl (q := 115) rfl ?_
            refine st_ldc O dX7_lots_115 kc_X7_206 (q := 117) rfl ?_
            refine st_iand O dX7_lots_117 rfl (q := 118) rfl ?_
            refine st_sipush O dX7_lots_118 am_sipush_256 (q := 121) rfl ?_
            refine st_idiv O dX7_lots_121 (by decide) (dr_div _) (q := 122) rfl ?_
            refine st_iconst O dX7_lots_122 am_iconst_2 (q := 123) rfl ?_
            refine st_irem O dX7_lots_123 (by decide) (dr_rem _) (q := 124) rfl ?_
            refine st_istore O dX7_lots_124 rfl (q := 126) rfl ?_
            refine st_aloadn O dX7_lots_126 rfl (q := 127) rfl ?_
            refine st_getr O dX7_lots_127 fl_X7_22 rfl rfl rfl (q := 130) rfl ?_
            refine st_iload O dX7_lots_130 rfl (q := 132) rfl ?_
            refine st_aloadn O dX7_lots_132 rfl (q := 133) rfl ?_
            refine st_iload O dX7_lots_133 rfl (q := 135) rfl ?_
            refine st_call O dX7_lots_135 cs_X7_lots_135 (q := 138) rfl (am_sipq rfl rfl rfl (Nat.le_of_ble_eq_true rfl) rfl (r := nI ((List.range c).filter (fun x => decide (lnZ z0 (gN σ) i x = lnZ z0 (gN σ) i c))).length) ⟨lnZ z0 (gN σ) i c, gN σ, _, (fun y => (List.range c).filter (fun x => decide (lnZ z0 (gN σ) i x = y))), _, _, rfl, hLB, htl2, rfl, rfl⟩ ?_)
            refine sn_ast O dX7_lots_138 rfl rfl rfl ⟨by omega, by decide⟩ rfl rfl (q := 139) rfl ?_
            refine st_aloadn O dX7_lots_139 rfl (q := 140) rfl ?_
            refine st_getr O dX7_lots_140 fl_X7_19 rfl rfl rfl (q := 143) rfl ?_
            refine st_iload O dX7_lots_143 rfl (q := 145) rfl ?_
            refine st_iload O dX7_lots_145 rfl (q := 147) rfl ?_
            refine sn_ast O dX7_lots_147 rfl rfl rfl ⟨by omega, by decide⟩ rfl rfl (q := 148) rfl ?_
            refine st_iinc O dX7_lots_148 rfl (by first | exact am_ii1 _ | exact rfl) rfl (q := 151) rfl ?_
            refine st_goto O dX7_lots_151 (t := 94) rfl ?_
            refine ih2 _ _ _ (mL_congr (mL_come hLB hcn htl2 (fun y _ h => absurd (List.mem_range.mp (List.mem_filter.mp h).1) (Nat.lt_irrefl c))) (fun y _ => rg_fl _ y c) (fun _ _ => ⟨rfl, rfl⟩))
        have wipe : ∀ d c lB y8, gN σ - c = d → c ≤ gN σ → (∀ x, x < c → lB x = -9) → am_aw X 9 sh_Mod 67 [some (.inr 0), some (.inl (nI v)), some (.inl z0), some (.inl w), some (.inl (sdK z0 (i * gN σ))), some (.inl (nI (sm (vlZ (gb σ) (gw σ) (gk σ) (gf σ) (gh σ) (gN σ) z0 (decide (w = 1))) i))), some (.inl (nI i)), some (.inl (nI c)), y8] [] [.inl [nI (gN σ), nI (gb σ), nI (gw σ), nI σ.2.2.1.length, aT, nI σ.2.2.2.1.length, iM, tU, aS, cH, lO, bI false], .inr kA, .inr fA, .inr hA, .inr lB, .inr pA, .inr tA, .inr vA, .inr oA, .inr σ.2.2.2.2, .inr eA, .inr xA, .inr nA, .inr gA, .inr wA, .inr uA] := by
          intro d
          induction d with
          | zero =>
            intro c lB y8 hd hc hlB
            have e : c = gN σ := by omega
            subst e
            refine st_iload O dX7_lots_67 rfl (q := 69) rfl ?_
            refine st_aloadn O dX7_lots_69 rfl (q := 70) rfl ?_
            refine st_geti O dX7_lots_70 fl_X7_59 rfl rfl rfl rfl (q := 73) rfl ?_
            refine sn_icmp_ge O dX7_lots_73 (t := 91) rfl (q := 76) rfl (by omega) (by omega) (fun c73 => ?_) (fun c73 => ?_)
            · refine st_iconst O dX7_lots_91 am_iconst_0 (q := 92) rfl ?_
              refine st_istore O dX7_lots_92 rfl (q := 94) rfl ?_
              exact toss (gN σ) 0 _ _ _ rfl (Nat.zero_le _) ⟨hn, fun y _ => ⟨List.nodup_nil, fun x hx => (by cases hx)⟩, fun x hx _ _ => hlB x hx⟩
            omega
          | succ d ih3 =>
            intro c lB y8 hd hc hlB
            refine st_iload O dX7_lots_67 rfl (q := 69) rfl ?_
            refine st_aloadn O dX7_lots_69 rfl (q := 70) rfl ?_
            refine st_geti O dX7_lots_70 fl_X7_59 rfl rfl rfl rfl (q := 73) rfl ?_
            refine sn_icmp_ge O dX7_lots_73 (t := 91) rfl (q := 76) rfl (by omega) (by omega) (fun c73 => ?_) (fun c73 => ?_)
            · omega
            refine st_aloadn O dX7_lots_76 rfl (q := 77) rfl ?_
            refine st_getr O dX7_lots_77 fl_X7_19 rfl rfl rfl (q := 80) rfl ?_
            refine st_iload O dX7_lots_80 rfl (q := 82) rfl ?_
            refine st_bipush O dX7_lots_82 am_bipush_m9 (q := 84) rfl ?_
            refine sn_ast O dX7_lots_84 rfl rfl rfl ⟨by omega, by decide⟩ rfl rfl (q := 85) rfl ?_
            refine st_iinc O dX7_lots_85 rfl (by first | exact am_ii1 _ | exact rfl) rfl (q := 88) rfl ?_
            refine st_goto O dX7_lots_88 (t := 67) rfl ?_
            refine ih3 (c + 1) _ _ (by omega) (by omega) (fun x hx => ?_)
            by_cases e : x = c
            · rw [e, pk_us]
            · rw [pk_un e]; exact hlB x (by omega)
        refine st_iload O dX7_lots_58 rfl (q := 60) rfl ?_
        refine st_iloadn O dX7_lots_60 rfl (q := 61) rfl ?_
        refine sn_icmp_ge O dX7_lots_61 (t := 180) rfl (q := 64) rfl (by omega) (by omega) (fun c61 => ?_) (fun c61 => ?_)
        · omega
        refine st_iconst O dX7_lots_64 am_iconst_0 (q := 65) rfl ?_
        refine st_istore O dX7_lots_65 rfl (q := 67) rfl ?_
        exact wipe (gN σ) 0 _ _ rfl (Nat.zero_le _) (fun x hx => absurd hx (Nat.not_lt_zero x))
    refine st_aloadn O dX7_lots_41 rfl (q := 42) rfl ?_
    refine st_aloadn O dX7_lots_42 rfl (q := 43) rfl ?_
    refine st_getr O dX7_lots_43 fl_X7_43 rfl rfl rfl (q := 46) rfl ?_
    refine st_call O dX7_lots_46 cs_X7_lots_46 (q := 49) rfl (am_siq rfl rfl rfl (Nat.le_of_ble_eq_true rfl) rfl ?_)
    refine ⟨gN σ, gb σ, gw σ, _, kA, fA, hA, lA, pA, _, rfl, rfl, fun e he => ?_⟩
    refine am_nrp rfl rfl rfl rfl ?_
    refine st_iloadn O dX7_lots_49 rfl (q := 50) rfl ?_
    refine st_istore O dX7_lots_50 rfl (q := 52) rfl ?_
    refine st_iconst O dX7_lots_52 am_iconst_0 (q := 53) rfl ?_
    refine st_istore O dX7_lots_53 rfl (q := 55) rfl ?_
    refine st_iconst O dX7_lots_55 am_iconst_0 (q := 56) rfl ?_
    refine st_istore O dX7_lots_56 rfl (q := 58) rfl ?_
    have := loop v 0
    rw [Nat.zero_mul] at this
    exact this _ _ _ _ _ _ _ _ _ _ _ _ (by rw [hl0, hp0]; exact he) rfl (Nat.zero_le _)
  have val : 1 ≤ a → a ≤ nI 20 → ∃ v, a = nI v ∧ v ≤ 20 := by
    intro h1 h2
    obtain ⟨v, hv, e⟩ := (le_iff 20 (by decide)).mp ⟨Int32.le_trans (by decide) h1, h2⟩
    exact ⟨v, e, hv⟩
  by_cases h01 : w = 0 ∨ w = 1
  · refine am_begin rfl ?_
    refine st_iloadn O dX7_lots_0 rfl (q := 1) rfl ?_
    refine st_iconst O dX7_lots_1 am_iconst_1 (q := 2) rfl ?_
    refine st_icmp_ge O dX7_lots_2 (t := 12) rfl (q := 5) rfl (fun c2 => ?_) (fun c2 => ?_)
    · refine st_iloadn O dX7_lots_12 rfl (q := 13) rfl ?_
      refine st_bipush O dX7_lots_13 am_bipush_20 (q := 15) rfl ?_
      refine st_icmp_le O dX7_lots_15 (t := 25) rfl (q := 18) rfl (fun c15 => ?_) (fun c15 => ?_)
      · refine st_iloadn O dX7_lots_25 rfl (q := 26) rfl ?_
        refine st_iconst O dX7_lots_26 am_iconst_0 (q := 27) rfl ?_
        refine st_iconst O dX7_lots_27 am_iconst_1 (q := 28) rfl ?_
        refine st_callS O dX7_lots_28 cs_X7_lots_28 (q := 31) rfl (am_sipq rfl rfl rfl (Nat.le_of_ble_eq_true rfl) rfl (r := 1) ⟨_, _, _, rfl, wiT h01⟩ ?_)
        refine st_if_ne O dX7_lots_31 (t := 41) rfl (q := 34) rfl (fun c31 => ?_) (fun c31 => ?_)
        · obtain ⟨v, e, hv⟩ := val c2 c15
          rw [show f_lots a z0 w σ = (nI (sm (vlZ (gb σ) (gw σ) (gk σ) (gf σ) (gh σ) (gN σ) z0 (decide (w = 1))) a.toNatClampNeg), σ) from (if_pos c2).trans ((if_pos c15).trans (if_pos h01)), e, nI_clamp (by omega)] at hK
          exact main v e hv h01 hK
        exact absurd c31 (by decide)
      refine st_aloadn O dX7_lots_18 rfl (q := 19) rfl ?_
      refine st_bipush O dX7_lots_19 am_bipush_m6 (q := 21) rfl ?_
      refine st_call O dX7_lots_21 cs_X7_lots_21 (q := 24) rfl (am_siq rfl rfl rfl (Nat.le_of_ble_eq_true rfl) rfl ?_)
      refine ⟨_, _, 6, by decide, by decide, rfl, rfl, ?_⟩
      refine am_nrq rfl rfl ?_
      rw [show f_lots a z0 w σ = rfs 6 σ from (if_pos c2).trans (if_neg c15)] at hK
      exact st_ireturn O dX7_lots_24 (hK _ ⟨_, _, _, _, _, _, _, _, _, _, _, _, _, _, _, _, _, _, _, _, rfl, hR, ht, ho, hk⟩)
    refine st_aloadn O dX7_lots_5 rfl (q := 6) rfl ?_
    refine st_bipush O dX7_lots_6 am_bipush_m4 (q := 8) rfl ?_
    refine st_call O dX7_lots_8 cs_X7_lots_8 (q := 11) rfl (am_siq rfl rfl rfl (Nat.le_of_ble_eq_true rfl) rfl ?_)
    refine ⟨_, _, 4, by decide, by decide, rfl, rfl, ?_⟩
    refine am_nrq rfl rfl ?_
    rw [show f_lots a z0 w σ = rfs 4 σ from if_neg c2] at hK
    exact st_ireturn O dX7_lots_11 (hK _ ⟨_, _, _, _, _, _, _, _, _, _, _, _, _, _, _, _, _, _, _, _, rfl, hR, ht, ho, hk⟩)
  · refine am_begin rfl ?_
    refine st_iloadn O dX7_lots_0 rfl (q := 1) rfl ?_
    refine st_iconst O dX7_lots_1 am_iconst_1 (q := 2) rfl ?_
    refine st_icmp_ge O dX7_lots_2 (t := 12) rfl (q := 5) rfl (fun c2 => ?_) (fun c2 => ?_)
    · refine st_iloadn O dX7_lots_12 rfl (q := 13) rfl ?_
      refine st_bipush O dX7_lots_13 am_bipush_20 (q := 15) rfl ?_
      refine st_icmp_le O dX7_lots_15 (t := 25) rfl (q := 18) rfl (fun c15 => ?_) (fun c15 => ?_)
      · refine st_iloadn O dX7_lots_25 rfl (q := 26) rfl ?_
        refine st_iconst O dX7_lots_26 am_iconst_0 (q := 27) rfl ?_
        refine st_iconst O dX7_lots_27 am_iconst_1 (q := 28) rfl ?_
        refine st_callS O dX7_lots_28 cs_X7_lots_28 (q := 31) rfl (am_sipq rfl rfl rfl (Nat.le_of_ble_eq_true rfl) rfl (r := 0) ⟨_, _, _, rfl, wiF h01⟩ ?_)
        refine st_if_ne O dX7_lots_31 (t := 41) rfl (q := 34) rfl (fun c31 => ?_) (fun c31 => ?_)
        · exact absurd c31 (by decide)
        refine st_aloadn O dX7_lots_34 rfl (q := 35) rfl ?_
        refine st_bipush O dX7_lots_35 am_bipush_m2 (q := 37) rfl ?_
        refine st_call O dX7_lots_37 cs_X7_lots_37 (q := 40) rfl (am_siq rfl rfl rfl (Nat.le_of_ble_eq_true rfl) rfl ?_)
        refine ⟨_, _, 2, by decide, by decide, rfl, rfl, ?_⟩
        refine am_nrq rfl rfl ?_
        rw [show f_lots a z0 w σ = rfs 2 σ from (if_pos c2).trans ((if_pos c15).trans (if_neg h01))] at hK
        exact st_ireturn O dX7_lots_40 (hK _ ⟨_, _, _, _, _, _, _, _, _, _, _, _, _, _, _, _, _, _, _, _, rfl, hR, ht, ho, hk⟩)
      refine st_aloadn O dX7_lots_18 rfl (q := 19) rfl ?_
      refine st_bipush O dX7_lots_19 am_bipush_m6 (q := 21) rfl ?_
      refine st_call O dX7_lots_21 cs_X7_lots_21 (q := 24) rfl (am_siq rfl rfl rfl (Nat.le_of_ble_eq_true rfl) rfl ?_)
      refine ⟨_, _, 6, by decide, by decide, rfl, rfl, ?_⟩
      refine am_nrq rfl rfl ?_
      rw [show f_lots a z0 w σ = rfs 6 σ from (if_pos c2).trans (if_neg c15)] at hK
      exact st_ireturn O dX7_lots_24 (hK _ ⟨_, _, _, _, _, _, _, _, _, _, _, _, _, _, _, _, _, _, _, _, rfl, hR, ht, ho, hk⟩)
    refine st_aloadn O dX7_lots_5 rfl (q := 6) rfl ?_
    refine st_bipush O dX7_lots_6 am_bipush_m4 (q := 8) rfl ?_
    refine st_call O dX7_lots_8 cs_X7_lots_8 (q := 11) rfl (am_siq rfl rfl rfl (Nat.le_of_ble_eq_true rfl) rfl ?_)
    refine ⟨_, _, 4, by decide, by decide, rfl, rfl, ?_⟩
    refine am_nrq rfl rfl ?_
    rw [show f_lots a z0 w σ = rfs 4 σ from if_neg c2] at hK
    exact st_ireturn O dX7_lots_11 (hK _ ⟨_, _, _, _, _, _, _, _, _, _, _, _, _, _, _, _, _, _, _, _, rfl, hR, ht, ho, hk⟩)
theorem C_X7_lots : am_ctr yX7_lots cX7_lots 9 (some .int) 4 97 sh_Mod [some 0, none, none, none] T_X7_lots := am_mk (by decide) (Or.inr (Or.inl ⟨rfl, rfl⟩)) (by decide) (by decide) (by decide) fl_X7_ok kc_X7_ok ck_X7_lots B_X7_lots
