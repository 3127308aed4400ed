/-! Kinds; Math.max; Integer.bitCount -/
def cs_J9_max_7cf53 : Nat → List am_V → am_D → am_K → Prop := am_cs []
theorem ck_J9_max_7cf53 : ∀ X : am_X, am_cx X RJ9 cJ9_max_7cf53 2 0 0 → ∀ pc, am_csok X 2 sh_None pc (cs_J9_max_7cf53 pc) := fun X hX => am_cs_ok (fun _ h => absurd h List.not_mem_nil)
abbrev ok_J9_max_7cf53 (X : am_X) (K : List Int32 → am_D → Prop) : Prop := am_ok X RJ9 cJ9_max_7cf53 2 sh_None fl_J9 kc_J9 none 1 cs_J9_max_7cf53 K
abbrev aw_J9_max_7cf53 (X : am_X) (pc : Nat) (ls : am_L) (st : List am_V) (D : am_D) : Prop := am_aw X 2 sh_None pc ls st D
def T_J9_max_7cf53 : am_TT := fun is D K => match is with
  | [x, y] => K [if x < y then y else x] D
  | _ => False
theorem B_J9_max_7cf53 : ∀ (X : am_X) (is : List Int32) (D : am_D) (K : List Int32 → am_D → Prop), ok_J9_max_7cf53 X K → T_J9_max_7cf53 is D K → is.length = (List.filter Option.isNone ([none, none] : List (Option Nat))).length → D.length = sh_None.length → am_aw X 2 sh_None 0 (am_l0 2 [none, none] is) [] D := by
  intro X is D K O hT _ _
  unfold T_J9_max_7cf53 at hT
  split at hT
  next x y =>
    refine am_run O (fun _ => false) 10 ?_
    simp only [am_wp, am_ex, am_in, am_p1, am_p2, am_v1, am_v2, am_pr, am_pir, am_piir, am_li, am_la, am_sl, am_gf, am_pf, am_ra, am_wa, am_al, am_kc, am_j, am_if, am_sw, am_lk, am_tb, am_site, am_ag, am_put, am_l0, List.getElem?_cons_zero, List.getElem?_cons_succ, List.getElem?_nil, List.set_cons_zero, List.set_cons_succ, List.getD_cons_zero, List.getD_cons_succ, List.map_cons, List.map_nil, List.take_succ_cons, List.take_zero, List.drop_succ_cons, List.drop_zero, List.drop_nil, List.take_nil, List.reverse_cons, List.reverse_nil, List.nil_append, List.cons_append, List.length_cons, List.length_nil, Option.map_some, Option.map_none, Nat.reduceAdd, Nat.reduceSub, Nat.reduceLT, Nat.reduceLeDiff, Nat.reduceEqDiff, Int.reduceAdd, Int.reduceLE, Int.reduceToNat, Int.reduceNeg, Int.reduceSub, Nat.reduceBEq, Bool.or_false, Bool.false_or, Bool.or_true, Bool.true_or, Bool.or_self, ge_iff_le, true_and, and_true, ite_true, ite_false, and_self, Fin.isValue, List.replicate_succ, List.replicate_zero, List.all_cons, List.all_nil, List.zip_cons_cons, List.zip_nil_right, List.zip_nil_left, decide_true, Bool.and_true, Bool.and_self, Bool.true_and, Nat.reduceMul, Int.reduceEq, Int.reduceLT, decide_eq_true_eq, Nat.lt_add_one, Int.ofNat_zero, Int.zero_add, Nat.zero_lt_succ, Nat.lt_irrefl, reduceCtorEq, Option.some.injEq, ↓reduceIte, Int.natCast_zero, am_n0, am_n1, am_n2, am_n3, am_nc, am_tl, dJ9_max_7cf53_0, dJ9_max_7cf53_1, dJ9_max_7cf53_2, dJ9_max_7cf53_5, dJ9_max_7cf53_6, dJ9_max_7cf53_9, dJ9_max_7cf53_10, sh_None]
    exact ⟨fun h => by rw [if_pos h] at hT; exact hT, fun h => by rw [if_neg h] at hT; exact hT⟩
  next => exact hT.elim
theorem C_J9_max_7cf53 : am_ctr yJ9_max_7cf53 cJ9_max_7cf53 2 (some .int) 0 0 sh_None [none, none] T_J9_max_7cf53 := am_mk (by decide) (Or.inr (Or.inl ⟨rfl, rfl⟩)) (by decide) (by decide) (by decide) fl_J9_ok kc_J9_ok ck_J9_max_7cf53 B_J9_max_7cf53
def cs_X2_secondsOf : Nat → List am_V → am_D → am_K → Prop := am_cs []
theorem ck_X2_secondsOf : ∀ X : am_X, am_cx X RX2 cX2_secondsOf 1 0 0 → ∀ pc, am_csok X 1 sh_None pc (cs_X2_secondsOf pc) := fun X hX => am_cs_ok (fun _ h => absurd h List.not_mem_nil)
abbrev ok_X2_secondsOf (X : am_X) (K : List Int32 → am_D → Prop) : Prop := am_ok X RX2 cX2_secondsOf 1 sh_None fl_X2 kc_X2 none 1 cs_X2_secondsOf K
abbrev aw_X2_secondsOf (X : am_X) (pc : Nat) (ls : am_L) (st : List am_V) (D : am_D) : Prop := am_aw X 1 sh_None pc ls st D
def am_sec (k : Int32) : Int32 := if k = 2 then 1 else if k = 3 then 3 else if k = 4 then 4 else 2
def T_X2_secondsOf : am_TT := fun is D K => match is with
  | [x] => K [am_sec x] D
  | _ => False
theorem B_X2_secondsOf : ∀ (X : am_X) (is : List Int32) (D : am_D) (K : List Int32 → am_D → Prop), ok_X2_secondsOf X K → T_X2_secondsOf is D K → is.length = (List.filter Option.isNone ([none] : List (Option Nat))).length → D.length = sh_None.length → am_aw X 1 sh_None 0 (am_l0 1 [none] is) [] D := by
  intro X is D K O hT _ _
  unfold T_X2_secondsOf at hT
  split at hT
  next x =>
    refine am_run O (fun _ => false) 10 ?_
    simp only [am_wp, am_ex, am_in, am_p1, am_p2, am_v1, am_v2, am_pr, am_pir, am_piir, am_li, am_la, am_sl, am_gf, am_pf, am_ra, am_wa, am_al, am_kc, am_j, am_if, am_sw, am_lk, am_tb, am_site, am_ag, am_put, am_l0, List.getElem?_cons_zero, List.getElem?_cons_succ, List.getElem?_nil, List.set_cons_zero, List.set_cons_succ, List.getD_cons_zero, List.getD_cons_succ, List.map_cons, List.map_nil, List.take_succ_cons, List.take_zero, List.drop_succ_cons, List.drop_zero, List.drop_nil, List.take_nil, List.reverse_cons, List.reverse_nil, List.nil_append, List.cons_append, List.length_cons, List.length_nil, Option.map_some, Option.map_none, Nat.reduceAdd, Nat.reduceSub, Nat.reduceLT, Nat.reduceLeDiff, Nat.reduceEqDiff, Int.reduceAdd, Int.reduceLE, Int.reduceToNat, Int.reduceNeg, Int.reduceSub, Nat.reduceBEq, Bool.or_false, Bool.false_or, Bool.or_true, Bool.true_or, Bool.or_self, ge_iff_le, true_and, and_true, ite_true, ite_false, and_self, Fin.isValue, List.replicate_succ, List.replicate_zero, List.all_cons, List.all_nil, List.zip_cons_cons, List.zip_nil_right, List.zip_nil_left, decide_true, Bool.and_true, Bool.and_self, Bool.true_and, Nat.reduceMul, Int.reduceEq, Int.reduceLT, decide_eq_true_eq, Nat.lt_add_one, Int.ofNat_zero, Int.zero_add, Nat.zero_lt_succ, Nat.lt_irrefl, reduceCtorEq, Option.some.injEq, ↓reduceIte, Int.natCast_zero, am_n0, am_n1, am_n2, am_n3, am_nc, am_tl, dX2_secondsOf_0, dX2_secondsOf_1, dX2_secondsOf_28, dX2_secondsOf_29, dX2_secondsOf_30, dX2_secondsOf_31, dX2_secondsOf_32, dX2_secondsOf_33, dX2_secondsOf_34, dX2_secondsOf_35, am_iconst_1, am_iconst_2, am_iconst_3, am_iconst_4, sh_None]
    sorry
  next => exact hT.elim
theorem C_X2_secondsOf : am_ctr yX2_secondsOf cX2_secondsOf 1 (some .int) 0 0 sh_None [none] T_X2_secondsOf := am_mk (by decide) (Or.inr (Or.inl ⟨rfl, rfl⟩)) (by decide) (by decide) (by decide) fl_X2_ok kc_X2_ok ck_X2_secondsOf B_X2_secondsOf
def cs_X4_has : Nat → List am_V → am_D → am_K → Prop := am_cs []
theorem ck_X4_has : ∀ X : am_X, am_cx X RX4 cX4_has 2 0 0 → ∀ pc, am_csok X 2 sh_Road pc (cs_X4_has pc) := fun X hX => am_cs_ok (fun _ h => absurd h List.not_mem_nil)
abbrev ok_X4_has (X : am_X) (K : List Int32 → am_D → Prop) : Prop := am_ok X RX4 cX4_has 2 sh_Road fl_X4 kc_X4 none 2 cs_X4_has K
abbrev aw_X4_has (X : am_X) (pc : Nat) (ls : am_L) (st : List am_V) (D : am_D) : Prop := am_aw X 2 sh_Road pc ls st D
def T_X4_has : am_TT := fun is D K => match is, D with
  | [x], .inl [cars, _, _] :: _ => K [if 0 ≤ x ∧ x < cars then 1 else 0] D
  | _, _ => False
theorem B_X4_has : ∀ (X : am_X) (is : List Int32) (D : am_D) (K : List Int32 → am_D → Prop), ok_X4_has X K → T_X4_has is D K → is.length = (List.filter Option.isNone ([some 0, none] : List (Option Nat))).length → D.length = sh_Road.length → am_aw X 2 sh_Road 0 (am_l0 2 [some 0, none] is) [] D := by
  intro X is D K O hT _ hD
  unfold T_X4_has at hT
  split at hT
  next x cars board wave r =>
    refine am_run O (fun _ => false) 12 ?_
    simp only [am_wp, am_ex, am_in, am_p1, am_p2, am_v1, am_v2, am_pr, am_pir, am_piir, am_li, am_la, am_sl, am_gf, am_pf, am_ra, am_wa, am_al, am_kc, am_j, am_if, am_sw, am_lk, am_tb, am_site, am_ag, am_put, am_l0, List.getElem?_cons_zero, List.getElem?_cons_succ, List.getElem?_nil, List.set_cons_zero, List.set_cons_succ, List.getD_cons_zero, List.getD_cons_succ, List.map_cons, List.map_nil, List.take_succ_cons, List.take_zero, List.drop_succ_cons, List.drop_zero, List.drop_nil, List.take_nil, List.reverse_cons, List.reverse_nil, List.nil_append, List.cons_append, List.length_cons, List.length_nil, Option.map_some, Option.map_none, Nat.reduceAdd, Nat.reduceSub, Nat.reduceLT, Nat.reduceLeDiff, Nat.reduceEqDiff, Int.reduceAdd, Int.reduceLE, Int.reduceToNat, Int.reduceNeg, Int.reduceSub, Nat.reduceBEq, Bool.or_false, Bool.false_or, Bool.or_true, Bool.true_or, Bool.or_self, ge_iff_le, true_and, and_true, ite_true, ite_false, and_self, Fin.isValue, List.replicate_succ, List.replicate_zero, List.all_cons, List.all_nil, List.zip_cons_cons, List.zip_nil_right, List.zip_nil_left, decide_true, Bool.and_true, Bool.and_self, Bool.true_and, Nat.reduceMul, Int.reduceEq, Int.reduceLT, decide_eq_true_eq, Nat.lt_add_one, Int.ofNat_zero, Int.zero_add, Nat.zero_lt_succ, Nat.lt_irrefl, reduceCtorEq, Option.some.injEq, ↓reduceIte, Int.natCast_zero, am_n0, am_n1, am_n2, am_n3, am_nc, am_tl, dX4_has_0, dX4_has_1, dX4_has_4, dX4_has_5, dX4_has_6, dX4_has_9, dX4_has_12, dX4_has_13, dX4_has_16, dX4_has_17, fl_X4_9, am_iconst_0, am_iconst_1, sh_Road]
    sorry
  next => exact hT.elim
theorem C_X4_has : am_ctr yX4_has cX4_has 2 (some .boolean) 0 0 sh_Road [some 0, none] T_X4_has := am_mk (by decide) (Or.inr (Or.inr ⟨rfl, rfl⟩)) (by decide) (by decide) (by decide) fl_X4_ok kc_X4_ok ck_X4_has B_X4_has
def cs_X4_areTwo : Nat → List am_V → am_D → am_K → Prop := am_cs [(2, am_site 2 [some 0, none] T_X4_has [0, 1, 2, 3, 4, 5] [0, 1, 2, 3, 4, 5]), (10, am_site 2 [some 0, none] T_X4_has [0, 1, 2, 3, 4, 5] [0, 1, 2, 3, 4, 5])]
theorem cs_X4_areTwo_2 : cs_X4_areTwo 2 = am_site 2 [some 0, none] T_X4_has [0, 1, 2, 3, 4, 5] [0, 1, 2, 3, 4, 5] := rfl
theorem cs_X4_areTwo_10 : cs_X4_areTwo 10 = am_site 2 [some 0, none] T_X4_has [0, 1, 2, 3, 4, 5] [0, 1, 2, 3, 4, 5] := rfl
theorem ck_X4_areTwo : ∀ X : am_X, am_cx X RX4 cX4_areTwo 3 1 21 → ∀ pc, am_csok X 3 sh_Road pc (cs_X4_areTwo pc) := fun X hX => am_cs_ok (List.forall_mem_cons.mpr ⟨am_callV hX C_X4_has mo_X4_has rfl lk_X4_37 dX4_areTwo_2 rfl rfl rfl (by decide), List.forall_mem_cons.mpr ⟨am_callV hX C_X4_has mo_X4_has rfl lk_X4_37 dX4_areTwo_10 rfl rfl rfl (by decide), fun _ h => absurd h List.not_mem_nil⟩⟩)
abbrev ok_X4_areTwo (X : am_X) (K : List Int32 → am_D → Prop) : Prop := am_ok X RX4 cX4_areTwo 3 sh_Road fl_X4 kc_X4 none 2 cs_X4_areTwo K
abbrev aw_X4_areTwo (X : am_X) (pc : Nat) (ls : am_L) (st : List am_V) (D : am_D) : Prop := am_aw X 3 sh_Road pc ls st D
