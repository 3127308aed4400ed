/-! the class's own methods -/
def am_pq (D : am_D) : List Nat → Option am_D
  | [] => some []
  | p :: e => match D[p]?, am_pq D e with
    | some c, some r => some (c :: r)
    | _, _ => none
theorem am_pq_eq {D : am_D} : ∀ (e : List Nat) (r : am_D), am_pq D e = some r → r = e.map (fun p => D.getD p (.inl [])) ∧ ∀ (j p : Nat), e[j]? = some p → D[p]? = r[j]?
  | [], r, h => by cases h; exact ⟨rfl, fun j p h => by simp at h⟩
  | p :: e, r, h => by
    unfold am_pq at h
    cases hd : D[p]? with
    | none => rw [hd] at h; cases h
    | some d =>
      cases hr : am_pq D e with
      | none => rw [hd, hr] at h; cases h
      | some r' =>
        rw [hd, hr] at h
        cases h
        obtain ⟨a1, a2⟩ := am_pq_eq e r' hr
        refine ⟨?_, fun j z hj => ?_⟩
        · rw [List.map_cons, ← a1]
          congr 1
          rw [List.getD_eq_getElem?_getD, hd]
          rfl
        · cases j with
          | zero => cases hj; exact hd
          | succ j => exact a2 j z hj
theorem am_siq {n : Nat} {pat : List (Option Nat)} {T : am_TT} {e fe : List Nat} {k : am_K} {as rest st : List am_V} {is : List Int32} {D D0 : am_D} (ha : am_fzs (st.take n).reverse = some as) (hag : am_ag fe pat as = some is) (hr : am_fzs (st.drop n) = some rest) (h8 : rest.length ≤ 8) (hp : am_pq D e = some D0) (hT : T is D0 (fun rs d => k (rs.map .inl ++ rest) (am_put e d D))) : am_site n pat T e fe st D k := by
  rw [am_fzs_eq _ _ ha] at hag
  rw [am_fzs_eq _ _ hr] at hT h8
  rw [(am_pq_eq e D0 hp).1] at hT
  unfold am_site
  rw [hag]
  exact ⟨h8, hT⟩
theorem am_sipq {n : Nat} {pat : List (Option Nat)} {F : List Int32 → am_D → Int32 → Prop} {e fe : List Nat} {k : am_K} {as rest st : List am_V} {is : List Int32} {D D0 : am_D} {r : Int32} (ha : am_fzs (st.take n).reverse = some as) (hag : am_ag fe pat as = some is) (hr : am_fzs (st.drop n) = some rest) (h8 : rest.length ≤ 8) (hp : am_pq D e = some D0) (hF : F is D0 r) (hk : k (.inl r :: rest) D) : am_site n pat (am_pure F) e fe st D k := by
  refine am_siq ha hag hr h8 hp ⟨r, hF, ?_⟩
  show k (.inl r :: rest) (am_put e D0 D)
  rw [am_put_self e D0 (am_pq_eq e D0 hp).2]
  exact hk
abbrev sh_VR : am_S := [.inr (5, [.inr 2, .inr 3, .inl 0, .inr 4, .inr 5, .inl 1, .inr 1, .inr 6, .inr 7, .inr 8, .inr 9]), .inl 7]
abbrev sh_VN : am_S := [.inr (5, [.inr 1, .inr 8, .inl 0, .inr 9, .inr 10, .inl 1, .inr 7, .inr 11, .inr 12, .inr 13, .inr 14]), .inr (3, [.inl 0, .inl 1, .inl 2, .inr 2, .inr 3, .inr 4, .inr 5, .inr 6]), .inl 9, .inl 9, .inl 9, .inl 9, .inl 9, .inl 7]
abbrev sh_VT : am_S := [.inr (5, [.inr 4, .inr 5, .inl 0, .inr 1, .inr 6, .inl 1, .inr 3, .inr 7, .inr 8, .inr 9, .inr 10]), .inr (4, [.inl 0, .inr 2]), .inl 96, .inl 7]
abbrev sh_VO : am_S := [.inr (5, [.inr 1, .inr 15, .inl 0, .inr 7, .inr 16, .inl 1, .inr 17, .inr 9, .inr 18, .inr 19, .inr 20]), .inr (3, [.inl 0, .inl 1, .inl 2, .inr 2, .inr 3, .inr 4, .inr 5, .inr 6]), .inl 9, .inl 9, .inl 9, .inl 9, .inl 9, .inr (4, [.inl 0, .inr 8]), .inl 96, .inr (3, [.inl 0, .inl 1, .inl 2, .inr 10, .inr 11, .inr 12, .inr 13, .inr 14]), .inl 9, .inl 9, .inl 9, .inl 9, .inl 9]
abbrev sh_VP : am_S := [.inr (5, [.inr 1, .inr 14, .inl 0, .inr 15, .inr 16, .inl 1, .inr 7, .inr 17, .inr 8, .inr 18, .inr 19]), .inr (3, [.inl 0, .inl 1, .inl 2, .inr 2, .inr 3, .inr 4, .inr 5, .inr 6]), .inl 9, .inl 9, .inl 9, .inl 9, .inl 9, .inl 7, .inr (2, [.inr 9, .inr 10, .inr 11, .inl 0, .inl 1, .inr 12, .inr 13, .inl 2, .inl 3, .inl 4, .inl 5, .inl 6, .inl 7, .inl 8]), .inl 9, .inl 9, .inl 9, .inl 9, .inl 9]
abbrev sh_VC : am_S := [.inr (5, [.inr 1, .inr 21, .inl 0, .inr 22, .inr 23, .inl 1, .inr 7, .inr 24, .inr 25, .inr 8, .inr 26]), .inr (3, [.inl 0, .inl 1, .inl 2, .inr 2, .inr 3, .inr 4, .inr 5, .inr 6]), .inl 9, .inl 9, .inl 9, .inl 9, .inl 9, .inl 7, .inr (0, [.inr 9, .inr 15]), .inr (3, [.inl 0, .inl 1, .inl 2, .inr 10, .inr 11, .inr 12, .inr 13, .inr 14]), .inl 9, .inl 9, .inl 9, .inl 9, .inl 9, .inr (2, [.inr 16, .inr 17, .inr 18, .inl 0, .inl 1, .inr 19, .inr 20, .inl 2, .inl 3, .inl 4, .inl 5, .inl 6, .inl 7, .inl 8]), .inl 9, .inl 9, .inl 9, .inl 9, .inl 9]
abbrev sh_VH : am_S := [.inr (5, [.inr 1, .inr 23, .inl 0, .inr 24, .inr 25, .inl 1, .inr 7, .inr 26, .inr 27, .inr 28, .inr 8]), .inr (3, [.inl 0, .inl 1, .inl 2, .inr 2, .inr 3, .inr 4, .inr 5, .inr 6]), .inl 9, .inl 9, .inl 9, .inl 9, .inl 9, .inl 7, .inr (1, [.inr 9, .inr 15, .inr 21, .inr 22, .inl 0]), .inr (3, [.inl 0, .inl 1, .inl 2, .inr 10, .inr 11, .inr 12, .inr 13, .inr 14]), .inl 9, .inl 9, .inl 9, .inl 9, .inl 9, .inr (2, [.inr 16, .inr 17, .inr 18, .inl 0, .inl 1, .inr 19, .inr 20, .inl 2, .inl 3, .inl 4, .inl 5, .inl 6, .inl 7, .inl 8]), .inl 9, .inl 9, .inl 9, .inl 9, .inl 9, .inl 4, .inl 4]
abbrev sh_VU : am_S := [.inr (5, [.inr 1, .inr 21, .inl 0, .inr 22, .inr 7, .inl 1, .inr 8, .inr 9, .inr 15, .inr 23, .inr 24]), .inr (3, [.inl 0, .inl 1, .inl 2, .inr 2, .inr 3, .inr 4, .inr 5, .inr 6]), .inl 9, .inl 9, .inl 9, .inl 9, .inl 9, .inl 12, .inl 7, .inr (3, [.inl 0, .inl 1, .inl 2, .inr 10, .inr 11, .inr 12, .inr 13, .inr 14]), .inl 9, .inl 9, .inl 9, .inl 9, .inl 9, .inr (2, [.inr 16, .inr 17, .inr 18, .inl 0, .inl 1, .inr 19, .inr 20, .inl 2, .inl 3, .inl 4, .inl 5, .inl 6, .inl 7, .inl 8]), .inl 9, .inl 9, .inl 9, .inl 9, .inl 9]
abbrev sh_VQ : am_S := [.inr (5, [.inr 3, .inr 4, .inl 0, .inr 5, .inr 1, .inl 1, .inr 2, .inr 6, .inr 7, .inr 8, .inr 9]), .inl 12, .inl 7]
abbrev sh_VK : am_S := [.inr (5, [.inr 1, .inr 7, .inl 0, .inr 14, .inr 15, .inl 1, .inr 13, .inr 16, .inr 17, .inr 18, .inr 19]), .inr (3, [.inl 0, .inl 1, .inl 2, .inr 2, .inr 3, .inr 4, .inr 5, .inr 6]), .inl 9, .inl 9, .inl 9, .inl 9, .inl 9, .inr (3, [.inl 0, .inl 1, .inl 2, .inr 8, .inr 9, .inr 10, .inr 11, .inr 12]), .inl 9, .inl 9, .inl 9, .inl 9, .inl 9, .inl 7]
abbrev sh_VZ : am_S := [.inr (5, [.inr 1, .inr 10, .inl 0, .inr 7, .inr 11, .inl 1, .inr 9, .inr 12, .inr 13, .inr 14, .inr 15]), .inr (3, [.inl 0, .inl 1, .inl 2, .inr 2, .inr 3, .inr 4, .inr 5, .inr 6]), .inl 9, .inl 9, .inl 9, .inl 9, .inl 9, .inr (4, [.inl 0, .inr 8]), .inl 96, .inl 7]
/-- a method over a part V of the world; what V doesn't tell (o) stays as it is -/
def am_v0 {α : Type} (V : α → Sg → am_D → Prop) (f : Sg → Int32 × Sg) : am_TT := fun is D K => ∃ o σ, V o σ D ∧ is = [] ∧ ∀ D', V o (f σ).2 D' → K [(f σ).1] D'
def am_v1f {α : Type} (V : α → Sg → am_D → Prop) (f : Int32 → Sg → Int32 × Sg) : am_TT := fun is D K => ∃ o σ a, V o σ D ∧ is = [a] ∧ ∀ D', V o (f a σ).2 D' → K [(f a σ).1] D'
def am_v2f {α : Type} (V : α → Sg → am_D → Prop) (f : Int32 → Int32 → Sg → Int32 × Sg) : am_TT := fun is D K => ∃ o σ a b, V o σ D ∧ is = [a, b] ∧ ∀ D', V o (f a b σ).2 D' → K [(f a b σ).1] D'
def am_v3f {α : Type} (V : α → Sg → am_D → Prop) (f : Int32 → Int32 → Int32 → Sg → Int32 × Sg) : am_TT := fun is D K => ∃ o σ a b c, V o σ D ∧ is = [a, b, c] ∧ ∀ D', V o (f a b c σ).2 D' → K [(f a b c σ).1] D'
def cs_X6_refuse : Nat → List am_V → am_D → am_K → Prop := am_cs []
theorem ck_X6_refuse : ∀ X : am_X, am_cx X RX6 cX6_refuse 2 0 0 → ∀ pc, am_csok X 2 sh_VR pc (cs_X6_refuse pc) := fun X hX => am_cs_ok (fun _ h => absurd h List.not_mem_nil)
abbrev ok_X6_refuse (X : am_X) (K : List Int32 → am_D → Prop) : Prop := am_ok X RX6 cX6_refuse 2 sh_VR fl_X6 kc_X6 none 1 cs_X6_refuse K
abbrev aw_X6_refuse (X : am_X) (pc : Nat) (ls : am_L) (st : List am_V) (D : am_D) : Prop := am_aw X 2 sh_VR pc ls st D
abbrev T_X6_refuse : am_TT := fun is D K => ∃ xs rf k, 1 ≤ k ∧ k ≤ 6 ∧ is = [-(nI k)] ∧ D = [.inl xs, .inr rf] ∧ K [-(nI k)] [.inl xs, .inr (upd rf k (rf k + 1))]
theorem rf_tab : ∀ k, k < 7 → 1 ≤ k → ¬ 0 ≤ -(nI k) ∧ ¬ -(nI k) < -6 ∧ - -(nI k) = nI k := by decide +kernel
theorem B_X6_refuse : ∀ (X : am_X) (is : List Int32) (D : am_D) (K : List Int32 → am_D → Prop), ok_X6_refuse X K → T_X6_refuse is D K → is.length = (List.filter Option.isNone ([some 0, none] : List (Option Nat))).length → D.length = sh_VR.length → am_aw X 2 sh_VR 0 (am_l0 2 [some 0, none] is) [] D := by
  intro X is D K O hT _ _
  obtain ⟨xs, rf, k, h1, h6, rfl, rfl, hK⟩ := hT
  obtain ⟨g1, g2, g3⟩ := rf_tab k (by omega) h1
  refine am_begin rfl ?_
  refine st_iloadn O dX6_refuse_0 rfl (q := 1) rfl ?_
  refine st_if_ge O dX6_refuse_1 (t := 21) rfl (q := 4) rfl (fun c1 => ?_) (fun c1 => ?_)
  · exact absurd c1 g1
  refine st_iloadn O dX6_refuse_4 rfl (q := 5) rfl ?_
  refine st_bipush O dX6_refuse_5 am_bipush_m6 (q := 7) rfl ?_
  refine st_icmp_lt O dX6_refuse_7 (t := 21) rfl (q := 10) rfl (fun c7 => ?_) (fun c7 => ?_)
  · exact absurd c7 g2
  refine st_aloadn O dX6_refuse_10 rfl (q := 11) rfl ?_
  refine st_getr O dX6_refuse_11 fl_X6_38 rfl rfl rfl (q := 14) rfl ?_
  refine st_iloadn O dX6_refuse_14 rfl (q := 15) rfl ?_
  refine st_ineg O dX6_refuse_15 g3 (q := 16) rfl ?_
  refine st_dup2 O dX6_refuse_16 (q := 17) rfl ?_
  refine sn_ald O dX6_refuse_17 rfl rfl rfl ⟨by omega, by decide⟩ rfl (q := 18) rfl ?_
  refine st_iconst O dX6_refuse_18 am_iconst_1 (q := 19) rfl ?_
  refine st_iadd O dX6_refuse_19 rfl (q := 20) rfl ?_
  refine sn_ast O dX6_refuse_20 rfl rfl rfl ⟨by omega, by decide⟩ rfl rfl (q := 21) rfl ?_
  refine st_iloadn O dX6_refuse_21 rfl (q := 22) rfl ?_
  refine st_ireturn O dX6_refuse_22 ?_
  exact hK
theorem C_X6_refuse : am_ctr yX6_refuse cX6_refuse 2 (some .int) 0 0 sh_VR [some 0, none] T_X6_refuse := am_mk (by decide) (Or.inr (Or.inl ⟨rfl, rfl⟩)) (by decide) (by decide) (by decide) fl_X6_ok kc_X6_ok ck_X6_refuse B_X6_refuse
/-- the letters -/
def V_T (o : Int32) (σ : Sg) (D : am_D) : Prop := ∃ t0 t1, D = [.inl [o, nI σ.2.2.2.1.length], t0, t1, .inr σ.2.2.2.2] ∧ tX σ.2.2.1 [t0, t1]
def cs_X6_letter : Nat → List am_V → am_D → am_K → Prop := am_cs [(7, am_site 2 [some 0, none] T_X6_refuse [0, 3] [0, 3, 4, 5, 1, 6, 7, 8, 9, 10]), (22, am_site 1 [some 0] T_X5_isFull [1, 2] [1, 2]), (31, am_site 2 [some 0, none] T_X6_refuse [0, 3] [0, 3, 4, 5, 1, 6, 7, 8, 9, 10]), (40, am_site 2 [some 0, none] T_X5_append [1, 2] [1, 2])]
theorem cs_X6_letter_7 : cs_X6_letter 7 = am_site 2 [some 0, none] T_X6_refuse [0, 3] [0, 3, 4, 5, 1, 6, 7, 8, 9, 10] := rfl
theorem cs_X6_letter_22 : cs_X6_letter 22 = am_site 1 [some 0] T_X5_isFull [1, 2] [1, 2] := rfl
theorem cs_X6_letter_31 : cs_X6_letter 31 = am_site 2 [some 0, none] T_X6_refuse [0, 3] [0, 3, 4, 5, 1, 6, 7, 8, 9, 10] := rfl
theorem cs_X6_letter_40 : cs_X6_letter 40 = am_site 2 [some 0, none] T_X5_append [1, 2] [1, 2] := rfl
theorem ck_X6_letter : ∀ X : am_X, am_cx X RX6 cX6_letter 2 2 41 → ∀ pc, am_csok X 2 sh_VT pc (cs_X6_letter pc) := fun X hX => am_cs_ok (List.forall_mem_cons.mpr ⟨am_callV hX C_X6_refuse mo_X6_refuse rfl lk_X6_65 dX6_letter_7 rfl rfl rfl (by decide), List.forall_mem_cons.mpr ⟨am_callV hX C_X5_isFull mo_X5_isFull rfl lk_X6_69 dX6_letter_22 rfl rfl rfl (by decide), List.forall_mem_cons.mpr ⟨am_callV hX C_X6_refuse mo_X6_refuse rfl lk_X6_65 dX6_letter_31 rfl rfl rfl (by decide), List.forall_mem_cons.mpr ⟨am_callV hX C_X5_append mo_X5_append rfl lk_X6_73 dX6_letter_40 rfl rfl rfl (by decide), fun _ h => absurd h List.not_mem_nil⟩⟩⟩⟩)
abbrev ok_X6_letter (X : am_X) (K : List Int32 → am_D → Prop) : Prop := am_ok X RX6 cX6_letter 2 sh_VT fl_X6 kc_X6 none 1 cs_X6_letter K
abbrev aw_X6_letter (X : am_X) (pc : Nat) (ls : am_L) (st : List am_V) (D : am_D) : Prop := am_aw X 2 sh_VT pc ls st D
abbrev T_X6_letter : am_TT := am_v1f V_T f_letter
theorem B_X6_letter : ∀ (X : am_X) (is : List Int32) (D : am_D) (K : List Int32 → am_D → Prop), ok_X6_letter X K → T_X6_letter is D K → is.length = (List.filter Option.isNone ([some 0, none] : List (Option Nat))).length → D.length = sh_VT.length → am_aw X 2 sh_VT 0 (am_l0 2 [some 0, none] is) [] D := by
  intro X is D K O hT _ _
  obtain ⟨o, σ, a, ⟨t0, t1, rfl, ht⟩, rfl, hK⟩ := hT
  obtain ⟨f, e, hl, hf, hc⟩ := id ht
  cases e
  rcases Nat.lt_or_ge σ.2.2.1.length 96 with h96 | h96
  · refine am_begin rfl ?_
    refine st_iloadn O dX6_letter_0 rfl (q := 1) rfl ?_
    refine st_if_ge O dX6_letter_1 (t := 11) rfl (q := 4) rfl (fun c1 => ?_) (fun c1 => ?_)
    · refine st_iloadn O dX6_letter_11 rfl (q := 12) rfl ?_
      refine st_sipush O dX6_letter_12 am_sipush_255 (q := 15) rfl ?_
      refine st_icmp_gt O dX6_letter_15 (t := 28) rfl (q := 18) rfl (fun c15 => ?_) (fun c15 => ?_)
      · refine st_aloadn O dX6_letter_28 rfl (q := 29) rfl ?_
        refine st_bipush O dX6_letter_29 am_bipush_m6 (q := 31) rfl ?_
        refine st_call O dX6_letter_31 cs_X6_letter_31 (q := 34) rfl (am_siq rfl rfl rfl (Nat.le_of_ble_eq_true rfl) rfl ?_)
        refine ⟨_, _, 6, by decide, by decide, rfl, rfl, ?_⟩
        refine am_nrq rfl rfl ?_
        rw [show f_letter a σ = rfs 6 σ from (if_pos c1).trans (if_pos c15)] at hK
        exact st_ireturn O dX6_letter_34 (hK _ ⟨_, _, rfl, ht⟩)
      refine st_aloadn O dX6_letter_18 rfl (q := 19) rfl ?_
      refine st_getr O dX6_letter_19 fl_X6_26 rfl rfl rfl (q := 22) rfl ?_
      refine st_call O dX6_letter_22 cs_X6_letter_22 (q := 25) rfl (am_sipq rfl rfl rfl (Nat.le_of_ble_eq_true rfl) rfl (r := 0) ⟨_, ht, rfl, by rw [decide_eq_false (by omega)]; rfl⟩ ?_)
      refine st_if_eq O dX6_letter_25 (t := 35) rfl (q := 28) rfl (fun c25 => ?_) (fun c25 => ?_)
      · refine st_aloadn O dX6_letter_35 rfl (q := 36) rfl ?_
        refine st_getr O dX6_letter_36 fl_X6_26 rfl rfl rfl (q := 39) rfl ?_
        refine st_iloadn O dX6_letter_39 rfl (q := 40) rfl ?_
        refine st_call O dX6_letter_40 cs_X6_letter_40 (q := 43) rfl (am_siq rfl rfl rfl (Nat.le_of_ble_eq_true rfl) rfl ?_)
        obtain ⟨j, hj, rfl⟩ := nI_of (Int32.not_lt.mpr c1)
        have h255 : ¬ 255 < j := fun z => c15 ((nI_ltI (by decide) hj).mpr z)
        rw [show f_letter (nI j) σ = (nI (σ.2.2.1.length + 1), (σ.1, σ.2.1, σ.2.2.1 ++ [(nI j).toNatClampNeg], σ.2.2.2)) from (if_pos c1).trans ((if_neg c15).trans (if_neg (by omega))), nI_clamp hj] at hK
        refine ⟨_, j, ht, rfl, by omega, h96, fun D' ht' => ?_⟩
        have hK := fun x y e => hK [.inl [o, nI σ.2.2.2.1.length], x, y, .inr σ.2.2.2.2] ⟨x, y, rfl, e⟩
        obtain ⟨f', rfl, -⟩ := id ht'
        refine am_nrq rfl rfl ?_
        refine st_ireturn O dX6_letter_43 ?_
        exact hK _ _ ht'
      exact absurd c25 (by decide)
    refine st_aloadn O dX6_letter_4 rfl (q := 5) rfl ?_
    refine st_bipush O dX6_letter_5 am_bipush_m4 (q := 7) rfl ?_
    refine st_call O dX6_letter_7 cs_X6_letter_7 (q := 10) rfl (am_siq rfl rfl rfl (Nat.le_of_ble_eq_true rfl) rfl ?_)
    refine ⟨_, _, 4, by decide, by decide, rfl, rfl, ?_⟩
    refine am_nrq rfl rfl ?_
    rw [show f_letter a σ = rfs 4 σ from if_neg c1] at hK
    exact st_ireturn O dX6_letter_10 (hK _ ⟨_, _, rfl, ht⟩)
  · refine am_begin rfl ?_
    refine st_iloadn O dX6_letter_0 rfl (q := 1) rfl ?_
    refine st_if_ge O dX6_letter_1 (t := 11) rfl (q := 4) rfl (fun c1 => ?_) (fun c1 => ?_)
    · refine st_iloadn O dX6_letter_11 rfl (q := 12) rfl ?_
      refine st_sipush O dX6_letter_12 am_sipush_255 (q := 15) rfl ?_
      refine st_icmp_gt O dX6_letter_15 (t := 28) rfl (q := 18) rfl (fun c15 => ?_) (fun c15 => ?_)
      · refine st_aloadn O dX6_letter_28 rfl (q := 29) rfl ?_
        refine st_bipush O dX6_letter_29 am_bipush_m6 (q := 31) rfl ?_
        refine st_call O dX6_letter_31 cs_X6_letter_31 (q := 34) rfl (am_siq rfl rfl rfl (Nat.le_of_ble_eq_true rfl) rfl ?_)
        refine ⟨_, _, 6, by decide, by decide, rfl, rfl, ?_⟩
        refine am_nrq rfl rfl ?_
        rw [show f_letter a σ = rfs 6 σ from (if_pos c1).trans (by first | exact if_pos c15 | exact (if_neg c15).trans (if_pos h96))] at hK
        exact st_ireturn O dX6_letter_34 (hK _ ⟨_, _, rfl, ht⟩)
      refine st_aloadn O dX6_letter_18 rfl (q := 19) rfl ?_
      refine st_getr O dX6_letter_19 fl_X6_26 rfl rfl rfl (q := 22) rfl ?_
      refine st_call O dX6_letter_22 cs_X6_letter_22 (q := 25) rfl (am_sipq rfl rfl rfl (Nat.le_of_ble_eq_true rfl) rfl (r := 1) ⟨_, ht, rfl, by rw [decide_eq_true h96]; rfl⟩ ?_)
      refine st_if_eq O dX6_letter_25 (t := 35) rfl (q := 28) rfl (fun c25 => ?_) (fun c25 => ?_)
      · exact absurd c25 (by decide)
      refine st_aloadn O dX6_letter_28 rfl (q := 29) rfl ?_
      refine st_bipush O dX6_letter_29 am_bipush_m6 (q := 31) rfl ?_
      refine st_call O dX6_letter_31 cs_X6_letter_31 (q := 34) rfl (am_siq rfl rfl rfl (Nat.le_of_ble_eq_true rfl) rfl ?_)
      refine ⟨_, _, 6, by decide, by decide, rfl, rfl, ?_⟩
      refine am_nrq rfl rfl ?_
      rw [show f_letter a σ = rfs 6 σ from (if_pos c1).trans (by first | exact if_pos c15 | exact (if_neg c15).trans (if_pos h96))] at hK
      exact st_ireturn O dX6_letter_34 (hK _ ⟨_, _, rfl, ht⟩)
    refine st_aloadn O dX6_letter_4 rfl (q := 5) rfl ?_
    refine st_bipush O dX6_letter_5 am_bipush_m4 (q := 7) rfl ?_
    refine st_call O dX6_letter_7 cs_X6_letter_7 (q := 10) rfl (am_siq rfl rfl rfl (Nat.le_of_ble_eq_true rfl) rfl ?_)
    refine ⟨_, _, 4, by decide, by decide, rfl, rfl, ?_⟩
    refine am_nrq rfl rfl ?_
    rw [show f_letter a σ = rfs 4 σ from if_neg c1] at hK
    exact st_ireturn O dX6_letter_10 (hK _ ⟨_, _, rfl, ht⟩)
theorem C_X6_letter : am_ctr yX6_letter cX6_letter 2 (some .int) 2 41 sh_VT [some 0, none] T_X6_letter := am_mk (by decide) (Or.inr (Or.inl ⟨rfl, rfl⟩)) (by decide) (by decide) (by decide) fl_X6_ok kc_X6_ok ck_X6_letter B_X6_letter
/-- the road, the letters, the road tried -/
def V_O (o : Int32) (σ : Sg) (D : am_D) : Prop := ∃ n0 n1 n2 n3 n4 n5 t0 t1 r0 r1 r2 r3 r4 r5, D = [.inl [o, nI σ.2.2.2.1.length], n0, n1, n2, n3, n4, n5, t0, t1, r0, r1, r2, r3, r4, r5] ∧ rS σ.1 [n0, n1, n2, n3, n4, n5] ∧ tX σ.2.2.1 [t0, t1] ∧ rF [r0, r1, r2, r3, r4, r5]
def cs_X6_road : Nat → List am_V → am_D → am_K → Prop := am_cs [(12, am_site 3 [some 0, some 2, some 8] T_X5_tellTo [7, 8, 1, 2, 3, 4, 5, 6, 9, 10, 11, 12, 13, 14] [7, 8, 1, 2, 3, 4, 5, 6, 9, 10, 11, 12, 13, 14]), (20, am_site 1 [some 0] T_X5_empty [7, 8] [7, 8])]
theorem cs_X6_road_12 : cs_X6_road 12 = am_site 3 [some 0, some 2, some 8] T_X5_tellTo [7, 8, 1, 2, 3, 4, 5, 6, 9, 10, 11, 12, 13, 14] [7, 8, 1, 2, 3, 4, 5, 6, 9, 10, 11, 12, 13, 14] := rfl
theorem cs_X6_road_20 : cs_X6_road 20 = am_site 1 [some 0] T_X5_empty [7, 8] [7, 8] := rfl
theorem ck_X6_road : ∀ X : am_X, am_cx X RX6 cX6_road 2 8 184 → ∀ pc, am_csok X 2 sh_VO pc (cs_X6_road pc) := fun X hX => am_cs_ok (List.forall_mem_cons.mpr ⟨am_callV hX C_X5_tellTo mo_X5_tellTo rfl lk_X6_76 dX6_road_12 rfl rfl rfl (by decide), List.forall_mem_cons.mpr ⟨am_callV hX C_X5_empty mo_X5_empty rfl lk_X6_80 dX6_road_20 rfl rfl rfl (by decide), fun _ h => absurd h List.not_mem_nil⟩⟩)
abbrev ok_X6_road (X : am_X) (K : List Int32 → am_D → Prop) : Prop := am_ok X RX6 cX6_road 2 sh_VO fl_X6 kc_X6 none 1 cs_X6_road K
abbrev aw_X6_road (X : am_X) (pc : Nat) (ls : am_L) (st : List am_V) (D : am_D) : Prop := am_aw X 2 sh_VO pc ls st D
abbrev T_X6_road : am_TT := am_v0 V_O f_road
theorem B_X6_road : ∀ (X : am_X) (is : List Int32) (D : am_D) (K : List Int32 → am_D → Prop), ok_X6_road X K → T_X6_road is D K → is.length = (List.filter Option.isNone ([some 0] : List (Option Nat))).length → D.length = sh_VO.length → am_aw X 2 sh_VO 0 (am_l0 2 [some 0] is) [] D := by
  intro X is D K O hT _ _
  obtain ⟨o, σ, ⟨n0, n1, n2, n3, n4, n5, t0, t1, r0, r1, r2, r3, r4, r5, rfl, hn, ht, hr⟩, rfl, hK⟩ := hT
  obtain ⟨f, e, hl, hf, hc⟩ := id ht
  cases e
  obtain ⟨kk, ff, ll, hh, ii, e, -⟩ := id hn
  cases e
  obtain ⟨a1, a2, a3, k1, f1, l1, h1, i1, e⟩ := id hr
  cases e
  refine am_begin rfl ?_
  refine st_aloadn O dX6_road_0 rfl (q := 1) rfl ?_
  refine st_getr O dX6_road_1 fl_X6_26 rfl rfl rfl (q := 4) rfl ?_
  refine st_aloadn O dX6_road_4 rfl (q := 5) rfl ?_
  refine st_getr O dX6_road_5 fl_X6_10 rfl rfl rfl (q := 8) rfl ?_
  refine st_aloadn O dX6_road_8 rfl (q := 9) rfl ?_
  refine st_getr O dX6_road_9 fl_X6_41 rfl rfl rfl (q := 12) rfl ?_
  refine st_call O dX6_road_12 cs_X6_road_12 (q := 15) rfl (am_siq rfl rfl rfl (Nat.le_of_ble_eq_true rfl) rfl ?_)
  refine ⟨_, σ.1, [_, _], [_, _, _, _, _, _], [_, _, _, _, _, _], rfl, rfl, ht, hn, hr, fun d2 d3 h2 h3 => ?_⟩
  obtain ⟨kk, ff, ll, hh, ii, rfl, -⟩ := id h2
  obtain ⟨a1, a2, a3, k1, f1, l1, h1, i1, rfl⟩ := id h3
  refine am_nrq rfl rfl ?_
  refine st_istoren O dX6_road_15 rfl (q := 16) rfl ?_
  refine st_aloadn O dX6_road_16 rfl (q := 17) rfl ?_
  refine st_getr O dX6_road_17 fl_X6_26 rfl rfl rfl (q := 20) rfl ?_
  refine st_call O dX6_road_20 cs_X6_road_20 (q := 23) rfl (am_siq rfl rfl rfl (Nat.le_of_ble_eq_true rfl) rfl ?_)
  refine ⟨_, ht, rfl, fun d1 h1 => ?_⟩
  have hK := fun x y e => hK [.inl [o, nI σ.2.2.2.1.length], _, _, _, _, _, _, x, y, _, _, _, _, _, _] ⟨_, _, _, _, _, _, x, y, _, _, _, _, _, _, rfl, h2, e, h3⟩
  obtain ⟨f', rfl, -⟩ := id h1
  refine am_nrq rfl rfl ?_
  refine st_iloadn O dX6_road_23 rfl (q := 24) rfl ?_
  refine st_ireturn O dX6_road_24 ?_
  exact hK _ _ h1
theorem C_X6_road : am_ctr yX6_road cX6_road 2 (some .int) 8 184 sh_VO [some 0] T_X6_road := am_mk (by decide) (Or.inr (Or.inl ⟨rfl, rfl⟩)) (by decide) (by decide) (by decide) fl_X6_ok kc_X6_ok ck_X6_road B_X6_road
/-- the road -/
def V_N (o : Int32) (σ : Sg) (D : am_D) : Prop := ∃ n0 n1 n2 n3 n4 n5, D = [.inl [o, nI σ.2.2.2.1.length], n0, n1, n2, n3, n4, n5, .inr σ.2.2.2.2] ∧ rS σ.1 [n0, n1, n2, n3, n4, n5]
theorem of_lt {n j : Nat} {c : Int32} (h : ¬ c < 0) (h2 : ¬ nI n < c) (hn : n < 2 ^ 31) : ∃ v, v ≤ n ∧ c = nI v := by
  obtain ⟨j, hj, rfl⟩ := nI_of h
  exact ⟨j, Nat.le_of_not_lt (fun z => h2 ((nI_ltI hn hj).mpr z)), rfl⟩
def cs_X6_car : Nat → List am_V → am_D → am_K → Prop := am_cs [(5, am_site 2 [some 0, none] T_X4_has [1] [1, 2, 3, 4, 5, 6]), (13, am_site 2 [some 0, none] T_X6_refuse [0, 7] [0, 7, 1, 8, 9, 10, 11, 12, 13, 14]), (105, am_site 2 [some 0, none] T_X4_placeOf [1, 2, 3, 4, 5, 6] [1, 2, 3, 4, 5, 6]), (114, am_site 2 [some 0, none] T_X4_letsIn [1, 2, 3, 4, 5, 6] [1, 2, 3, 4, 5, 6]), (127, am_site 1 [none] T_X2_secondsOf [] []), (134, am_site 2 [some 0, none] T_X6_refuse [0, 7] [0, 7, 1, 8, 9, 10, 11, 12, 13, 14])]
theorem cs_X6_car_5 : cs_X6_car 5 = am_site 2 [some 0, none] T_X4_has [1] [1, 2, 3, 4, 5, 6] := rfl
theorem cs_X6_car_13 : cs_X6_car 13 = am_site 2 [some 0, none] T_X6_refuse [0, 7] [0, 7, 1, 8, 9, 10, 11, 12, 13, 14] := rfl
theorem cs_X6_car_105 : cs_X6_car 105 = am_site 2 [some 0, none] T_X4_placeOf [1, 2, 3, 4, 5, 6] [1, 2, 3, 4, 5, 6] := rfl
theorem cs_X6_car_114 : cs_X6_car 114 = am_site 2 [some 0, none] T_X4_letsIn [1, 2, 3, 4, 5, 6] [1, 2, 3, 4, 5, 6] := rfl
theorem cs_X6_car_127 : cs_X6_car 127 = am_site 1 [none] T_X2_secondsOf [] [] := rfl
theorem cs_X6_car_134 : cs_X6_car 134 = am_site 2 [some 0, none] T_X6_refuse [0, 7] [0, 7, 1, 8, 9, 10, 11, 12, 13, 14] := rfl
theorem ck_X6_car : ∀ X : am_X, am_cx X RX6 cX6_car 3 2 46 → ∀ pc, am_csok X 3 sh_VN pc (cs_X6_car pc) := fun X hX => am_cs_ok (List.forall_mem_cons.mpr ⟨am_callV hX C_X4_has mo_X4_has rfl lk_X6_83 dX6_car_5 rfl rfl rfl (by decide), List.forall_mem_cons.mpr ⟨am_callV hX C_X6_refuse mo_X6_refuse rfl lk_X6_65 dX6_car_13 rfl rfl rfl (by decide), List.forall_mem_cons.mpr ⟨am_callV hX C_X4_placeOf mo_X4_placeOf rfl lk_X6_99 dX6_car_105 rfl rfl rfl (by decide), List.forall_mem_cons.mpr ⟨am_callV hX C_X4_letsIn mo_X4_letsIn rfl lk_X6_102 dX6_car_114 rfl rfl rfl (by decide), List.forall_mem_cons.mpr ⟨am_callS hX C_X2_secondsOf mo_X2_secondsOf rfl lk_X6_105 dX6_car_127 rfl (by decide), List.forall_mem_cons.mpr ⟨am_callV hX C_X6_refuse mo_X6_refuse rfl lk_X6_65 dX6_car_134 rfl rfl rfl (by decide), fun _ h => absurd h List.not_mem_nil⟩⟩⟩⟩⟩⟩)
abbrev ok_X6_car (X : am_X) (K : List Int32 → am_D → Prop) : Prop := am_ok X RX6 cX6_car 3 sh_VN fl_X6 kc_X6 none 1 cs_X6_car K
abbrev aw_X6_car (X : am_X) (pc : Nat) (ls : am_L) (st : List am_V) (D : am_D) : Prop := am_aw X 3 sh_VN pc ls st D
abbrev T_X6_car : am_TT := am_v2f V_N f_car
theorem B_X6_car : ∀ (X : am_X) (is : List Int32) (D : am_D) (K : List Int32 → am_D → Prop), ok_X6_car X K → T_X6_car is D K → is.length = (List.filter Option.isNone ([some 0, none, none] : List (Option Nat))).length → D.length = sh_VN.length → am_aw X 3 sh_VN 0 (am_l0 3 [some 0, none, none] is) [] D := by
  intro X is D K O hT _ _
  obtain ⟨o, σ, a, b, ⟨n0, n1, n2, n3, n4, n5, rfl, hn⟩, rfl, hK⟩ := hT
  obtain ⟨kk, ff, ll, hh, ii, e, hn9, hb2, hw9, hj, hp, hi⟩ := id hn
  cases e
  cases hx : xi (gN σ) a with
  | none =>
    refine am_begin rfl ?_
    refine st_aloadn O dX6_car_0 rfl (q := 1) rfl ?_
    refine st_getr O dX6_car_1 fl_X6_10 rfl rfl rfl (q := 4) rfl ?_
    refine st_iloadn O dX6_car_4 rfl (q := 5) rfl ?_
    refine st_call O dX6_car_5 cs_X6_car_5 (q := 8) rfl (am_sipq rfl rfl rfl (Nat.le_of_ble_eq_true rfl) rfl (r := 0) ⟨a, gN σ, _, hn9, rfl, rfl, Or.inr ⟨xi_none hn9 hx, rfl⟩⟩ ?_)
    refine st_if_ne O dX6_car_8 (t := 17) rfl (q := 11) rfl (fun c8 => ?_) (fun c8 => ?_)
    · exact absurd c8 (by decide)
    refine st_aloadn O dX6_car_11 rfl (q := 12) rfl ?_
    refine st_iconst O dX6_car_12 am_iconst_m1 (q := 13) rfl ?_
    refine st_call O dX6_car_13 cs_X6_car_13 (q := 16) rfl (am_siq rfl rfl rfl (Nat.le_of_ble_eq_true rfl) rfl ?_)
    refine ⟨_, _, 1, by decide, by decide, rfl, rfl, ?_⟩
    refine am_nrq rfl rfl ?_
    rw [show f_car a b σ = rfs 1 σ from by unfold f_car; rw [hx]] at hK
    exact st_ireturn O dX6_car_16 (hK _ ⟨_, _, _, _, _, _, rfl, hn⟩)
  | some j =>
    obtain ⟨hj9, rfl⟩ := xi_some hn9 hx
    obtain ⟨q1, q2, q3, q4⟩ := hj j hj9
    have key : ∀ v, (if b = 0 then (nI (gk σ j), σ) else if b = 1 then (nI (gf σ j), σ) else if b = 2 then (nI (gl σ j), σ) else if b = 3 then (nI (gh σ j), σ) else if b = 4 then (nI (((gq σ).filter (fun z => gl σ z = gl σ j)).idxOf j), σ) else if b = 5 then (nI (lt (gk σ j) (gf σ j) (gb σ)), σ) else if b = 6 then (nI (sc (gk σ j)), σ) else rfs 2 σ) = v → f_car (nI j) b σ = v := by
      intro v h
      unfold f_car
      rw [hx]
      exact h
    refine am_begin rfl ?_
    refine st_aloadn O dX6_car_0 rfl (q := 1) rfl ?_
    refine st_getr O dX6_car_1 fl_X6_10 rfl rfl rfl (q := 4) rfl ?_
    refine st_iloadn O dX6_car_4 rfl (q := 5) rfl ?_
    refine st_call O dX6_car_5 cs_X6_car_5 (q := 8) rfl (am_sipq rfl rfl rfl (Nat.le_of_ble_eq_true rfl) rfl (r := 1) ⟨_, gN σ, _, hn9, rfl, rfl, Or.inl ⟨⟨j, hj9, rfl⟩, rfl⟩⟩ ?_)
    refine st_if_ne O dX6_car_8 (t := 17) rfl (q := 11) rfl (fun c8 => ?_) (fun c8 => ?_)
    · refine st_iloadn O dX6_car_17 rfl (q := 18) rfl ?_
      refine st_table O dX6_car_18 (os := [42, 52, 62, 72, 82, 91, 100]) rfl rfl ?_
      refine sw_consT (v := 0) (by decide) (t := 60) rfl (lo' := 1) rfl (fun c18_0 => ?_) (fun c18_0 => ?_)
      · refine st_aloadn O dX6_car_60 rfl (q := 61) rfl ?_
        refine st_getr O dX6_car_61 fl_X6_10 rfl rfl rfl (q := 64) rfl ?_
        refine st_getr O dX6_car_64 fl_X6_87 rfl rfl rfl (q := 67) rfl ?_
        refine st_iloadn O dX6_car_67 rfl (q := 68) rfl ?_
        refine sn_ald O dX6_car_68 rfl rfl rfl ⟨by omega, by decide⟩ q1.1 (q := 69) rfl ?_
        refine st_ireturn O dX6_car_69 ?_
        rw [key _ (if_pos c18_0)] at hK; exact hK _ ⟨_, _, _, _, _, _, rfl, hn⟩
      refine sw_consT (v := 1) (by decide) (t := 70) rfl (lo' := 2) rfl (fun c18_1 => ?_) (fun c18_1 => ?_)
      · refine st_aloadn O dX6_car_70 rfl (q := 71) rfl ?_
        refine st_getr O dX6_car_71 fl_X6_10 rfl rfl rfl (q := 74) rfl ?_
        refine st_getr O dX6_car_74 fl_X6_90 rfl rfl rfl (q := 77) rfl ?_
        refine st_iloadn O dX6_car_77 rfl (q := 78) rfl ?_
        refine sn_ald O dX6_car_78 rfl rfl rfl ⟨by omega, by decide⟩ q2.1 (q := 79) rfl ?_
        refine st_ireturn O dX6_car_79 ?_
        rw [key _ ((if_neg c18_0).trans (if_pos c18_1))] at hK; exact hK _ ⟨_, _, _, _, _, _, rfl, hn⟩
      refine sw_consT (v := 2) (by decide) (t := 80) rfl (lo' := 3) rfl (fun c18_2 => ?_) (fun c18_2 => ?_)
      · refine st_aloadn O dX6_car_80 rfl (q := 81) rfl ?_
        refine st_getr O dX6_car_81 fl_X6_10 rfl rfl rfl (q := 84) rfl ?_
        refine st_getr O dX6_car_84 fl_X6_93 rfl rfl rfl (q := 87) rfl ?_
        refine st_iloadn O dX6_car_87 rfl (q := 88) rfl ?_
        refine sn_ald O dX6_car_88 rfl rfl rfl ⟨by omega, by decide⟩ q3.1 (q := 89) rfl ?_
        refine st_ireturn O dX6_car_89 ?_
        rw [key _ ((if_neg c18_0).trans ((if_neg c18_1).trans (if_pos c18_2)))] at hK; exact hK _ ⟨_, _, _, _, _, _, rfl, hn⟩
      refine sw_consT (v := 3) (by decide) (t := 90) rfl (lo' := 4) rfl (fun c18_3 => ?_) (fun c18_3 => ?_)
      · refine st_aloadn O dX6_car_90 rfl (q := 91) rfl ?_
        refine st_getr O dX6_car_91 fl_X6_10 rfl rfl rfl (q := 94) rfl ?_
        refine st_getr O dX6_car_94 fl_X6_96 rfl rfl rfl (q := 97) rfl ?_
        refine st_iloadn O dX6_car_97 rfl (q := 98) rfl ?_
        refine sn_ald O dX6_car_98 rfl rfl rfl ⟨by omega, by decide⟩ q4.1 (q := 99) rfl ?_
        refine st_ireturn O dX6_car_99 ?_
        rw [key _ ((if_neg c18_0).trans ((if_neg c18_1).trans ((if_neg c18_2).trans (if_pos c18_3))))] at hK; exact hK _ ⟨_, _, _, _, _, _, rfl, hn⟩
      refine sw_consT (v := 4) (by decide) (t := 100) rfl (lo' := 5) rfl (fun c18_4 => ?_) (fun c18_4 => ?_)
      · refine st_aloadn O dX6_car_100 rfl (q := 101) rfl ?_
        refine st_getr O dX6_car_101 fl_X6_10 rfl rfl rfl (q := 104) rfl ?_
        refine st_iloadn O dX6_car_104 rfl (q := 105) rfl ?_
        refine st_call O dX6_car_105 cs_X6_car_105 (q := 108) rfl (am_sipq rfl rfl rfl (Nat.le_of_ble_eq_true rfl) rfl (r := nI (((gq σ).filter (fun z => gl σ z = gl σ j)).idxOf j)) ⟨_, _, _, _, _, _, _, _, j, hn, hj9, rfl, rfl⟩ ?_)
        refine st_ireturn O dX6_car_108 ?_
        rw [key _ ((if_neg c18_0).trans ((if_neg c18_1).trans ((if_neg c18_2).trans ((if_neg c18_3).trans (if_pos c18_4)))))] at hK; exact hK _ ⟨_, _, _, _, _, _, rfl, hn⟩
      refine sw_consT (v := 5) (by decide) (t := 109) rfl (lo' := 6) rfl (fun c18_5 => ?_) (fun c18_5 => ?_)
      · refine st_aloadn O dX6_car_109 rfl (q := 110) rfl ?_
        refine st_getr O dX6_car_110 fl_X6_10 rfl rfl rfl (q := 113) rfl ?_
        refine st_iloadn O dX6_car_113 rfl (q := 114) rfl ?_
        refine st_call O dX6_car_114 cs_X6_car_114 (q := 117) rfl (am_sipq rfl rfl rfl (Nat.le_of_ble_eq_true rfl) rfl (r := nI (lt (gk σ j) (gf σ j) (gb σ))) ⟨_, _, _, _, _, _, _, _, j, hn, hj9, rfl, rfl⟩ ?_)
        refine st_ireturn O dX6_car_117 ?_
        rw [key _ ((if_neg c18_0).trans ((if_neg c18_1).trans ((if_neg c18_2).trans ((if_neg c18_3).trans ((if_neg c18_4).trans (if_pos c18_5))))))] at hK; exact hK _ ⟨_, _, _, _, _, _, rfl, hn⟩
      refine sw_consT (v := 6) (by decide) (t := 118) rfl (lo' := 7) rfl (fun c18_6 => ?_) (fun c18_6 => ?_)
      · refine st_aloadn O dX6_car_118 rfl (q := 119) rfl ?_
        refine st_getr O dX6_car_119 fl_X6_10 rfl rfl rfl (q := 122) rfl ?_
        refine st_getr O dX6_car_122 fl_X6_87 rfl rfl rfl (q := 125) rfl ?_
        refine st_iloadn O dX6_car_125 rfl (q := 126) rfl ?_
        refine sn_ald O dX6_car_126 rfl rfl rfl ⟨by omega, by decide⟩ q1.1 (q := 127) rfl ?_
        refine st_callS O dX6_car_127 cs_X6_car_127 (q := 130) rfl (am_sipq rfl rfl rfl (Nat.le_of_ble_eq_true rfl) rfl (r := nI (sc (gk σ j))) ⟨_, q1.2, rfl, rfl⟩ ?_)
        refine st_ireturn O dX6_car_130 ?_
        rw [key _ ((if_neg c18_0).trans ((if_neg c18_1).trans ((if_neg c18_2).trans ((if_neg c18_3).trans ((if_neg c18_4).trans ((if_neg c18_5).trans (if_pos c18_6)))))))] at hK; exact hK _ ⟨_, _, _, _, _, _, rfl, hn⟩
      refine sw_nilT (t := 131) rfl ?_
      refine st_aloadn O dX6_car_131 rfl (q := 132) rfl ?_
      refine st_bipush O dX6_car_132 am_bipush_m2 (q := 134) rfl ?_
      refine st_call O dX6_car_134 cs_X6_car_134 (q := 137) rfl (am_siq rfl rfl rfl (Nat.le_of_ble_eq_true rfl) rfl ?_)
      refine ⟨_, _, 2, by decide, by decide, rfl, rfl, ?_⟩
      refine am_nrq rfl rfl ?_
      rw [show f_car (nI j) b σ = rfs 2 σ from key _ ((if_neg c18_0).trans ((if_neg c18_1).trans ((if_neg c18_2).trans ((if_neg c18_3).trans ((if_neg c18_4).trans ((if_neg c18_5).trans (if_neg c18_6)))))))] at hK
      exact st_ireturn O dX6_car_137 (hK _ ⟨_, _, _, _, _, _, rfl, hn⟩)
    exact absurd c8 (by decide)
theorem C_X6_car : am_ctr yX6_car cX6_car 3 (some .int) 2 46 sh_VN [some 0, none, none] T_X6_car := am_mk (by decide) (Or.inr (Or.inl ⟨rfl, rfl⟩)) (by decide) (by decide) (by decide) fl_X6_ok kc_X6_ok ck_X6_car B_X6_car
def cs_X6_hurry : Nat → List am_V → am_D → am_K → Prop := am_cs [(5, am_site 2 [some 0, none] T_X4_has [1] [1, 2, 3, 4, 5, 6]), (13, am_site 2 [some 0, none] T_X6_refuse [0, 7] [0, 7, 1, 8, 9, 10, 11, 12, 13, 14]), (24, am_site 2 [some 0, none] T_X6_refuse [0, 7] [0, 7, 1, 8, 9, 10, 11, 12, 13, 14]), (37, am_site 2 [some 0, none] T_X6_refuse [0, 7] [0, 7, 1, 8, 9, 10, 11, 12, 13, 14])]
theorem cs_X6_hurry_5 : cs_X6_hurry 5 = am_site 2 [some 0, none] T_X4_has [1] [1, 2, 3, 4, 5, 6] := rfl
theorem cs_X6_hurry_13 : cs_X6_hurry 13 = am_site 2 [some 0, none] T_X6_refuse [0, 7] [0, 7, 1, 8, 9, 10, 11, 12, 13, 14] := rfl
theorem cs_X6_hurry_24 : cs_X6_hurry 24 = am_site 2 [some 0, none] T_X6_refuse [0, 7] [0, 7, 1, 8, 9, 10, 11, 12, 13, 14] := rfl
theorem cs_X6_hurry_37 : cs_X6_hurry 37 = am_site 2 [some 0, none] T_X6_refuse [0, 7] [0, 7, 1, 8, 9, 10, 11, 12, 13, 14] := rfl
theorem ck_X6_hurry : ∀ X : am_X, am_cx X RX6 cX6_hurry 4 1 21 → ∀ pc, am_csok X 4 sh_VN pc (cs_X6_hurry pc) := fun X hX => am_cs_ok (List.forall_mem_cons.mpr ⟨am_callV hX C_X4_has mo_X4_has rfl lk_X6_83 dX6_hurry_5 rfl rfl rfl (by decide), List.forall_mem_cons.mpr ⟨am_callV hX C_X6_refuse mo_X6_refuse rfl lk_X6_65 dX6_hurry_13 rfl rfl rfl (by decide), List.forall_mem_cons.mpr ⟨am_callV hX C_X6_refuse mo_X6_refuse rfl lk_X6_65 dX6_hurry_24 rfl rfl rfl (by decide), List.forall_mem_cons.mpr ⟨am_callV hX C_X6_refuse mo_X6_refuse rfl lk_X6_65 dX6_hurry_37 rfl rfl rfl (by decide), fun _ h => absurd h List.not_mem_nil⟩⟩⟩⟩)
abbrev ok_X6_hurry (X : am_X) (K : List Int32 → am_D → Prop) : Prop := am_ok X RX6 cX6_hurry 4 sh_VN fl_X6 kc_X6 none 1 cs_X6_hurry K
abbrev aw_X6_hurry (X : am_X) (pc : Nat) (ls : am_L) (st : List am_V) (D : am_D) : Prop := am_aw X 4 sh_VN pc ls st D
abbrev T_X6_hurry : am_TT := am_v2f V_N f_hurry
theorem B_X6_hurry : ∀ (X : am_X) (is : List Int32) (D : am_D) (K : List Int32 → am_D → Prop), ok_X6_hurry X K → T_X6_hurry is D K → is.length = (List.filter Option.isNone ([some 0, none, none] : List (Option Nat))).length → D.length = sh_VN.length → am_aw X 4 sh_VN 0 (am_l0 4 [some 0, none, none] is) [] D := by
  intro X is D K O hT _ _
  obtain ⟨o, σ, a, b, ⟨n0, n1, n2, n3, n4, n5, rfl, hn⟩, rfl, hK⟩ := hT
  obtain ⟨kk, ff, ll, hh, ii, e, hn9, hb2, hw9, hj, hp, hi⟩ := id hn
  cases e
  cases hx : xi (gN σ) a with
  | none =>
    refine am_begin rfl ?_
    refine st_aloadn O dX6_hurry_0 rfl (q := 1) rfl ?_
    refine st_getr O dX6_hurry_1 fl_X6_10 rfl rfl rfl (q := 4) rfl ?_
    refine st_iloadn O dX6_hurry_4 rfl (q := 5) rfl ?_
    refine st_call O dX6_hurry_5 cs_X6_hurry_5 (q := 8) rfl (am_sipq rfl rfl rfl (Nat.le_of_ble_eq_true rfl) rfl (r := 0) ⟨a, gN σ, _, hn9, rfl, rfl, Or.inr ⟨xi_none hn9 hx, rfl⟩⟩ ?_)
    refine st_if_ne O dX6_hurry_8 (t := 17) rfl (q := 11) rfl (fun c8 => ?_) (fun c8 => ?_)
    · exact absurd c8 (by decide)
    refine st_aloadn O dX6_hurry_11 rfl (q := 12) rfl ?_
    refine st_iconst O dX6_hurry_12 am_iconst_m1 (q := 13) rfl ?_
    refine st_call O dX6_hurry_13 cs_X6_hurry_13 (q := 16) rfl (am_siq rfl rfl rfl (Nat.le_of_ble_eq_true rfl) rfl ?_)
    refine ⟨_, _, 1, by decide, by decide, rfl, rfl, ?_⟩
    refine am_nrq rfl rfl ?_
    rw [show f_hurry a b σ = rfs 1 σ from by unfold f_hurry; rw [hx]] at hK
    exact st_ireturn O dX6_hurry_16 (hK _ ⟨_, _, _, _, _, _, rfl, hn⟩)
  | some j =>
    obtain ⟨hj9, rfl⟩ := xi_some hn9 hx
    obtain ⟨q1, q2, q3, q4⟩ := hj j hj9
    refine am_begin rfl ?_
    refine st_aloadn O dX6_hurry_0 rfl (q := 1) rfl ?_
    refine st_getr O dX6_hurry_1 fl_X6_10 rfl rfl rfl (q := 4) rfl ?_
    refine st_iloadn O dX6_hurry_4 rfl (q := 5) rfl ?_
    refine st_call O dX6_hurry_5 cs_X6_hurry_5 (q := 8) rfl (am_sipq rfl rfl rfl (Nat.le_of_ble_eq_true rfl) rfl (r := 1) ⟨_, gN σ, _, hn9, rfl, rfl, Or.inl ⟨⟨j, hj9, rfl⟩, rfl⟩⟩ ?_)
    refine st_if_ne O dX6_hurry_8 (t := 17) rfl (q := 11) rfl (fun c8 => ?_) (fun c8 => ?_)
    · refine st_iloadn O dX6_hurry_17 rfl (q := 18) rfl ?_
      refine st_if_ge O dX6_hurry_18 (t := 28) rfl (q := 21) rfl (fun c18 => ?_) (fun c18 => ?_)
      · refine st_iloadn O dX6_hurry_28 rfl (q := 29) rfl ?_
        refine st_bipush O dX6_hurry_29 am_bipush_20 (q := 31) rfl ?_
        refine st_icmp_le O dX6_hurry_31 (t := 41) rfl (q := 34) rfl (fun c31 => ?_) (fun c31 => ?_)
        · refine st_aloadn O dX6_hurry_41 rfl (q := 42) rfl ?_
          refine st_getr O dX6_hurry_42 fl_X6_10 rfl rfl rfl (q := 45) rfl ?_
          refine st_getr O dX6_hurry_45 fl_X6_96 rfl rfl rfl (q := 48) rfl ?_
          refine st_iloadn O dX6_hurry_48 rfl (q := 49) rfl ?_
          refine sn_ald O dX6_hurry_49 rfl rfl rfl ⟨by omega, by decide⟩ q4.1 (q := 50) rfl ?_
          refine st_istoren O dX6_hurry_50 rfl (q := 51) rfl ?_
          refine st_aloadn O dX6_hurry_51 rfl (q := 52) rfl ?_
          refine st_getr O dX6_hurry_52 fl_X6_10 rfl rfl rfl (q := 55) rfl ?_
          refine st_getr O dX6_hurry_55 fl_X6_96 rfl rfl rfl (q := 58) rfl ?_
          refine st_iloadn O dX6_hurry_58 rfl (q := 59) rfl ?_
          refine st_iloadn O dX6_hurry_59 rfl (q := 60) rfl ?_
          refine sn_ast O dX6_hurry_60 rfl rfl rfl ⟨by omega, by decide⟩ rfl rfl (q := 61) rfl ?_
          refine st_iloadn O dX6_hurry_61 rfl (q := 62) rfl ?_
          refine st_ireturn O dX6_hurry_62 ?_
          obtain ⟨v, hv, rfl⟩ := nI_of (Int32.not_lt.mpr c18)
          have h20 : v ≤ 20 := (nI_leI hv (by decide)).mp c31
          rw [show f_hurry (nI j) (nI v) σ = (nI (gh σ j), gR σ (gN σ, gb σ, gw σ, gk σ, gf σ, gl σ, va_up (gh σ) j (nI v).toNatClampNeg, gq σ)) by unfold f_hurry; rw [hx]; exact (if_pos c18).trans (if_pos c31), nI_clamp hv] at hK
          refine hK _ ⟨_, _, _, _, _, _, rfl, kk, ff, ll, _, ii, rfl, hn9, hb2, hw9, fun i hin => ?_, hp, hi⟩
          obtain ⟨g1, g2, g3, g4⟩ := hj i hin
          refine ⟨g1, g2, g3, ?_⟩
          by_cases e : i = j
          · subst e; simp only [pk_us, va_up, if_true]; exact ⟨trivial, h20⟩
          · simp only [pk_un e, va_up, if_neg e]; exact g4
        refine st_aloadn O dX6_hurry_34 rfl (q := 35) rfl ?_
        refine st_bipush O dX6_hurry_35 am_bipush_m6 (q := 37) rfl ?_
        refine st_call O dX6_hurry_37 cs_X6_hurry_37 (q := 40) rfl (am_siq rfl rfl rfl (Nat.le_of_ble_eq_true rfl) rfl ?_)
        refine ⟨_, _, 6, by decide, by decide, rfl, rfl, ?_⟩
        refine am_nrq rfl rfl ?_
        rw [show f_hurry (nI j) b σ = rfs 6 σ from by unfold f_hurry; rw [hx]; exact (if_pos c18).trans (if_neg c31)] at hK
        exact st_ireturn O dX6_hurry_40 (hK _ ⟨_, _, _, _, _, _, rfl, hn⟩)
      refine st_aloadn O dX6_hurry_21 rfl (q := 22) rfl ?_
      refine st_bipush O dX6_hurry_22 am_bipush_m4 (q := 24) rfl ?_
      refine st_call O dX6_hurry_24 cs_X6_hurry_24 (q := 27) rfl (am_siq rfl rfl rfl (Nat.le_of_ble_eq_true rfl) rfl ?_)
      refine ⟨_, _, 4, by decide, by decide, rfl, rfl, ?_⟩
      refine am_nrq rfl rfl ?_
      rw [show f_hurry (nI j) b σ = rfs 4 σ from by unfold f_hurry; rw [hx]; exact if_neg c18] at hK
      exact st_ireturn O dX6_hurry_27 (hK _ ⟨_, _, _, _, _, _, rfl, hn⟩)
    exact absurd c8 (by decide)
theorem C_X6_hurry : am_ctr yX6_hurry cX6_hurry 4 (some .int) 1 21 sh_VN [some 0, none, none] T_X6_hurry := am_mk (by decide) (Or.inr (Or.inl ⟨rfl, rfl⟩)) (by decide) (by decide) (by decide) fl_X6_ok kc_X6_ok ck_X6_hurry B_X6_hurry
