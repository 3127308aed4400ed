/-! the class's own methods: numbers told, images, counts -/
abbrev sh_VF : am_S := [.inr (5, [.inr 14, .inr 15, .inl 0, .inr 16, .inr 1, .inl 1, .inr 17, .inr 18, .inr 2, .inr 19, .inr 20]), .inl 12, .inr (2, [.inr 3, .inr 4, .inr 5, .inl 0, .inl 1, .inr 6, .inr 7, .inl 2, .inl 3, .inl 4, .inl 5, .inl 6, .inl 7, .inl 8]), .inl 9, .inl 9, .inl 9, .inl 9, .inl 9, .inr (3, [.inl 0, .inl 1, .inl 2, .inr 9, .inr 10, .inr 11, .inr 12, .inr 13]), .inl 9, .inl 9, .inl 9, .inl 9, .inl 9]
abbrev sh_VJ : am_S := [.inr (5, [.inr 1, .inr 14, .inl 0, .inr 15, .inr 7, .inl 1, .inr 16, .inr 17, .inr 8, .inr 18, .inr 19]), .inr (3, [.inl 0, .inl 1, .inl 2, .inr 2, .inr 3, .inr 4, .inr 5, .inr 6]), .inl 9, .inl 9, .inl 9, .inl 9, .inl 9, .inl 12, .inr (2, [.inr 9, .inr 10, .inr 11, .inl 0, .inl 1, .inr 12, .inr 13, .inl 2, .inl 3, .inl 4, .inl 5, .inl 6, .inl 7, .inl 8]), .inl 9, .inl 9, .inl 9, .inl 9, .inl 9]
theorem ffU_s {p : Nat → Bool} {m k : Nat} : ffU p m (k + 1) = if p m = true then some m else ffU p (m + 1) k := by rw [ffU]
theorem ffU_lt {p : Nat → Bool} : ∀ (k m b : Nat), ffU p m k = some b → m ≤ b ∧ b < m + k
  | 0, m, b, h => by cases h
  | k + 1, m, b, h => by
    unfold ffU at h
    split at h
    · cases h; omega
    · have := ffU_lt k (m + 1) b h
      omega
def cs_X6_firstNotSo : Nat → List am_V → am_D → am_K → Prop := am_cs [(6, am_site 3 [some 0, some 6, none] T_X3_drive [2, 3, 4, 5, 6, 7, 8, 9, 10, 11, 12, 13] [2, 3, 4, 5, 6, 7, 8, 9, 10, 11, 12, 13])]
theorem cs_X6_firstNotSo_6 : cs_X6_firstNotSo 6 = am_site 3 [some 0, some 6, none] T_X3_drive [2, 3, 4, 5, 6, 7, 8, 9, 10, 11, 12, 13] [2, 3, 4, 5, 6, 7, 8, 9, 10, 11, 12, 13] := rfl
theorem ck_X6_firstNotSo : ∀ X : am_X, am_cx X RX6 cX6_firstNotSo 3 4 91 → ∀ pc, am_csok X 3 sh_VF pc (cs_X6_firstNotSo pc) := fun X hX => am_cs_ok (List.forall_mem_cons.mpr ⟨am_callV hX C_X3_drive mo_X3_drive rfl lk_X6_128 dX6_firstNotSo_6 rfl rfl rfl (by decide), fun _ h => absurd h List.not_mem_nil⟩)
abbrev ok_X6_firstNotSo (X : am_X) (K : List Int32 → am_D → Prop) : Prop := am_ok X RX6 cX6_firstNotSo 3 sh_VF fl_X6 kc_X6 none 1 cs_X6_firstNotSo K
abbrev aw_X6_firstNotSo (X : am_X) (pc : Nat) (ls : am_L) (st : List am_V) (D : am_D) : Prop := am_aw X 3 sh_VF pc ls st D
abbrev T_X6_firstNotSo : am_TT := fun is D K => ∃ (ik : Int32) (u0 : Nat → Int32) (to : List Nat) (x : RS) (p0 p1 p2 p3 p4 p5 : am_C) (dr : am_D), is = [] ∧ D = .inl [ik, nI to.length] :: .inr u0 :: ([p0, p1, p2, p3, p4, p5] ++ dr) ∧ tdX to u0 ∧ pF [p0, p1, p2, p3, p4, p5] ∧ rS x dr ∧ ∀ dp', pF dp' → K [oI (fns to (simA x.2.1 x.2.2.1 x.2.2.2.1 x.2.2.2.2.1 x.2.2.2.2.2.1 x.2.2.2.2.2.2.2 0))] (.inl [ik, nI to.length] :: .inr u0 :: (dp' ++ dr))
set_option maxHeartbeats 200000 in
theorem B_X6_firstNotSo : ∀ (X : am_X) (is : List Int32) (D : am_D) (K : List Int32 → am_D → Prop), ok_X6_firstNotSo X K → T_X6_firstNotSo is D K → is.length = (List.filter Option.isNone ([some 0, some 8] : List (Option Nat))).length → D.length = sh_VF.length → am_aw X 3 sh_VF 0 (am_l0 3 [some 0, some 8] is) [] D := by
  intro X is D K O hT _ _
  obtain ⟨ik, u0, to, x, p0, p1, p2, p3, p4, p5, dr, rfl, rfl, hu, hF, hn, hK⟩ := hT
  obtain ⟨kk, ff, ll, hh, ii, rfl, hn9, hb2, hw9, hj, hp, hi⟩ := id hn
  obtain ⟨z1, z2, z3, z4, z5, z6, z7, z8, z9, y1, y2, y3, y4, y5, e⟩ := id hF
  cases e
  obtain ⟨hu1, hu2, hu3⟩ := hu
  obtain ⟨g1, g2, g3⟩ := gL_ok (σ := (x, none, [], [], fun _ => 0)) hn9 hp (fun j h => (hj j h).2.2.1.2)
  have g1l : (simA x.2.1 x.2.2.1 x.2.2.2.1 x.2.2.2.2.1 x.2.2.2.2.2.1 x.2.2.2.2.2.2.2 0).length ≤ 9 := g1.1
  generalize hL : simA x.2.1 x.2.2.1 x.2.2.2.1 x.2.2.2.2.1 x.2.2.2.2.2.1 x.2.2.2.2.2.2.2 0 = L at hK g1l
  unfold fns at hK
  have g1q : ∀ i, i < L.length → cr_ L i < 9 := by
    intro i hi2
    have : okL x.1 x.2.2.2.2.2.1 L := by rw [← hL]; exact g1
    have h3 := (this.2.2 _ (L_mem hi2)).1
    have h4 : cr_ L i = (L.getD i (0, 0, 0)).1 := rfl
    omega
  have loop : ∀ d m (c0 c1 c2 c3 c4 c5 : am_C), pD L [c0, c1, c2, c3, c4, c5] → to.length - m = d → m ≤ to.length → ffU (fun i => decide (L.length ≤ i ∨ ¬ cr_ L i = to.getD i 0)) m d = ffU (fun i => decide (L.length ≤ i ∨ ¬ cr_ L i = to.getD i 0)) 0 to.length → am_aw X 3 sh_VF 11 [some (.inr 0), some (.inr 8), some (.inl (nI m))] [] [.inl [ik, nI to.length], .inr u0, c0, c1, c2, c3, c4, c5, .inl [nI x.1, nI x.2.1, nI x.2.2.1], .inr kk, .inr ff, .inr ll, .inr hh, .inr ii] := by
    intro d
    induction d with
    | zero =>
      intro m c0 c1 c2 c3 c4 c5 hd hdm hm hR
      rw [← hR] at hK
      refine st_iloadn O dX6_firstNotSo_11 rfl (q := 12) rfl ?_
      refine st_aloadn O dX6_firstNotSo_12 rfl (q := 13) rfl ?_
      refine st_geti O dX6_firstNotSo_13 fl_X6_34 rfl rfl rfl rfl (q := 16) rfl ?_
      refine sn_icmp_ge O dX6_firstNotSo_16 (t := 56) rfl (q := 19) rfl (by omega) (by omega) (fun c16 => ?_) (fun c16 => ?_)
      · refine st_bipush O dX6_firstNotSo_56 am_bipush_m9 (q := 58) rfl ?_
        refine st_ireturn O dX6_firstNotSo_58 ?_
        exact hK _ hd.form
      omega
    | succ d ih =>
      intro m c0 c1 c2 c3 c4 c5 hd hdm hm hR
      obtain ⟨j2, j3, j4, j5, j6, j7, j8, o', wt, tn, rr, l, e, hO⟩ := id hd
      cases e
      have hum := hu2 m (by omega)
      have hu99 : to.getD m 0 ≤ 99 := hu3 _ (pl_gm (by omega))
      rw [ffU_s] at hR
      by_cases hc : L.length ≤ m ∨ ¬ cr_ L m = to.getD m 0
      · rw [if_pos (decide_eq_true hc)] at hR
        rw [← hR] at hK
        rcases Nat.lt_or_ge m L.length with hml | hml
        · have h9 := g1q m hml
          refine st_iloadn O dX6_firstNotSo_11 rfl (q := 12) rfl ?_
          refine st_aloadn O dX6_firstNotSo_12 rfl (q := 13) rfl ?_
          refine st_geti O dX6_firstNotSo_13 fl_X6_34 rfl rfl rfl rfl (q := 16) rfl ?_
          refine sn_icmp_ge O dX6_firstNotSo_16 (t := 56) rfl (q := 19) rfl (by omega) (by omega) (fun c16 => ?_) (fun c16 => ?_)
          · omega
          refine st_iloadn O dX6_firstNotSo_19 rfl (q := 20) rfl ?_
          refine st_aloadn O dX6_firstNotSo_20 rfl (q := 21) rfl ?_
          refine st_getr O dX6_firstNotSo_21 fl_X6_47 rfl rfl rfl (q := 24) rfl ?_
          refine st_geti O dX6_firstNotSo_24 fl_X6_212 rfl rfl rfl rfl (q := 27) rfl ?_
          refine sn_icmp_ge O dX6_firstNotSo_27 (t := 48) rfl (q := 30) rfl (by omega) (by omega) (fun c27 => ?_) (fun c27 => ?_)
          · omega
          refine st_aloadn O dX6_firstNotSo_30 rfl (q := 31) rfl ?_
          refine st_getr O dX6_firstNotSo_31 fl_X6_47 rfl rfl rfl (q := 34) rfl ?_
          refine st_getr O dX6_firstNotSo_34 fl_X6_132 rfl rfl rfl (q := 37) rfl ?_
          refine st_iloadn O dX6_firstNotSo_37 rfl (q := 38) rfl ?_
          refine sn_ald O dX6_firstNotSo_38 rfl rfl rfl ⟨by omega, by decide⟩ (pO_o hO hml) (q := 39) rfl ?_
          refine st_aloadn O dX6_firstNotSo_39 rfl (q := 40) rfl ?_
          refine st_getr O dX6_firstNotSo_40 fl_X6_30 rfl rfl rfl (q := 43) rfl ?_
          refine st_iloadn O dX6_firstNotSo_43 rfl (q := 44) rfl ?_
          refine sn_ald O dX6_firstNotSo_44 rfl rfl rfl ⟨by omega, by decide⟩ hum (q := 45) rfl ?_
          refine sn_icmp_eq O dX6_firstNotSo_45 (t := 50) rfl (q := 48) rfl (by omega) (by omega) (fun c45 => ?_) (fun c45 => ?_)
          · exact absurd c45 (hc.resolve_left (by omega))
          refine st_iloadn O dX6_firstNotSo_48 rfl (q := 49) rfl ?_
          refine st_ireturn O dX6_firstNotSo_49 ?_
          exact hK _ hd.form
        · refine st_iloadn O dX6_firstNotSo_11 rfl (q := 12) rfl ?_
          refine st_aloadn O dX6_firstNotSo_12 rfl (q := 13) rfl ?_
          refine st_geti O dX6_firstNotSo_13 fl_X6_34 rfl rfl rfl rfl (q := 16) rfl ?_
          refine sn_icmp_ge O dX6_firstNotSo_16 (t := 56) rfl (q := 19) rfl (by omega) (by omega) (fun c16 => ?_) (fun c16 => ?_)
          · omega
          refine st_iloadn O dX6_firstNotSo_19 rfl (q := 20) rfl ?_
          refine st_aloadn O dX6_firstNotSo_20 rfl (q := 21) rfl ?_
          refine st_getr O dX6_firstNotSo_21 fl_X6_47 rfl rfl rfl (q := 24) rfl ?_
          refine st_geti O dX6_firstNotSo_24 fl_X6_212 rfl rfl rfl rfl (q := 27) rfl ?_
          refine sn_icmp_ge O dX6_firstNotSo_27 (t := 48) rfl (q := 30) rfl (by omega) (by omega) (fun c27 => ?_) (fun c27 => ?_)
          · refine st_iloadn O dX6_firstNotSo_48 rfl (q := 49) rfl ?_
            refine st_ireturn O dX6_firstNotSo_49 ?_
            exact hK _ hd.form
          omega
      · rw [if_neg (by rw [decide_eq_false hc]; decide)] at hR
        have hml : m < L.length := Nat.lt_of_not_le (fun z => hc (Or.inl z))
        have h9 := g1q m hml
        refine st_iloadn O dX6_firstNotSo_11 rfl (q := 12) rfl ?_
        refine st_aloadn O dX6_firstNotSo_12 rfl (q := 13) rfl ?_
        refine st_geti O dX6_firstNotSo_13 fl_X6_34 rfl rfl rfl rfl (q := 16) rfl ?_
        refine sn_icmp_ge O dX6_firstNotSo_16 (t := 56) rfl (q := 19) rfl (by omega) (by omega) (fun c16 => ?_) (fun c16 => ?_)
        · omega
        refine st_iloadn O dX6_firstNotSo_19 rfl (q := 20) rfl ?_
        refine st_aloadn O dX6_firstNotSo_20 rfl (q := 21) rfl ?_
        refine st_getr O dX6_firstNotSo_21 fl_X6_47 rfl rfl rfl (q := 24) rfl ?_
        refine st_geti O dX6_firstNotSo_24 fl_X6_212 rfl rfl rfl rfl (q := 27) rfl ?_
        refine sn_icmp_ge O dX6_firstNotSo_27 (t := 48) rfl (q := 30) rfl (by omega) (by omega) (fun c27 => ?_) (fun c27 => ?_)
        · omega
        refine st_aloadn O dX6_firstNotSo_30 rfl (q := 31) rfl ?_
        refine st_getr O dX6_firstNotSo_31 fl_X6_47 rfl rfl rfl (q := 34) rfl ?_
        refine st_getr O dX6_firstNotSo_34 fl_X6_132 rfl rfl rfl (q := 37) rfl ?_
        refine st_iloadn O dX6_firstNotSo_37 rfl (q := 38) rfl ?_
        refine sn_ald O dX6_firstNotSo_38 rfl rfl rfl ⟨by omega, by decide⟩ (pO_o hO hml) (q := 39) rfl ?_
        refine st_aloadn O dX6_firstNotSo_39 rfl (q := 40) rfl ?_
        refine st_getr O dX6_firstNotSo_40 fl_X6_30 rfl rfl rfl (q := 43) rfl ?_
        refine st_iloadn O dX6_firstNotSo_43 rfl (q := 44) rfl ?_
        refine sn_ald O dX6_firstNotSo_44 rfl rfl rfl ⟨by omega, by decide⟩ hum (q := 45) rfl ?_
        refine sn_icmp_eq O dX6_firstNotSo_45 (t := 50) rfl (q := 48) rfl (by omega) (by omega) (fun c45 => ?_) (fun c45 => ?_)
        · refine st_iinc O dX6_firstNotSo_50 rfl (by first | exact am_ii1 _ | exact rfl) rfl (q := 53) rfl ?_
          refine st_goto O dX6_firstNotSo_53 (t := 11) rfl ?_
          exact ih (m + 1) _ _ _ _ _ _ hd (by omega) (by omega) hR
        exact absurd (Or.inr c45) hc
  refine am_begin rfl ?_
  refine st_aloadn O dX6_firstNotSo_0 rfl (q := 1) rfl ?_
  refine st_getr O dX6_firstNotSo_1 fl_X6_47 rfl rfl rfl (q := 4) rfl ?_
  refine st_aloadn O dX6_firstNotSo_4 rfl (q := 5) rfl ?_
  refine st_iconst O dX6_firstNotSo_5 am_iconst_0 (q := 6) rfl ?_
  refine st_call O dX6_firstNotSo_6 cs_X6_firstNotSo_6 (q := 9) rfl (am_siq rfl rfl rfl (Nat.le_of_ble_eq_true rfl) rfl ?_)
  refine ⟨x.1, x.2.1, x.2.2.1, x.2.2.2.1, x.2.2.2.2.1, x.2.2.2.2.2.1, x.2.2.2.2.2.2.1, x.2.2.2.2.2.2.2, [_, _, _, _, _, _], _, 0, rfl, by decide, rfl, hF, hn, fun d hd => ?_⟩
  have hd : pD L d := by rw [← hL]; exact hd
  have hd' := id hd
  obtain ⟨j2, j3, j4, j5, j6, j7, j8, o', wt, tn, rr, l, rfl, hO⟩ := id hd
  refine am_nrp rfl rfl rfl rfl ?_
  refine st_iconst O dX6_firstNotSo_9 am_iconst_0 (q := 10) rfl ?_
  refine st_istoren O dX6_firstNotSo_10 rfl (q := 11) rfl ?_
  exact loop to.length 0 _ _ _ _ _ _ hd' rfl (Nat.zero_le _) rfl
theorem C_X6_firstNotSo : am_ctr yX6_firstNotSo cX6_firstNotSo 3 (some .int) 4 91 sh_VF [some 0, some 8] T_X6_firstNotSo := am_mk (by decide) (Or.inr (Or.inl ⟨rfl, rfl⟩)) (by decide) (by decide) (by decide) fl_X6_ok kc_X6_ok ck_X6_firstNotSo B_X6_firstNotSo
def V_J (o : Nat → Int32) (ik : Int32) (σ : Sg) (D : am_D) : Prop := ∃ n0 n1 n2 n3 n4 n5 u0 p0 p1 p2 p3 p4 p5, D = [.inl [ik, nI σ.2.2.2.1.length], n0, n1, n2, n3, n4, n5, .inr u0, p0, p1, p2, p3, p4, p5] ∧ σ.2.2.2.2 = o ∧ rS σ.1 [n0, n1, n2, n3, n4, n5] ∧ tdX σ.2.2.2.1 u0 ∧ pF [p0, p1, p2, p3, p4, p5]
def V_J2 (o : (Nat → Int32) × Int32) (σ : Sg) (D : am_D) : Prop := V_J o.1 o.2 σ D
def cs_X6_judge : Nat → List am_V → am_D → am_K → Prop := am_cs [(5, am_site 2 [some 0, some 8] T_X6_firstNotSo [0, 7, 8, 9, 10, 11, 12, 13, 1, 2, 3, 4, 5, 6] [0, 7, 8, 9, 10, 11, 12, 13, 1, 2, 3, 4, 5, 6, 1, 14, 15, 16, 17, 18, 19])]
theorem cs_X6_judge_5 : cs_X6_judge 5 = am_site 2 [some 0, some 8] T_X6_firstNotSo [0, 7, 8, 9, 10, 11, 12, 13, 1, 2, 3, 4, 5, 6] [0, 7, 8, 9, 10, 11, 12, 13, 1, 2, 3, 4, 5, 6, 1, 14, 15, 16, 17, 18, 19] := rfl
theorem ck_X6_judge : ∀ X : am_X, am_cx X RX6 cX6_judge 2 5 113 → ∀ pc, am_csok X 2 sh_VJ pc (cs_X6_judge pc) := fun X hX => am_cs_ok (List.forall_mem_cons.mpr ⟨am_callV hX C_X6_firstNotSo mo_X6_firstNotSo rfl lk_X6_228 dX6_judge_5 rfl rfl rfl (by decide), fun _ h => absurd h List.not_mem_nil⟩)
abbrev ok_X6_judge (X : am_X) (K : List Int32 → am_D → Prop) : Prop := am_ok X RX6 cX6_judge 2 sh_VJ fl_X6 kc_X6 none 1 cs_X6_judge K
abbrev aw_X6_judge (X : am_X) (pc : Nat) (ls : am_L) (st : List am_V) (D : am_D) : Prop := am_aw X 2 sh_VJ pc ls st D
abbrev T_X6_judge : am_TT := am_v0 V_J2 f_judge
set_option maxHeartbeats 200000 in
theorem B_X6_judge : ∀ (X : am_X) (is : List Int32) (D : am_D) (K : List Int32 → am_D → Prop), ok_X6_judge X K → T_X6_judge is D K → is.length = (List.filter Option.isNone ([some 0] : List (Option Nat))).length → D.length = sh_VJ.length → am_aw X 2 sh_VJ 0 (am_l0 2 [some 0] is) [] D := by
  intro X is D K O hT _ _
  obtain ⟨⟨o, ik⟩, σ, ⟨n0, n1, n2, n3, n4, n5, u0, p0, p1, p2, p3, p4, p5, rfl, ho, hn, hu, hF⟩, rfl, hK⟩ := hT
  unfold f_judge at hK
  refine am_begin rfl ?_
  refine st_aloadn O dX6_judge_0 rfl (q := 1) rfl ?_
  refine st_aloadn O dX6_judge_1 rfl (q := 2) rfl ?_
  refine st_getr O dX6_judge_2 fl_X6_10 rfl rfl rfl (q := 5) rfl ?_
  refine st_call O dX6_judge_5 cs_X6_judge_5 (q := 8) rfl (am_siq rfl rfl rfl (Nat.le_of_ble_eq_true rfl) rfl ?_)
  refine ⟨ik, u0, σ.2.2.2.1, σ.1, _, _, _, _, _, _, _, rfl, rfl, hu, hF, hn, fun d h => ?_⟩
  obtain ⟨q0, q1, q2, q3, q4, q5, rfl⟩ := pF_lit6 h
  refine am_nrp rfl rfl rfl rfl ?_
  refine st_istoren O dX6_judge_8 rfl (q := 9) rfl ?_
  refine st_aloadn O dX6_judge_9 rfl (q := 10) rfl ?_
  refine st_iconst O dX6_judge_10 am_iconst_0 (q := 11) rfl ?_
  refine st_puti O dX6_judge_11 fl_X6_34 rfl rfl rfl rfl rfl (q := 14) rfl ?_
  refine st_iloadn O dX6_judge_14 rfl (q := 15) rfl ?_
  refine st_ireturn O dX6_judge_15 ?_
  exact hK _ ⟨_, _, _, _, _, _, u0, _, _, _, _, _, _, rfl, ho, hn, ⟨Nat.zero_le _, fun j hj => absurd hj (Nat.not_lt_zero j), fun v hv => by cases hv⟩, h⟩
theorem C_X6_judge : am_ctr yX6_judge cX6_judge 2 (some .int) 5 113 sh_VJ [some 0] T_X6_judge := am_mk (by decide) (Or.inr (Or.inl ⟨rfl, rfl⟩)) (by decide) (by decide) (by decide) fl_X6_ok kc_X6_ok ck_X6_judge B_X6_judge
/-- the numbers told -/
def V_Q (o : RS × Option RS × List Nat × Int32) (σ : Sg) (D : am_D) : Prop := ∃ u0, D = [.inl [o.2.2.2, nI σ.2.2.2.1.length], .inr u0, .inr σ.2.2.2.2] ∧ σ.1 = o.1 ∧ σ.2.1 = o.2.1 ∧ σ.2.2.1 = o.2.2.1 ∧ tdX σ.2.2.2.1 u0
def cs_X6_clear : Nat → List am_V → am_D → am_K → Prop := am_cs []
theorem ck_X6_clear : ∀ X : am_X, am_cx X RX6 cX6_clear 2 0 0 → ∀ pc, am_csok X 2 sh_VQ pc (cs_X6_clear pc) := fun X hX => am_cs_ok (fun _ h => absurd h List.not_mem_nil)
abbrev ok_X6_clear (X : am_X) (K : List Int32 → am_D → Prop) : Prop := am_ok X RX6 cX6_clear 2 sh_VQ fl_X6 kc_X6 none 1 cs_X6_clear K
abbrev aw_X6_clear (X : am_X) (pc : Nat) (ls : am_L) (st : List am_V) (D : am_D) : Prop := am_aw X 2 sh_VQ pc ls st D
abbrev T_X6_clear : am_TT := am_v0 V_Q f_clear
set_option maxHeartbeats 200000 in
theorem B_X6_clear : ∀ (X : am_X) (is : List Int32) (D : am_D) (K : List Int32 → am_D → Prop), ok_X6_clear X K → T_X6_clear is D K → is.length = (List.filter Option.isNone ([some 0] : List (Option Nat))).length → D.length = sh_VQ.length → am_aw X 2 sh_VQ 0 (am_l0 2 [some 0] is) [] D := by
  intro X is D K O hT _ _
  obtain ⟨o, σ, ⟨u0, rfl, h1, h2, h3, hu⟩, rfl, hK⟩ := hT
  refine am_begin rfl ?_
  refine st_aloadn O dX6_clear_0 rfl (q := 1) rfl ?_
  refine st_geti O dX6_clear_1 fl_X6_34 rfl rfl rfl rfl (q := 4) rfl ?_
  refine st_istoren O dX6_clear_4 rfl (q := 5) rfl ?_
  refine st_aloadn O dX6_clear_5 rfl (q := 6) rfl ?_
  refine st_iconst O dX6_clear_6 am_iconst_0 (q := 7) rfl ?_
  refine st_puti O dX6_clear_7 fl_X6_34 rfl rfl rfl rfl rfl (q := 10) rfl ?_
  refine st_iloadn O dX6_clear_10 rfl (q := 11) rfl ?_
  refine st_ireturn O dX6_clear_11 ?_
  exact hK _ ⟨u0, rfl, h1, h2, h3, ⟨Nat.zero_le _, fun j hj => absurd hj (Nat.not_lt_zero j), fun v hv => by cases hv⟩⟩
theorem C_X6_clear : am_ctr yX6_clear cX6_clear 2 (some .int) 0 0 sh_VQ [some 0] T_X6_clear := am_mk (by decide) (Or.inr (Or.inl ⟨rfl, rfl⟩)) (by decide) (by decide) (by decide) fl_X6_ok kc_X6_ok ck_X6_clear B_X6_clear
def cs_X6_row : Nat → List am_V → am_D → am_K → Prop := am_cs [(7, am_site 2 [some 0, none] T_X6_refuse [0, 2] [0, 2, 3, 4, 5, 1, 6, 7, 8, 9]), (29, am_site 2 [some 0, none] T_X6_refuse [0, 2] [0, 2, 3, 4, 5, 1, 6, 7, 8, 9])]
theorem cs_X6_row_7 : cs_X6_row 7 = am_site 2 [some 0, none] T_X6_refuse [0, 2] [0, 2, 3, 4, 5, 1, 6, 7, 8, 9] := rfl
theorem cs_X6_row_29 : cs_X6_row 29 = am_site 2 [some 0, none] T_X6_refuse [0, 2] [0, 2, 3, 4, 5, 1, 6, 7, 8, 9] := rfl
theorem ck_X6_row : ∀ X : am_X, am_cx X RX6 cX6_row 2 1 21 → ∀ pc, am_csok X 2 sh_VQ pc (cs_X6_row pc) := fun X hX => am_cs_ok (List.forall_mem_cons.mpr ⟨am_callV hX C_X6_refuse mo_X6_refuse rfl lk_X6_65 dX6_row_7 rfl rfl rfl (by decide), List.forall_mem_cons.mpr ⟨am_callV hX C_X6_refuse mo_X6_refuse rfl lk_X6_65 dX6_row_29 rfl rfl rfl (by decide), fun _ h => absurd h List.not_mem_nil⟩⟩)
abbrev ok_X6_row (X : am_X) (K : List Int32 → am_D → Prop) : Prop := am_ok X RX6 cX6_row 2 sh_VQ fl_X6 kc_X6 none 1 cs_X6_row K
abbrev aw_X6_row (X : am_X) (pc : Nat) (ls : am_L) (st : List am_V) (D : am_D) : Prop := am_aw X 2 sh_VQ pc ls st D
abbrev T_X6_row : am_TT := am_v1f V_Q f_row
set_option maxHeartbeats 200000 in
theorem B_X6_row : ∀ (X : am_X) (is : List Int32) (D : am_D) (K : List Int32 → am_D → Prop), ok_X6_row X K → T_X6_row is D K → is.length = (List.filter Option.isNone ([some 0, none] : List (Option Nat))).length → D.length = sh_VQ.length → am_aw X 2 sh_VQ 0 (am_l0 2 [some 0, none] is) [] D := by
  intro X is D K O hT _ _
  obtain ⟨o, σ, a, ⟨u0, rfl, h1, h2, h3, hu⟩, rfl, hK⟩ := hT
  obtain ⟨hu1, hu2, hu3⟩ := id hu
  refine am_begin rfl ?_
  refine st_iloadn O dX6_row_0 rfl (q := 1) rfl ?_
  refine st_if_ge O dX6_row_1 (t := 11) rfl (q := 4) rfl (fun c1 => ?_) (fun c1 => ?_)
  · refine st_iloadn O dX6_row_11 rfl (q := 12) rfl ?_
    refine st_bipush O dX6_row_12 am_bipush_99 (q := 14) rfl ?_
    refine st_icmp_gt O dX6_row_14 (t := 26) rfl (q := 17) rfl (fun c14 => ?_) (fun c14 => ?_)
    · refine st_aloadn O dX6_row_26 rfl (q := 27) rfl ?_
      refine st_bipush O dX6_row_27 am_bipush_m6 (q := 29) rfl ?_
      refine st_call O dX6_row_29 cs_X6_row_29 (q := 32) rfl (am_siq rfl rfl rfl (Nat.le_of_ble_eq_true rfl) rfl ?_)
      refine ⟨_, _, 6, by decide, by decide, rfl, rfl, ?_⟩
      refine am_nrq rfl rfl ?_
      rw [show f_row a σ = rfs 6 σ from (if_pos c1).trans (by first | exact if_pos c14 | exact (if_neg c14).trans (if_pos c23))] at hK
      exact st_ireturn O dX6_row_32 (hK _ ⟨_, rfl, h1, h2, h3, hu⟩)
    refine st_aloadn O dX6_row_17 rfl (q := 18) rfl ?_
    refine st_geti O dX6_row_18 fl_X6_34 rfl rfl rfl rfl (q := 21) rfl ?_
    refine st_bipush O dX6_row_21 am_bipush_12 (q := 23) rfl ?_
    refine sn_icmp_lt O dX6_row_23 (t := 33) rfl (q := 26) rfl (by omega) (by omega) (fun c23 => ?_) (fun c23 => ?_)
    · refine st_aloadn O dX6_row_33 rfl (q := 34) rfl ?_
      refine st_getr O dX6_row_34 fl_X6_30 rfl rfl rfl (q := 37) rfl ?_
      refine st_aloadn O dX6_row_37 rfl (q := 38) rfl ?_
      refine st_geti O dX6_row_38 fl_X6_34 rfl rfl rfl rfl (q := 41) rfl ?_
      refine st_iloadn O dX6_row_41 rfl (q := 42) rfl ?_
      refine sn_ast O dX6_row_42 rfl rfl rfl ⟨by omega, by decide⟩ rfl rfl (q := 43) rfl ?_
      refine st_aloadn O dX6_row_43 rfl (q := 44) rfl ?_
      refine st_dup O dX6_row_44 (q := 45) rfl ?_
      refine st_geti O dX6_row_45 fl_X6_34 rfl rfl rfl rfl (q := 48) rfl ?_
      refine st_iconst O dX6_row_48 am_iconst_1 (q := 49) rfl ?_
      refine st_iadd O dX6_row_49 (by first | exact nI_add _ _ | exact rfl) (q := 50) rfl ?_
      refine st_puti O dX6_row_50 fl_X6_34 rfl rfl rfl rfl rfl (q := 53) rfl ?_
      refine st_aloadn O dX6_row_53 rfl (q := 54) rfl ?_
      refine st_geti O dX6_row_54 fl_X6_34 rfl rfl rfl rfl (q := 57) rfl ?_
      refine st_ireturn O dX6_row_57 ?_
      obtain ⟨j, hj, rfl⟩ := nI_of (Int32.not_lt.mpr c1)
      have h99 : ¬ 99 < j := fun z => c14 ((nI_ltI (by decide) hj).mpr z)
      rw [show f_row (nI j) σ = (nI (σ.2.2.2.1.length + 1), (σ.1, σ.2.1, σ.2.2.1, σ.2.2.2.1 ++ [(nI j).toNatClampNeg], σ.2.2.2.2)) from (if_pos c1).trans ((if_neg c14).trans (if_neg (by omega))), nI_clamp hj] at hK
      refine hK _ ⟨_, by rw [List.length_append]; rfl, h1, h2, h3, by rw [List.length_append]; exact c23, fun i hi => ?_, fun v hv => ?_⟩
      · rw [List.length_append] at hi
        by_cases e : i = σ.2.2.2.1.length
        · rw [e, pk_us, ga_last rfl]
        · have : i < σ.2.2.2.1.length := by simp only [List.length_cons, List.length_nil] at hi; omega
          rw [pk_un e, hu2 i this, ga_left this]
      · rcases List.mem_append.mp hv with q | q
        · exact hu3 v q
        · rw [List.mem_singleton.mp q]; omega
    refine st_aloadn O dX6_row_26 rfl (q := 27) rfl ?_
    refine st_bipush O dX6_row_27 am_bipush_m6 (q := 29) rfl ?_
    refine st_call O dX6_row_29 cs_X6_row_29 (q := 32) rfl (am_siq rfl rfl rfl (Nat.le_of_ble_eq_true rfl) rfl ?_)
    refine ⟨_, _, 6, by decide, by decide, rfl, rfl, ?_⟩
    refine am_nrq rfl rfl ?_
    rw [show f_row a σ = rfs 6 σ from (if_pos c1).trans (by first | exact if_pos c14 | exact (if_neg c14).trans (if_pos c23))] at hK
    exact st_ireturn O dX6_row_32 (hK _ ⟨_, rfl, h1, h2, h3, hu⟩)
  refine st_aloadn O dX6_row_4 rfl (q := 5) rfl ?_
  refine st_bipush O dX6_row_5 am_bipush_m4 (q := 7) rfl ?_
  refine st_call O dX6_row_7 cs_X6_row_7 (q := 10) rfl (am_siq rfl rfl rfl (Nat.le_of_ble_eq_true rfl) rfl ?_)
  refine ⟨_, _, 4, by decide, by decide, rfl, rfl, ?_⟩
  refine am_nrq rfl rfl ?_
  rw [show f_row a σ = rfs 4 σ from if_neg c1] at hK
  exact st_ireturn O dX6_row_10 (hK _ ⟨_, rfl, h1, h2, h3, hu⟩)
theorem C_X6_row : am_ctr yX6_row cX6_row 2 (some .int) 1 21 sh_VQ [some 0, none] T_X6_row := am_mk (by decide) (Or.inr (Or.inl ⟨rfl, rfl⟩)) (by decide) (by decide) (by decide) fl_X6_ok kc_X6_ok ck_X6_row B_X6_row
/-- the road kept -/
def V_K (o : List Nat × List Nat × (Nat → Int32)) (σ : Sg) (D : am_D) : Prop := ∃ ik n0 n1 n2 n3 n4 n5 k0 k1 k2 k3 k4 k5, D = [.inl [ik, nI σ.2.2.2.1.length], n0, n1, n2, n3, n4, n5, k0, k1, k2, k3, k4, k5, .inr σ.2.2.2.2] ∧ rS σ.1 [n0, n1, n2, n3, n4, n5] ∧ kpX σ.2.1 ik [k0, k1, k2, k3, k4, k5]
theorem kpX.form {y : Option RS} {ik : Int32} {D : am_D} (h : kpX y ik D) : rF D := by
  cases y with
  | none => exact h.2
  | some y => exact h.2.form
def cs_X6_image : Nat → List am_V → am_D → am_K → Prop := am_cs [(8, am_site 2 [some 0, some 6] T_X4_copyFrom [7, 8, 9, 10, 11, 12, 1, 2, 3, 4, 5, 6] [7, 8, 9, 10, 11, 12, 1, 2, 3, 4, 5, 6])]
theorem cs_X6_image_8 : cs_X6_image 8 = am_site 2 [some 0, some 6] T_X4_copyFrom [7, 8, 9, 10, 11, 12, 1, 2, 3, 4, 5, 6] [7, 8, 9, 10, 11, 12, 1, 2, 3, 4, 5, 6] := rfl
theorem ck_X6_image : ∀ X : am_X, am_cx X RX6 cX6_image 1 1 22 → ∀ pc, am_csok X 1 sh_VK pc (cs_X6_image pc) := fun X hX => am_cs_ok (List.forall_mem_cons.mpr ⟨am_callV hX C_X4_copyFrom mo_X4_copyFrom rfl lk_X6_224 dX6_image_8 rfl rfl rfl (by decide), fun _ h => absurd h List.not_mem_nil⟩)
abbrev ok_X6_image (X : am_X) (K : List Int32 → am_D → Prop) : Prop := am_ok X RX6 cX6_image 1 sh_VK fl_X6 kc_X6 none 1 cs_X6_image K
abbrev aw_X6_image (X : am_X) (pc : Nat) (ls : am_L) (st : List am_V) (D : am_D) : Prop := am_aw X 1 sh_VK pc ls st D
abbrev T_X6_image : am_TT := am_v0 V_K f_image
set_option maxHeartbeats 200000 in
theorem B_X6_image : ∀ (X : am_X) (is : List Int32) (D : am_D) (K : List Int32 → am_D → Prop), ok_X6_image X K → T_X6_image is D K → is.length = (List.filter Option.isNone ([some 0] : List (Option Nat))).length → D.length = sh_VK.length → am_aw X 1 sh_VK 0 (am_l0 1 [some 0] is) [] D := by
  intro X is D K O hT _ _
  obtain ⟨o, σ, ⟨ik, n0, n1, n2, n3, n4, n5, k0, k1, k2, k3, k4, k5, rfl, hn, hk⟩, rfl, hK⟩ := hT
  obtain ⟨kk, ff, ll, hh, ii, e, hn9, hb2, hw9, hj, hp, hi⟩ := id hn
  cases e
  refine am_begin rfl ?_
  refine st_aloadn O dX6_image_0 rfl (q := 1) rfl ?_
  refine st_getr O dX6_image_1 fl_X6_16 rfl rfl rfl (q := 4) rfl ?_
  refine st_aloadn O dX6_image_4 rfl (q := 5) rfl ?_
  refine st_getr O dX6_image_5 fl_X6_10 rfl rfl rfl (q := 8) rfl ?_
  refine st_call O dX6_image_8 cs_X6_image_8 (q := 11) rfl (am_siq rfl rfl rfl (Nat.le_of_ble_eq_true rfl) rfl ?_)
  refine ⟨gN σ, gb σ, gw σ, gk σ, gf σ, gl σ, gh σ, gq σ, [_, _, _, _, _, _], _, rfl, rfl, hk.form, hn, fun d hd => ?_⟩
  obtain ⟨x0, x1, x2, x3, x4, x5, rfl⟩ := rF_lit hd.form
  refine am_nrp rfl rfl rfl rfl ?_
  refine st_aloadn O dX6_image_11 rfl (q := 12) rfl ?_
  refine st_iconst O dX6_image_12 am_iconst_1 (q := 13) rfl ?_
  refine st_putz O dX6_image_13 fl_X6_19 rfl rfl rfl rfl rfl (by first | exact Or.inl rfl | exact Or.inr rfl | assumption) (q := 16) rfl ?_
  refine st_aloadn O dX6_image_16 rfl (q := 17) rfl ?_
  refine st_getr O dX6_image_17 fl_X6_10 rfl rfl rfl (q := 20) rfl ?_
  refine st_geti O dX6_image_20 fl_X6_158 rfl rfl rfl rfl (q := 23) rfl ?_
  refine st_ireturn O dX6_image_23 ?_
  exact hK _ ⟨1, _, _, _, _, _, _, _, _, _, _, _, _, rfl, hn, ⟨rfl, hd⟩⟩
theorem C_X6_image : am_ctr yX6_image cX6_image 1 (some .int) 1 22 sh_VK [some 0] T_X6_image := am_mk (by decide) (Or.inr (Or.inl ⟨rfl, rfl⟩)) (by decide) (by decide) (by decide) fl_X6_ok kc_X6_ok ck_X6_image B_X6_image
def cs_X6_on : Nat → List am_V → am_D → am_K → Prop := am_cs [(10, am_site 2 [some 0, none] T_X6_refuse [0, 13] [0, 13, 1, 7, 14, 15, 16, 17, 18, 19]), (22, am_site 2 [some 0, some 6] T_X4_copyFrom [1, 2, 3, 4, 5, 6, 7, 8, 9, 10, 11, 12] [1, 2, 3, 4, 5, 6, 7, 8, 9, 10, 11, 12])]
theorem cs_X6_on_10 : cs_X6_on 10 = am_site 2 [some 0, none] T_X6_refuse [0, 13] [0, 13, 1, 7, 14, 15, 16, 17, 18, 19] := rfl
theorem cs_X6_on_22 : cs_X6_on 22 = am_site 2 [some 0, some 6] T_X4_copyFrom [1, 2, 3, 4, 5, 6, 7, 8, 9, 10, 11, 12] [1, 2, 3, 4, 5, 6, 7, 8, 9, 10, 11, 12] := rfl
theorem ck_X6_on : ∀ X : am_X, am_cx X RX6 cX6_on 1 1 22 → ∀ pc, am_csok X 1 sh_VK pc (cs_X6_on pc) := fun X hX => am_cs_ok (List.forall_mem_cons.mpr ⟨am_callV hX C_X6_refuse mo_X6_refuse rfl lk_X6_65 dX6_on_10 rfl rfl rfl (by decide), List.forall_mem_cons.mpr ⟨am_callV hX C_X4_copyFrom mo_X4_copyFrom rfl lk_X6_224 dX6_on_22 rfl rfl rfl (by decide), fun _ h => absurd h List.not_mem_nil⟩⟩)
abbrev ok_X6_on (X : am_X) (K : List Int32 → am_D → Prop) : Prop := am_ok X RX6 cX6_on 1 sh_VK fl_X6 kc_X6 none 1 cs_X6_on K
abbrev aw_X6_on (X : am_X) (pc : Nat) (ls : am_L) (st : List am_V) (D : am_D) : Prop := am_aw X 1 sh_VK pc ls st D
abbrev T_X6_on : am_TT := am_v0 V_K f_on
set_option maxHeartbeats 200000 in
theorem B_X6_on : ∀ (X : am_X) (is : List Int32) (D : am_D) (K : List Int32 → am_D → Prop), ok_X6_on X K → T_X6_on is D K → is.length = (List.filter Option.isNone ([some 0] : List (Option Nat))).length → D.length = sh_VK.length → am_aw X 1 sh_VK 0 (am_l0 1 [some 0] is) [] D := by
  intro X is D K O hT _ _
  obtain ⟨o, ⟨x, kp, lt, to, rf⟩, ⟨ik, n0, n1, n2, n3, n4, n5, k0, k1, k2, k3, k4, k5, rfl, hn, hk⟩, rfl, hK⟩ := hT
  cases kp with
  | none =>
    obtain ⟨rfl, hk2⟩ := id hk
    refine am_begin rfl ?_
    refine st_aloadn O dX6_on_0 rfl (q := 1) rfl ?_
    refine st_geti O dX6_on_1 fl_X6_19 rfl rfl rfl rfl (q := 4) rfl ?_
    refine st_if_ne O dX6_on_4 (t := 14) rfl (q := 7) rfl (fun c4 => ?_) (fun c4 => ?_)
    · exact absurd c4 (by decide)
    refine st_aloadn O dX6_on_7 rfl (q := 8) rfl ?_
    refine st_bipush O dX6_on_8 am_bipush_m3 (q := 10) rfl ?_
    refine st_call O dX6_on_10 cs_X6_on_10 (q := 13) rfl (am_siq rfl rfl rfl (Nat.le_of_ble_eq_true rfl) rfl ?_)
    refine ⟨_, _, 3, by decide, by decide, rfl, rfl, ?_⟩
    refine am_nrp rfl rfl rfl rfl ?_
    refine st_ireturn O dX6_on_13 ?_
    exact hK _ ⟨_, _, _, _, _, _, _, _, _, _, _, _, _, rfl, hn, hk⟩
  | some y =>
    obtain ⟨rfl, hk2⟩ := id hk
    have hk2 : rS y [k0, k1, k2, k3, k4, k5] := hk2
    refine am_begin rfl ?_
    refine st_aloadn O dX6_on_0 rfl (q := 1) rfl ?_
    refine st_geti O dX6_on_1 fl_X6_19 rfl rfl rfl rfl (q := 4) rfl ?_
    refine st_if_ne O dX6_on_4 (t := 14) rfl (q := 7) rfl (fun c4 => ?_) (fun c4 => ?_)
    · refine st_aloadn O dX6_on_14 rfl (q := 15) rfl ?_
      refine st_getr O dX6_on_15 fl_X6_10 rfl rfl rfl (q := 18) rfl ?_
      refine st_aloadn O dX6_on_18 rfl (q := 19) rfl ?_
      refine st_getr O dX6_on_19 fl_X6_16 rfl rfl rfl (q := 22) rfl ?_
      refine st_call O dX6_on_22 cs_X6_on_22 (q := 25) rfl (am_siq rfl rfl rfl (Nat.le_of_ble_eq_true rfl) rfl ?_)
      refine ⟨y.1, y.2.1, y.2.2.1, y.2.2.2.1, y.2.2.2.2.1, y.2.2.2.2.2.1, y.2.2.2.2.2.2.1, y.2.2.2.2.2.2.2, [_, _, _, _, _, _], _, rfl, rfl, hn.form, hk2, fun d hd => ?_⟩
      obtain ⟨kk, ff, ll, hh, ii, rfl, -⟩ := id hd
      refine am_nrp rfl rfl rfl rfl ?_
      refine st_aloadn O dX6_on_25 rfl (q := 26) rfl ?_
      refine st_getr O dX6_on_26 fl_X6_10 rfl rfl rfl (q := 29) rfl ?_
      refine st_geti O dX6_on_29 fl_X6_158 rfl rfl rfl rfl (q := 32) rfl ?_
      refine st_ireturn O dX6_on_32 ?_
      exact hK _ ⟨1, _, _, _, _, _, _, _, _, _, _, _, _, rfl, hd, ⟨rfl, hk2⟩⟩
    exact absurd c4 (by decide)
theorem C_X6_on : am_ctr yX6_on cX6_on 1 (some .int) 1 22 sh_VK [some 0] T_X6_on := am_mk (by decide) (Or.inr (Or.inl ⟨rfl, rfl⟩)) (by decide) (by decide) (by decide) fl_X6_ok kc_X6_ok ck_X6_on B_X6_on
