/-! the reference reads one statement -/
/-- the road behind one statement told (or the form only looked at) -/
theorem dgF (ls : List Nat) (b : Nat) : ∀ m, b ≤ ls.length → (∀ i, i < m → isD ls (b + i)) ∨ ∃ f, f < m ∧ (∀ i, i < f → isD ls (b + i)) ∧ ¬ isD ls (b + f) ∧ b + f ≤ ls.length
  | 0, _ => Or.inl (fun i h => absurd h (Nat.not_lt_zero i))
  | m + 1, hb => by
    rcases dgF ls b m hb with h | ⟨f, h1, h2, h3, h4⟩
    · by_cases e : isD ls (b + m)
      · refine Or.inl (fun i hi => ?_)
        by_cases q : i = m
        · rw [q]; exact e
        · exact h i (by omega)
      · refine Or.inr ⟨m, Nat.lt_succ_self m, h, e, ?_⟩
        cases m with
        | zero => exact hb
        | succ m => have := (h m (Nat.lt_succ_self m)).1; omega
    · exact Or.inr ⟨f, Nat.lt_succ_of_lt h1, h2, h3, h4⟩
theorem mL_up {n : Nat} {Q : Nat → List Nat} {lA pA : Nat → Int32} (h : mL n Q lA pA) (hn : n < 9) : mL (n + 1) Q (upd lA n (-9)) pA := by
  refine ⟨hn, fun z hz => ⟨(h.2.1 z hz).1, fun c hc => ?_⟩, fun c hc h0 h1 => ?_⟩
  · obtain ⟨a1, a2, a3⟩ := (h.2.1 z hz).2 c hc
    exact ⟨Nat.lt_succ_of_lt a1, by rw [pk_un (by omega)]; exact a2, a3⟩
  · by_cases e : c = n
    · rw [e, pk_us]
    · rw [pk_un e]; exact h.2.2 c (by omega) h0 h1
theorem mL_in9 {n : Nat} {Q : Nat → List Nat} {lA pA : Nat → Int32} (h : mL n Q lA pA) (hn : n < 9) {t : Nat} (ht : t < 2) : mL (n + 1) (fun y => if y = t then Q y ++ [n] else Q y) (upd lA n (nI t)) (upd pA n (nI (Q t).length)) := by
  have h1 := mL_come (mL_up h hn) (c := n) (t := t) (Nat.lt_succ_self n) ht (fun y hy q => Nat.lt_irrefl n ((h.2.1 y hy).2 n q).1)
  refine mL_congr h1 (fun _ _ => rfl) (fun c _ => ⟨?_, rfl⟩)
  by_cases e : c = n
  · rw [e, pk_us, pk_us]
  · rw [pk_un e, pk_un e, pk_un e]
theorem xi_no {n d : Nat} (hn : n ≤ 9) (hd : d ≤ 9) (h : ¬ d < n) : xi n (nI d) = none := by
  cases hx : xi n (nI d) with
  | none => rfl
  | some j =>
    obtain ⟨h1, h2⟩ := xi_some hn hx
    rw [← (nI_eq (by omega) (by omega)).mp h2] at h1
    exact absurd h1 h
theorem kx_ng : ∀ k, k < 256 → (kxf k).isSome = false → kx k = -1 := by decide +kernel
def stT (ls : List Nat) (s : Nat) (ir iM tU aS cH lO wd : Int32) (oA rA eA xA nA gA wA uA tA : Nat → Int32) (is : List Int32) (x : RS) (kA fA hA lA pA vA : Nat → Int32) (K : List Int32 → am_D → Prop) : Prop := (is = [0] ∧ s ≤ ls.length ∧ (s < ls.length ∨ ls.length = 0) ∧ ((∀ i, s ≤ i → i < s + slN (ls.getD s 0) - 1 → i < ls.length ∧ inF ls s i = true) → 0 < slN (ls.getD s 0) → ∀ vA' : Nat → Int32, K [1] [.inl [nI x.1, nI x.2.1, nI x.2.2.1, nI ls.length, nI (s + slN (ls.getD s 0) - 1), ir, iM, tU, aS, cH, lO, wd], .inr kA, .inr fA, .inr hA, .inr lA, .inr pA, .inr tA, .inr vA', .inr oA, .inr rA, .inr eA, .inr xA, .inr nA, .inr gA, .inr wA, .inr uA]) ∧ ∀ q (vA' : Nat → Int32), scF ls (ls.length - s) s s = some q → K [-1] [.inl [nI x.1, nI x.2.1, nI x.2.2.1, nI ls.length, nI q, ir, iM, tU, aS, cH, lO, wd], .inr kA, .inr fA, .inr hA, .inr lA, .inr pA, .inr tA, .inr vA', .inr oA, .inr rA, .inr eA, .inr xA, .inr nA, .inr gA, .inr wA, .inr uA]) ∨ (is = [1] ∧ s < ls.length ∧ fmS ls s ∧ (tl1 ls s x = none → ∀ (aT' : Int32) (vA' : Nat → Int32), K [0] [.inl [nI x.1, nI x.2.1, nI x.2.2.1, nI ls.length, aT', ir, iM, tU, aS, cH, lO, wd], .inr kA, .inr fA, .inr hA, .inr lA, .inr pA, .inr tA, .inr vA', .inr oA, .inr rA, .inr eA, .inr xA, .inr nA, .inr gA, .inr wA, .inr uA]) ∧ ∀ y, tl1 ls s x = some y → ∀ (vA' kC fC hC lC pC : Nat → Int32), mR y kC fC hC lC pC → K [1] [.inl [nI y.1, nI y.2.1, nI y.2.2.1, nI ls.length, nI (s + slN (ls.getD s 0) - 1), ir, iM, tU, aS, cH, lO, wd], .inr kC, .inr fC, .inr hC, .inr lC, .inr pC, .inr tA, .inr vA', .inr oA, .inr rA, .inr eA, .inr xA, .inr nA, .inr gA, .inr wA, .inr uA])
def cs_X7_statement : Nat → List am_V → am_D → am_K → Prop := am_cs [(3, am_site 2 [some 0, none] T_X7_is [0, 6] [0, 6, 1, 2, 3, 4, 5, 7, 8, 9, 10, 11, 12, 13, 14, 15]), (43, am_site 2 [some 0, none] T_J0_indexOf_0f7a4 [] [998]), (69, am_site 2 [some 0, none] T_X7_digits [0, 6, 7] [0, 6, 7, 1, 2, 3, 4, 5, 8, 9, 10, 11, 12, 13, 14, 15]), (95, am_site 2 [some 0, none] T_X7_two [0, 7] [0, 7, 1, 2, 3, 4, 5, 6, 8, 9, 10, 11, 12, 13, 14, 15]), (169, am_site 2 [some 0, none] T_X7_inLane [0, 4, 5] [0, 4, 5, 1, 2, 3, 6, 7, 8, 9, 10, 11, 12, 13, 14, 15]), (183, am_site 2 [some 0, none] T_X7_two [0, 7] [0, 7, 1, 2, 3, 4, 5, 6, 8, 9, 10, 11, 12, 13, 14, 15]), (202, am_site 2 [some 0, none] T_X7_is [0, 6] [0, 6, 1, 2, 3, 4, 5, 7, 8, 9, 10, 11, 12, 13, 14, 15]), (210, am_site 2 [some 0, none] T_X7_digits [0, 6, 7] [0, 6, 7, 1, 2, 3, 4, 5, 8, 9, 10, 11, 12, 13, 14, 15]), (231, am_site 2 [some 0, none] T_X7_isCar [0] [0, 1, 2, 3, 4, 5, 6, 7, 8, 9, 10, 11, 12, 13, 14, 15]), (244, am_site 2 [some 0, none] T_X7_isCar [0] [0, 1, 2, 3, 4, 5, 6, 7, 8, 9, 10, 11, 12, 13, 14, 15]), (320, am_site 4 [some 0, none, none, none] T_X7_becomes [0, 1, 2] [0, 1, 2, 3, 4, 5, 6, 7, 8, 9, 10, 11, 12, 13, 14, 15]), (332, am_site 4 [some 0, none, none, none] T_X7_becomes [0, 1, 2] [0, 1, 2, 3, 4, 5, 6, 7, 8, 9, 10, 11, 12, 13, 14, 15]), (340, am_site 2 [some 0, none] T_X7_is [0, 6] [0, 6, 1, 2, 3, 4, 5, 7, 8, 9, 10, 11, 12, 13, 14, 15]), (353, am_site 2 [some 0, none] T_X7_is [0, 6] [0, 6, 1, 2, 3, 4, 5, 7, 8, 9, 10, 11, 12, 13, 14, 15]), (366, am_site 2 [some 0, none] T_X7_is [0, 6] [0, 6, 1, 2, 3, 4, 5, 7, 8, 9, 10, 11, 12, 13, 14, 15]), (379, am_site 2 [some 0, none] T_X7_is [0, 6] [0, 6, 1, 2, 3, 4, 5, 7, 8, 9, 10, 11, 12, 13, 14, 15]), (397, am_site 2 [some 0, none] T_X7_digits [0, 6, 7] [0, 6, 7, 1, 2, 3, 4, 5, 8, 9, 10, 11, 12, 13, 14, 15]), (463, am_site 2 [some 0, none] T_X7_isCar [0] [0, 1, 2, 3, 4, 5, 6, 7, 8, 9, 10, 11, 12, 13, 14, 15]), (483, am_site 2 [some 0, none] T_X7_overGoes [0, 4, 5] [0, 4, 5, 1, 2, 3, 6, 7, 8, 9, 10, 11, 12, 13, 14, 15]), (497, am_site 2 [some 0, none] T_X7_firstStands [0, 4, 5] [0, 4, 5, 1, 2, 3, 6, 7, 8, 9, 10, 11, 12, 13, 14, 15])]
theorem cs_X7_statement_3 : cs_X7_statement 3 = am_site 2 [some 0, none] T_X7_is [0, 6] [0, 6, 1, 2, 3, 4, 5, 7, 8, 9, 10, 11, 12, 13, 14, 15] := rfl
theorem cs_X7_statement_43 : cs_X7_statement 43 = am_site 2 [some 0, none] T_J0_indexOf_0f7a4 [] [998] := rfl
theorem cs_X7_statement_69 : cs_X7_statement 69 = am_site 2 [some 0, none] T_X7_digits [0, 6, 7] [0, 6, 7, 1, 2, 3, 4, 5, 8, 9, 10, 11, 12, 13, 14, 15] := rfl
theorem cs_X7_statement_95 : cs_X7_statement 95 = am_site 2 [some 0, none] T_X7_two [0, 7] [0, 7, 1, 2, 3, 4, 5, 6, 8, 9, 10, 11, 12, 13, 14, 15] := rfl
theorem cs_X7_statement_169 : cs_X7_statement 169 = am_site 2 [some 0, none] T_X7_inLane [0, 4, 5] [0, 4, 5, 1, 2, 3, 6, 7, 8, 9, 10, 11, 12, 13, 14, 15] := rfl
theorem cs_X7_statement_183 : cs_X7_statement 183 = am_site 2 [some 0, none] T_X7_two [0, 7] [0, 7, 1, 2, 3, 4, 5, 6, 8, 9, 10, 11, 12, 13, 14, 15] := rfl
theorem cs_X7_statement_202 : cs_X7_statement 202 = am_site 2 [some 0, none] T_X7_is [0, 6] [0, 6, 1, 2, 3, 4, 5, 7, 8, 9, 10, 11, 12, 13, 14, 15] := rfl
theorem cs_X7_statement_210 : cs_X7_statement 210 = am_site 2 [some 0, none] T_X7_digits [0, 6, 7] [0, 6, 7, 1, 2, 3, 4, 5, 8, 9, 10, 11, 12, 13, 14, 15] := rfl
theorem cs_X7_statement_231 : cs_X7_statement 231 = am_site 2 [some 0, none] T_X7_isCar [0] [0, 1, 2, 3, 4, 5, 6, 7, 8, 9, 10, 11, 12, 13, 14, 15] := rfl
theorem cs_X7_statement_244 : cs_X7_statement 244 = am_site 2 [some 0, none] T_X7_isCar [0] [0, 1, 2, 3, 4, 5, 6, 7, 8, 9, 10, 11, 12, 13, 14, 15] := rfl
theorem cs_X7_statement_320 : cs_X7_statement 320 = am_site 4 [some 0, none, none, none] T_X7_becomes [0, 1, 2] [0, 1, 2, 3, 4, 5, 6, 7, 8, 9, 10, 11, 12, 13, 14, 15] := rfl
theorem cs_X7_statement_332 : cs_X7_statement 332 = am_site 4 [some 0, none, none, none] T_X7_becomes [0, 1, 2] [0, 1, 2, 3, 4, 5, 6, 7, 8, 9, 10, 11, 12, 13, 14, 15] := rfl
theorem cs_X7_statement_340 : cs_X7_statement 340 = am_site 2 [some 0, none] T_X7_is [0, 6] [0, 6, 1, 2, 3, 4, 5, 7, 8, 9, 10, 11, 12, 13, 14, 15] := rfl
theorem cs_X7_statement_353 : cs_X7_statement 353 = am_site 2 [some 0, none] T_X7_is [0, 6] [0, 6, 1, 2, 3, 4, 5, 7, 8, 9, 10, 11, 12, 13, 14, 15] := rfl
theorem cs_X7_statement_366 : cs_X7_statement 366 = am_site 2 [some 0, none] T_X7_is [0, 6] [0, 6, 1, 2, 3, 4, 5, 7, 8, 9, 10, 11, 12, 13, 14, 15] := rfl
theorem cs_X7_statement_379 : cs_X7_statement 379 = am_site 2 [some 0, none] T_X7_is [0, 6] [0, 6, 1, 2, 3, 4, 5, 7, 8, 9, 10, 11, 12, 13, 14, 15] := rfl
theorem cs_X7_statement_397 : cs_X7_statement 397 = am_site 2 [some 0, none] T_X7_digits [0, 6, 7] [0, 6, 7, 1, 2, 3, 4, 5, 8, 9, 10, 11, 12, 13, 14, 15] := rfl
theorem cs_X7_statement_463 : cs_X7_statement 463 = am_site 2 [some 0, none] T_X7_isCar [0] [0, 1, 2, 3, 4, 5, 6, 7, 8, 9, 10, 11, 12, 13, 14, 15] := rfl
theorem cs_X7_statement_483 : cs_X7_statement 483 = am_site 2 [some 0, none] T_X7_overGoes [0, 4, 5] [0, 4, 5, 1, 2, 3, 6, 7, 8, 9, 10, 11, 12, 13, 14, 15] := rfl
theorem cs_X7_statement_497 : cs_X7_statement 497 = am_site 2 [some 0, none] T_X7_firstStands [0, 4, 5] [0, 4, 5, 1, 2, 3, 6, 7, 8, 9, 10, 11, 12, 13, 14, 15] := rfl
theorem ck_X7_statement : ∀ X : am_X, am_cx X RX7 cX7_statement 4 4 91 → ∀ pc, am_csok X 4 sh_Mod pc (cs_X7_statement pc) := fun X hX => am_cs_ok (List.forall_mem_cons.mpr ⟨am_callV hX C_X7_is mo_X7_is rfl lk_X7_76 dX7_statement_3 rfl rfl rfl (by decide), List.forall_mem_cons.mpr ⟨am_callIx hX lk_X7_82 dX7_statement_43 (by decide), List.forall_mem_cons.mpr ⟨am_callV hX C_X7_digits mo_X7_digits rfl lk_X7_87 dX7_statement_69 rfl rfl rfl (by decide), List.forall_mem_cons.mpr ⟨am_callV hX C_X7_two mo_X7_two rfl lk_X7_90 dX7_statement_95 rfl rfl rfl (by decide), List.forall_mem_cons.mpr ⟨am_callV hX C_X7_inLane mo_X7_inLane rfl lk_X7_93 dX7_statement_169 rfl rfl rfl (by decide), List.forall_mem_cons.mpr ⟨am_callV hX C_X7_two mo_X7_two rfl lk_X7_90 dX7_statement_183 rfl rfl rfl (by decide), List.forall_mem_cons.mpr ⟨am_callV hX C_X7_is mo_X7_is rfl lk_X7_76 dX7_statement_202 rfl rfl rfl (by decide), List.forall_mem_cons.mpr ⟨am_callV hX C_X7_digits mo_X7_digits rfl lk_X7_87 dX7_statement_210 rfl rfl rfl (by decide), List.forall_mem_cons.mpr ⟨am_callV hX C_X7_isCar mo_X7_isCar rfl lk_X7_96 dX7_statement_231 rfl rfl rfl (by decide), List.forall_mem_cons.mpr ⟨am_callV hX C_X7_isCar mo_X7_isCar rfl lk_X7_96 dX7_statement_244 rfl rfl rfl (by decide), List.forall_mem_cons.mpr ⟨am_callV hX C_X7_becomes mo_X7_becomes rfl lk_X7_99 dX7_statement_320 rfl rfl rfl (by decide), List.forall_mem_cons.mpr ⟨am_callV hX C_X7_becomes mo_X7_becomes rfl lk_X7_99 dX7_statement_332 rfl rfl rfl (by decide), List.forall_mem_cons.mpr ⟨am_callV hX C_X7_is mo_X7_is rfl lk_X7_76 dX7_statement_340 rfl rfl rfl (by decide), List.forall_mem_cons.mpr ⟨am_callV hX C_X7_is mo_X7_is rfl lk_X7_76 dX7_statement_353 rfl rfl rfl (by decide), List.forall_mem_cons.mpr ⟨am_callV hX C_X7_is mo_X7_is rfl lk_X7_76 dX7_statement_366 rfl rfl rfl (by decide), List.forall_mem_cons.mpr ⟨am_callV hX C_X7_is mo_X7_is rfl lk_X7_76 dX7_statement_379 rfl rfl rfl (by decide), List.forall_mem_cons.mpr ⟨am_callV hX C_X7_digits mo_X7_digits rfl lk_X7_87 dX7_statement_397 rfl rfl rfl (by decide), List.forall_mem_cons.mpr ⟨am_callV hX C_X7_isCar mo_X7_isCar rfl lk_X7_96 dX7_statement_463 rfl rfl rfl (by decide), List.forall_mem_cons.mpr ⟨am_callV hX C_X7_overGoes mo_X7_overGoes rfl lk_X7_106 dX7_statement_483 rfl rfl rfl (by decide), List.forall_mem_cons.mpr ⟨am_callV hX C_X7_firstStands mo_X7_firstStands rfl lk_X7_109 dX7_statement_497 rfl rfl rfl (by decide), fun _ h => absurd h List.not_mem_nil⟩⟩⟩⟩⟩⟩⟩⟩⟩⟩⟩⟩⟩⟩⟩⟩⟩⟩⟩⟩)
abbrev ok_X7_statement (X : am_X) (K : List Int32 → am_D → Prop) : Prop := am_ok X RX7 cX7_statement 4 sh_Mod fl_X7 kc_X7 none 1 cs_X7_statement K
abbrev aw_X7_statement (X : am_X) (pc : Nat) (ls : am_L) (st : List am_V) (D : am_D) : Prop := am_aw X 4 sh_Mod pc ls st D
abbrev T_X7_statement : am_TT := fun is D K => ∃ (x : RS) (ls : List Nat) (s : Nat) (ir iM tU aS cH lO wd : Int32) (kA fA hA lA pA tA vA oA eA xA nA gA wA uA rA : Nat → Int32), D = [.inl [nI x.1, nI x.2.1, nI x.2.2.1, nI ls.length, nI s, ir, iM, tU, aS, cH, lO, wd], .inr kA, .inr fA, .inr hA, .inr lA, .inr pA, .inr tA, .inr vA, .inr oA, .inr rA, .inr eA, .inr xA, .inr nA, .inr gA, .inr wA, .inr uA] ∧ mR x kA fA hA lA pA ∧ mT ls tA ∧ stT ls s ir iM tU aS cH lO wd oA rA eA xA nA gA wA uA tA is x kA fA hA lA pA vA K
set_option maxHeartbeats 200000 in
theorem B_X7_statement : ∀ (X : am_X) (is : List Int32) (D : am_D) (K : List Int32 → am_D → Prop), ok_X7_statement X K → T_X7_statement is D K → is.length = (List.filter Option.isNone ([some 0, none] : List (Option Nat))).length → D.length = sh_Mod.length → am_aw X 4 sh_Mod 0 (am_l0 4 [some 0, none] is) [] D := by
  intro X is D K O hT _ _
  obtain ⟨x, ls, s, ir, iM, tU, aS, cH, lO, wd, kA, fA, hA, lA, pA, tA, vA, oA, eA, xA, nA, gA, wA, uA, rA, rfl, hR, ht, hT⟩ := hT
  obtain ⟨hb, hw, hp, hj, hL⟩ := id hR
  have hn : x.1 ≤ 9 := hL.1
  obtain ⟨t1, t2, t3⟩ := id ht
  have h256 := tX_lt t3 (s + 1)
  rcases hT with ⟨rfl, hs, hs0, hS, hB⟩ | ⟨rfl, hlt, hf, hN, hY⟩
  · by_cases hd : s < ls.length ∧ 0 < slN (ls.getD s 0)
    · obtain ⟨hlt, hsl⟩ := hd
      have i0 : inF ls s s = true := by rw [inF_0]; exact decide_eq_true hsl
      have hk6 : ls.getD s 0 = 99 ∨ ls.getD s 0 = 120 ∨ ls.getD s 0 = 98 ∨ ls.getD s 0 = 119 ∨ ls.getD s 0 = 111 ∨ ls.getD s 0 = 102 := by
        unfold slN at hsl
        revert hsl
        repeat' split
        all_goals omega
      rcases hk6 with hh | hh | hh | hh | hh | hh
      · have eS : slN (ls.getD s 0) = 7 := by rw [hh]; rfl
        have hkB : (s + 1 < ls.length → (kxf (ls.getD (s + 1) 0)).isSome = false) → K [-1] [.inl [nI x.1, nI x.2.1, nI x.2.2.1, nI ls.length, nI (s + 1), ir, iM, tU, aS, cH, lO, wd], .inr kA, .inr fA, .inr hA, .inr lA, .inr pA, .inr tA, .inr vA, .inr oA, .inr rA, .inr eA, .inr xA, .inr nA, .inr gA, .inr wA, .inr uA] := fun hbad => hB (s + 1) _ (scF_fail (by omega) (by omega) (Or.inl (by omega)) (fun i h1 h2 => by rw [show i = s by omega]; exact ⟨i0, by omega⟩) (fun h => by rw [inF_kind hh]; exact hbad h))
        rcases Nat.lt_or_ge (s + 1) ls.length with hl1 | hl1
        · have ht1 := t2 (s + 1) hl1
          cases hkx : (kxf (ls.getD (s + 1) 0)).isSome with
          | false =>
            have hkB := hkB (fun _ => hkx)
            have hkn := kx_ng _ h256 hkx
            refine am_begin rfl ?_
            refine st_aloadn O dX7_statement_0 rfl (q := 1) rfl ?_
            refine st_bipush O dX7_statement_1 am_bipush_99 (q := 3) rfl ?_
            refine st_call O dX7_statement_3 cs_X7_statement_3 (q := 6) rfl (am_siq rfl rfl rfl (Nat.le_of_ble_eq_true rfl) rfl ?_)
            refine ⟨ls, s, 99, _, _, _, _, _, _, _, _, _, _, tA, rfl, ht, hs, by decide, rfl, fun _ _ => ?_, fun z => absurd ⟨hlt, hh⟩ z⟩
            refine am_nrp rfl rfl rfl rfl ?_
            refine st_if_eq O dX7_statement_6 (t := 199) rfl (q := 9) rfl (fun c6 => ?_) (fun c6 => ?_)
            · exact absurd c6 (by decide)
            refine st_aloadn O dX7_statement_9 rfl (q := 10) rfl ?_
            refine st_geti O dX7_statement_10 fl_X7_73 rfl rfl rfl rfl (q := 13) rfl ?_
            refine st_aloadn O dX7_statement_13 rfl (q := 14) rfl ?_
            refine st_geti O dX7_statement_14 fl_X7_70 rfl rfl rfl rfl (q := 17) rfl ?_
            refine sn_icmp_ge O dX7_statement_17 (t := 49) rfl (q := 20) rfl (by omega) (by omega) (fun c17 => ?_) (fun c17 => ?_)
            · omega
            refine st_aloadn O dX7_statement_20 rfl (q := 21) rfl ?_
            refine st_getr O dX7_statement_21 fl_X7_25 rfl rfl rfl (q := 24) rfl ?_
            refine st_aloadn O dX7_statement_24 rfl (q := 25) rfl ?_
            refine st_geti O dX7_statement_25 fl_X7_73 rfl rfl rfl rfl (q := 28) rfl ?_
            refine sn_ald O dX7_statement_28 rfl rfl rfl ⟨by omega, by decide⟩ ht1 (q := 29) rfl ?_
            refine sn_if_le O dX7_statement_29 (t := 49) rfl (q := 32) rfl (by omega) (fun c29 => ?_) (fun c29 => ?_)
            · refine st_iconst O dX7_statement_49 am_iconst_m1 (q := 50) rfl ?_
              refine st_istoren O dX7_statement_50 rfl (q := 51) rfl ?_
              refine st_iloadn O dX7_statement_51 rfl (q := 52) rfl ?_
              refine st_if_ge O dX7_statement_52 (t := 57) rfl (q := 55) rfl (fun c52 => ?_) (fun c52 => ?_)
              · exact absurd c52 (by decide)
              refine st_iconst O dX7_statement_55 am_iconst_m1 (q := 56) rfl ?_
              refine st_ireturn O dX7_statement_56 ?_
              exact hkB
            refine st_ldc O dX7_statement_32 kc_X7_80 (q := 34) rfl ?_
            refine st_aloadn O dX7_statement_34 rfl (q := 35) rfl ?_
            refine st_getr O dX7_statement_35 fl_X7_25 rfl rfl rfl (q := 38) rfl ?_
            refine st_aloadn O dX7_statement_38 rfl (q := 39) rfl ?_
            refine st_geti O dX7_statement_39 fl_X7_73 rfl rfl rfl rfl (q := 42) rfl ?_
            refine sn_ald O dX7_statement_42 rfl rfl rfl ⟨by omega, by decide⟩ ht1 (q := 43) rfl ?_
            refine st_call O dX7_statement_43 cs_X7_statement_43 (q := 46) rfl (am_sipq rfl rfl rfl (Nat.le_of_ble_eq_true rfl) rfl (r := -1) ⟨_, h256, rfl, hkn.symm⟩ ?_)
            refine st_goto O dX7_statement_46 (t := 50) rfl ?_
            refine st_istoren O dX7_statement_50 rfl (q := 51) rfl ?_
            refine st_iloadn O dX7_statement_51 rfl (q := 52) rfl ?_
            refine st_if_ge O dX7_statement_52 (t := 57) rfl (q := 55) rfl (fun c52 => ?_) (fun c52 => ?_)
            · exact absurd c52 (by decide)
            refine st_iconst O dX7_statement_55 am_iconst_m1 (q := 56) rfl ?_
            refine st_ireturn O dX7_statement_56 ?_
            exact hkB
          | true =>
            obtain ⟨k1, k2, k3⟩ := kx_kxn _ h256 hkx
            have i1 : inF ls s (s + 1) = true := by rw [inF_kind hh]; exact hkx
            rcases dgF ls (s + 2) 4 (by omega) with hA4 | ⟨f, hf, hD, hno, hlf⟩
            · have hS := hS (dig_all (b := 2) (m := 4) (by decide) (by omega) (by omega) (fun i h1 h2 => by rcases (by omega : i = s ∨ i = s + 1) with e | e <;> rw [e]; exact ⟨hlt, i0⟩; exact ⟨hl1, i1⟩) hA4) hsl
              rw [show s + slN (ls.getD s 0) - 1 = s + 2 + 4 by omega] at hS
              refine am_begin rfl ?_
              refine st_aloadn O dX7_statement_0 rfl (q := 1) rfl ?_
              refine st_bipush O dX7_statement_1 am_bipush_99 (q := 3) rfl ?_
              refine st_call O dX7_statement_3 cs_X7_statement_3 (q := 6) rfl (am_siq rfl rfl rfl (Nat.le_of_ble_eq_true rfl) rfl ?_)
              refine ⟨ls, s, 99, _, _, _, _, _, _, _, _, _, _, tA, rfl, ht, hs, by decide, rfl, fun _ _ => ?_, fun z => absurd ⟨hlt, hh⟩ z⟩
              refine am_nrp rfl rfl rfl rfl ?_
              refine st_if_eq O dX7_statement_6 (t := 199) rfl (q := 9) rfl (fun c6 => ?_) (fun c6 => ?_)
              · exact absurd c6 (by decide)
              refine st_aloadn O dX7_statement_9 rfl (q := 10) rfl ?_
              refine st_geti O dX7_statement_10 fl_X7_73 rfl rfl rfl rfl (q := 13) rfl ?_
              refine st_aloadn O dX7_statement_13 rfl (q := 14) rfl ?_
              refine st_geti O dX7_statement_14 fl_X7_70 rfl rfl rfl rfl (q := 17) rfl ?_
              refine sn_icmp_ge O dX7_statement_17 (t := 49) rfl (q := 20) rfl (by omega) (by omega) (fun c17 => ?_) (fun c17 => ?_)
              · omega
              refine st_aloadn O dX7_statement_20 rfl (q := 21) rfl ?_
              refine st_getr O dX7_statement_21 fl_X7_25 rfl rfl rfl (q := 24) rfl ?_
              refine st_aloadn O dX7_statement_24 rfl (q := 25) rfl ?_
              refine st_geti O dX7_statement_25 fl_X7_73 rfl rfl rfl rfl (q := 28) rfl ?_
              refine sn_ald O dX7_statement_28 rfl rfl rfl ⟨by omega, by decide⟩ ht1 (q := 29) rfl ?_
              refine sn_if_le O dX7_statement_29 (t := 49) rfl (q := 32) rfl (by omega) (fun c29 => ?_) (fun c29 => ?_)
              · omega
              refine st_ldc O dX7_statement_32 kc_X7_80 (q := 34) rfl ?_
              refine st_aloadn O dX7_statement_34 rfl (q := 35) rfl ?_
              refine st_getr O dX7_statement_35 fl_X7_25 rfl rfl rfl (q := 38) rfl ?_
              refine st_aloadn O dX7_statement_38 rfl (q := 39) rfl ?_
              refine st_geti O dX7_statement_39 fl_X7_73 rfl rfl rfl rfl (q := 42) rfl ?_
              refine sn_ald O dX7_statement_42 rfl rfl rfl ⟨by omega, by decide⟩ ht1 (q := 43) rfl ?_
              refine st_call O dX7_statement_43 cs_X7_statement_43 (q := 46) rfl (am_sipq rfl rfl rfl (Nat.le_of_ble_eq_true rfl) rfl (r := nI (kxn (ls.getD (s + 1) 0))) ⟨_, h256, rfl, k1.symm⟩ ?_)
              refine st_goto O dX7_statement_46 (t := 50) rfl ?_
              refine st_istoren O dX7_statement_50 rfl (q := 51) rfl ?_
              refine st_iloadn O dX7_statement_51 rfl (q := 52) rfl ?_
              refine sn_if_ge O dX7_statement_52 (t := 57) rfl (q := 55) rfl (by omega) (fun c52 => ?_) (fun c52 => ?_)
              · refine st_aloadn O dX7_statement_57 rfl (q := 58) rfl ?_
                refine st_dup O dX7_statement_58 (q := 59) rfl ?_
                refine st_geti O dX7_statement_59 fl_X7_73 rfl rfl rfl rfl (q := 62) rfl ?_
                refine st_iconst O dX7_statement_62 am_iconst_1 (q := 63) rfl ?_
                refine st_iadd O dX7_statement_63 (by first | exact nI_add _ _ | exact rfl) (q := 64) rfl ?_
                refine st_puti O dX7_statement_64 fl_X7_73 rfl rfl rfl rfl rfl (q := 67) rfl ?_
                refine st_aloadn O dX7_statement_67 rfl (q := 68) rfl ?_
                refine st_iconst O dX7_statement_68 am_iconst_4 (q := 69) rfl ?_
                refine st_call O dX7_statement_69 cs_X7_statement_69 (q := 72) rfl (am_siq rfl rfl rfl (Nat.le_of_ble_eq_true rfl) rfl ?_)
                refine ⟨ls, s + 2, 4, _, _, _, _, _, _, _, _, _, _, tA, _, rfl, ht, by omega, by decide, rfl, fun _ vB hv => ?_, fun f hf _ hno => absurd (hA4 f hf) hno⟩
                refine am_nrp rfl rfl rfl rfl ?_
                refine st_if_ne O dX7_statement_72 (t := 77) rfl (q := 75) rfl (fun c72 => ?_) (fun c72 => ?_)
                · refine st_iloadn O dX7_statement_77 rfl (q := 78) rfl ?_
                  refine st_if_ne O dX7_statement_78 (t := 83) rfl (q := 81) rfl (fun c78 => ?_) (fun c78 => ?_)
                  · exact absurd c78 (by decide)
                  refine st_iconst O dX7_statement_81 am_iconst_1 (q := 82) rfl ?_
                  refine st_ireturn O dX7_statement_82 ?_
                  exact hS _
                exact absurd c72 (by decide)
              (first | exact c52.elim | exact absurd trivial c52 | exact absurd (Nat.zero_le _) c52)
            · have hB := fun vA' => hB (s + 2 + f) vA' (dig_fail (b := 2) (m := 4) (by decide) (by omega) (by omega) (fun i h1 h2 => by rcases (by omega : i = s ∨ i = s + 1) with e | e <;> rw [e]; exact i0; exact i1) hf hD hno hlf)
              refine am_begin rfl ?_
              refine st_aloadn O dX7_statement_0 rfl (q := 1) rfl ?_
              refine st_bipush O dX7_statement_1 am_bipush_99 (q := 3) rfl ?_
              refine st_call O dX7_statement_3 cs_X7_statement_3 (q := 6) rfl (am_siq rfl rfl rfl (Nat.le_of_ble_eq_true rfl) rfl ?_)
              refine ⟨ls, s, 99, _, _, _, _, _, _, _, _, _, _, tA, rfl, ht, hs, by decide, rfl, fun _ _ => ?_, fun z => absurd ⟨hlt, hh⟩ z⟩
              refine am_nrp rfl rfl rfl rfl ?_
              refine st_if_eq O dX7_statement_6 (t := 199) rfl (q := 9) rfl (fun c6 => ?_) (fun c6 => ?_)
              · exact absurd c6 (by decide)
              refine st_aloadn O dX7_statement_9 rfl (q := 10) rfl ?_
              refine st_geti O dX7_statement_10 fl_X7_73 rfl rfl rfl rfl (q := 13) rfl ?_
              refine st_aloadn O dX7_statement_13 rfl (q := 14) rfl ?_
              refine st_geti O dX7_statement_14 fl_X7_70 rfl rfl rfl rfl (q := 17) rfl ?_
              refine sn_icmp_ge O dX7_statement_17 (t := 49) rfl (q := 20) rfl (by omega) (by omega) (fun c17 => ?_) (fun c17 => ?_)
              · omega
              refine st_aloadn O dX7_statement_20 rfl (q := 21) rfl ?_
              refine st_getr O dX7_statement_21 fl_X7_25 rfl rfl rfl (q := 24) rfl ?_
              refine st_aloadn O dX7_statement_24 rfl (q := 25) rfl ?_
              refine st_geti O dX7_statement_25 fl_X7_73 rfl rfl rfl rfl (q := 28) rfl ?_
              refine sn_ald O dX7_statement_28 rfl rfl rfl ⟨by omega, by decide⟩ ht1 (q := 29) rfl ?_
              refine sn_if_le O dX7_statement_29 (t := 49) rfl (q := 32) rfl (by omega) (fun c29 => ?_) (fun c29 => ?_)
              · omega
              refine st_ldc O dX7_statement_32 kc_X7_80 (q := 34) rfl ?_
              refine st_aloadn O dX7_statement_34 rfl (q := 35) rfl ?_
              refine st_getr O dX7_statement_35 fl_X7_25 rfl rfl rfl (q := 38) rfl ?_
              refine st_aloadn O dX7_statement_38 rfl (q := 39) rfl ?_
              refine st_geti O dX7_statement_39 fl_X7_73 rfl rfl rfl rfl (q := 42) rfl ?_
              refine sn_ald O dX7_statement_42 rfl rfl rfl ⟨by omega, by decide⟩ ht1 (q := 43) rfl ?_
              refine st_call O dX7_statement_43 cs_X7_statement_43 (q := 46) rfl (am_sipq rfl rfl rfl (Nat.le_of_ble_eq_true rfl) rfl (r := nI (kxn (ls.getD (s + 1) 0))) ⟨_, h256, rfl, k1.symm⟩ ?_)
              refine st_goto O dX7_statement_46 (t := 50) rfl ?_
              refine st_istoren O dX7_statement_50 rfl (q := 51) rfl ?_
              refine st_iloadn O dX7_statement_51 rfl (q := 52) rfl ?_
              refine sn_if_ge O dX7_statement_52 (t := 57) rfl (q := 55) rfl (by omega) (fun c52 => ?_) (fun c52 => ?_)
              · refine st_aloadn O dX7_statement_57 rfl (q := 58) rfl ?_
                refine st_dup O dX7_statement_58 (q := 59) rfl ?_
                refine st_geti O dX7_statement_59 fl_X7_73 rfl rfl rfl rfl (q := 62) rfl ?_
                refine st_iconst O dX7_statement_62 am_iconst_1 (q := 63) rfl ?_
                refine st_iadd O dX7_statement_63 (by first | exact nI_add _ _ | exact rfl) (q := 64) rfl ?_
                refine st_puti O dX7_statement_64 fl_X7_73 rfl rfl rfl rfl rfl (q := 67) rfl ?_
                refine st_aloadn O dX7_statement_67 rfl (q := 68) rfl ?_
                refine st_iconst O dX7_statement_68 am_iconst_4 (q := 69) rfl ?_
                refine st_call O dX7_statement_69 cs_X7_statement_69 (q := 72) rfl (am_siq rfl rfl rfl (Nat.le_of_ble_eq_true rfl) rfl ?_)
                refine ⟨ls, s + 2, 4, _, _, _, _, _, _, _, _, _, _, tA, _, rfl, ht, by omega, by decide, rfl, fun hD => absurd (hD f hf) hno, fun f' hf' hD' hno' hl' vB => ?_⟩
                have ef : f' = f := by
                  rcases Nat.lt_trichotomy f' f with q | q | q
                  · exact absurd (hD f' q) hno'
                  · exact q
                  · exact absurd (hD' f q) hno
                subst ef
                refine am_nrp rfl rfl rfl rfl ?_
                refine st_if_ne O dX7_statement_72 (t := 77) rfl (q := 75) rfl (fun c72 => ?_) (fun c72 => ?_)
                · exact absurd c72 (by decide)
                refine st_iconst O dX7_statement_75 am_iconst_m1 (q := 76) rfl ?_
                refine st_ireturn O dX7_statement_76 ?_
                exact hB _
              (first | exact c52.elim | exact absurd trivial c52 | exact absurd (Nat.zero_le _) c52)
        · have hkB := hkB (fun h => by omega)
          refine am_begin rfl ?_
          refine st_aloadn O dX7_statement_0 rfl (q := 1) rfl ?_
          refine st_bipush O dX7_statement_1 am_bipush_99 (q := 3) rfl ?_
          refine st_call O dX7_statement_3 cs_X7_statement_3 (q := 6) rfl (am_siq rfl rfl rfl (Nat.le_of_ble_eq_true rfl) rfl ?_)
          refine ⟨ls, s, 99, _, _, _, _, _, _, _, _, _, _, tA, rfl, ht, hs, by decide, rfl, fun _ _ => ?_, fun z => absurd ⟨hlt, hh⟩ z⟩
          refine am_nrp rfl rfl rfl rfl ?_
          refine st_if_eq O dX7_statement_6 (t := 199) rfl (q := 9) rfl (fun c6 => ?_) (fun c6 => ?_)
          · exact absurd c6 (by decide)
          refine st_aloadn O dX7_statement_9 rfl (q := 10) rfl ?_
          refine st_geti O dX7_statement_10 fl_X7_73 rfl rfl rfl rfl (q := 13) rfl ?_
          refine st_aloadn O dX7_statement_13 rfl (q := 14) rfl ?_
          refine st_geti O dX7_statement_14 fl_X7_70 rfl rfl rfl rfl (q := 17) rfl ?_
          refine sn_icmp_ge O dX7_statement_17 (t := 49) rfl (q := 20) rfl (by omega) (by omega) (fun c17 => ?_) (fun c17 => ?_)
          · refine st_iconst O dX7_statement_49 am_iconst_m1 (q := 50) rfl ?_
            refine st_istoren O dX7_statement_50 rfl (q := 51) rfl ?_
            refine st_iloadn O dX7_statement_51 rfl (q := 52) rfl ?_
            refine st_if_ge O dX7_statement_52 (t := 57) rfl (q := 55) rfl (fun c52 => ?_) (fun c52 => ?_)
            · exact absurd c52 (by decide)
            refine st_iconst O dX7_statement_55 am_iconst_m1 (q := 56) rfl ?_
            refine st_ireturn O dX7_statement_56 ?_
            exact hkB
          omega
      · have eS : slN (ls.getD s 0) = 4 := by rw [hh]; rfl
        rcases dgF ls (s + 1) 2 (by omega) with hA4 | ⟨f, hf, hD, hno, hlf⟩
        · have hS := hS (dig_all (b := 1) (m := 2) (by decide) (by omega) (by omega) (fun i h1 h2 => by rw [show i = s by omega]; exact ⟨hlt, i0⟩) hA4) hsl
          rw [show s + slN (ls.getD s 0) - 1 = s + 1 + 2 by omega] at hS
          refine am_begin rfl ?_
          refine st_aloadn O dX7_statement_0 rfl (q := 1) rfl ?_
          refine st_bipush O dX7_statement_1 am_bipush_99 (q := 3) rfl ?_
          refine st_call O dX7_statement_3 cs_X7_statement_3 (q := 6) rfl (am_siq rfl rfl rfl (Nat.le_of_ble_eq_true rfl) rfl ?_)
          refine ⟨ls, s, 99, _, _, _, _, _, _, _, _, _, _, tA, rfl, ht, hs, by decide, rfl, fun a b => absurd b (by omega), fun _ => ?_⟩
          refine am_nrp rfl rfl rfl rfl ?_
          refine st_if_eq O dX7_statement_6 (t := 199) rfl (q := 9) rfl (fun c6 => ?_) (fun c6 => ?_)
          · refine st_aloadn O dX7_statement_199 rfl (q := 200) rfl ?_
            refine st_bipush O dX7_statement_200 am_bipush_120 (q := 202) rfl ?_
            refine st_call O dX7_statement_202 cs_X7_statement_202 (q := 205) rfl (am_siq rfl rfl rfl (Nat.le_of_ble_eq_true rfl) rfl ?_)
            refine ⟨ls, s, 120, _, _, _, _, _, _, _, _, _, _, tA, rfl, ht, hs, by decide, rfl, fun _ _ => ?_, fun z => absurd ⟨hlt, hh⟩ z⟩
            refine am_nrp rfl rfl rfl rfl ?_
            refine st_if_eq O dX7_statement_205 (t := 337) rfl (q := 208) rfl (fun c205 => ?_) (fun c205 => ?_)
            · exact absurd c205 (by decide)
            refine st_aloadn O dX7_statement_208 rfl (q := 209) rfl ?_
            refine st_iconst O dX7_statement_209 am_iconst_2 (q := 210) rfl ?_
            refine st_call O dX7_statement_210 cs_X7_statement_210 (q := 213) rfl (am_siq rfl rfl rfl (Nat.le_of_ble_eq_true rfl) rfl ?_)
            refine ⟨ls, s + 1, 2, _, _, _, _, _, _, _, _, _, _, tA, _, rfl, ht, by omega, by decide, rfl, fun _ vB hv => ?_, fun f hf _ hno => absurd (hA4 f hf) hno⟩
            refine am_nrp rfl rfl rfl rfl ?_
            refine st_if_ne O dX7_statement_213 (t := 218) rfl (q := 216) rfl (fun c213 => ?_) (fun c213 => ?_)
            · refine st_iloadn O dX7_statement_218 rfl (q := 219) rfl ?_
              refine st_if_ne O dX7_statement_219 (t := 224) rfl (q := 222) rfl (fun c219 => ?_) (fun c219 => ?_)
              · exact absurd c219 (by decide)
              refine st_iconst O dX7_statement_222 am_iconst_1 (q := 223) rfl ?_
              refine st_ireturn O dX7_statement_223 ?_
              exact hS _
            exact absurd c213 (by decide)
          exact absurd c6 (by decide)
        · have hB := fun vA' => hB (s + 1 + f) vA' (dig_fail (b := 1) (m := 2) (by decide) (by omega) (by omega) (fun i h1 h2 => by rw [show i = s by omega]; exact i0) hf hD hno hlf)
          refine am_begin rfl ?_
          refine st_aloadn O dX7_statement_0 rfl (q := 1) rfl ?_
          refine st_bipush O dX7_statement_1 am_bipush_99 (q := 3) rfl ?_
          refine st_call O dX7_statement_3 cs_X7_statement_3 (q := 6) rfl (am_siq rfl rfl rfl (Nat.le_of_ble_eq_true rfl) rfl ?_)
          refine ⟨ls, s, 99, _, _, _, _, _, _, _, _, _, _, tA, rfl, ht, hs, by decide, rfl, fun a b => absurd b (by omega), fun _ => ?_⟩
          refine am_nrp rfl rfl rfl rfl ?_
          refine st_if_eq O dX7_statement_6 (t := 199) rfl (q := 9) rfl (fun c6 => ?_) (fun c6 => ?_)
          · refine st_aloadn O dX7_statement_199 rfl (q := 200) rfl ?_
            refine st_bipush O dX7_statement_200 am_bipush_120 (q := 202) rfl ?_
            refine st_call O dX7_statement_202 cs_X7_statement_202 (q := 205) rfl (am_siq rfl rfl rfl (Nat.le_of_ble_eq_true rfl) rfl ?_)
            refine ⟨ls, s, 120, _, _, _, _, _, _, _, _, _, _, tA, rfl, ht, hs, by decide, rfl, fun _ _ => ?_, fun z => absurd ⟨hlt, hh⟩ z⟩
            refine am_nrp rfl rfl rfl rfl ?_
            refine st_if_eq O dX7_statement_205 (t := 337) rfl (q := 208) rfl (fun c205 => ?_) (fun c205 => ?_)
            · exact absurd c205 (by decide)
            refine st_aloadn O dX7_statement_208 rfl (q := 209) rfl ?_
            refine st_iconst O dX7_statement_209 am_iconst_2 (q := 210) rfl ?_
            refine st_call O dX7_statement_210 cs_X7_statement_210 (q := 213) rfl (am_siq rfl rfl rfl (Nat.le_of_ble_eq_true rfl) rfl ?_)
            refine ⟨ls, s + 1, 2, _, _, _, _, _, _, _, _, _, _, tA, _, rfl, ht, by omega, by decide, rfl, fun hD => absurd (hD f hf) hno, fun f' hf' hD' hno' hl' vB => ?_⟩
            have ef : f' = f := by
              rcases Nat.lt_trichotomy f' f with q | q | q
              · exact absurd (hD f' q) hno'
              · exact q
              · exact absurd (hD' f q) hno
            subst ef
            refine am_nrp rfl rfl rfl rfl ?_
            refine st_if_ne O dX7_statement_213 (t := 218) rfl (q := 216) rfl (fun c213 => ?_) (fun c213 => ?_)
            · exact absurd c213 (by decide)
            refine st_iconst O dX7_statement_216 am_iconst_m1 (q := 217) rfl ?_
            refine st_ireturn O dX7_statement_217 ?_
            exact hB _
          exact absurd c6 (by decide)
      · have eS : slN (ls.getD s 0) = 3 := by rw [hh]; rfl
        rcases dgF ls (s + 1) 1 (by omega) with hA4 | ⟨f, hf, hD, hno, hlf⟩
        · have hS := hS (dig_all (b := 1) (m := 1) (by decide) (by omega) (by omega) (fun i h1 h2 => by rw [show i = s by omega]; exact ⟨hlt, i0⟩) hA4) hsl
          rw [show s + slN (ls.getD s 0) - 1 = s + 1 + 1 by omega] at hS
          refine am_begin rfl ?_
          refine st_aloadn O dX7_statement_0 rfl (q := 1) rfl ?_
          refine st_bipush O dX7_statement_1 am_bipush_99 (q := 3) rfl ?_
          refine st_call O dX7_statement_3 cs_X7_statement_3 (q := 6) rfl (am_siq rfl rfl rfl (Nat.le_of_ble_eq_true rfl) rfl ?_)
          refine ⟨ls, s, 99, _, _, _, _, _, _, _, _, _, _, tA, rfl, ht, hs, by decide, rfl, fun a b => absurd b (by omega), fun _ => ?_⟩
          refine am_nrp rfl rfl rfl rfl ?_
          refine st_if_eq O dX7_statement_6 (t := 199) rfl (q := 9) rfl (fun c6 => ?_) (fun c6 => ?_)
          · refine st_aloadn O dX7_statement_199 rfl (q := 200) rfl ?_
            refine st_bipush O dX7_statement_200 am_bipush_120 (q := 202) rfl ?_
            refine st_call O dX7_statement_202 cs_X7_statement_202 (q := 205) rfl (am_siq rfl rfl rfl (Nat.le_of_ble_eq_true rfl) rfl ?_)
            refine ⟨ls, s, 120, _, _, _, _, _, _, _, _, _, _, tA, rfl, ht, hs, by decide, rfl, fun a b => absurd b (by omega), fun _ => ?_⟩
            refine am_nrp rfl rfl rfl rfl ?_
            refine st_if_eq O dX7_statement_205 (t := 337) rfl (q := 208) rfl (fun c205 => ?_) (fun c205 => ?_)
            · refine st_aloadn O dX7_statement_337 rfl (q := 338) rfl ?_
              refine st_bipush O dX7_statement_338 am_bipush_98 (q := 340) rfl ?_
              refine st_call O dX7_statement_340 cs_X7_statement_340 (q := 343) rfl (am_siq rfl rfl rfl (Nat.le_of_ble_eq_true rfl) rfl ?_)
              refine ⟨ls, s, 98, _, _, _, _, _, _, _, _, _, _, tA, rfl, ht, hs, by decide, rfl, fun _ _ => ?_, fun z => absurd ⟨hlt, hh⟩ z⟩
              refine am_nrp rfl rfl rfl rfl ?_
              refine st_if_eq O dX7_statement_343 (t := 350) rfl (q := 346) rfl (fun c343 => ?_) (fun c343 => ?_)
              · exact absurd c343 (by decide)
              refine st_iconst O dX7_statement_346 am_iconst_0 (q := 347) rfl ?_
              refine st_goto O dX7_statement_347 (t := 390) rfl ?_
              refine st_istoren O dX7_statement_390 rfl (q := 391) rfl ?_
              refine st_iloadn O dX7_statement_391 rfl (q := 392) rfl ?_
              refine st_if_lt O dX7_statement_392 (t := 403) rfl (q := 395) rfl (fun c392 => ?_) (fun c392 => ?_)
              · exact absurd c392 (by decide)
              refine st_aloadn O dX7_statement_395 rfl (q := 396) rfl ?_
              refine st_iconst O dX7_statement_396 am_iconst_1 (q := 397) rfl ?_
              refine st_call O dX7_statement_397 cs_X7_statement_397 (q := 400) rfl (am_siq rfl rfl rfl (Nat.le_of_ble_eq_true rfl) rfl ?_)
              refine ⟨ls, s + 1, 1, _, _, _, _, _, _, _, _, _, _, tA, _, rfl, ht, by omega, by decide, rfl, fun _ vB hv => ?_, fun f hf _ hno => absurd (hA4 f hf) hno⟩
              refine am_nrp rfl rfl rfl rfl ?_
              refine st_if_ne O dX7_statement_400 (t := 405) rfl (q := 403) rfl (fun c400 => ?_) (fun c400 => ?_)
              · refine st_iloadn O dX7_statement_405 rfl (q := 406) rfl ?_
                refine st_if_ne O dX7_statement_406 (t := 411) rfl (q := 409) rfl (fun c406 => ?_) (fun c406 => ?_)
                · exact absurd c406 (by decide)
                refine st_iconst O dX7_statement_409 am_iconst_1 (q := 410) rfl ?_
                refine st_ireturn O dX7_statement_410 ?_
                exact hS _
              exact absurd c400 (by decide)
            exact absurd c205 (by decide)
          exact absurd c6 (by decide)
        · have hB := fun vA' => hB (s + 1 + f) vA' (dig_fail (b := 1) (m := 1) (by decide) (by omega) (by omega) (fun i h1 h2 => by rw [show i = s by omega]; exact i0) hf hD hno hlf)
          refine am_begin rfl ?_
          refine st_aloadn O dX7_statement_0 rfl (q := 1) rfl ?_
          refine st_bipush O dX7_statement_1 am_bipush_99 (q := 3) rfl ?_
          refine st_call O dX7_statement_3 cs_X7_statement_3 (q := 6) rfl (am_siq rfl rfl rfl (Nat.le_of_ble_eq_true rfl) rfl ?_)
          refine ⟨ls, s, 99, _, _, _, _, _, _, _, _, _, _, tA, rfl, ht, hs, by decide, rfl, fun a b => absurd b (by omega), fun _ => ?_⟩
          refine am_nrp rfl rfl rfl rfl ?_
          refine st_if_eq O dX7_statement_6 (t := 199) rfl (q := 9) rfl (fun c6 => ?_) (fun c6 => ?_)
          · refine st_aloadn O dX7_statement_199 rfl (q := 200) rfl ?_
            refine st_bipush O dX7_statement_200 am_bipush_120 (q := 202) rfl ?_
            refine st_call O dX7_statement_202 cs_X7_statement_202 (q := 205) rfl (am_siq rfl rfl rfl (Nat.le_of_ble_eq_true rfl) rfl ?_)
            refine ⟨ls, s, 120, _, _, _, _, _, _, _, _, _, _, tA, rfl, ht, hs, by decide, rfl, fun a b => absurd b (by omega), fun _ => ?_⟩
            refine am_nrp rfl rfl rfl rfl ?_
            refine st_if_eq O dX7_statement_205 (t := 337) rfl (q := 208) rfl (fun c205 => ?_) (fun c205 => ?_)
            · refine st_aloadn O dX7_statement_337 rfl (q := 338) rfl ?_
              refine st_bipush O dX7_statement_338 am_bipush_98 (q := 340) rfl ?_
              refine st_call O dX7_statement_340 cs_X7_statement_340 (q := 343) rfl (am_siq rfl rfl rfl (Nat.le_of_ble_eq_true rfl) rfl ?_)
              refine ⟨ls, s, 98, _, _, _, _, _, _, _, _, _, _, tA, rfl, ht, hs, by decide, rfl, fun _ _ => ?_, fun z => absurd ⟨hlt, hh⟩ z⟩
              refine am_nrp rfl rfl rfl rfl ?_
              refine st_if_eq O dX7_statement_343 (t := 350) rfl (q := 346) rfl (fun c343 => ?_) (fun c343 => ?_)
              · exact absurd c343 (by decide)
              refine st_iconst O dX7_statement_346 am_iconst_0 (q := 347) rfl ?_
              refine st_goto O dX7_statement_347 (t := 390) rfl ?_
              refine st_istoren O dX7_statement_390 rfl (q := 391) rfl ?_
              refine st_iloadn O dX7_statement_391 rfl (q := 392) rfl ?_
              refine st_if_lt O dX7_statement_392 (t := 403) rfl (q := 395) rfl (fun c392 => ?_) (fun c392 => ?_)
              · exact absurd c392 (by decide)
              refine st_aloadn O dX7_statement_395 rfl (q := 396) rfl ?_
              refine st_iconst O dX7_statement_396 am_iconst_1 (q := 397) rfl ?_
              refine st_call O dX7_statement_397 cs_X7_statement_397 (q := 400) rfl (am_siq rfl rfl rfl (Nat.le_of_ble_eq_true rfl) rfl ?_)
              refine ⟨ls, s + 1, 1, _, _, _, _, _, _, _, _, _, _, tA, _, rfl, ht, by omega, by decide, rfl, fun hD => absurd (hD f hf) hno, fun f' hf' hD' hno' hl' vB => ?_⟩
              have ef : f' = f := by
                rcases Nat.lt_trichotomy f' f with q | q | q
                · exact absurd (hD f' q) hno'
                · exact q
                · exact absurd (hD' f q) hno
              subst ef
              refine am_nrp rfl rfl rfl rfl ?_
              refine st_if_ne O dX7_statement_400 (t := 405) rfl (q := 403) rfl (fun c400 => ?_) (fun c400 => ?_)
              · exact absurd c400 (by decide)
              refine st_iconst O dX7_statement_403 am_iconst_m1 (q := 404) rfl ?_
              refine st_ireturn O dX7_statement_404 ?_
              exact hB _
            exact absurd c205 (by decide)
          exact absurd c6 (by decide)
      · have eS : slN (ls.getD s 0) = 3 := by rw [hh]; rfl
        rcases dgF ls (s + 1) 1 (by omega) with hA4 | ⟨f, hf, hD, hno, hlf⟩
        · have hS := hS (dig_all (b := 1) (m := 1) (by decide) (by omega) (by omega) (fun i h1 h2 => by rw [show i = s by omega]; exact ⟨hlt, i0⟩) hA4) hsl
          rw [show s + slN (ls.getD s 0) - 1 = s + 1 + 1 by omega] at hS
          refine am_begin rfl ?_
          refine st_aloadn O dX7_statement_0 rfl (q := 1) rfl ?_
          refine st_bipush O dX7_statement_1 am_bipush_99 (q := 3) rfl ?_
          refine st_call O dX7_statement_3 cs_X7_statement_3 (q := 6) rfl (am_siq rfl rfl rfl (Nat.le_of_ble_eq_true rfl) rfl ?_)
          refine ⟨ls, s, 99, _, _, _, _, _, _, _, _, _, _, tA, rfl, ht, hs, by decide, rfl, fun a b => absurd b (by omega), fun _ => ?_⟩
          refine am_nrp rfl rfl rfl rfl ?_
          refine st_if_eq O dX7_statement_6 (t := 199) rfl (q := 9) rfl (fun c6 => ?_) (fun c6 => ?_)
          · refine st_aloadn O dX7_statement_199 rfl (q := 200) rfl ?_
            refine st_bipush O dX7_statement_200 am_bipush_120 (q := 202) rfl ?_
            refine st_call O dX7_statement_202 cs_X7_statement_202 (q := 205) rfl (am_siq rfl rfl rfl (Nat.le_of_ble_eq_true rfl) rfl ?_)
            refine ⟨ls, s, 120, _, _, _, _, _, _, _, _, _, _, tA, rfl, ht, hs, by decide, rfl, fun a b => absurd b (by omega), fun _ => ?_⟩
            refine am_nrp rfl rfl rfl rfl ?_
            refine st_if_eq O dX7_statement_205 (t := 337) rfl (q := 208) rfl (fun c205 => ?_) (fun c205 => ?_)
            · refine st_aloadn O dX7_statement_337 rfl (q := 338) rfl ?_
              refine st_bipush O dX7_statement_338 am_bipush_98 (q := 340) rfl ?_
              refine st_call O dX7_statement_340 cs_X7_statement_340 (q := 343) rfl (am_siq rfl rfl rfl (Nat.le_of_ble_eq_true rfl) rfl ?_)
              refine ⟨ls, s, 98, _, _, _, _, _, _, _, _, _, _, tA, rfl, ht, hs, by decide, rfl, fun a b => absurd b (by omega), fun _ => ?_⟩
              refine am_nrp rfl rfl rfl rfl ?_
              refine st_if_eq O dX7_statement_343 (t := 350) rfl (q := 346) rfl (fun c343 => ?_) (fun c343 => ?_)
              · refine st_aloadn O dX7_statement_350 rfl (q := 351) rfl ?_
                refine st_bipush O dX7_statement_351 am_bipush_119 (q := 353) rfl ?_
                refine st_call O dX7_statement_353 cs_X7_statement_353 (q := 356) rfl (am_siq rfl rfl rfl (Nat.le_of_ble_eq_true rfl) rfl ?_)
                refine ⟨ls, s, 119, _, _, _, _, _, _, _, _, _, _, tA, rfl, ht, hs, by decide, rfl, fun _ _ => ?_, fun z => absurd ⟨hlt, hh⟩ z⟩
                refine am_nrp rfl rfl rfl rfl ?_
                refine st_if_eq O dX7_statement_356 (t := 363) rfl (q := 359) rfl (fun c356 => ?_) (fun c356 => ?_)
                · exact absurd c356 (by decide)
                refine st_iconst O dX7_statement_359 am_iconst_1 (q := 360) rfl ?_
                refine st_goto O dX7_statement_360 (t := 390) rfl ?_
                refine st_istoren O dX7_statement_390 rfl (q := 391) rfl ?_
                refine st_iloadn O dX7_statement_391 rfl (q := 392) rfl ?_
                refine st_if_lt O dX7_statement_392 (t := 403) rfl (q := 395) rfl (fun c392 => ?_) (fun c392 => ?_)
                · exact absurd c392 (by decide)
                refine st_aloadn O dX7_statement_395 rfl (q := 396) rfl ?_
                refine st_iconst O dX7_statement_396 am_iconst_1 (q := 397) rfl ?_
                refine st_call O dX7_statement_397 cs_X7_statement_397 (q := 400) rfl (am_siq rfl rfl rfl (Nat.le_of_ble_eq_true rfl) rfl ?_)
                refine ⟨ls, s + 1, 1, _, _, _, _, _, _, _, _, _, _, tA, _, rfl, ht, by omega, by decide, rfl, fun _ vB hv => ?_, fun f hf _ hno => absurd (hA4 f hf) hno⟩
                refine am_nrp rfl rfl rfl rfl ?_
                refine st_if_ne O dX7_statement_400 (t := 405) rfl (q := 403) rfl (fun c400 => ?_) (fun c400 => ?_)
                · refine st_iloadn O dX7_statement_405 rfl (q := 406) rfl ?_
                  refine st_if_ne O dX7_statement_406 (t := 411) rfl (q := 409) rfl (fun c406 => ?_) (fun c406 => ?_)
                  · exact absurd c406 (by decide)
                  refine st_iconst O dX7_statement_409 am_iconst_1 (q := 410) rfl ?_
                  refine st_ireturn O dX7_statement_410 ?_
                  exact hS _
                exact absurd c400 (by decide)
              exact absurd c343 (by decide)
            exact absurd c205 (by decide)
          exact absurd c6 (by decide)
        · have hB := fun vA' => hB (s + 1 + f) vA' (dig_fail (b := 1) (m := 1) (by decide) (by omega) (by omega) (fun i h1 h2 => by rw [show i = s by omega]; exact i0) hf hD hno hlf)
          refine am_begin rfl ?_
          refine st_aloadn O dX7_statement_0 rfl (q := 1) rfl ?_
          refine st_bipush O dX7_statement_1 am_bipush_99 (q := 3) rfl ?_
          refine st_call O dX7_statement_3 cs_X7_statement_3 (q := 6) rfl (am_siq rfl rfl rfl (Nat.le_of_ble_eq_true rfl) rfl ?_)
          refine ⟨ls, s, 99, _, _, _, _, _, _, _, _, _, _, tA, rfl, ht, hs, by decide, rfl, fun a b => absurd b (by omega), fun _ => ?_⟩
          refine am_nrp rfl rfl rfl rfl ?_
          refine st_if_eq O dX7_statement_6 (t := 199) rfl (q := 9) rfl (fun c6 => ?_) (fun c6 => ?_)
          · refine st_aloadn O dX7_statement_199 rfl (q := 200) rfl ?_
            refine st_bipush O dX7_statement_200 am_bipush_120 (q := 202) rfl ?_
            refine st_call O dX7_statement_202 cs_X7_statement_202 (q := 205) rfl (am_siq rfl rfl rfl (Nat.le_of_ble_eq_true rfl) rfl ?_)
            refine ⟨ls, s, 120, _, _, _, _, _, _, _, _, _, _, tA, rfl, ht, hs, by decide, rfl, fun a b => absurd b (by omega), fun _ => ?_⟩
            refine am_nrp rfl rfl rfl rfl ?_
            refine st_if_eq O dX7_statement_205 (t := 337) rfl (q := 208) rfl (fun c205 => ?_) (fun c205 => ?_)
            · refine st_aloadn O dX7_statement_337 rfl (q := 338) rfl ?_
              refine st_bipush O dX7_statement_338 am_bipush_98 (q := 340) rfl ?_
              refine st_call O dX7_statement_340 cs_X7_statement_340 (q := 343) rfl (am_siq rfl rfl rfl (Nat.le_of_ble_eq_true rfl) rfl ?_)
              refine ⟨ls, s, 98, _, _, _, _, _, _, _, _, _, _, tA, rfl, ht, hs, by decide, rfl, fun a b => absurd b (by omega), fun _ => ?_⟩
              refine am_nrp rfl rfl rfl rfl ?_
              refine st_if_eq O dX7_statement_343 (t := 350) rfl (q := 346) rfl (fun c343 => ?_) (fun c343 => ?_)
              · refine st_aloadn O dX7_statement_350 rfl (q := 351) rfl ?_
                refine st_bipush O dX7_statement_351 am_bipush_119 (q := 353) rfl ?_
                refine st_call O dX7_statement_353 cs_X7_statement_353 (q := 356) rfl (am_siq rfl rfl rfl (Nat.le_of_ble_eq_true rfl) rfl ?_)
                refine ⟨ls, s, 119, _, _, _, _, _, _, _, _, _, _, tA, rfl, ht, hs, by decide, rfl, fun _ _ => ?_, fun z => absurd ⟨hlt, hh⟩ z⟩
                refine am_nrp rfl rfl rfl rfl ?_
                refine st_if_eq O dX7_statement_356 (t := 363) rfl (q := 359) rfl (fun c356 => ?_) (fun c356 => ?_)
                · exact absurd c356 (by decide)
                refine st_iconst O dX7_statement_359 am_iconst_1 (q := 360) rfl ?_
                refine st_goto O dX7_statement_360 (t := 390) rfl ?_
                refine st_istoren O dX7_statement_390 rfl (q := 391) rfl ?_
                refine st_iloadn O dX7_statement_391 rfl (q := 392) rfl ?_
                refine st_if_lt O dX7_statement_392 (t := 403) rfl (q := 395) rfl (fun c392 => ?_) (fun c392 => ?_)
                · exact absurd c392 (by decide)
                refine st_aloadn O dX7_statement_395 rfl (q := 396) rfl ?_
                refine st_iconst O dX7_statement_396 am_iconst_1 (q := 397) rfl ?_
                refine st_call O dX7_statement_397 cs_X7_statement_397 (q := 400) rfl (am_siq rfl rfl rfl (Nat.le_of_ble_eq_true rfl) rfl ?_)
                refine ⟨ls, s + 1, 1, _, _, _, _, _, _, _, _, _, _, tA, _, rfl, ht, by omega, by decide, rfl, fun hD => absurd (hD f hf) hno, fun f' hf' hD' hno' hl' vB => ?_⟩
                have ef : f' = f := by
                  rcases Nat.lt_trichotomy f' f with q | q | q
                  · exact absurd (hD f' q) hno'
                  · exact q
                  · exact absurd (hD' f q) hno
                subst ef
                refine am_nrp rfl rfl rfl rfl ?_
                refine st_if_ne O dX7_statement_400 (t := 405) rfl (q := 403) rfl (fun c400 => ?_) (fun c400 => ?_)
                · exact absurd c400 (by decide)
                refine st_iconst O dX7_statement_403 am_iconst_m1 (q := 404) rfl ?_
                refine st_ireturn O dX7_statement_404 ?_
                exact hB _
              exact absurd c343 (by decide)
            exact absurd c205 (by decide)
          exact absurd c6 (by decide)
      · have eS : slN (ls.getD s 0) = 3 := by rw [hh]; rfl
        rcases dgF ls (s + 1) 1 (by omega) with hA4 | ⟨f, hf, hD, hno, hlf⟩
        · have hS := hS (dig_all (b := 1) (m := 1) (by decide) (by omega) (by omega) (fun i h1 h2 => by rw [show i = s by omega]; exact ⟨hlt, i0⟩) hA4) hsl
          rw [show s + slN (ls.getD s 0) - 1 = s + 1 + 1 by omega] at hS
          refine am_begin rfl ?_
          refine st_aloadn O dX7_statement_0 rfl (q := 1) rfl ?_
          refine st_bipush O dX7_statement_1 am_bipush_99 (q := 3) rfl ?_
          refine st_call O dX7_statement_3 cs_X7_statement_3 (q := 6) rfl (am_siq rfl rfl rfl (Nat.le_of_ble_eq_true rfl) rfl ?_)
          refine ⟨ls, s, 99, _, _, _, _, _, _, _, _, _, _, tA, rfl, ht, hs, by decide, rfl, fun a b => absurd b (by omega), fun _ => ?_⟩
          refine am_nrp rfl rfl rfl rfl ?_
          refine st_if_eq O dX7_statement_6 (t := 199) rfl (q := 9) rfl (fun c6 => ?_) (fun c6 => ?_)
          · refine st_aloadn O dX7_statement_199 rfl (q := 200) rfl ?_
            refine st_bipush O dX7_statement_200 am_bipush_120 (q := 202) rfl ?_
            refine st_call O dX7_statement_202 cs_X7_statement_202 (q := 205) rfl (am_siq rfl rfl rfl (Nat.le_of_ble_eq_true rfl) rfl ?_)
            refine ⟨ls, s, 120, _, _, _, _, _, _, _, _, _, _, tA, rfl, ht, hs, by decide, rfl, fun a b => absurd b (by omega), fun _ => ?_⟩
            refine am_nrp rfl rfl rfl rfl ?_
            refine st_if_eq O dX7_statement_205 (t := 337) rfl (q := 208) rfl (fun c205 => ?_) (fun c205 => ?_)
            · refine st_aloadn O dX7_statement_337 rfl (q := 338) rfl ?_
              refine st_bipush O dX7_statement_338 am_bipush_98 (q := 340) rfl ?_
              refine st_call O dX7_statement_340 cs_X7_statement_340 (q := 343) rfl (am_siq rfl rfl rfl (Nat.le_of_ble_eq_true rfl) rfl ?_)
              refine ⟨ls, s, 98, _, _, _, _, _, _, _, _, _, _, tA, rfl, ht, hs, by decide, rfl, fun a b => absurd b (by omega), fun _ => ?_⟩
              refine am_nrp rfl rfl rfl rfl ?_
              refine st_if_eq O dX7_statement_343 (t := 350) rfl (q := 346) rfl (fun c343 => ?_) (fun c343 => ?_)
              · refine st_aloadn O dX7_statement_350 rfl (q := 351) rfl ?_
                refine st_bipush O dX7_statement_351 am_bipush_119 (q := 353) rfl ?_
                refine st_call O dX7_statement_353 cs_X7_statement_353 (q := 356) rfl (am_siq rfl rfl rfl (Nat.le_of_ble_eq_true rfl) rfl ?_)
                refine ⟨ls, s, 119, _, _, _, _, _, _, _, _, _, _, tA, rfl, ht, hs, by decide, rfl, fun a b => absurd b (by omega), fun _ => ?_⟩
                refine am_nrp rfl rfl rfl rfl ?_
                refine st_if_eq O dX7_statement_356 (t := 363) rfl (q := 359) rfl (fun c356 => ?_) (fun c356 => ?_)
                · refine st_aloadn O dX7_statement_363 rfl (q := 364) rfl ?_
                  refine st_bipush O dX7_statement_364 am_bipush_111 (q := 366) rfl ?_
                  refine st_call O dX7_statement_366 cs_X7_statement_366 (q := 369) rfl (am_siq rfl rfl rfl (Nat.le_of_ble_eq_true rfl) rfl ?_)
                  refine ⟨ls, s, 111, _, _, _, _, _, _, _, _, _, _, tA, rfl, ht, hs, by decide, rfl, fun _ _ => ?_, fun z => absurd ⟨hlt, hh⟩ z⟩
                  refine am_nrp rfl rfl rfl rfl ?_
                  refine st_if_eq O dX7_statement_369 (t := 376) rfl (q := 372) rfl (fun c369 => ?_) (fun c369 => ?_)
                  · exact absurd c369 (by decide)
                  refine st_iconst O dX7_statement_372 am_iconst_2 (q := 373) rfl ?_
                  refine st_goto O dX7_statement_373 (t := 390) rfl ?_
                  refine st_istoren O dX7_statement_390 rfl (q := 391) rfl ?_
                  refine st_iloadn O dX7_statement_391 rfl (q := 392) rfl ?_
                  refine st_if_lt O dX7_statement_392 (t := 403) rfl (q := 395) rfl (fun c392 => ?_) (fun c392 => ?_)
                  · exact absurd c392 (by decide)
                  refine st_aloadn O dX7_statement_395 rfl (q := 396) rfl ?_
                  refine st_iconst O dX7_statement_396 am_iconst_1 (q := 397) rfl ?_
                  refine st_call O dX7_statement_397 cs_X7_statement_397 (q := 400) rfl (am_siq rfl rfl rfl (Nat.le_of_ble_eq_true rfl) rfl ?_)
                  refine ⟨ls, s + 1, 1, _, _, _, _, _, _, _, _, _, _, tA, _, rfl, ht, by omega, by decide, rfl, fun _ vB hv => ?_, fun f hf _ hno => absurd (hA4 f hf) hno⟩
                  refine am_nrp rfl rfl rfl rfl ?_
                  refine st_if_ne O dX7_statement_400 (t := 405) rfl (q := 403) rfl (fun c400 => ?_) (fun c400 => ?_)
                  · refine st_iloadn O dX7_statement_405 rfl (q := 406) rfl ?_
                    refine st_if_ne O dX7_statement_406 (t := 411) rfl (q := 409) rfl (fun c406 => ?_) (fun c406 => ?_)
                    · exact absurd c406 (by decide)
                    refine st_iconst O dX7_statement_409 am_iconst_1 (q := 410) rfl ?_
                    refine st_ireturn O dX7_statement_410 ?_
                    exact hS _
                  exact absurd c400 (by decide)
                exact absurd c356 (by decide)
              exact absurd c343 (by decide)
            exact absurd c205 (by decide)
          exact absurd c6 (by decide)
        · have hB := fun vA' => hB (s + 1 + f) vA' (dig_fail (b := 1) (m := 1) (by decide) (by omega) (by omega) (fun i h1 h2 => by rw [show i = s by omega]; exact i0) hf hD hno hlf)
          refine am_begin rfl ?_
          refine st_aloadn O dX7_statement_0 rfl (q := 1) rfl ?_
          refine st_bipush O dX7_statement_1 am_bipush_99 (q := 3) rfl ?_
          refine st_call O dX7_statement_3 cs_X7_statement_3 (q := 6) rfl (am_siq rfl rfl rfl (Nat.le_of_ble_eq_true rfl) rfl ?_)
          refine ⟨ls, s, 99, _, _, _, _, _, _, _, _, _, _, tA, rfl, ht, hs, by decide, rfl, fun a b => absurd b (by omega), fun _ => ?_⟩
          refine am_nrp rfl rfl rfl rfl ?_
          refine st_if_eq O dX7_statement_6 (t := 199) rfl (q := 9) rfl (fun c6 => ?_) (fun c6 => ?_)
          · refine st_aloadn O dX7_statement_199 rfl (q := 200) rfl ?_
            refine st_bipush O dX7_statement_200 am_bipush_120 (q := 202) rfl ?_
            refine st_call O dX7_statement_202 cs_X7_statement_202 (q := 205) rfl (am_siq rfl rfl rfl (Nat.le_of_ble_eq_true rfl) rfl ?_)
            refine ⟨ls, s, 120, _, _, _, _, _, _, _, _, _, _, tA, rfl, ht, hs, by decide, rfl, fun a b => absurd b (by omega), fun _ => ?_⟩
            refine am_nrp rfl rfl rfl rfl ?_
            refine st_if_eq O dX7_statement_205 (t := 337) rfl (q := 208) rfl (fun c205 => ?_) (fun c205 => ?_)
            · refine st_aloadn O dX7_statement_337 rfl (q := 338) rfl ?_
              refine st_bipush O dX7_statement_338 am_bipush_98 (q := 340) rfl ?_
              refine st_call O dX7_statement_340 cs_X7_statement_340 (q := 343) rfl (am_siq rfl rfl rfl (Nat.le_of_ble_eq_true rfl) rfl ?_)
              refine ⟨ls, s, 98, _, _, _, _, _, _, _, _, _, _, tA, rfl, ht, hs, by decide, rfl, fun a b => absurd b (by omega), fun _ => ?_⟩
              refine am_nrp rfl rfl rfl rfl ?_
              refine st_if_eq O dX7_statement_343 (t := 350) rfl (q := 346) rfl (fun c343 => ?_) (fun c343 => ?_)
              · refine st_aloadn O dX7_statement_350 rfl (q := 351) rfl ?_
                refine st_bipush O dX7_statement_351 am_bipush_119 (q := 353) rfl ?_
                refine st_call O dX7_statement_353 cs_X7_statement_353 (q := 356) rfl (am_siq rfl rfl rfl (Nat.le_of_ble_eq_true rfl) rfl ?_)
                refine ⟨ls, s, 119, _, _, _, _, _, _, _, _, _, _, tA, rfl, ht, hs, by decide, rfl, fun a b => absurd b (by omega), fun _ => ?_⟩
                refine am_nrp rfl rfl rfl rfl ?_
                refine st_if_eq O dX7_statement_356 (t := 363) rfl (q := 359) rfl (fun c356 => ?_) (fun c356 => ?_)
                · refine st_aloadn O dX7_statement_363 rfl (q := 364) rfl ?_
                  refine st_bipush O dX7_statement_364 am_bipush_111 (q := 366) rfl ?_
                  refine st_call O dX7_statement_366 cs_X7_statement_366 (q := 369) rfl (am_siq rfl rfl rfl (Nat.le_of_ble_eq_true rfl) rfl ?_)
                  refine ⟨ls, s, 111, _, _, _, _, _, _, _, _, _, _, tA, rfl, ht, hs, by decide, rfl, fun _ _ => ?_, fun z => absurd ⟨hlt, hh⟩ z⟩
                  refine am_nrp rfl rfl rfl rfl ?_
                  refine st_if_eq O dX7_statement_369 (t := 376) rfl (q := 372) rfl (fun c369 => ?_) (fun c369 => ?_)
                  · exact absurd c369 (by decide)
                  refine st_iconst O dX7_statement_372 am_iconst_2 (q := 373) rfl ?_
                  refine st_goto O dX7_statement_373 (t := 390) rfl ?_
                  refine st_istoren O dX7_statement_390 rfl (q := 391) rfl ?_
                  refine st_iloadn O dX7_statement_391 rfl (q := 392) rfl ?_
                  refine st_if_lt O dX7_statement_392 (t := 403) rfl (q := 395) rfl (fun c392 => ?_) (fun c392 => ?_)
                  · exact absurd c392 (by decide)
                  refine st_aloadn O dX7_statement_395 rfl (q := 396) rfl ?_
                  refine st_iconst O dX7_statement_396 am_iconst_1 (q := 397) rfl ?_
                  refine st_call O dX7_statement_397 cs_X7_statement_397 (q := 400) rfl (am_siq rfl rfl rfl (Nat.le_of_ble_eq_true rfl) rfl ?_)
                  refine ⟨ls, s + 1, 1, _, _, _, _, _, _, _, _, _, _, tA, _, rfl, ht, by omega, by decide, rfl, fun hD => absurd (hD f hf) hno, fun f' hf' hD' hno' hl' vB => ?_⟩
                  have ef : f' = f := by
                    rcases Nat.lt_trichotomy f' f with q | q | q
                    · exact absurd (hD f' q) hno'
                    · exact q
                    · exact absurd (hD' f q) hno
                  subst ef
                  refine am_nrp rfl rfl rfl rfl ?_
                  refine st_if_ne O dX7_statement_400 (t := 405) rfl (q := 403) rfl (fun c400 => ?_) (fun c400 => ?_)
                  · exact absurd c400 (by decide)
                  refine st_iconst O dX7_statement_403 am_iconst_m1 (q := 404) rfl ?_
                  refine st_ireturn O dX7_statement_404 ?_
                  exact hB _
                exact absurd c356 (by decide)
              exact absurd c343 (by decide)
            exact absurd c205 (by decide)
          exact absurd c6 (by decide)
      · have eS : slN (ls.getD s 0) = 3 := by rw [hh]; rfl
        rcases dgF ls (s + 1) 1 (by omega) with hA4 | ⟨f, hf, hD, hno, hlf⟩
        · have hS := hS (dig_all (b := 1) (m := 1) (by decide) (by omega) (by omega) (fun i h1 h2 => by rw [show i = s by omega]; exact ⟨hlt, i0⟩) hA4) hsl
          rw [show s + slN (ls.getD s 0) - 1 = s + 1 + 1 by omega] at hS
          refine am_begin rfl ?_
          refine st_aloadn O dX7_statement_0 rfl (q := 1) rfl ?_
          refine st_bipush O dX7_statement_1 am_bipush_99 (q := 3) rfl ?_
          refine st_call O dX7_statement_3 cs_X7_statement_3 (q := 6) rfl (am_siq rfl rfl rfl (Nat.le_of_ble_eq_true rfl) rfl ?_)
          refine ⟨ls, s, 99, _, _, _, _, _, _, _, _, _, _, tA, rfl, ht, hs, by decide, rfl, fun a b => absurd b (by omega), fun _ => ?_⟩
          refine am_nrp rfl rfl rfl rfl ?_
          refine st_if_eq O dX7_statement_6 (t := 199) rfl (q := 9) rfl (fun c6 => ?_) (fun c6 => ?_)
          · refine st_aloadn O dX7_statement_199 rfl (q := 200) rfl ?_
            refine st_bipush O dX7_statement_200 am_bipush_120 (q := 202) rfl ?_
            refine st_call O dX7_statement_202 cs_X7_statement_202 (q := 205) rfl (am_siq rfl rfl rfl (Nat.le_of_ble_eq_true rfl) rfl ?_)
            refine ⟨ls, s, 120, _, _, _, _, _, _, _, _, _, _, tA, rfl, ht, hs, by decide, rfl, fun a b => absurd b (by omega), fun _ => ?_⟩
            refine am_nrp rfl rfl rfl rfl ?_
            refine st_if_eq O dX7_statement_205 (t := 337) rfl (q := 208) rfl (fun c205 => ?_) (fun c205 => ?_)
            · refine st_aloadn O dX7_statement_337 rfl (q := 338) rfl ?_
              refine st_bipush O dX7_statement_338 am_bipush_98 (q := 340) rfl ?_
              refine st_call O dX7_statement_340 cs_X7_statement_340 (q := 343) rfl (am_siq rfl rfl rfl (Nat.le_of_ble_eq_true rfl) rfl ?_)
              refine ⟨ls, s, 98, _, _, _, _, _, _, _, _, _, _, tA, rfl, ht, hs, by decide, rfl, fun a b => absurd b (by omega), fun _ => ?_⟩
              refine am_nrp rfl rfl rfl rfl ?_
              refine st_if_eq O dX7_statement_343 (t := 350) rfl (q := 346) rfl (fun c343 => ?_) (fun c343 => ?_)
              · refine st_aloadn O dX7_statement_350 rfl (q := 351) rfl ?_
                refine st_bipush O dX7_statement_351 am_bipush_119 (q := 353) rfl ?_
                refine st_call O dX7_statement_353 cs_X7_statement_353 (q := 356) rfl (am_siq rfl rfl rfl (Nat.le_of_ble_eq_true rfl) rfl ?_)
                refine ⟨ls, s, 119, _, _, _, _, _, _, _, _, _, _, tA, rfl, ht, hs, by decide, rfl, fun a b => absurd b (by omega), fun _ => ?_⟩
                refine am_nrp rfl rfl rfl rfl ?_
                refine st_if_eq O dX7_statement_356 (t := 363) rfl (q := 359) rfl (fun c356 => ?_) (fun c356 => ?_)
                · refine st_aloadn O dX7_statement_363 rfl (q := 364) rfl ?_
                  refine st_bipush O dX7_statement_364 am_bipush_111 (q := 366) rfl ?_
                  refine st_call O dX7_statement_366 cs_X7_statement_366 (q := 369) rfl (am_siq rfl rfl rfl (Nat.le_of_ble_eq_true rfl) rfl ?_)
                  refine ⟨ls, s, 111, _, _, _, _, _, _, _, _, _, _, tA, rfl, ht, hs, by decide, rfl, fun a b => absurd b (by omega), fun _ => ?_⟩
                  refine am_nrp rfl rfl rfl rfl ?_
                  refine st_if_eq O dX7_statement_369 (t := 376) rfl (q := 372) rfl (fun c369 => ?_) (fun c369 => ?_)
                  · refine st_aloadn O dX7_statement_376 rfl (q := 377) rfl ?_
                    refine st_bipush O dX7_statement_377 am_bipush_102 (q := 379) rfl ?_
                    refine st_call O dX7_statement_379 cs_X7_statement_379 (q := 382) rfl (am_siq rfl rfl rfl (Nat.le_of_ble_eq_true rfl) rfl ?_)
                    refine ⟨ls, s, 102, _, _, _, _, _, _, _, _, _, _, tA, rfl, ht, hs, by decide, rfl, fun _ _ => ?_, fun z => absurd ⟨hlt, hh⟩ z⟩
                    refine am_nrp rfl rfl rfl rfl ?_
                    refine st_if_eq O dX7_statement_382 (t := 389) rfl (q := 385) rfl (fun c382 => ?_) (fun c382 => ?_)
                    · exact absurd c382 (by decide)
                    refine st_iconst O dX7_statement_385 am_iconst_3 (q := 386) rfl ?_
                    refine st_goto O dX7_statement_386 (t := 390) rfl ?_
                    refine st_istoren O dX7_statement_390 rfl (q := 391) rfl ?_
                    refine st_iloadn O dX7_statement_391 rfl (q := 392) rfl ?_
                    refine st_if_lt O dX7_statement_392 (t := 403) rfl (q := 395) rfl (fun c392 => ?_) (fun c392 => ?_)
                    · exact absurd c392 (by decide)
                    refine st_aloadn O dX7_statement_395 rfl (q := 396) rfl ?_
                    refine st_iconst O dX7_statement_396 am_iconst_1 (q := 397) rfl ?_
                    refine st_call O dX7_statement_397 cs_X7_statement_397 (q := 400) rfl (am_siq rfl rfl rfl (Nat.le_of_ble_eq_true rfl) rfl ?_)
                    refine ⟨ls, s + 1, 1, _, _, _, _, _, _, _, _, _, _, tA, _, rfl, ht, by omega, by decide, rfl, fun _ vB hv => ?_, fun f hf _ hno => absurd (hA4 f hf) hno⟩
                    refine am_nrp rfl rfl rfl rfl ?_
                    refine st_if_ne O dX7_statement_400 (t := 405) rfl (q := 403) rfl (fun c400 => ?_) (fun c400 => ?_)
                    · refine st_iloadn O dX7_statement_405 rfl (q := 406) rfl ?_
                      refine st_if_ne O dX7_statement_406 (t := 411) rfl (q := 409) rfl (fun c406 => ?_) (fun c406 => ?_)
                      · exact absurd c406 (by decide)
                      refine st_iconst O dX7_statement_409 am_iconst_1 (q := 410) rfl ?_
                      refine st_ireturn O dX7_statement_410 ?_
                      exact hS _
                    exact absurd c400 (by decide)
                  exact absurd c369 (by decide)
                exact absurd c356 (by decide)
              exact absurd c343 (by decide)
            exact absurd c205 (by decide)
          exact absurd c6 (by decide)
        · have hB := fun vA' => hB (s + 1 + f) vA' (dig_fail (b := 1) (m := 1) (by decide) (by omega) (by omega) (fun i h1 h2 => by rw [show i = s by omega]; exact i0) hf hD hno hlf)
          refine am_begin rfl ?_
          refine st_aloadn O dX7_statement_0 rfl (q := 1) rfl ?_
          refine st_bipush O dX7_statement_1 am_bipush_99 (q := 3) rfl ?_
          refine st_call O dX7_statement_3 cs_X7_statement_3 (q := 6) rfl (am_siq rfl rfl rfl (Nat.le_of_ble_eq_true rfl) rfl ?_)
          refine ⟨ls, s, 99, _, _, _, _, _, _, _, _, _, _, tA, rfl, ht, hs, by decide, rfl, fun a b => absurd b (by omega), fun _ => ?_⟩
          refine am_nrp rfl rfl rfl rfl ?_
          refine st_if_eq O dX7_statement_6 (t := 199) rfl (q := 9) rfl (fun c6 => ?_) (fun c6 => ?_)
          · refine st_aloadn O dX7_statement_199 rfl (q := 200) rfl ?_
            refine st_bipush O dX7_statement_200 am_bipush_120 (q := 202) rfl ?_
            refine st_call O dX7_statement_202 cs_X7_statement_202 (q := 205) rfl (am_siq rfl rfl rfl (Nat.le_of_ble_eq_true rfl) rfl ?_)
            refine ⟨ls, s, 120, _, _, _, _, _, _, _, _, _, _, tA, rfl, ht, hs, by decide, rfl, fun a b => absurd b (by omega), fun _ => ?_⟩
            refine am_nrp rfl rfl rfl rfl ?_
            refine st_if_eq O dX7_statement_205 (t := 337) rfl (q := 208) rfl (fun c205 => ?_) (fun c205 => ?_)
            · refine st_aloadn O dX7_statement_337 rfl (q := 338) rfl ?_
              refine st_bipush O dX7_statement_338 am_bipush_98 (q := 340) rfl ?_
              refine st_call O dX7_statement_340 cs_X7_statement_340 (q := 343) rfl (am_siq rfl rfl rfl (Nat.le_of_ble_eq_true rfl) rfl ?_)
              refine ⟨ls, s, 98, _, _, _, _, _, _, _, _, _, _, tA, rfl, ht, hs, by decide, rfl, fun a b => absurd b (by omega), fun _ => ?_⟩
              refine am_nrp rfl rfl rfl rfl ?_
              refine st_if_eq O dX7_statement_343 (t := 350) rfl (q := 346) rfl (fun c343 => ?_) (fun c343 => ?_)
              · refine st_aloadn O dX7_statement_350 rfl (q := 351) rfl ?_
                refine st_bipush O dX7_statement_351 am_bipush_119 (q := 353) rfl ?_
                refine st_call O dX7_statement_353 cs_X7_statement_353 (q := 356) rfl (am_siq rfl rfl rfl (Nat.le_of_ble_eq_true rfl) rfl ?_)
                refine ⟨ls, s, 119, _, _, _, _, _, _, _, _, _, _, tA, rfl, ht, hs, by decide, rfl, fun a b => absurd b (by omega), fun _ => ?_⟩
                refine am_nrp rfl rfl rfl rfl ?_
                refine st_if_eq O dX7_statement_356 (t := 363) rfl (q := 359) rfl (fun c356 => ?_) (fun c356 => ?_)
                · refine st_aloadn O dX7_statement_363 rfl (q := 364) rfl ?_
                  refine st_bipush O dX7_statement_364 am_bipush_111 (q := 366) rfl ?_
                  refine st_call O dX7_statement_366 cs_X7_statement_366 (q := 369) rfl (am_siq rfl rfl rfl (Nat.le_of_ble_eq_true rfl) rfl ?_)
                  refine ⟨ls, s, 111, _, _, _, _, _, _, _, _, _, _, tA, rfl, ht, hs, by decide, rfl, fun a b => absurd b (by omega), fun _ => ?_⟩
                  refine am_nrp rfl rfl rfl rfl ?_
                  refine st_if_eq O dX7_statement_369 (t := 376) rfl (q := 372) rfl (fun c369 => ?_) (fun c369 => ?_)
                  · refine st_aloadn O dX7_statement_376 rfl (q := 377) rfl ?_
                    refine st_bipush O dX7_statement_377 am_bipush_102 (q := 379) rfl ?_
                    refine st_call O dX7_statement_379 cs_X7_statement_379 (q := 382) rfl (am_siq rfl rfl rfl (Nat.le_of_ble_eq_true rfl) rfl ?_)
                    refine ⟨ls, s, 102, _, _, _, _, _, _, _, _, _, _, tA, rfl, ht, hs, by decide, rfl, fun _ _ => ?_, fun z => absurd ⟨hlt, hh⟩ z⟩
                    refine am_nrp rfl rfl rfl rfl ?_
                    refine st_if_eq O dX7_statement_382 (t := 389) rfl (q := 385) rfl (fun c382 => ?_) (fun c382 => ?_)
                    · exact absurd c382 (by decide)
                    refine st_iconst O dX7_statement_385 am_iconst_3 (q := 386) rfl ?_
                    refine st_goto O dX7_statement_386 (t := 390) rfl ?_
                    refine st_istoren O dX7_statement_390 rfl (q := 391) rfl ?_
                    refine st_iloadn O dX7_statement_391 rfl (q := 392) rfl ?_
                    refine st_if_lt O dX7_statement_392 (t := 403) rfl (q := 395) rfl (fun c392 => ?_) (fun c392 => ?_)
                    · exact absurd c392 (by decide)
                    refine st_aloadn O dX7_statement_395 rfl (q := 396) rfl ?_
                    refine st_iconst O dX7_statement_396 am_iconst_1 (q := 397) rfl ?_
                    refine st_call O dX7_statement_397 cs_X7_statement_397 (q := 400) rfl (am_siq rfl rfl rfl (Nat.le_of_ble_eq_true rfl) rfl ?_)
                    refine ⟨ls, s + 1, 1, _, _, _, _, _, _, _, _, _, _, tA, _, rfl, ht, by omega, by decide, rfl, fun hD => absurd (hD f hf) hno, fun f' hf' hD' hno' hl' vB => ?_⟩
                    have ef : f' = f := by
                      rcases Nat.lt_trichotomy f' f with q | q | q
                      · exact absurd (hD f' q) hno'
                      · exact q
                      · exact absurd (hD' f q) hno
                    subst ef
                    refine am_nrp rfl rfl rfl rfl ?_
                    refine st_if_ne O dX7_statement_400 (t := 405) rfl (q := 403) rfl (fun c400 => ?_) (fun c400 => ?_)
                    · exact absurd c400 (by decide)
                    refine st_iconst O dX7_statement_403 am_iconst_m1 (q := 404) rfl ?_
                    refine st_ireturn O dX7_statement_404 ?_
                    exact hB _
                  exact absurd c369 (by decide)
                exact absurd c356 (by decide)
              exact absurd c343 (by decide)
            exact absurd c205 (by decide)
          exact absurd c6 (by decide)
    · have hz : s < ls.length → ls.getD s 0 ≠ 99 ∧ ls.getD s 0 ≠ 120 ∧ ls.getD s 0 ≠ 98 ∧ ls.getD s 0 ≠ 119 ∧ ls.getD s 0 ≠ 111 ∧ ls.getD s 0 ≠ 102 := by
        intro h
        refine ⟨?_, ?_, ?_, ?_, ?_, ?_⟩ <;> exact fun z => hd ⟨h, by rw [z]; decide⟩
      have hB := hB s vA (scF_fail (Nat.le_refl s) hs (by omega) (fun i h1 h2 => by omega) (fun h => by rw [inF_0]; exact decide_eq_false (fun z => hd ⟨h, z⟩)))
      refine am_begin rfl ?_
      refine st_aloadn O dX7_statement_0 rfl (q := 1) rfl ?_
      refine st_bipush O dX7_statement_1 am_bipush_99 (q := 3) rfl ?_
      refine st_call O dX7_statement_3 cs_X7_statement_3 (q := 6) rfl (am_siq rfl rfl rfl (Nat.le_of_ble_eq_true rfl) rfl ?_)
      refine ⟨ls, s, 99, _, _, _, _, _, _, _, _, _, _, tA, rfl, ht, hs, by decide, rfl, fun a b => absurd b (by have := hz a; omega), fun _ => ?_⟩
      refine am_nrp rfl rfl rfl rfl ?_
      refine st_if_eq O dX7_statement_6 (t := 199) rfl (q := 9) rfl (fun c6 => ?_) (fun c6 => ?_)
      · refine st_aloadn O dX7_statement_199 rfl (q := 200) rfl ?_
        refine st_bipush O dX7_statement_200 am_bipush_120 (q := 202) rfl ?_
        refine st_call O dX7_statement_202 cs_X7_statement_202 (q := 205) rfl (am_siq rfl rfl rfl (Nat.le_of_ble_eq_true rfl) rfl ?_)
        refine ⟨ls, s, 120, _, _, _, _, _, _, _, _, _, _, tA, rfl, ht, hs, by decide, rfl, fun a b => absurd b (by have := hz a; omega), fun _ => ?_⟩
        refine am_nrp rfl rfl rfl rfl ?_
        refine st_if_eq O dX7_statement_205 (t := 337) rfl (q := 208) rfl (fun c205 => ?_) (fun c205 => ?_)
        · refine st_aloadn O dX7_statement_337 rfl (q := 338) rfl ?_
          refine st_bipush O dX7_statement_338 am_bipush_98 (q := 340) rfl ?_
          refine st_call O dX7_statement_340 cs_X7_statement_340 (q := 343) rfl (am_siq rfl rfl rfl (Nat.le_of_ble_eq_true rfl) rfl ?_)
          refine ⟨ls, s, 98, _, _, _, _, _, _, _, _, _, _, tA, rfl, ht, hs, by decide, rfl, fun a b => absurd b (by have := hz a; omega), fun _ => ?_⟩
          refine am_nrp rfl rfl rfl rfl ?_
          refine st_if_eq O dX7_statement_343 (t := 350) rfl (q := 346) rfl (fun c343 => ?_) (fun c343 => ?_)
          · refine st_aloadn O dX7_statement_350 rfl (q := 351) rfl ?_
            refine st_bipush O dX7_statement_351 am_bipush_119 (q := 353) rfl ?_
            refine st_call O dX7_statement_353 cs_X7_statement_353 (q := 356) rfl (am_siq rfl rfl rfl (Nat.le_of_ble_eq_true rfl) rfl ?_)
            refine ⟨ls, s, 119, _, _, _, _, _, _, _, _, _, _, tA, rfl, ht, hs, by decide, rfl, fun a b => absurd b (by have := hz a; omega), fun _ => ?_⟩
            refine am_nrp rfl rfl rfl rfl ?_
            refine st_if_eq O dX7_statement_356 (t := 363) rfl (q := 359) rfl (fun c356 => ?_) (fun c356 => ?_)
            · refine st_aloadn O dX7_statement_363 rfl (q := 364) rfl ?_
              refine st_bipush O dX7_statement_364 am_bipush_111 (q := 366) rfl ?_
              refine st_call O dX7_statement_366 cs_X7_statement_366 (q := 369) rfl (am_siq rfl rfl rfl (Nat.le_of_ble_eq_true rfl) rfl ?_)
              refine ⟨ls, s, 111, _, _, _, _, _, _, _, _, _, _, tA, rfl, ht, hs, by decide, rfl, fun a b => absurd b (by have := hz a; omega), fun _ => ?_⟩
              refine am_nrp rfl rfl rfl rfl ?_
              refine st_if_eq O dX7_statement_369 (t := 376) rfl (q := 372) rfl (fun c369 => ?_) (fun c369 => ?_)
              · refine st_aloadn O dX7_statement_376 rfl (q := 377) rfl ?_
                refine st_bipush O dX7_statement_377 am_bipush_102 (q := 379) rfl ?_
                refine st_call O dX7_statement_379 cs_X7_statement_379 (q := 382) rfl (am_siq rfl rfl rfl (Nat.le_of_ble_eq_true rfl) rfl ?_)
                refine ⟨ls, s, 102, _, _, _, _, _, _, _, _, _, _, tA, rfl, ht, hs, by decide, rfl, fun a b => absurd b (by have := hz a; omega), fun _ => ?_⟩
                refine am_nrp rfl rfl rfl rfl ?_
                refine st_if_eq O dX7_statement_382 (t := 389) rfl (q := 385) rfl (fun c382 => ?_) (fun c382 => ?_)
                · refine st_iconst O dX7_statement_389 am_iconst_m1 (q := 390) rfl ?_
                  refine st_istoren O dX7_statement_390 rfl (q := 391) rfl ?_
                  refine st_iloadn O dX7_statement_391 rfl (q := 392) rfl ?_
                  refine st_if_lt O dX7_statement_392 (t := 403) rfl (q := 395) rfl (fun c392 => ?_) (fun c392 => ?_)
                  · refine st_iconst O dX7_statement_403 am_iconst_m1 (q := 404) rfl ?_
                    refine st_ireturn O dX7_statement_404 ?_
                    exact hB
                  exact absurd c392 (by decide)
                exact absurd c382 (by decide)
              exact absurd c369 (by decide)
            exact absurd c356 (by decide)
          exact absurd c343 (by decide)
        exact absurd c205 (by decide)
      exact absurd c6 (by decide)
  · have hs : s ≤ ls.length := Nat.le_of_lt hlt
    have hsl := hf.1
    have h256b := tX_lt t3 s
    have hk6 : ls.getD s 0 = 99 ∨ ls.getD s 0 = 120 ∨ ls.getD s 0 = 98 ∨ ls.getD s 0 = 119 ∨ ls.getD s 0 = 111 ∨ ls.getD s 0 = 102 := by
      revert hsl
      unfold slN
      repeat' split
      all_goals omega
    have hdg : ∀ b m, 0 < b → b + m + 1 = slN (ls.getD s 0) → (ls.getD s 0 = 99 → 2 ≤ b) → (∀ i, i < m → isD ls (s + b + i)) := by
      intro b m h1 h2 h3 i hi
      obtain ⟨q1, q2, q3⟩ := fm_dig hf (b + i) (by omega) (by omega) (fun z => by have := h3 z; omega)
      rw [← Nat.add_assoc] at q1 q2 q3
      exact ⟨q3, q1, q2⟩
    have hd9 : ∀ b m i, 0 < b → b + m + 1 = slN (ls.getD s 0) → (ls.getD s 0 = 99 → 2 ≤ b) → i < m → dgt ls s (b + i) ≤ 9 := by
      intro b m i h1 h2 h3 hi
      obtain ⟨q3, q1, q2⟩ := hdg b m h1 h2 h3 i hi
      rw [Nat.add_assoc] at q2
      unfold dgt
      omega
    unfold tl1 at hN hY
    rcases hk6 with hh | hh | hh | hh | hh | hh
    · have eS : slN (ls.getD s 0) = 7 := by rw [hh]; rfl
      rw [if_neg (show ¬ ls.getD s 0 = 98 by omega)] at hN hY
      rw [if_pos hh] at hN hY
      have hA4 := hdg 2 4 (by decide) (by omega) (by omega)
      have d2 : dgt ls s 2 ≤ 9 := hd9 2 4 0 (by decide) (by omega) (by omega) (by decide)
      have d3 : dgt ls s 3 ≤ 9 := hd9 2 4 1 (by decide) (by omega) (by omega) (by decide)
      have d4 : dgt ls s 4 ≤ 9 := hd9 2 4 2 (by decide) (by omega) (by omega) (by decide)
      have d5 : dgt ls s 5 ≤ 9 := hd9 2 4 3 (by decide) (by omega) (by omega) (by decide)
      rw [show s + slN (ls.getD s 0) - 1 = s + 2 + 4 by omega] at hY
      obtain ⟨hkx, hl1⟩ := fm_kind hf hh
      have ht1 := t2 (s + 1) hl1
      obtain ⟨k1, k2, k3⟩ := kx_kxn _ h256 hkx
      unfold tlC at hN hY
      obtain ⟨n, b, w, kd, fg, la, hu, li⟩ := x
      dsimp only at hN hY hn hb hw hp hj hL ⊢
      by_cases hc : n = 9 ∨ 2 ≤ dgt ls s 3 ∨ 20 < 10 * dgt ls s 4 + dgt ls s 5
      · rw [if_pos hc] at hN
        refine am_begin rfl ?_
        refine st_aloadn O dX7_statement_0 rfl (q := 1) rfl ?_
        refine st_bipush O dX7_statement_1 am_bipush_99 (q := 3) rfl ?_
        refine st_call O dX7_statement_3 cs_X7_statement_3 (q := 6) rfl (am_siq rfl rfl rfl (Nat.le_of_ble_eq_true rfl) rfl ?_)
        refine ⟨ls, s, 99, _, _, _, _, _, _, _, _, _, _, tA, rfl, ht, hs, by decide, rfl, fun _ _ => ?_, fun z => absurd ⟨hlt, hh⟩ z⟩
        refine am_nrp rfl rfl rfl rfl ?_
        refine st_if_eq O dX7_statement_6 (t := 199) rfl (q := 9) rfl (fun c6 => ?_) (fun c6 => ?_)
        · exact absurd c6 (by decide)
        refine st_aloadn O dX7_statement_9 rfl (q := 10) rfl ?_
        refine st_geti O dX7_statement_10 fl_X7_73 rfl rfl rfl rfl (q := 13) rfl ?_
        refine st_aloadn O dX7_statement_13 rfl (q := 14) rfl ?_
        refine st_geti O dX7_statement_14 fl_X7_70 rfl rfl rfl rfl (q := 17) rfl ?_
        refine sn_icmp_ge O dX7_statement_17 (t := 49) rfl (q := 20) rfl (by omega) (by omega) (fun c17 => ?_) (fun c17 => ?_)
        · omega
        refine st_aloadn O dX7_statement_20 rfl (q := 21) rfl ?_
        refine st_getr O dX7_statement_21 fl_X7_25 rfl rfl rfl (q := 24) rfl ?_
        refine st_aloadn O dX7_statement_24 rfl (q := 25) rfl ?_
        refine st_geti O dX7_statement_25 fl_X7_73 rfl rfl rfl rfl (q := 28) rfl ?_
        refine sn_ald O dX7_statement_28 rfl rfl rfl ⟨by omega, by decide⟩ ht1 (q := 29) rfl ?_
        refine sn_if_le O dX7_statement_29 (t := 49) rfl (q := 32) rfl (by omega) (fun c29 => ?_) (fun c29 => ?_)
        · omega
        refine st_ldc O dX7_statement_32 kc_X7_80 (q := 34) rfl ?_
        refine st_aloadn O dX7_statement_34 rfl (q := 35) rfl ?_
        refine st_getr O dX7_statement_35 fl_X7_25 rfl rfl rfl (q := 38) rfl ?_
        refine st_aloadn O dX7_statement_38 rfl (q := 39) rfl ?_
        refine st_geti O dX7_statement_39 fl_X7_73 rfl rfl rfl rfl (q := 42) rfl ?_
        refine sn_ald O dX7_statement_42 rfl rfl rfl ⟨by omega, by decide⟩ ht1 (q := 43) rfl ?_
        refine st_call O dX7_statement_43 cs_X7_statement_43 (q := 46) rfl (am_sipq rfl rfl rfl (Nat.le_of_ble_eq_true rfl) rfl (r := nI (kxn (ls.getD (s + 1) 0))) ⟨_, h256, rfl, k1.symm⟩ ?_)
        refine st_goto O dX7_statement_46 (t := 50) rfl ?_
        refine st_istoren O dX7_statement_50 rfl (q := 51) rfl ?_
        refine st_iloadn O dX7_statement_51 rfl (q := 52) rfl ?_
        refine sn_if_ge O dX7_statement_52 (t := 57) rfl (q := 55) rfl (by omega) (fun c52 => ?_) (fun c52 => ?_)
        · refine st_aloadn O dX7_statement_57 rfl (q := 58) rfl ?_
          refine st_dup O dX7_statement_58 (q := 59) rfl ?_
          refine st_geti O dX7_statement_59 fl_X7_73 rfl rfl rfl rfl (q := 62) rfl ?_
          refine st_iconst O dX7_statement_62 am_iconst_1 (q := 63) rfl ?_
          refine st_iadd O dX7_statement_63 (by first | exact nI_add _ _ | exact rfl) (q := 64) rfl ?_
          refine st_puti O dX7_statement_64 fl_X7_73 rfl rfl rfl rfl rfl (q := 67) rfl ?_
          refine st_aloadn O dX7_statement_67 rfl (q := 68) rfl ?_
          refine st_iconst O dX7_statement_68 am_iconst_4 (q := 69) rfl ?_
          refine st_call O dX7_statement_69 cs_X7_statement_69 (q := 72) rfl (am_siq rfl rfl rfl (Nat.le_of_ble_eq_true rfl) rfl ?_)
          refine ⟨ls, s + 2, 4, _, _, _, _, _, _, _, _, _, _, tA, _, rfl, ht, by omega, by decide, rfl, fun _ vB hv => ?_, fun f hf _ hno => absurd (hA4 f hf) hno⟩
          refine am_nrp rfl rfl rfl rfl ?_
          have v2 : vB 0 = nI (dgt ls s 2) := hv 0 (by decide)
          have v3 : vB 1 = nI (dgt ls s 3) := hv 1 (by decide)
          have v4 : vB 2 = nI (dgt ls s 4) := hv 2 (by decide)
          have v5 : vB 3 = nI (dgt ls s 5) := hv 3 (by decide)
          refine st_if_ne O dX7_statement_72 (t := 77) rfl (q := 75) rfl (fun c72 => ?_) (fun c72 => ?_)
          · refine st_iloadn O dX7_statement_77 rfl (q := 78) rfl ?_
            refine st_if_ne O dX7_statement_78 (t := 83) rfl (q := 81) rfl (fun c78 => ?_) (fun c78 => ?_)
            · refine st_aloadn O dX7_statement_83 rfl (q := 84) rfl ?_
              refine st_getr O dX7_statement_84 fl_X7_28 rfl rfl rfl (q := 87) rfl ?_
              refine st_iconst O dX7_statement_87 am_iconst_1 (q := 88) rfl ?_
              refine sn_ald O dX7_statement_88 rfl rfl rfl ⟨by omega, by decide⟩ v3 (q := 89) rfl ?_
              refine st_iconst O dX7_statement_89 am_iconst_1 (q := 90) rfl ?_
              refine sn_icmp_gt O dX7_statement_90 (t := 112) rfl (q := 93) rfl (by omega) (by omega) (fun c90 => ?_) (fun c90 => ?_)
              · refine st_iconst O dX7_statement_112 am_iconst_0 (q := 113) rfl ?_
                refine st_ireturn O dX7_statement_113 ?_
                exact hN rfl _ vB
              refine st_aloadn O dX7_statement_93 rfl (q := 94) rfl ?_
              refine st_iconst O dX7_statement_94 am_iconst_2 (q := 95) rfl ?_
              refine st_call O dX7_statement_95 cs_X7_statement_95 (q := 98) rfl (am_sipq rfl rfl rfl (Nat.le_of_ble_eq_true rfl) rfl (r := nI (10 * dgt ls s 4 + dgt ls s 5)) ⟨2, _, _, _, _, rfl, by decide, v4, v5, rfl, rfl⟩ ?_)
              refine st_bipush O dX7_statement_98 am_bipush_20 (q := 100) rfl ?_
              refine sn_icmp_gt O dX7_statement_100 (t := 112) rfl (q := 103) rfl (by omega) (by omega) (fun c100 => ?_) (fun c100 => ?_)
              · refine st_iconst O dX7_statement_112 am_iconst_0 (q := 113) rfl ?_
                refine st_ireturn O dX7_statement_113 ?_
                exact hN rfl _ vB
              refine st_aloadn O dX7_statement_103 rfl (q := 104) rfl ?_
              refine st_geti O dX7_statement_104 fl_X7_59 rfl rfl rfl rfl (q := 107) rfl ?_
              refine st_bipush O dX7_statement_107 am_bipush_9 (q := 109) rfl ?_
              refine sn_icmp_ne O dX7_statement_109 (t := 114) rfl (q := 112) rfl (by omega) (by omega) (fun c109 => ?_) (fun c109 => ?_)
              · omega
              refine st_iconst O dX7_statement_112 am_iconst_0 (q := 113) rfl ?_
              refine st_ireturn O dX7_statement_113 ?_
              exact hN rfl _ vB
            exact absurd c78 (by decide)
          exact absurd c72 (by decide)
        (first | exact c52.elim | exact absurd trivial c52 | exact absurd (Nat.zero_le _) c52)
      · rw [if_neg hc] at hY
        have hn9 : n < 9 := by omega
        have hc3 : dgt ls s 3 < 2 := by omega
        have hLu := mL_congr (lA' := upd lA n (nI (dgt ls s 3))) (pA' := pA) hL (fun _ _ => rfl) (fun c hcn => ⟨pk_un (by omega), rfl⟩)
        refine am_begin rfl ?_
        refine st_aloadn O dX7_statement_0 rfl (q := 1) rfl ?_
        refine st_bipush O dX7_statement_1 am_bipush_99 (q := 3) rfl ?_
        refine st_call O dX7_statement_3 cs_X7_statement_3 (q := 6) rfl (am_siq rfl rfl rfl (Nat.le_of_ble_eq_true rfl) rfl ?_)
        refine ⟨ls, s, 99, _, _, _, _, _, _, _, _, _, _, tA, rfl, ht, hs, by decide, rfl, fun _ _ => ?_, fun z => absurd ⟨hlt, hh⟩ z⟩
        refine am_nrp rfl rfl rfl rfl ?_
        refine st_if_eq O dX7_statement_6 (t := 199) rfl (q := 9) rfl (fun c6 => ?_) (fun c6 => ?_)
        · exact absurd c6 (by decide)
        refine st_aloadn O dX7_statement_9 rfl (q := 10) rfl ?_
        refine st_geti O dX7_statement_10 fl_X7_73 rfl rfl rfl rfl (q := 13) rfl ?_
        refine st_aloadn O dX7_statement_13 rfl (q := 14) rfl ?_
        refine st_geti O dX7_statement_14 fl_X7_70 rfl rfl rfl rfl (q := 17) rfl ?_
        refine sn_icmp_ge O dX7_statement_17 (t := 49) rfl (q := 20) rfl (by omega) (by omega) (fun c17 => ?_) (fun c17 => ?_)
        · omega
        refine st_aloadn O dX7_statement_20 rfl (q := 21) rfl ?_
        refine st_getr O dX7_statement_21 fl_X7_25 rfl rfl rfl (q := 24) rfl ?_
        refine st_aloadn O dX7_statement_24 rfl (q := 25) rfl ?_
        refine st_geti O dX7_statement_25 fl_X7_73 rfl rfl rfl rfl (q := 28) rfl ?_
        refine sn_ald O dX7_statement_28 rfl rfl rfl ⟨by omega, by decide⟩ ht1 (q := 29) rfl ?_
        refine sn_if_le O dX7_statement_29 (t := 49) rfl (q := 32) rfl (by omega) (fun c29 => ?_) (fun c29 => ?_)
        · omega
        refine st_ldc O dX7_statement_32 kc_X7_80 (q := 34) rfl ?_
        refine st_aloadn O dX7_statement_34 rfl (q := 35) rfl ?_
        refine st_getr O dX7_statement_35 fl_X7_25 rfl rfl rfl (q := 38) rfl ?_
        refine st_aloadn O dX7_statement_38 rfl (q := 39) rfl ?_
        refine st_geti O dX7_statement_39 fl_X7_73 rfl rfl rfl rfl (q := 42) rfl ?_
        refine sn_ald O dX7_statement_42 rfl rfl rfl ⟨by omega, by decide⟩ ht1 (q := 43) rfl ?_
        refine st_call O dX7_statement_43 cs_X7_statement_43 (q := 46) rfl (am_sipq rfl rfl rfl (Nat.le_of_ble_eq_true rfl) rfl (r := nI (kxn (ls.getD (s + 1) 0))) ⟨_, h256, rfl, k1.symm⟩ ?_)
        refine st_goto O dX7_statement_46 (t := 50) rfl ?_
        refine st_istoren O dX7_statement_50 rfl (q := 51) rfl ?_
        refine st_iloadn O dX7_statement_51 rfl (q := 52) rfl ?_
        refine sn_if_ge O dX7_statement_52 (t := 57) rfl (q := 55) rfl (by omega) (fun c52 => ?_) (fun c52 => ?_)
        · refine st_aloadn O dX7_statement_57 rfl (q := 58) rfl ?_
          refine st_dup O dX7_statement_58 (q := 59) rfl ?_
          refine st_geti O dX7_statement_59 fl_X7_73 rfl rfl rfl rfl (q := 62) rfl ?_
          refine st_iconst O dX7_statement_62 am_iconst_1 (q := 63) rfl ?_
          refine st_iadd O dX7_statement_63 (by first | exact nI_add _ _ | exact rfl) (q := 64) rfl ?_
          refine st_puti O dX7_statement_64 fl_X7_73 rfl rfl rfl rfl rfl (q := 67) rfl ?_
          refine st_aloadn O dX7_statement_67 rfl (q := 68) rfl ?_
          refine st_iconst O dX7_statement_68 am_iconst_4 (q := 69) rfl ?_
          refine st_call O dX7_statement_69 cs_X7_statement_69 (q := 72) rfl (am_siq rfl rfl rfl (Nat.le_of_ble_eq_true rfl) rfl ?_)
          refine ⟨ls, s + 2, 4, _, _, _, _, _, _, _, _, _, _, tA, _, rfl, ht, by omega, by decide, rfl, fun _ vB hv => ?_, fun f hf _ hno => absurd (hA4 f hf) hno⟩
          refine am_nrp rfl rfl rfl rfl ?_
          have v2 : vB 0 = nI (dgt ls s 2) := hv 0 (by decide)
          have v3 : vB 1 = nI (dgt ls s 3) := hv 1 (by decide)
          have v4 : vB 2 = nI (dgt ls s 4) := hv 2 (by decide)
          have v5 : vB 3 = nI (dgt ls s 5) := hv 3 (by decide)
          refine st_if_ne O dX7_statement_72 (t := 77) rfl (q := 75) rfl (fun c72 => ?_) (fun c72 => ?_)
          · refine st_iloadn O dX7_statement_77 rfl (q := 78) rfl ?_
            refine st_if_ne O dX7_statement_78 (t := 83) rfl (q := 81) rfl (fun c78 => ?_) (fun c78 => ?_)
            · refine st_aloadn O dX7_statement_83 rfl (q := 84) rfl ?_
              refine st_getr O dX7_statement_84 fl_X7_28 rfl rfl rfl (q := 87) rfl ?_
              refine st_iconst O dX7_statement_87 am_iconst_1 (q := 88) rfl ?_
              refine sn_ald O dX7_statement_88 rfl rfl rfl ⟨by omega, by decide⟩ v3 (q := 89) rfl ?_
              refine st_iconst O dX7_statement_89 am_iconst_1 (q := 90) rfl ?_
              refine sn_icmp_gt O dX7_statement_90 (t := 112) rfl (q := 93) rfl (by omega) (by omega) (fun c90 => ?_) (fun c90 => ?_)
              · omega
              refine st_aloadn O dX7_statement_93 rfl (q := 94) rfl ?_
              refine st_iconst O dX7_statement_94 am_iconst_2 (q := 95) rfl ?_
              refine st_call O dX7_statement_95 cs_X7_statement_95 (q := 98) rfl (am_sipq rfl rfl rfl (Nat.le_of_ble_eq_true rfl) rfl (r := nI (10 * dgt ls s 4 + dgt ls s 5)) ⟨2, _, _, _, _, rfl, by decide, v4, v5, rfl, rfl⟩ ?_)
              refine st_bipush O dX7_statement_98 am_bipush_20 (q := 100) rfl ?_
              refine sn_icmp_gt O dX7_statement_100 (t := 112) rfl (q := 103) rfl (by omega) (by omega) (fun c100 => ?_) (fun c100 => ?_)
              · omega
              refine st_aloadn O dX7_statement_103 rfl (q := 104) rfl ?_
              refine st_geti O dX7_statement_104 fl_X7_59 rfl rfl rfl rfl (q := 107) rfl ?_
              refine st_bipush O dX7_statement_107 am_bipush_9 (q := 109) rfl ?_
              refine sn_icmp_ne O dX7_statement_109 (t := 114) rfl (q := 112) rfl (by omega) (by omega) (fun c109 => ?_) (fun c109 => ?_)
              · refine st_aloadn O dX7_statement_114 rfl (q := 115) rfl ?_
                refine st_getr O dX7_statement_115 fl_X7_7 rfl rfl rfl (q := 118) rfl ?_
                refine st_aloadn O dX7_statement_118 rfl (q := 119) rfl ?_
                refine st_geti O dX7_statement_119 fl_X7_59 rfl rfl rfl rfl (q := 122) rfl ?_
                refine st_iloadn O dX7_statement_122 rfl (q := 123) rfl ?_
                refine sn_ast O dX7_statement_123 rfl rfl rfl ⟨by omega, by decide⟩ rfl rfl (q := 124) rfl ?_
                refine st_aloadn O dX7_statement_124 rfl (q := 125) rfl ?_
                refine st_getr O dX7_statement_125 fl_X7_13 rfl rfl rfl (q := 128) rfl ?_
                refine st_aloadn O dX7_statement_128 rfl (q := 129) rfl ?_
                refine st_geti O dX7_statement_129 fl_X7_59 rfl rfl rfl rfl (q := 132) rfl ?_
                refine st_aloadn O dX7_statement_132 rfl (q := 133) rfl ?_
                refine st_getr O dX7_statement_133 fl_X7_28 rfl rfl rfl (q := 136) rfl ?_
                refine st_iconst O dX7_statement_136 am_iconst_0 (q := 137) rfl ?_
                refine sn_ald O dX7_statement_137 rfl rfl rfl ⟨by omega, by decide⟩ v2 (q := 138) rfl ?_
                refine sn_ast O dX7_statement_138 rfl rfl rfl ⟨by omega, by decide⟩ rfl rfl (q := 139) rfl ?_
                refine st_aloadn O dX7_statement_139 rfl (q := 140) rfl ?_
                refine st_getr O dX7_statement_140 fl_X7_19 rfl rfl rfl (q := 143) rfl ?_
                refine st_aloadn O dX7_statement_143 rfl (q := 144) rfl ?_
                refine st_geti O dX7_statement_144 fl_X7_59 rfl rfl rfl rfl (q := 147) rfl ?_
                refine st_aloadn O dX7_statement_147 rfl (q := 148) rfl ?_
                refine st_getr O dX7_statement_148 fl_X7_28 rfl rfl rfl (q := 151) rfl ?_
                refine st_iconst O dX7_statement_151 am_iconst_1 (q := 152) rfl ?_
                refine sn_ald O dX7_statement_152 rfl rfl rfl ⟨by omega, by decide⟩ v3 (q := 153) rfl ?_
                refine sn_ast O dX7_statement_153 rfl rfl rfl ⟨by omega, by decide⟩ rfl rfl (q := 154) rfl ?_
                refine st_aloadn O dX7_statement_154 rfl (q := 155) rfl ?_
                refine st_getr O dX7_statement_155 fl_X7_22 rfl rfl rfl (q := 158) rfl ?_
                refine st_aloadn O dX7_statement_158 rfl (q := 159) rfl ?_
                refine st_geti O dX7_statement_159 fl_X7_59 rfl rfl rfl rfl (q := 162) rfl ?_
                refine st_aloadn O dX7_statement_162 rfl (q := 163) rfl ?_
                refine st_aloadn O dX7_statement_163 rfl (q := 164) rfl ?_
                refine st_getr O dX7_statement_164 fl_X7_28 rfl rfl rfl (q := 167) rfl ?_
                refine st_iconst O dX7_statement_167 am_iconst_1 (q := 168) rfl ?_
                refine sn_ald O dX7_statement_168 rfl rfl rfl ⟨by omega, by decide⟩ v3 (q := 169) rfl ?_
                refine st_call O dX7_statement_169 cs_X7_statement_169 (q := 172) rfl (am_sipq rfl rfl rfl (Nat.le_of_ble_eq_true rfl) rfl (r := nI (qu la li (dgt ls s 3) 0).length) ⟨dgt ls s 3, n, _, _, _, _, rfl, hLu, hc3, rfl, rfl⟩ ?_)
                refine sn_ast O dX7_statement_172 rfl rfl rfl ⟨by omega, by decide⟩ rfl rfl (q := 173) rfl ?_
                refine st_aloadn O dX7_statement_173 rfl (q := 174) rfl ?_
                refine st_getr O dX7_statement_174 fl_X7_16 rfl rfl rfl (q := 177) rfl ?_
                refine st_aloadn O dX7_statement_177 rfl (q := 178) rfl ?_
                refine st_geti O dX7_statement_178 fl_X7_59 rfl rfl rfl rfl (q := 181) rfl ?_
                refine st_aloadn O dX7_statement_181 rfl (q := 182) rfl ?_
                refine st_iconst O dX7_statement_182 am_iconst_2 (q := 183) rfl ?_
                refine st_call O dX7_statement_183 cs_X7_statement_183 (q := 186) rfl (am_sipq rfl rfl rfl (Nat.le_of_ble_eq_true rfl) rfl (r := nI (10 * dgt ls s 4 + dgt ls s 5)) ⟨2, _, _, _, _, rfl, by decide, v4, v5, rfl, rfl⟩ ?_)
                refine sn_ast O dX7_statement_186 rfl rfl rfl ⟨by omega, by decide⟩ rfl rfl (q := 187) rfl ?_
                refine st_aloadn O dX7_statement_187 rfl (q := 188) rfl ?_
                refine st_dup O dX7_statement_188 (q := 189) rfl ?_
                refine st_geti O dX7_statement_189 fl_X7_59 rfl rfl rfl rfl (q := 192) rfl ?_
                refine st_iconst O dX7_statement_192 am_iconst_1 (q := 193) rfl ?_
                refine st_iadd O dX7_statement_193 (by first | exact nI_add _ _ | exact rfl) (q := 194) rfl ?_
                refine st_puti O dX7_statement_194 fl_X7_59 rfl rfl rfl rfl rfl (q := 197) rfl ?_
                refine st_iconst O dX7_statement_197 am_iconst_1 (q := 198) rfl ?_
                refine st_ireturn O dX7_statement_198 ?_
                refine hY _ rfl vB _ _ _ _ _ ⟨hb, hw, ?_, fun i hin => ?_, mL_congr (mL_in9 hL hn9 hc3) (fun y _ => qu_add hp y) (fun _ _ => ⟨rfl, rfl⟩)⟩
                · show (li ++ [n]).Perm (List.range (n + 1))
                  rw [List.range_succ]; exact hp.append_right [n]
                · by_cases e : i = n
                  · subst e; simp only [pk_us, va_s]; exact ⟨⟨trivial, k2⟩, ⟨trivial, by omega⟩, ⟨trivial, by omega⟩, hc3⟩
                  · simp only [pk_un e, va_o _ _ e]; exact hj i (by have : i < n + 1 := hin; omega)
              omega
            exact absurd c78 (by decide)
          exact absurd c72 (by decide)
        (first | exact c52.elim | exact absurd trivial c52 | exact absurd (Nat.zero_le _) c52)
    · have eS : slN (ls.getD s 0) = 4 := by rw [hh]; rfl
      rw [if_neg (show ¬ ls.getD s 0 = 98 by omega)] at hN hY
      rw [if_neg (show ¬ ls.getD s 0 = 99 by omega)] at hN hY
      rw [if_neg (show ¬ ls.getD s 0 = 102 by omega)] at hN hY
      rw [if_neg (show ¬ ls.getD s 0 = 111 by omega)] at hN hY
      rw [if_neg (show ¬ ls.getD s 0 = 119 by omega)] at hN hY
      rw [if_pos hh] at hN hY
      have hA4 := hdg 1 2 (by decide) (by omega) (by omega)
      have d1 : dgt ls s 1 ≤ 9 := hd9 1 2 0 (by decide) (by omega) (by omega) (by decide)
      have d2 : dgt ls s 2 ≤ 9 := hd9 1 2 1 (by decide) (by omega) (by omega) (by decide)
      rw [show s + slN (ls.getD s 0) - 1 = s + 1 + 2 by omega] at hY
      by_cases ha : dgt ls s 1 < x.1
      · by_cases hc : dgt ls s 2 < x.1
        · obtain ⟨q1, q2, q3, q4⟩ := hj _ ha
          obtain ⟨w1, w2, w3, w4⟩ := hj _ hc
          by_cases hne : dgt ls s 1 = dgt ls s 2
          · rw [if_neg (fun z => z.2.2 hne)] at hN
            refine am_begin rfl ?_
            refine st_aloadn O dX7_statement_0 rfl (q := 1) rfl ?_
            refine st_bipush O dX7_statement_1 am_bipush_99 (q := 3) rfl ?_
            refine st_call O dX7_statement_3 cs_X7_statement_3 (q := 6) rfl (am_siq rfl rfl rfl (Nat.le_of_ble_eq_true rfl) rfl ?_)
            refine ⟨ls, s, 99, _, _, _, _, _, _, _, _, _, _, tA, rfl, ht, hs, by decide, rfl, fun a b => absurd b (by omega), fun _ => ?_⟩
            refine am_nrp rfl rfl rfl rfl ?_
            refine st_if_eq O dX7_statement_6 (t := 199) rfl (q := 9) rfl (fun c6 => ?_) (fun c6 => ?_)
            · refine st_aloadn O dX7_statement_199 rfl (q := 200) rfl ?_
              refine st_bipush O dX7_statement_200 am_bipush_120 (q := 202) rfl ?_
              refine st_call O dX7_statement_202 cs_X7_statement_202 (q := 205) rfl (am_siq rfl rfl rfl (Nat.le_of_ble_eq_true rfl) rfl ?_)
              refine ⟨ls, s, 120, _, _, _, _, _, _, _, _, _, _, tA, rfl, ht, hs, by decide, rfl, fun _ _ => ?_, fun z => absurd ⟨hlt, hh⟩ z⟩
              refine am_nrp rfl rfl rfl rfl ?_
              refine st_if_eq O dX7_statement_205 (t := 337) rfl (q := 208) rfl (fun c205 => ?_) (fun c205 => ?_)
              · exact absurd c205 (by decide)
              refine st_aloadn O dX7_statement_208 rfl (q := 209) rfl ?_
              refine st_iconst O dX7_statement_209 am_iconst_2 (q := 210) rfl ?_
              refine st_call O dX7_statement_210 cs_X7_statement_210 (q := 213) rfl (am_siq rfl rfl rfl (Nat.le_of_ble_eq_true rfl) rfl ?_)
              refine ⟨ls, s + 1, 2, _, _, _, _, _, _, _, _, _, _, tA, _, rfl, ht, by omega, by decide, rfl, fun _ vB hv => ?_, fun f hf _ hno => absurd (hA4 f hf) hno⟩
              refine am_nrp rfl rfl rfl rfl ?_
              have v1 : vB 0 = nI (dgt ls s 1) := hv 0 (by decide)
              have v2 : vB 1 = nI (dgt ls s 2) := hv 1 (by decide)
              refine st_if_ne O dX7_statement_213 (t := 218) rfl (q := 216) rfl (fun c213 => ?_) (fun c213 => ?_)
              · refine st_iloadn O dX7_statement_218 rfl (q := 219) rfl ?_
                refine st_if_ne O dX7_statement_219 (t := 224) rfl (q := 222) rfl (fun c219 => ?_) (fun c219 => ?_)
                · refine st_aloadn O dX7_statement_224 rfl (q := 225) rfl ?_
                  refine st_aloadn O dX7_statement_225 rfl (q := 226) rfl ?_
                  refine st_getr O dX7_statement_226 fl_X7_28 rfl rfl rfl (q := 229) rfl ?_
                  refine st_iconst O dX7_statement_229 am_iconst_0 (q := 230) rfl ?_
                  refine sn_ald O dX7_statement_230 rfl rfl rfl ⟨by omega, by decide⟩ v1 (q := 231) rfl ?_
                  refine st_call O dX7_statement_231 cs_X7_statement_231 (q := 234) rfl (am_sipq rfl rfl rfl (Nat.le_of_ble_eq_true rfl) rfl (r := 1) ⟨_, x.1, _, hn, rfl, rfl, by rw [xi_nI hn (by omega)]; rfl⟩ ?_)
                  refine st_if_eq O dX7_statement_234 (t := 265) rfl (q := 237) rfl (fun c234 => ?_) (fun c234 => ?_)
                  · exact absurd c234 (by decide)
                  refine st_aloadn O dX7_statement_237 rfl (q := 238) rfl ?_
                  refine st_aloadn O dX7_statement_238 rfl (q := 239) rfl ?_
                  refine st_getr O dX7_statement_239 fl_X7_28 rfl rfl rfl (q := 242) rfl ?_
                  refine st_iconst O dX7_statement_242 am_iconst_1 (q := 243) rfl ?_
                  refine sn_ald O dX7_statement_243 rfl rfl rfl ⟨by omega, by decide⟩ v2 (q := 244) rfl ?_
                  refine st_call O dX7_statement_244 cs_X7_statement_244 (q := 247) rfl (am_sipq rfl rfl rfl (Nat.le_of_ble_eq_true rfl) rfl (r := 1) ⟨_, x.1, _, hn, rfl, rfl, by rw [xi_nI hn (by omega)]; rfl⟩ ?_)
                  refine st_if_eq O dX7_statement_247 (t := 265) rfl (q := 250) rfl (fun c247 => ?_) (fun c247 => ?_)
                  · exact absurd c247 (by decide)
                  refine st_aloadn O dX7_statement_250 rfl (q := 251) rfl ?_
                  refine st_getr O dX7_statement_251 fl_X7_28 rfl rfl rfl (q := 254) rfl ?_
                  refine st_iconst O dX7_statement_254 am_iconst_0 (q := 255) rfl ?_
                  refine sn_ald O dX7_statement_255 rfl rfl rfl ⟨by omega, by decide⟩ v1 (q := 256) rfl ?_
                  refine st_aloadn O dX7_statement_256 rfl (q := 257) rfl ?_
                  refine st_getr O dX7_statement_257 fl_X7_28 rfl rfl rfl (q := 260) rfl ?_
                  refine st_iconst O dX7_statement_260 am_iconst_1 (q := 261) rfl ?_
                  refine sn_ald O dX7_statement_261 rfl rfl rfl ⟨by omega, by decide⟩ v2 (q := 262) rfl ?_
                  refine sn_icmp_ne O dX7_statement_262 (t := 267) rfl (q := 265) rfl (by omega) (by omega) (fun c262 => ?_) (fun c262 => ?_)
                  · omega
                  refine st_iconst O dX7_statement_265 am_iconst_0 (q := 266) rfl ?_
                  refine st_ireturn O dX7_statement_266 ?_
                  exact hN rfl _ vB
                exact absurd c219 (by decide)
              exact absurd c213 (by decide)
            exact absurd c6 (by decide)
          · rw [if_pos ⟨ha, hc, hne⟩] at hY
            refine am_begin rfl ?_
            refine st_aloadn O dX7_statement_0 rfl (q := 1) rfl ?_
            refine st_bipush O dX7_statement_1 am_bipush_99 (q := 3) rfl ?_
            refine st_call O dX7_statement_3 cs_X7_statement_3 (q := 6) rfl (am_siq rfl rfl rfl (Nat.le_of_ble_eq_true rfl) rfl ?_)
            refine ⟨ls, s, 99, _, _, _, _, _, _, _, _, _, _, tA, rfl, ht, hs, by decide, rfl, fun a b => absurd b (by omega), fun _ => ?_⟩
            refine am_nrp rfl rfl rfl rfl ?_
            refine st_if_eq O dX7_statement_6 (t := 199) rfl (q := 9) rfl (fun c6 => ?_) (fun c6 => ?_)
            · refine st_aloadn O dX7_statement_199 rfl (q := 200) rfl ?_
              refine st_bipush O dX7_statement_200 am_bipush_120 (q := 202) rfl ?_
              refine st_call O dX7_statement_202 cs_X7_statement_202 (q := 205) rfl (am_siq rfl rfl rfl (Nat.le_of_ble_eq_true rfl) rfl ?_)
              refine ⟨ls, s, 120, _, _, _, _, _, _, _, _, _, _, tA, rfl, ht, hs, by decide, rfl, fun _ _ => ?_, fun z => absurd ⟨hlt, hh⟩ z⟩
              refine am_nrp rfl rfl rfl rfl ?_
              refine st_if_eq O dX7_statement_205 (t := 337) rfl (q := 208) rfl (fun c205 => ?_) (fun c205 => ?_)
              · exact absurd c205 (by decide)
              refine st_aloadn O dX7_statement_208 rfl (q := 209) rfl ?_
              refine st_iconst O dX7_statement_209 am_iconst_2 (q := 210) rfl ?_
              refine st_call O dX7_statement_210 cs_X7_statement_210 (q := 213) rfl (am_siq rfl rfl rfl (Nat.le_of_ble_eq_true rfl) rfl ?_)
              refine ⟨ls, s + 1, 2, _, _, _, _, _, _, _, _, _, _, tA, _, rfl, ht, by omega, by decide, rfl, fun _ vB hv => ?_, fun f hf _ hno => absurd (hA4 f hf) hno⟩
              refine am_nrp rfl rfl rfl rfl ?_
              have v1 : vB 0 = nI (dgt ls s 1) := hv 0 (by decide)
              have v2 : vB 1 = nI (dgt ls s 2) := hv 1 (by decide)
              refine st_if_ne O dX7_statement_213 (t := 218) rfl (q := 216) rfl (fun c213 => ?_) (fun c213 => ?_)
              · refine st_iloadn O dX7_statement_218 rfl (q := 219) rfl ?_
                refine st_if_ne O dX7_statement_219 (t := 224) rfl (q := 222) rfl (fun c219 => ?_) (fun c219 => ?_)
                · refine st_aloadn O dX7_statement_224 rfl (q := 225) rfl ?_
                  refine st_aloadn O dX7_statement_225 rfl (q := 226) rfl ?_
                  refine st_getr O dX7_statement_226 fl_X7_28 rfl rfl rfl (q := 229) rfl ?_
                  refine st_iconst O dX7_statement_229 am_iconst_0 (q := 230) rfl ?_
                  refine sn_ald O dX7_statement_230 rfl rfl rfl ⟨by omega, by decide⟩ v1 (q := 231) rfl ?_
                  refine st_call O dX7_statement_231 cs_X7_statement_231 (q := 234) rfl (am_sipq rfl rfl rfl (Nat.le_of_ble_eq_true rfl) rfl (r := 1) ⟨_, x.1, _, hn, rfl, rfl, by rw [xi_nI hn (by omega)]; rfl⟩ ?_)
                  refine st_if_eq O dX7_statement_234 (t := 265) rfl (q := 237) rfl (fun c234 => ?_) (fun c234 => ?_)
                  · exact absurd c234 (by decide)
                  refine st_aloadn O dX7_statement_237 rfl (q := 238) rfl ?_
                  refine st_aloadn O dX7_statement_238 rfl (q := 239) rfl ?_
                  refine st_getr O dX7_statement_239 fl_X7_28 rfl rfl rfl (q := 242) rfl ?_
                  refine st_iconst O dX7_statement_242 am_iconst_1 (q := 243) rfl ?_
                  refine sn_ald O dX7_statement_243 rfl rfl rfl ⟨by omega, by decide⟩ v2 (q := 244) rfl ?_
                  refine st_call O dX7_statement_244 cs_X7_statement_244 (q := 247) rfl (am_sipq rfl rfl rfl (Nat.le_of_ble_eq_true rfl) rfl (r := 1) ⟨_, x.1, _, hn, rfl, rfl, by rw [xi_nI hn (by omega)]; rfl⟩ ?_)
                  refine st_if_eq O dX7_statement_247 (t := 265) rfl (q := 250) rfl (fun c247 => ?_) (fun c247 => ?_)
                  · exact absurd c247 (by decide)
                  refine st_aloadn O dX7_statement_250 rfl (q := 251) rfl ?_
                  refine st_getr O dX7_statement_251 fl_X7_28 rfl rfl rfl (q := 254) rfl ?_
                  refine st_iconst O dX7_statement_254 am_iconst_0 (q := 255) rfl ?_
                  refine sn_ald O dX7_statement_255 rfl rfl rfl ⟨by omega, by decide⟩ v1 (q := 256) rfl ?_
                  refine st_aloadn O dX7_statement_256 rfl (q := 257) rfl ?_
                  refine st_getr O dX7_statement_257 fl_X7_28 rfl rfl rfl (q := 260) rfl ?_
                  refine st_iconst O dX7_statement_260 am_iconst_1 (q := 261) rfl ?_
                  refine sn_ald O dX7_statement_261 rfl rfl rfl ⟨by omega, by decide⟩ v2 (q := 262) rfl ?_
                  refine sn_icmp_ne O dX7_statement_262 (t := 267) rfl (q := 265) rfl (by omega) (by omega) (fun c262 => ?_) (fun c262 => ?_)
                  · refine st_aloadn O dX7_statement_267 rfl (q := 268) rfl ?_
                    refine st_getr O dX7_statement_268 fl_X7_7 rfl rfl rfl (q := 271) rfl ?_
                    refine st_aloadn O dX7_statement_271 rfl (q := 272) rfl ?_
                    refine st_getr O dX7_statement_272 fl_X7_28 rfl rfl rfl (q := 275) rfl ?_
                    refine st_iconst O dX7_statement_275 am_iconst_0 (q := 276) rfl ?_
                    refine sn_ald O dX7_statement_276 rfl rfl rfl ⟨by omega, by decide⟩ v1 (q := 277) rfl ?_
                    refine sn_ald O dX7_statement_277 rfl rfl rfl ⟨by omega, by decide⟩ q1.1 (q := 278) rfl ?_
                    refine st_istoren O dX7_statement_278 rfl (q := 279) rfl ?_
                    refine st_aloadn O dX7_statement_279 rfl (q := 280) rfl ?_
                    refine st_getr O dX7_statement_280 fl_X7_13 rfl rfl rfl (q := 283) rfl ?_
                    refine st_aloadn O dX7_statement_283 rfl (q := 284) rfl ?_
                    refine st_getr O dX7_statement_284 fl_X7_28 rfl rfl rfl (q := 287) rfl ?_
                    refine st_iconst O dX7_statement_287 am_iconst_0 (q := 288) rfl ?_
                    refine sn_ald O dX7_statement_288 rfl rfl rfl ⟨by omega, by decide⟩ v1 (q := 289) rfl ?_
                    refine sn_ald O dX7_statement_289 rfl rfl rfl ⟨by omega, by decide⟩ q2.1 (q := 290) rfl ?_
                    refine st_istoren O dX7_statement_290 rfl (q := 291) rfl ?_
                    refine st_aloadn O dX7_statement_291 rfl (q := 292) rfl ?_
                    refine st_aloadn O dX7_statement_292 rfl (q := 293) rfl ?_
                    refine st_getr O dX7_statement_293 fl_X7_28 rfl rfl rfl (q := 296) rfl ?_
                    refine st_iconst O dX7_statement_296 am_iconst_0 (q := 297) rfl ?_
                    refine sn_ald O dX7_statement_297 rfl rfl rfl ⟨by omega, by decide⟩ v1 (q := 298) rfl ?_
                    refine st_aloadn O dX7_statement_298 rfl (q := 299) rfl ?_
                    refine st_getr O dX7_statement_299 fl_X7_7 rfl rfl rfl (q := 302) rfl ?_
                    refine st_aloadn O dX7_statement_302 rfl (q := 303) rfl ?_
                    refine st_getr O dX7_statement_303 fl_X7_28 rfl rfl rfl (q := 306) rfl ?_
                    refine st_iconst O dX7_statement_306 am_iconst_1 (q := 307) rfl ?_
                    refine sn_ald O dX7_statement_307 rfl rfl rfl ⟨by omega, by decide⟩ v2 (q := 308) rfl ?_
                    refine sn_ald O dX7_statement_308 rfl rfl rfl ⟨by omega, by decide⟩ w1.1 (q := 309) rfl ?_
                    refine st_aloadn O dX7_statement_309 rfl (q := 310) rfl ?_
                    refine st_getr O dX7_statement_310 fl_X7_13 rfl rfl rfl (q := 313) rfl ?_
                    refine st_aloadn O dX7_statement_313 rfl (q := 314) rfl ?_
                    refine st_getr O dX7_statement_314 fl_X7_28 rfl rfl rfl (q := 317) rfl ?_
                    refine st_iconst O dX7_statement_317 am_iconst_1 (q := 318) rfl ?_
                    refine sn_ald O dX7_statement_318 rfl rfl rfl ⟨by omega, by decide⟩ v2 (q := 319) rfl ?_
                    refine sn_ald O dX7_statement_319 rfl rfl rfl ⟨by omega, by decide⟩ w2.1 (q := 320) rfl ?_
                    refine st_call O dX7_statement_320 cs_X7_statement_320 (q := 323) rfl (am_siq rfl rfl rfl (Nat.le_of_ble_eq_true rfl) rfl ?_)
                    refine ⟨_, _, _, dgt ls s 1, _, _, by omega, rfl, rfl, ?_⟩
                    refine am_nrp rfl rfl rfl rfl ?_
                    refine st_aloadn O dX7_statement_323 rfl (q := 324) rfl ?_
                    refine st_aloadn O dX7_statement_324 rfl (q := 325) rfl ?_
                    refine st_getr O dX7_statement_325 fl_X7_28 rfl rfl rfl (q := 328) rfl ?_
                    refine st_iconst O dX7_statement_328 am_iconst_1 (q := 329) rfl ?_
                    refine sn_ald O dX7_statement_329 rfl rfl rfl ⟨by omega, by decide⟩ v2 (q := 330) rfl ?_
                    refine st_iloadn O dX7_statement_330 rfl (q := 331) rfl ?_
                    refine st_iloadn O dX7_statement_331 rfl (q := 332) rfl ?_
                    refine st_call O dX7_statement_332 cs_X7_statement_332 (q := 335) rfl (am_siq rfl rfl rfl (Nat.le_of_ble_eq_true rfl) rfl ?_)
                    refine ⟨_, _, _, dgt ls s 2, _, _, by omega, rfl, rfl, ?_⟩
                    refine am_nrp rfl rfl rfl rfl ?_
                    refine st_iconst O dX7_statement_335 am_iconst_1 (q := 336) rfl ?_
                    refine st_ireturn O dX7_statement_336 ?_
                    refine hY _ rfl vB _ _ _ _ _ ⟨hb, hw, hp, fun i hin => ?_, hL⟩
                    obtain ⟨g1, g2, g3, g4⟩ := hj i hin
                    by_cases e2 : i = dgt ls s 2
                    · rw [e2]; simp only [pk_us, va_s]; exact ⟨⟨trivial, q1.2⟩, ⟨trivial, q2.2⟩, w3, w4⟩
                    by_cases e1 : i = dgt ls s 1
                    · rw [e1] at g3 g4 ⊢; simp only [pk_un hne, va_o _ _ hne, pk_us, va_s]; exact ⟨⟨trivial, w1.2⟩, ⟨trivial, w2.2⟩, g3, g4⟩
                    simp only [pk_un e2, va_o _ _ e2, pk_un e1, va_o _ _ e1]; exact ⟨g1, g2, g3, g4⟩
                  omega
                exact absurd c219 (by decide)
              exact absurd c213 (by decide)
            exact absurd c6 (by decide)
        · rw [if_neg (fun z => hc z.2.1)] at hN
          refine am_begin rfl ?_
          refine st_aloadn O dX7_statement_0 rfl (q := 1) rfl ?_
          refine st_bipush O dX7_statement_1 am_bipush_99 (q := 3) rfl ?_
          refine st_call O dX7_statement_3 cs_X7_statement_3 (q := 6) rfl (am_siq rfl rfl rfl (Nat.le_of_ble_eq_true rfl) rfl ?_)
          refine ⟨ls, s, 99, _, _, _, _, _, _, _, _, _, _, tA, rfl, ht, hs, by decide, rfl, fun a b => absurd b (by omega), fun _ => ?_⟩
          refine am_nrp rfl rfl rfl rfl ?_
          refine st_if_eq O dX7_statement_6 (t := 199) rfl (q := 9) rfl (fun c6 => ?_) (fun c6 => ?_)
          · refine st_aloadn O dX7_statement_199 rfl (q := 200) rfl ?_
            refine st_bipush O dX7_statement_200 am_bipush_120 (q := 202) rfl ?_
            refine st_call O dX7_statement_202 cs_X7_statement_202 (q := 205) rfl (am_siq rfl rfl rfl (Nat.le_of_ble_eq_true rfl) rfl ?_)
            refine ⟨ls, s, 120, _, _, _, _, _, _, _, _, _, _, tA, rfl, ht, hs, by decide, rfl, fun _ _ => ?_, fun z => absurd ⟨hlt, hh⟩ z⟩
            refine am_nrp rfl rfl rfl rfl ?_
            refine st_if_eq O dX7_statement_205 (t := 337) rfl (q := 208) rfl (fun c205 => ?_) (fun c205 => ?_)
            · exact absurd c205 (by decide)
            refine st_aloadn O dX7_statement_208 rfl (q := 209) rfl ?_
            refine st_iconst O dX7_statement_209 am_iconst_2 (q := 210) rfl ?_
            refine st_call O dX7_statement_210 cs_X7_statement_210 (q := 213) rfl (am_siq rfl rfl rfl (Nat.le_of_ble_eq_true rfl) rfl ?_)
            refine ⟨ls, s + 1, 2, _, _, _, _, _, _, _, _, _, _, tA, _, rfl, ht, by omega, by decide, rfl, fun _ vB hv => ?_, fun f hf _ hno => absurd (hA4 f hf) hno⟩
            refine am_nrp rfl rfl rfl rfl ?_
            have v1 : vB 0 = nI (dgt ls s 1) := hv 0 (by decide)
            have v2 : vB 1 = nI (dgt ls s 2) := hv 1 (by decide)
            refine st_if_ne O dX7_statement_213 (t := 218) rfl (q := 216) rfl (fun c213 => ?_) (fun c213 => ?_)
            · refine st_iloadn O dX7_statement_218 rfl (q := 219) rfl ?_
              refine st_if_ne O dX7_statement_219 (t := 224) rfl (q := 222) rfl (fun c219 => ?_) (fun c219 => ?_)
              · refine st_aloadn O dX7_statement_224 rfl (q := 225) rfl ?_
                refine st_aloadn O dX7_statement_225 rfl (q := 226) rfl ?_
                refine st_getr O dX7_statement_226 fl_X7_28 rfl rfl rfl (q := 229) rfl ?_
                refine st_iconst O dX7_statement_229 am_iconst_0 (q := 230) rfl ?_
                refine sn_ald O dX7_statement_230 rfl rfl rfl ⟨by omega, by decide⟩ v1 (q := 231) rfl ?_
                refine st_call O dX7_statement_231 cs_X7_statement_231 (q := 234) rfl (am_sipq rfl rfl rfl (Nat.le_of_ble_eq_true rfl) rfl (r := 1) ⟨_, x.1, _, hn, rfl, rfl, by rw [xi_nI hn (by omega)]; rfl⟩ ?_)
                refine st_if_eq O dX7_statement_234 (t := 265) rfl (q := 237) rfl (fun c234 => ?_) (fun c234 => ?_)
                · exact absurd c234 (by decide)
                refine st_aloadn O dX7_statement_237 rfl (q := 238) rfl ?_
                refine st_aloadn O dX7_statement_238 rfl (q := 239) rfl ?_
                refine st_getr O dX7_statement_239 fl_X7_28 rfl rfl rfl (q := 242) rfl ?_
                refine st_iconst O dX7_statement_242 am_iconst_1 (q := 243) rfl ?_
                refine sn_ald O dX7_statement_243 rfl rfl rfl ⟨by omega, by decide⟩ v2 (q := 244) rfl ?_
                refine st_call O dX7_statement_244 cs_X7_statement_244 (q := 247) rfl (am_sipq rfl rfl rfl (Nat.le_of_ble_eq_true rfl) rfl (r := 0) ⟨_, x.1, _, hn, rfl, rfl, by rw [xi_no hn (by omega) (by omega)]; rfl⟩ ?_)
                refine st_if_eq O dX7_statement_247 (t := 265) rfl (q := 250) rfl (fun c247 => ?_) (fun c247 => ?_)
                · refine st_iconst O dX7_statement_265 am_iconst_0 (q := 266) rfl ?_
                  refine st_ireturn O dX7_statement_266 ?_
                  exact hN rfl _ vB
                exact absurd c247 (by decide)
              exact absurd c219 (by decide)
            exact absurd c213 (by decide)
          exact absurd c6 (by decide)
      · rw [if_neg (fun z => ha z.1)] at hN
        refine am_begin rfl ?_
        refine st_aloadn O dX7_statement_0 rfl (q := 1) rfl ?_
        refine st_bipush O dX7_statement_1 am_bipush_99 (q := 3) rfl ?_
        refine st_call O dX7_statement_3 cs_X7_statement_3 (q := 6) rfl (am_siq rfl rfl rfl (Nat.le_of_ble_eq_true rfl) rfl ?_)
        refine ⟨ls, s, 99, _, _, _, _, _, _, _, _, _, _, tA, rfl, ht, hs, by decide, rfl, fun a b => absurd b (by omega), fun _ => ?_⟩
        refine am_nrp rfl rfl rfl rfl ?_
        refine st_if_eq O dX7_statement_6 (t := 199) rfl (q := 9) rfl (fun c6 => ?_) (fun c6 => ?_)
        · refine st_aloadn O dX7_statement_199 rfl (q := 200) rfl ?_
          refine st_bipush O dX7_statement_200 am_bipush_120 (q := 202) rfl ?_
          refine st_call O dX7_statement_202 cs_X7_statement_202 (q := 205) rfl (am_siq rfl rfl rfl (Nat.le_of_ble_eq_true rfl) rfl ?_)
          refine ⟨ls, s, 120, _, _, _, _, _, _, _, _, _, _, tA, rfl, ht, hs, by decide, rfl, fun _ _ => ?_, fun z => absurd ⟨hlt, hh⟩ z⟩
          refine am_nrp rfl rfl rfl rfl ?_
          refine st_if_eq O dX7_statement_205 (t := 337) rfl (q := 208) rfl (fun c205 => ?_) (fun c205 => ?_)
          · exact absurd c205 (by decide)
          refine st_aloadn O dX7_statement_208 rfl (q := 209) rfl ?_
          refine st_iconst O dX7_statement_209 am_iconst_2 (q := 210) rfl ?_
          refine st_call O dX7_statement_210 cs_X7_statement_210 (q := 213) rfl (am_siq rfl rfl rfl (Nat.le_of_ble_eq_true rfl) rfl ?_)
          refine ⟨ls, s + 1, 2, _, _, _, _, _, _, _, _, _, _, tA, _, rfl, ht, by omega, by decide, rfl, fun _ vB hv => ?_, fun f hf _ hno => absurd (hA4 f hf) hno⟩
          refine am_nrp rfl rfl rfl rfl ?_
          have v1 : vB 0 = nI (dgt ls s 1) := hv 0 (by decide)
          have v2 : vB 1 = nI (dgt ls s 2) := hv 1 (by decide)
          refine st_if_ne O dX7_statement_213 (t := 218) rfl (q := 216) rfl (fun c213 => ?_) (fun c213 => ?_)
          · refine st_iloadn O dX7_statement_218 rfl (q := 219) rfl ?_
            refine st_if_ne O dX7_statement_219 (t := 224) rfl (q := 222) rfl (fun c219 => ?_) (fun c219 => ?_)
            · refine st_aloadn O dX7_statement_224 rfl (q := 225) rfl ?_
              refine st_aloadn O dX7_statement_225 rfl (q := 226) rfl ?_
              refine st_getr O dX7_statement_226 fl_X7_28 rfl rfl rfl (q := 229) rfl ?_
              refine st_iconst O dX7_statement_229 am_iconst_0 (q := 230) rfl ?_
              refine sn_ald O dX7_statement_230 rfl rfl rfl ⟨by omega, by decide⟩ v1 (q := 231) rfl ?_
              refine st_call O dX7_statement_231 cs_X7_statement_231 (q := 234) rfl (am_sipq rfl rfl rfl (Nat.le_of_ble_eq_true rfl) rfl (r := 0) ⟨_, x.1, _, hn, rfl, rfl, by rw [xi_no hn (by omega) (by omega)]; rfl⟩ ?_)
              refine st_if_eq O dX7_statement_234 (t := 265) rfl (q := 237) rfl (fun c234 => ?_) (fun c234 => ?_)
              · refine st_iconst O dX7_statement_265 am_iconst_0 (q := 266) rfl ?_
                refine st_ireturn O dX7_statement_266 ?_
                exact hN rfl _ vB
              exact absurd c234 (by decide)
            exact absurd c219 (by decide)
          exact absurd c213 (by decide)
        exact absurd c6 (by decide)
    · have eS : slN (ls.getD s 0) = 3 := by rw [hh]; rfl
      rw [if_pos hh] at hN hY
      have hA4 := hdg 1 1 (by decide) (by omega) (by omega)
      have d1 : dgt ls s 1 ≤ 9 := hd9 1 1 0 (by decide) (by omega) (by omega) (by decide)
      rw [show s + slN (ls.getD s 0) - 1 = s + 1 + 1 by omega] at hY
      by_cases hc : dgt ls s 1 ≤ 2
      · rw [if_pos hc] at hY
        refine am_begin rfl ?_
        refine st_aloadn O dX7_statement_0 rfl (q := 1) rfl ?_
        refine st_bipush O dX7_statement_1 am_bipush_99 (q := 3) rfl ?_
        refine st_call O dX7_statement_3 cs_X7_statement_3 (q := 6) rfl (am_siq rfl rfl rfl (Nat.le_of_ble_eq_true rfl) rfl ?_)
        refine ⟨ls, s, 99, _, _, _, _, _, _, _, _, _, _, tA, rfl, ht, hs, by decide, rfl, fun a b => absurd b (by omega), fun _ => ?_⟩
        refine am_nrp rfl rfl rfl rfl ?_
        refine st_if_eq O dX7_statement_6 (t := 199) rfl (q := 9) rfl (fun c6 => ?_) (fun c6 => ?_)
        · refine st_aloadn O dX7_statement_199 rfl (q := 200) rfl ?_
          refine st_bipush O dX7_statement_200 am_bipush_120 (q := 202) rfl ?_
          refine st_call O dX7_statement_202 cs_X7_statement_202 (q := 205) rfl (am_siq rfl rfl rfl (Nat.le_of_ble_eq_true rfl) rfl ?_)
          refine ⟨ls, s, 120, _, _, _, _, _, _, _, _, _, _, tA, rfl, ht, hs, by decide, rfl, fun a b => absurd b (by omega), fun _ => ?_⟩
          refine am_nrp rfl rfl rfl rfl ?_
          refine st_if_eq O dX7_statement_205 (t := 337) rfl (q := 208) rfl (fun c205 => ?_) (fun c205 => ?_)
          · refine st_aloadn O dX7_statement_337 rfl (q := 338) rfl ?_
            refine st_bipush O dX7_statement_338 am_bipush_98 (q := 340) rfl ?_
            refine st_call O dX7_statement_340 cs_X7_statement_340 (q := 343) rfl (am_siq rfl rfl rfl (Nat.le_of_ble_eq_true rfl) rfl ?_)
            refine ⟨ls, s, 98, _, _, _, _, _, _, _, _, _, _, tA, rfl, ht, hs, by decide, rfl, fun _ _ => ?_, fun z => absurd ⟨hlt, hh⟩ z⟩
            refine am_nrp rfl rfl rfl rfl ?_
            refine st_if_eq O dX7_statement_343 (t := 350) rfl (q := 346) rfl (fun c343 => ?_) (fun c343 => ?_)
            · exact absurd c343 (by decide)
            refine st_iconst O dX7_statement_346 am_iconst_0 (q := 347) rfl ?_
            refine st_goto O dX7_statement_347 (t := 390) rfl ?_
            refine st_istoren O dX7_statement_390 rfl (q := 391) rfl ?_
            refine st_iloadn O dX7_statement_391 rfl (q := 392) rfl ?_
            refine st_if_lt O dX7_statement_392 (t := 403) rfl (q := 395) rfl (fun c392 => ?_) (fun c392 => ?_)
            · exact absurd c392 (by decide)
            refine st_aloadn O dX7_statement_395 rfl (q := 396) rfl ?_
            refine st_iconst O dX7_statement_396 am_iconst_1 (q := 397) rfl ?_
            refine st_call O dX7_statement_397 cs_X7_statement_397 (q := 400) rfl (am_siq rfl rfl rfl (Nat.le_of_ble_eq_true rfl) rfl ?_)
            refine ⟨ls, s + 1, 1, _, _, _, _, _, _, _, _, _, _, tA, _, rfl, ht, by omega, by decide, rfl, fun _ vB hv => ?_, fun f hf _ hno => absurd (hA4 f hf) hno⟩
            refine am_nrp rfl rfl rfl rfl ?_
            have v1 : vB 0 = nI (dgt ls s 1) := hv 0 (by decide)
            refine st_if_ne O dX7_statement_400 (t := 405) rfl (q := 403) rfl (fun c400 => ?_) (fun c400 => ?_)
            · refine st_iloadn O dX7_statement_405 rfl (q := 406) rfl ?_
              refine st_if_ne O dX7_statement_406 (t := 411) rfl (q := 409) rfl (fun c406 => ?_) (fun c406 => ?_)
              · refine st_iloadn O dX7_statement_411 rfl (q := 412) rfl ?_
                refine st_if_ne O dX7_statement_412 (t := 439) rfl (q := 415) rfl (fun c412 => ?_) (fun c412 => ?_)
                · exact absurd c412 (by decide)
                refine st_aloadn O dX7_statement_415 rfl (q := 416) rfl ?_
                refine st_getr O dX7_statement_416 fl_X7_28 rfl rfl rfl (q := 419) rfl ?_
                refine st_iconst O dX7_statement_419 am_iconst_0 (q := 420) rfl ?_
                refine sn_ald O dX7_statement_420 rfl rfl rfl ⟨by omega, by decide⟩ v1 (q := 421) rfl ?_
                refine st_iconst O dX7_statement_421 am_iconst_2 (q := 422) rfl ?_
                refine sn_icmp_le O dX7_statement_422 (t := 427) rfl (q := 425) rfl (by omega) (by omega) (fun c422 => ?_) (fun c422 => ?_)
                · refine st_aloadn O dX7_statement_427 rfl (q := 428) rfl ?_
                  refine st_aloadn O dX7_statement_428 rfl (q := 429) rfl ?_
                  refine st_getr O dX7_statement_429 fl_X7_28 rfl rfl rfl (q := 432) rfl ?_
                  refine st_iconst O dX7_statement_432 am_iconst_0 (q := 433) rfl ?_
                  refine sn_ald O dX7_statement_433 rfl rfl rfl ⟨by omega, by decide⟩ v1 (q := 434) rfl ?_
                  refine st_puti O dX7_statement_434 fl_X7_103 rfl rfl rfl rfl rfl (q := 437) rfl ?_
                  refine st_iconst O dX7_statement_437 am_iconst_1 (q := 438) rfl ?_
                  refine st_ireturn O dX7_statement_438 ?_
                  exact hY _ rfl vB _ _ _ _ _ ⟨hc, hw, hp, hj, hL⟩
                omega
              exact absurd c406 (by decide)
            exact absurd c400 (by decide)
          exact absurd c205 (by decide)
        exact absurd c6 (by decide)
      · rw [if_neg hc] at hN
        refine am_begin rfl ?_
        refine st_aloadn O dX7_statement_0 rfl (q := 1) rfl ?_
        refine st_bipush O dX7_statement_1 am_bipush_99 (q := 3) rfl ?_
        refine st_call O dX7_statement_3 cs_X7_statement_3 (q := 6) rfl (am_siq rfl rfl rfl (Nat.le_of_ble_eq_true rfl) rfl ?_)
        refine ⟨ls, s, 99, _, _, _, _, _, _, _, _, _, _, tA, rfl, ht, hs, by decide, rfl, fun a b => absurd b (by omega), fun _ => ?_⟩
        refine am_nrp rfl rfl rfl rfl ?_
        refine st_if_eq O dX7_statement_6 (t := 199) rfl (q := 9) rfl (fun c6 => ?_) (fun c6 => ?_)
        · refine st_aloadn O dX7_statement_199 rfl (q := 200) rfl ?_
          refine st_bipush O dX7_statement_200 am_bipush_120 (q := 202) rfl ?_
          refine st_call O dX7_statement_202 cs_X7_statement_202 (q := 205) rfl (am_siq rfl rfl rfl (Nat.le_of_ble_eq_true rfl) rfl ?_)
          refine ⟨ls, s, 120, _, _, _, _, _, _, _, _, _, _, tA, rfl, ht, hs, by decide, rfl, fun a b => absurd b (by omega), fun _ => ?_⟩
          refine am_nrp rfl rfl rfl rfl ?_
          refine st_if_eq O dX7_statement_205 (t := 337) rfl (q := 208) rfl (fun c205 => ?_) (fun c205 => ?_)
          · refine st_aloadn O dX7_statement_337 rfl (q := 338) rfl ?_
            refine st_bipush O dX7_statement_338 am_bipush_98 (q := 340) rfl ?_
            refine st_call O dX7_statement_340 cs_X7_statement_340 (q := 343) rfl (am_siq rfl rfl rfl (Nat.le_of_ble_eq_true rfl) rfl ?_)
            refine ⟨ls, s, 98, _, _, _, _, _, _, _, _, _, _, tA, rfl, ht, hs, by decide, rfl, fun _ _ => ?_, fun z => absurd ⟨hlt, hh⟩ z⟩
            refine am_nrp rfl rfl rfl rfl ?_
            refine st_if_eq O dX7_statement_343 (t := 350) rfl (q := 346) rfl (fun c343 => ?_) (fun c343 => ?_)
            · exact absurd c343 (by decide)
            refine st_iconst O dX7_statement_346 am_iconst_0 (q := 347) rfl ?_
            refine st_goto O dX7_statement_347 (t := 390) rfl ?_
            refine st_istoren O dX7_statement_390 rfl (q := 391) rfl ?_
            refine st_iloadn O dX7_statement_391 rfl (q := 392) rfl ?_
            refine st_if_lt O dX7_statement_392 (t := 403) rfl (q := 395) rfl (fun c392 => ?_) (fun c392 => ?_)
            · exact absurd c392 (by decide)
            refine st_aloadn O dX7_statement_395 rfl (q := 396) rfl ?_
            refine st_iconst O dX7_statement_396 am_iconst_1 (q := 397) rfl ?_
            refine st_call O dX7_statement_397 cs_X7_statement_397 (q := 400) rfl (am_siq rfl rfl rfl (Nat.le_of_ble_eq_true rfl) rfl ?_)
            refine ⟨ls, s + 1, 1, _, _, _, _, _, _, _, _, _, _, tA, _, rfl, ht, by omega, by decide, rfl, fun _ vB hv => ?_, fun f hf _ hno => absurd (hA4 f hf) hno⟩
            refine am_nrp rfl rfl rfl rfl ?_
            have v1 : vB 0 = nI (dgt ls s 1) := hv 0 (by decide)
            refine st_if_ne O dX7_statement_400 (t := 405) rfl (q := 403) rfl (fun c400 => ?_) (fun c400 => ?_)
            · refine st_iloadn O dX7_statement_405 rfl (q := 406) rfl ?_
              refine st_if_ne O dX7_statement_406 (t := 411) rfl (q := 409) rfl (fun c406 => ?_) (fun c406 => ?_)
              · refine st_iloadn O dX7_statement_411 rfl (q := 412) rfl ?_
                refine st_if_ne O dX7_statement_412 (t := 439) rfl (q := 415) rfl (fun c412 => ?_) (fun c412 => ?_)
                · exact absurd c412 (by decide)
                refine st_aloadn O dX7_statement_415 rfl (q := 416) rfl ?_
                refine st_getr O dX7_statement_416 fl_X7_28 rfl rfl rfl (q := 419) rfl ?_
                refine st_iconst O dX7_statement_419 am_iconst_0 (q := 420) rfl ?_
                refine sn_ald O dX7_statement_420 rfl rfl rfl ⟨by omega, by decide⟩ v1 (q := 421) rfl ?_
                refine st_iconst O dX7_statement_421 am_iconst_2 (q := 422) rfl ?_
                refine sn_icmp_le O dX7_statement_422 (t := 427) rfl (q := 425) rfl (by omega) (by omega) (fun c422 => ?_) (fun c422 => ?_)
                · omega
                refine st_iconst O dX7_statement_425 am_iconst_0 (q := 426) rfl ?_
                refine st_ireturn O dX7_statement_426 ?_
                exact hN rfl _ vB
              exact absurd c406 (by decide)
            exact absurd c400 (by decide)
          exact absurd c205 (by decide)
        exact absurd c6 (by decide)
    · have eS : slN (ls.getD s 0) = 3 := by rw [hh]; rfl
      rw [if_neg (show ¬ ls.getD s 0 = 98 by omega)] at hN hY
      rw [if_neg (show ¬ ls.getD s 0 = 99 by omega)] at hN hY
      rw [if_neg (show ¬ ls.getD s 0 = 102 by omega)] at hN hY
      rw [if_neg (show ¬ ls.getD s 0 = 111 by omega)] at hN hY
      rw [if_pos hh] at hN hY
      have hA4 := hdg 1 1 (by decide) (by omega) (by omega)
      have d1 : dgt ls s 1 ≤ 9 := hd9 1 1 0 (by decide) (by omega) (by omega) (by decide)
      rw [show s + slN (ls.getD s 0) - 1 = s + 1 + 1 by omega] at hY
      refine am_begin rfl ?_
      refine st_aloadn O dX7_statement_0 rfl (q := 1) rfl ?_
      refine st_bipush O dX7_statement_1 am_bipush_99 (q := 3) rfl ?_
      refine st_call O dX7_statement_3 cs_X7_statement_3 (q := 6) rfl (am_siq rfl rfl rfl (Nat.le_of_ble_eq_true rfl) rfl ?_)
      refine ⟨ls, s, 99, _, _, _, _, _, _, _, _, _, _, tA, rfl, ht, hs, by decide, rfl, fun a b => absurd b (by omega), fun _ => ?_⟩
      refine am_nrp rfl rfl rfl rfl ?_
      refine st_if_eq O dX7_statement_6 (t := 199) rfl (q := 9) rfl (fun c6 => ?_) (fun c6 => ?_)
      · refine st_aloadn O dX7_statement_199 rfl (q := 200) rfl ?_
        refine st_bipush O dX7_statement_200 am_bipush_120 (q := 202) rfl ?_
        refine st_call O dX7_statement_202 cs_X7_statement_202 (q := 205) rfl (am_siq rfl rfl rfl (Nat.le_of_ble_eq_true rfl) rfl ?_)
        refine ⟨ls, s, 120, _, _, _, _, _, _, _, _, _, _, tA, rfl, ht, hs, by decide, rfl, fun a b => absurd b (by omega), fun _ => ?_⟩
        refine am_nrp rfl rfl rfl rfl ?_
        refine st_if_eq O dX7_statement_205 (t := 337) rfl (q := 208) rfl (fun c205 => ?_) (fun c205 => ?_)
        · refine st_aloadn O dX7_statement_337 rfl (q := 338) rfl ?_
          refine st_bipush O dX7_statement_338 am_bipush_98 (q := 340) rfl ?_
          refine st_call O dX7_statement_340 cs_X7_statement_340 (q := 343) rfl (am_siq rfl rfl rfl (Nat.le_of_ble_eq_true rfl) rfl ?_)
          refine ⟨ls, s, 98, _, _, _, _, _, _, _, _, _, _, tA, rfl, ht, hs, by decide, rfl, fun a b => absurd b (by omega), fun _ => ?_⟩
          refine am_nrp rfl rfl rfl rfl ?_
          refine st_if_eq O dX7_statement_343 (t := 350) rfl (q := 346) rfl (fun c343 => ?_) (fun c343 => ?_)
          · refine st_aloadn O dX7_statement_350 rfl (q := 351) rfl ?_
            refine st_bipush O dX7_statement_351 am_bipush_119 (q := 353) rfl ?_
            refine st_call O dX7_statement_353 cs_X7_statement_353 (q := 356) rfl (am_siq rfl rfl rfl (Nat.le_of_ble_eq_true rfl) rfl ?_)
            refine ⟨ls, s, 119, _, _, _, _, _, _, _, _, _, _, tA, rfl, ht, hs, by decide, rfl, fun _ _ => ?_, fun z => absurd ⟨hlt, hh⟩ z⟩
            refine am_nrp rfl rfl rfl rfl ?_
            refine st_if_eq O dX7_statement_356 (t := 363) rfl (q := 359) rfl (fun c356 => ?_) (fun c356 => ?_)
            · exact absurd c356 (by decide)
            refine st_iconst O dX7_statement_359 am_iconst_1 (q := 360) rfl ?_
            refine st_goto O dX7_statement_360 (t := 390) rfl ?_
            refine st_istoren O dX7_statement_390 rfl (q := 391) rfl ?_
            refine st_iloadn O dX7_statement_391 rfl (q := 392) rfl ?_
            refine st_if_lt O dX7_statement_392 (t := 403) rfl (q := 395) rfl (fun c392 => ?_) (fun c392 => ?_)
            · exact absurd c392 (by decide)
            refine st_aloadn O dX7_statement_395 rfl (q := 396) rfl ?_
            refine st_iconst O dX7_statement_396 am_iconst_1 (q := 397) rfl ?_
            refine st_call O dX7_statement_397 cs_X7_statement_397 (q := 400) rfl (am_siq rfl rfl rfl (Nat.le_of_ble_eq_true rfl) rfl ?_)
            refine ⟨ls, s + 1, 1, _, _, _, _, _, _, _, _, _, _, tA, _, rfl, ht, by omega, by decide, rfl, fun _ vB hv => ?_, fun f hf _ hno => absurd (hA4 f hf) hno⟩
            refine am_nrp rfl rfl rfl rfl ?_
            have v1 : vB 0 = nI (dgt ls s 1) := hv 0 (by decide)
            refine st_if_ne O dX7_statement_400 (t := 405) rfl (q := 403) rfl (fun c400 => ?_) (fun c400 => ?_)
            · refine st_iloadn O dX7_statement_405 rfl (q := 406) rfl ?_
              refine st_if_ne O dX7_statement_406 (t := 411) rfl (q := 409) rfl (fun c406 => ?_) (fun c406 => ?_)
              · refine st_iloadn O dX7_statement_411 rfl (q := 412) rfl ?_
                refine st_if_ne O dX7_statement_412 (t := 439) rfl (q := 415) rfl (fun c412 => ?_) (fun c412 => ?_)
                · refine st_iloadn O dX7_statement_439 rfl (q := 440) rfl ?_
                  refine st_iconst O dX7_statement_440 am_iconst_1 (q := 441) rfl ?_
                  refine st_icmp_ne O dX7_statement_441 (t := 456) rfl (q := 444) rfl (fun c441 => ?_) (fun c441 => ?_)
                  · exact absurd c441 (by decide)
                  refine st_aloadn O dX7_statement_444 rfl (q := 445) rfl ?_
                  refine st_aloadn O dX7_statement_445 rfl (q := 446) rfl ?_
                  refine st_getr O dX7_statement_446 fl_X7_28 rfl rfl rfl (q := 449) rfl ?_
                  refine st_iconst O dX7_statement_449 am_iconst_0 (q := 450) rfl ?_
                  refine sn_ald O dX7_statement_450 rfl rfl rfl ⟨by omega, by decide⟩ v1 (q := 451) rfl ?_
                  refine st_puti O dX7_statement_451 fl_X7_55 rfl rfl rfl rfl rfl (q := 454) rfl ?_
                  refine st_iconst O dX7_statement_454 am_iconst_1 (q := 455) rfl ?_
                  refine st_ireturn O dX7_statement_455 ?_
                  exact hY _ rfl vB _ _ _ _ _ ⟨hb, d1, hp, hj, hL⟩
                exact absurd c412 (by decide)
              exact absurd c406 (by decide)
            exact absurd c400 (by decide)
          exact absurd c343 (by decide)
        exact absurd c205 (by decide)
      exact absurd c6 (by decide)
    · have eS : slN (ls.getD s 0) = 3 := by rw [hh]; rfl
      rw [if_neg (show ¬ ls.getD s 0 = 98 by omega)] at hN hY
      rw [if_neg (show ¬ ls.getD s 0 = 99 by omega)] at hN hY
      rw [if_neg (show ¬ ls.getD s 0 = 102 by omega)] at hN hY
      rw [if_pos hh] at hN hY
      have hA4 := hdg 1 1 (by decide) (by omega) (by omega)
      have d1 : dgt ls s 1 ≤ 9 := hd9 1 1 0 (by decide) (by omega) (by omega) (by decide)
      rw [show s + slN (ls.getD s 0) - 1 = s + 1 + 1 by omega] at hY
      by_cases hc : dgt ls s 1 < x.1
      · rw [if_pos hc] at hY
        obtain ⟨q1, q2, q3, q4⟩ := hj _ hc
        refine am_begin rfl ?_
        refine st_aloadn O dX7_statement_0 rfl (q := 1) rfl ?_
        refine st_bipush O dX7_statement_1 am_bipush_99 (q := 3) rfl ?_
        refine st_call O dX7_statement_3 cs_X7_statement_3 (q := 6) rfl (am_siq rfl rfl rfl (Nat.le_of_ble_eq_true rfl) rfl ?_)
        refine ⟨ls, s, 99, _, _, _, _, _, _, _, _, _, _, tA, rfl, ht, hs, by decide, rfl, fun a b => absurd b (by omega), fun _ => ?_⟩
        refine am_nrp rfl rfl rfl rfl ?_
        refine st_if_eq O dX7_statement_6 (t := 199) rfl (q := 9) rfl (fun c6 => ?_) (fun c6 => ?_)
        · refine st_aloadn O dX7_statement_199 rfl (q := 200) rfl ?_
          refine st_bipush O dX7_statement_200 am_bipush_120 (q := 202) rfl ?_
          refine st_call O dX7_statement_202 cs_X7_statement_202 (q := 205) rfl (am_siq rfl rfl rfl (Nat.le_of_ble_eq_true rfl) rfl ?_)
          refine ⟨ls, s, 120, _, _, _, _, _, _, _, _, _, _, tA, rfl, ht, hs, by decide, rfl, fun a b => absurd b (by omega), fun _ => ?_⟩
          refine am_nrp rfl rfl rfl rfl ?_
          refine st_if_eq O dX7_statement_205 (t := 337) rfl (q := 208) rfl (fun c205 => ?_) (fun c205 => ?_)
          · refine st_aloadn O dX7_statement_337 rfl (q := 338) rfl ?_
            refine st_bipush O dX7_statement_338 am_bipush_98 (q := 340) rfl ?_
            refine st_call O dX7_statement_340 cs_X7_statement_340 (q := 343) rfl (am_siq rfl rfl rfl (Nat.le_of_ble_eq_true rfl) rfl ?_)
            refine ⟨ls, s, 98, _, _, _, _, _, _, _, _, _, _, tA, rfl, ht, hs, by decide, rfl, fun a b => absurd b (by omega), fun _ => ?_⟩
            refine am_nrp rfl rfl rfl rfl ?_
            refine st_if_eq O dX7_statement_343 (t := 350) rfl (q := 346) rfl (fun c343 => ?_) (fun c343 => ?_)
            · refine st_aloadn O dX7_statement_350 rfl (q := 351) rfl ?_
              refine st_bipush O dX7_statement_351 am_bipush_119 (q := 353) rfl ?_
              refine st_call O dX7_statement_353 cs_X7_statement_353 (q := 356) rfl (am_siq rfl rfl rfl (Nat.le_of_ble_eq_true rfl) rfl ?_)
              refine ⟨ls, s, 119, _, _, _, _, _, _, _, _, _, _, tA, rfl, ht, hs, by decide, rfl, fun a b => absurd b (by omega), fun _ => ?_⟩
              refine am_nrp rfl rfl rfl rfl ?_
              refine st_if_eq O dX7_statement_356 (t := 363) rfl (q := 359) rfl (fun c356 => ?_) (fun c356 => ?_)
              · refine st_aloadn O dX7_statement_363 rfl (q := 364) rfl ?_
                refine st_bipush O dX7_statement_364 am_bipush_111 (q := 366) rfl ?_
                refine st_call O dX7_statement_366 cs_X7_statement_366 (q := 369) rfl (am_siq rfl rfl rfl (Nat.le_of_ble_eq_true rfl) rfl ?_)
                refine ⟨ls, s, 111, _, _, _, _, _, _, _, _, _, _, tA, rfl, ht, hs, by decide, rfl, fun _ _ => ?_, fun z => absurd ⟨hlt, hh⟩ z⟩
                refine am_nrp rfl rfl rfl rfl ?_
                refine st_if_eq O dX7_statement_369 (t := 376) rfl (q := 372) rfl (fun c369 => ?_) (fun c369 => ?_)
                · exact absurd c369 (by decide)
                refine st_iconst O dX7_statement_372 am_iconst_2 (q := 373) rfl ?_
                refine st_goto O dX7_statement_373 (t := 390) rfl ?_
                refine st_istoren O dX7_statement_390 rfl (q := 391) rfl ?_
                refine st_iloadn O dX7_statement_391 rfl (q := 392) rfl ?_
                refine st_if_lt O dX7_statement_392 (t := 403) rfl (q := 395) rfl (fun c392 => ?_) (fun c392 => ?_)
                · exact absurd c392 (by decide)
                refine st_aloadn O dX7_statement_395 rfl (q := 396) rfl ?_
                refine st_iconst O dX7_statement_396 am_iconst_1 (q := 397) rfl ?_
                refine st_call O dX7_statement_397 cs_X7_statement_397 (q := 400) rfl (am_siq rfl rfl rfl (Nat.le_of_ble_eq_true rfl) rfl ?_)
                refine ⟨ls, s + 1, 1, _, _, _, _, _, _, _, _, _, _, tA, _, rfl, ht, by omega, by decide, rfl, fun _ vB hv => ?_, fun f hf _ hno => absurd (hA4 f hf) hno⟩
                refine am_nrp rfl rfl rfl rfl ?_
                have v1 : vB 0 = nI (dgt ls s 1) := hv 0 (by decide)
                refine st_if_ne O dX7_statement_400 (t := 405) rfl (q := 403) rfl (fun c400 => ?_) (fun c400 => ?_)
                · refine st_iloadn O dX7_statement_405 rfl (q := 406) rfl ?_
                  refine st_if_ne O dX7_statement_406 (t := 411) rfl (q := 409) rfl (fun c406 => ?_) (fun c406 => ?_)
                  · refine st_iloadn O dX7_statement_411 rfl (q := 412) rfl ?_
                    refine st_if_ne O dX7_statement_412 (t := 439) rfl (q := 415) rfl (fun c412 => ?_) (fun c412 => ?_)
                    · refine st_iloadn O dX7_statement_439 rfl (q := 440) rfl ?_
                      refine st_iconst O dX7_statement_440 am_iconst_1 (q := 441) rfl ?_
                      refine st_icmp_ne O dX7_statement_441 (t := 456) rfl (q := 444) rfl (fun c441 => ?_) (fun c441 => ?_)
                      · refine st_aloadn O dX7_statement_456 rfl (q := 457) rfl ?_
                        refine st_aloadn O dX7_statement_457 rfl (q := 458) rfl ?_
                        refine st_getr O dX7_statement_458 fl_X7_28 rfl rfl rfl (q := 461) rfl ?_
                        refine st_iconst O dX7_statement_461 am_iconst_0 (q := 462) rfl ?_
                        refine sn_ald O dX7_statement_462 rfl rfl rfl ⟨by omega, by decide⟩ v1 (q := 463) rfl ?_
                        refine st_call O dX7_statement_463 cs_X7_statement_463 (q := 466) rfl (am_sipq rfl rfl rfl (Nat.le_of_ble_eq_true rfl) rfl (r := 1) ⟨_, x.1, _, hn, rfl, rfl, by rw [xi_nI hn (by omega)]; rfl⟩ ?_)
                        refine st_if_ne O dX7_statement_466 (t := 471) rfl (q := 469) rfl (fun c466 => ?_) (fun c466 => ?_)
                        · refine st_iloadn O dX7_statement_471 rfl (q := 472) rfl ?_
                          refine st_iconst O dX7_statement_472 am_iconst_2 (q := 473) rfl ?_
                          refine st_icmp_ne O dX7_statement_473 (t := 490) rfl (q := 476) rfl (fun c473 => ?_) (fun c473 => ?_)
                          · exact absurd c473 (by decide)
                          refine st_aloadn O dX7_statement_476 rfl (q := 477) rfl ?_
                          refine st_aloadn O dX7_statement_477 rfl (q := 478) rfl ?_
                          refine st_getr O dX7_statement_478 fl_X7_28 rfl rfl rfl (q := 481) rfl ?_
                          refine st_iconst O dX7_statement_481 am_iconst_0 (q := 482) rfl ?_
                          refine sn_ald O dX7_statement_482 rfl rfl rfl ⟨by omega, by decide⟩ v1 (q := 483) rfl ?_
                          refine st_call O dX7_statement_483 cs_X7_statement_483 (q := 486) rfl (am_siq rfl rfl rfl (Nat.le_of_ble_eq_true rfl) rfl ?_)
                          refine ⟨x.1, _, _, lA, pA, dgt ls s 1, _, rfl, hL, q4, qu_mem hp hc, rfl, fun lA' pA' hL' => ?_⟩
                          refine am_nrp rfl rfl rfl rfl ?_
                          refine st_pop O dX7_statement_486 (q := 487) rfl ?_
                          refine st_goto O dX7_statement_487 (t := 501) rfl ?_
                          refine st_iconst O dX7_statement_501 am_iconst_1 (q := 502) rfl ?_
                          refine st_ireturn O dX7_statement_502 ?_
                          refine hY _ rfl vB _ _ _ _ _ ⟨hb, hw, er_perm hp hc, fun i hin => ?_, mL_congr hL' (fun y _ => qu_end hp y) (fun _ _ => ⟨rfl, rfl⟩)⟩
                          obtain ⟨g1, g2, g3, g4⟩ := hj i hin
                          refine ⟨g1, g2, g3, ?_⟩
                          show va_up x.2.2.2.2.2.1 (dgt ls s 1) (1 - x.2.2.2.2.2.1 (dgt ls s 1)) i < 2
                          unfold va_up
                          split
                          · omega
                          · exact g4
                        exact absurd c466 (by decide)
                      exact absurd c441 (by decide)
                    exact absurd c412 (by decide)
                  exact absurd c406 (by decide)
                exact absurd c400 (by decide)
              exact absurd c356 (by decide)
            exact absurd c343 (by decide)
          exact absurd c205 (by decide)
        exact absurd c6 (by decide)
      · rw [if_neg hc] at hN
        refine am_begin rfl ?_
        refine st_aloadn O dX7_statement_0 rfl (q := 1) rfl ?_
        refine st_bipush O dX7_statement_1 am_bipush_99 (q := 3) rfl ?_
        refine st_call O dX7_statement_3 cs_X7_statement_3 (q := 6) rfl (am_siq rfl rfl rfl (Nat.le_of_ble_eq_true rfl) rfl ?_)
        refine ⟨ls, s, 99, _, _, _, _, _, _, _, _, _, _, tA, rfl, ht, hs, by decide, rfl, fun a b => absurd b (by omega), fun _ => ?_⟩
        refine am_nrp rfl rfl rfl rfl ?_
        refine st_if_eq O dX7_statement_6 (t := 199) rfl (q := 9) rfl (fun c6 => ?_) (fun c6 => ?_)
        · refine st_aloadn O dX7_statement_199 rfl (q := 200) rfl ?_
          refine st_bipush O dX7_statement_200 am_bipush_120 (q := 202) rfl ?_
          refine st_call O dX7_statement_202 cs_X7_statement_202 (q := 205) rfl (am_siq rfl rfl rfl (Nat.le_of_ble_eq_true rfl) rfl ?_)
          refine ⟨ls, s, 120, _, _, _, _, _, _, _, _, _, _, tA, rfl, ht, hs, by decide, rfl, fun a b => absurd b (by omega), fun _ => ?_⟩
          refine am_nrp rfl rfl rfl rfl ?_
          refine st_if_eq O dX7_statement_205 (t := 337) rfl (q := 208) rfl (fun c205 => ?_) (fun c205 => ?_)
          · refine st_aloadn O dX7_statement_337 rfl (q := 338) rfl ?_
            refine st_bipush O dX7_statement_338 am_bipush_98 (q := 340) rfl ?_
            refine st_call O dX7_statement_340 cs_X7_statement_340 (q := 343) rfl (am_siq rfl rfl rfl (Nat.le_of_ble_eq_true rfl) rfl ?_)
            refine ⟨ls, s, 98, _, _, _, _, _, _, _, _, _, _, tA, rfl, ht, hs, by decide, rfl, fun a b => absurd b (by omega), fun _ => ?_⟩
            refine am_nrp rfl rfl rfl rfl ?_
            refine st_if_eq O dX7_statement_343 (t := 350) rfl (q := 346) rfl (fun c343 => ?_) (fun c343 => ?_)
            · refine st_aloadn O dX7_statement_350 rfl (q := 351) rfl ?_
              refine st_bipush O dX7_statement_351 am_bipush_119 (q := 353) rfl ?_
              refine st_call O dX7_statement_353 cs_X7_statement_353 (q := 356) rfl (am_siq rfl rfl rfl (Nat.le_of_ble_eq_true rfl) rfl ?_)
              refine ⟨ls, s, 119, _, _, _, _, _, _, _, _, _, _, tA, rfl, ht, hs, by decide, rfl, fun a b => absurd b (by omega), fun _ => ?_⟩
              refine am_nrp rfl rfl rfl rfl ?_
              refine st_if_eq O dX7_statement_356 (t := 363) rfl (q := 359) rfl (fun c356 => ?_) (fun c356 => ?_)
              · refine st_aloadn O dX7_statement_363 rfl (q := 364) rfl ?_
                refine st_bipush O dX7_statement_364 am_bipush_111 (q := 366) rfl ?_
                refine st_call O dX7_statement_366 cs_X7_statement_366 (q := 369) rfl (am_siq rfl rfl rfl (Nat.le_of_ble_eq_true rfl) rfl ?_)
                refine ⟨ls, s, 111, _, _, _, _, _, _, _, _, _, _, tA, rfl, ht, hs, by decide, rfl, fun _ _ => ?_, fun z => absurd ⟨hlt, hh⟩ z⟩
                refine am_nrp rfl rfl rfl rfl ?_
                refine st_if_eq O dX7_statement_369 (t := 376) rfl (q := 372) rfl (fun c369 => ?_) (fun c369 => ?_)
                · exact absurd c369 (by decide)
                refine st_iconst O dX7_statement_372 am_iconst_2 (q := 373) rfl ?_
                refine st_goto O dX7_statement_373 (t := 390) rfl ?_
                refine st_istoren O dX7_statement_390 rfl (q := 391) rfl ?_
                refine st_iloadn O dX7_statement_391 rfl (q := 392) rfl ?_
                refine st_if_lt O dX7_statement_392 (t := 403) rfl (q := 395) rfl (fun c392 => ?_) (fun c392 => ?_)
                · exact absurd c392 (by decide)
                refine st_aloadn O dX7_statement_395 rfl (q := 396) rfl ?_
                refine st_iconst O dX7_statement_396 am_iconst_1 (q := 397) rfl ?_
                refine st_call O dX7_statement_397 cs_X7_statement_397 (q := 400) rfl (am_siq rfl rfl rfl (Nat.le_of_ble_eq_true rfl) rfl ?_)
                refine ⟨ls, s + 1, 1, _, _, _, _, _, _, _, _, _, _, tA, _, rfl, ht, by omega, by decide, rfl, fun _ vB hv => ?_, fun f hf _ hno => absurd (hA4 f hf) hno⟩
                refine am_nrp rfl rfl rfl rfl ?_
                have v1 : vB 0 = nI (dgt ls s 1) := hv 0 (by decide)
                refine st_if_ne O dX7_statement_400 (t := 405) rfl (q := 403) rfl (fun c400 => ?_) (fun c400 => ?_)
                · refine st_iloadn O dX7_statement_405 rfl (q := 406) rfl ?_
                  refine st_if_ne O dX7_statement_406 (t := 411) rfl (q := 409) rfl (fun c406 => ?_) (fun c406 => ?_)
                  · refine st_iloadn O dX7_statement_411 rfl (q := 412) rfl ?_
                    refine st_if_ne O dX7_statement_412 (t := 439) rfl (q := 415) rfl (fun c412 => ?_) (fun c412 => ?_)
                    · refine st_iloadn O dX7_statement_439 rfl (q := 440) rfl ?_
                      refine st_iconst O dX7_statement_440 am_iconst_1 (q := 441) rfl ?_
                      refine st_icmp_ne O dX7_statement_441 (t := 456) rfl (q := 444) rfl (fun c441 => ?_) (fun c441 => ?_)
                      · refine st_aloadn O dX7_statement_456 rfl (q := 457) rfl ?_
                        refine st_aloadn O dX7_statement_457 rfl (q := 458) rfl ?_
                        refine st_getr O dX7_statement_458 fl_X7_28 rfl rfl rfl (q := 461) rfl ?_
                        refine st_iconst O dX7_statement_461 am_iconst_0 (q := 462) rfl ?_
                        refine sn_ald O dX7_statement_462 rfl rfl rfl ⟨by omega, by decide⟩ v1 (q := 463) rfl ?_
                        refine st_call O dX7_statement_463 cs_X7_statement_463 (q := 466) rfl (am_sipq rfl rfl rfl (Nat.le_of_ble_eq_true rfl) rfl (r := 0) ⟨_, x.1, _, hn, rfl, rfl, by rw [xi_no hn (by omega) (by omega)]; rfl⟩ ?_)
                        refine st_if_ne O dX7_statement_466 (t := 471) rfl (q := 469) rfl (fun c466 => ?_) (fun c466 => ?_)
                        · exact absurd c466 (by decide)
                        refine st_iconst O dX7_statement_469 am_iconst_0 (q := 470) rfl ?_
                        refine st_ireturn O dX7_statement_470 ?_
                        exact hN rfl _ vB
                      exact absurd c441 (by decide)
                    exact absurd c412 (by decide)
                  exact absurd c406 (by decide)
                exact absurd c400 (by decide)
              exact absurd c356 (by decide)
            exact absurd c343 (by decide)
          exact absurd c205 (by decide)
        exact absurd c6 (by decide)
    · have eS : slN (ls.getD s 0) = 3 := by rw [hh]; rfl
      rw [if_neg (show ¬ ls.getD s 0 = 98 by omega)] at hN hY
      rw [if_neg (show ¬ ls.getD s 0 = 99 by omega)] at hN hY
      rw [if_pos hh] at hN hY
      have hA4 := hdg 1 1 (by decide) (by omega) (by omega)
      have d1 : dgt ls s 1 ≤ 9 := hd9 1 1 0 (by decide) (by omega) (by omega) (by decide)
      rw [show s + slN (ls.getD s 0) - 1 = s + 1 + 1 by omega] at hY
      by_cases hc : dgt ls s 1 < x.1
      · rw [if_pos hc] at hY
        obtain ⟨q1, q2, q3, q4⟩ := hj _ hc
        refine am_begin rfl ?_
        refine st_aloadn O dX7_statement_0 rfl (q := 1) rfl ?_
        refine st_bipush O dX7_statement_1 am_bipush_99 (q := 3) rfl ?_
        refine st_call O dX7_statement_3 cs_X7_statement_3 (q := 6) rfl (am_siq rfl rfl rfl (Nat.le_of_ble_eq_true rfl) rfl ?_)
        refine ⟨ls, s, 99, _, _, _, _, _, _, _, _, _, _, tA, rfl, ht, hs, by decide, rfl, fun a b => absurd b (by omega), fun _ => ?_⟩
        refine am_nrp rfl rfl rfl rfl ?_
        refine st_if_eq O dX7_statement_6 (t := 199) rfl (q := 9) rfl (fun c6 => ?_) (fun c6 => ?_)
        · refine st_aloadn O dX7_statement_199 rfl (q := 200) rfl ?_
          refine st_bipush O dX7_statement_200 am_bipush_120 (q := 202) rfl ?_
          refine st_call O dX7_statement_202 cs_X7_statement_202 (q := 205) rfl (am_siq rfl rfl rfl (Nat.le_of_ble_eq_true rfl) rfl ?_)
          refine ⟨ls, s, 120, _, _, _, _, _, _, _, _, _, _, tA, rfl, ht, hs, by decide, rfl, fun a b => absurd b (by omega), fun _ => ?_⟩
          refine am_nrp rfl rfl rfl rfl ?_
          refine st_if_eq O dX7_statement_205 (t := 337) rfl (q := 208) rfl (fun c205 => ?_) (fun c205 => ?_)
          · refine st_aloadn O dX7_statement_337 rfl (q := 338) rfl ?_
            refine st_bipush O dX7_statement_338 am_bipush_98 (q := 340) rfl ?_
            refine st_call O dX7_statement_340 cs_X7_statement_340 (q := 343) rfl (am_siq rfl rfl rfl (Nat.le_of_ble_eq_true rfl) rfl ?_)
            refine ⟨ls, s, 98, _, _, _, _, _, _, _, _, _, _, tA, rfl, ht, hs, by decide, rfl, fun a b => absurd b (by omega), fun _ => ?_⟩
            refine am_nrp rfl rfl rfl rfl ?_
            refine st_if_eq O dX7_statement_343 (t := 350) rfl (q := 346) rfl (fun c343 => ?_) (fun c343 => ?_)
            · refine st_aloadn O dX7_statement_350 rfl (q := 351) rfl ?_
              refine st_bipush O dX7_statement_351 am_bipush_119 (q := 353) rfl ?_
              refine st_call O dX7_statement_353 cs_X7_statement_353 (q := 356) rfl (am_siq rfl rfl rfl (Nat.le_of_ble_eq_true rfl) rfl ?_)
              refine ⟨ls, s, 119, _, _, _, _, _, _, _, _, _, _, tA, rfl, ht, hs, by decide, rfl, fun a b => absurd b (by omega), fun _ => ?_⟩
              refine am_nrp rfl rfl rfl rfl ?_
              refine st_if_eq O dX7_statement_356 (t := 363) rfl (q := 359) rfl (fun c356 => ?_) (fun c356 => ?_)
              · refine st_aloadn O dX7_statement_363 rfl (q := 364) rfl ?_
                refine st_bipush O dX7_statement_364 am_bipush_111 (q := 366) rfl ?_
                refine st_call O dX7_statement_366 cs_X7_statement_366 (q := 369) rfl (am_siq rfl rfl rfl (Nat.le_of_ble_eq_true rfl) rfl ?_)
                refine ⟨ls, s, 111, _, _, _, _, _, _, _, _, _, _, tA, rfl, ht, hs, by decide, rfl, fun a b => absurd b (by omega), fun _ => ?_⟩
                refine am_nrp rfl rfl rfl rfl ?_
                refine st_if_eq O dX7_statement_369 (t := 376) rfl (q := 372) rfl (fun c369 => ?_) (fun c369 => ?_)
                · refine st_aloadn O dX7_statement_376 rfl (q := 377) rfl ?_
                  refine st_bipush O dX7_statement_377 am_bipush_102 (q := 379) rfl ?_
                  refine st_call O dX7_statement_379 cs_X7_statement_379 (q := 382) rfl (am_siq rfl rfl rfl (Nat.le_of_ble_eq_true rfl) rfl ?_)
                  refine ⟨ls, s, 102, _, _, _, _, _, _, _, _, _, _, tA, rfl, ht, hs, by decide, rfl, fun _ _ => ?_, fun z => absurd ⟨hlt, hh⟩ z⟩
                  refine am_nrp rfl rfl rfl rfl ?_
                  refine st_if_eq O dX7_statement_382 (t := 389) rfl (q := 385) rfl (fun c382 => ?_) (fun c382 => ?_)
                  · exact absurd c382 (by decide)
                  refine st_iconst O dX7_statement_385 am_iconst_3 (q := 386) rfl ?_
                  refine st_goto O dX7_statement_386 (t := 390) rfl ?_
                  refine st_istoren O dX7_statement_390 rfl (q := 391) rfl ?_
                  refine st_iloadn O dX7_statement_391 rfl (q := 392) rfl ?_
                  refine st_if_lt O dX7_statement_392 (t := 403) rfl (q := 395) rfl (fun c392 => ?_) (fun c392 => ?_)
                  · exact absurd c392 (by decide)
                  refine st_aloadn O dX7_statement_395 rfl (q := 396) rfl ?_
                  refine st_iconst O dX7_statement_396 am_iconst_1 (q := 397) rfl ?_
                  refine st_call O dX7_statement_397 cs_X7_statement_397 (q := 400) rfl (am_siq rfl rfl rfl (Nat.le_of_ble_eq_true rfl) rfl ?_)
                  refine ⟨ls, s + 1, 1, _, _, _, _, _, _, _, _, _, _, tA, _, rfl, ht, by omega, by decide, rfl, fun _ vB hv => ?_, fun f hf _ hno => absurd (hA4 f hf) hno⟩
                  refine am_nrp rfl rfl rfl rfl ?_
                  have v1 : vB 0 = nI (dgt ls s 1) := hv 0 (by decide)
                  refine st_if_ne O dX7_statement_400 (t := 405) rfl (q := 403) rfl (fun c400 => ?_) (fun c400 => ?_)
                  · refine st_iloadn O dX7_statement_405 rfl (q := 406) rfl ?_
                    refine st_if_ne O dX7_statement_406 (t := 411) rfl (q := 409) rfl (fun c406 => ?_) (fun c406 => ?_)
                    · refine st_iloadn O dX7_statement_411 rfl (q := 412) rfl ?_
                      refine st_if_ne O dX7_statement_412 (t := 439) rfl (q := 415) rfl (fun c412 => ?_) (fun c412 => ?_)
                      · refine st_iloadn O dX7_statement_439 rfl (q := 440) rfl ?_
                        refine st_iconst O dX7_statement_440 am_iconst_1 (q := 441) rfl ?_
                        refine st_icmp_ne O dX7_statement_441 (t := 456) rfl (q := 444) rfl (fun c441 => ?_) (fun c441 => ?_)
                        · refine st_aloadn O dX7_statement_456 rfl (q := 457) rfl ?_
                          refine st_aloadn O dX7_statement_457 rfl (q := 458) rfl ?_
                          refine st_getr O dX7_statement_458 fl_X7_28 rfl rfl rfl (q := 461) rfl ?_
                          refine st_iconst O dX7_statement_461 am_iconst_0 (q := 462) rfl ?_
                          refine sn_ald O dX7_statement_462 rfl rfl rfl ⟨by omega, by decide⟩ v1 (q := 463) rfl ?_
                          refine st_call O dX7_statement_463 cs_X7_statement_463 (q := 466) rfl (am_sipq rfl rfl rfl (Nat.le_of_ble_eq_true rfl) rfl (r := 1) ⟨_, x.1, _, hn, rfl, rfl, by rw [xi_nI hn (by omega)]; rfl⟩ ?_)
                          refine st_if_ne O dX7_statement_466 (t := 471) rfl (q := 469) rfl (fun c466 => ?_) (fun c466 => ?_)
                          · refine st_iloadn O dX7_statement_471 rfl (q := 472) rfl ?_
                            refine st_iconst O dX7_statement_472 am_iconst_2 (q := 473) rfl ?_
                            refine st_icmp_ne O dX7_statement_473 (t := 490) rfl (q := 476) rfl (fun c473 => ?_) (fun c473 => ?_)
                            · refine st_aloadn O dX7_statement_490 rfl (q := 491) rfl ?_
                              refine st_aloadn O dX7_statement_491 rfl (q := 492) rfl ?_
                              refine st_getr O dX7_statement_492 fl_X7_28 rfl rfl rfl (q := 495) rfl ?_
                              refine st_iconst O dX7_statement_495 am_iconst_0 (q := 496) rfl ?_
                              refine sn_ald O dX7_statement_496 rfl rfl rfl ⟨by omega, by decide⟩ v1 (q := 497) rfl ?_
                              refine st_call O dX7_statement_497 cs_X7_statement_497 (q := 500) rfl (am_siq rfl rfl rfl (Nat.le_of_ble_eq_true rfl) rfl ?_)
                              refine ⟨x.1, _, _, lA, pA, dgt ls s 1, _, rfl, hL, q4, qu_mem hp hc, rfl, fun pA' hL' => ?_⟩
                              refine am_nrp rfl rfl rfl rfl ?_
                              refine st_pop O dX7_statement_500 (q := 501) rfl ?_
                              refine st_iconst O dX7_statement_501 am_iconst_1 (q := 502) rfl ?_
                              refine st_ireturn O dX7_statement_502 ?_
                              exact hY _ rfl vB _ _ _ _ _ ⟨hb, hw, er_perm2 hp hc, hj, mL_congr hL' (fun y _ => qu_front hp y) (fun _ _ => ⟨rfl, rfl⟩)⟩
                            exact absurd c473 (by decide)
                          exact absurd c466 (by decide)
                        exact absurd c441 (by decide)
                      exact absurd c412 (by decide)
                    exact absurd c406 (by decide)
                  exact absurd c400 (by decide)
                exact absurd c369 (by decide)
              exact absurd c356 (by decide)
            exact absurd c343 (by decide)
          exact absurd c205 (by decide)
        exact absurd c6 (by decide)
      · rw [if_neg hc] at hN
        refine am_begin rfl ?_
        refine st_aloadn O dX7_statement_0 rfl (q := 1) rfl ?_
        refine st_bipush O dX7_statement_1 am_bipush_99 (q := 3) rfl ?_
        refine st_call O dX7_statement_3 cs_X7_statement_3 (q := 6) rfl (am_siq rfl rfl rfl (Nat.le_of_ble_eq_true rfl) rfl ?_)
        refine ⟨ls, s, 99, _, _, _, _, _, _, _, _, _, _, tA, rfl, ht, hs, by decide, rfl, fun a b => absurd b (by omega), fun _ => ?_⟩
        refine am_nrp rfl rfl rfl rfl ?_
        refine st_if_eq O dX7_statement_6 (t := 199) rfl (q := 9) rfl (fun c6 => ?_) (fun c6 => ?_)
        · refine st_aloadn O dX7_statement_199 rfl (q := 200) rfl ?_
          refine st_bipush O dX7_statement_200 am_bipush_120 (q := 202) rfl ?_
          refine st_call O dX7_statement_202 cs_X7_statement_202 (q := 205) rfl (am_siq rfl rfl rfl (Nat.le_of_ble_eq_true rfl) rfl ?_)
          refine ⟨ls, s, 120, _, _, _, _, _, _, _, _, _, _, tA, rfl, ht, hs, by decide, rfl, fun a b => absurd b (by omega), fun _ => ?_⟩
          refine am_nrp rfl rfl rfl rfl ?_
          refine st_if_eq O dX7_statement_205 (t := 337) rfl (q := 208) rfl (fun c205 => ?_) (fun c205 => ?_)
          · refine st_aloadn O dX7_statement_337 rfl (q := 338) rfl ?_
            refine st_bipush O dX7_statement_338 am_bipush_98 (q := 340) rfl ?_
            refine st_call O dX7_statement_340 cs_X7_statement_340 (q := 343) rfl (am_siq rfl rfl rfl (Nat.le_of_ble_eq_true rfl) rfl ?_)
            refine ⟨ls, s, 98, _, _, _, _, _, _, _, _, _, _, tA, rfl, ht, hs, by decide, rfl, fun a b => absurd b (by omega), fun _ => ?_⟩
            refine am_nrp rfl rfl rfl rfl ?_
            refine st_if_eq O dX7_statement_343 (t := 350) rfl (q := 346) rfl (fun c343 => ?_) (fun c343 => ?_)
            · refine st_aloadn O dX7_statement_350 rfl (q := 351) rfl ?_
              refine st_bipush O dX7_statement_351 am_bipush_119 (q := 353) rfl ?_
              refine st_call O dX7_statement_353 cs_X7_statement_353 (q := 356) rfl (am_siq rfl rfl rfl (Nat.le_of_ble_eq_true rfl) rfl ?_)
              refine ⟨ls, s, 119, _, _, _, _, _, _, _, _, _, _, tA, rfl, ht, hs, by decide, rfl, fun a b => absurd b (by omega), fun _ => ?_⟩
              refine am_nrp rfl rfl rfl rfl ?_
              refine st_if_eq O dX7_statement_356 (t := 363) rfl (q := 359) rfl (fun c356 => ?_) (fun c356 => ?_)
              · refine st_aloadn O dX7_statement_363 rfl (q := 364) rfl ?_
                refine st_bipush O dX7_statement_364 am_bipush_111 (q := 366) rfl ?_
                refine st_call O dX7_statement_366 cs_X7_statement_366 (q := 369) rfl (am_siq rfl rfl rfl (Nat.le_of_ble_eq_true rfl) rfl ?_)
                refine ⟨ls, s, 111, _, _, _, _, _, _, _, _, _, _, tA, rfl, ht, hs, by decide, rfl, fun a b => absurd b (by omega), fun _ => ?_⟩
                refine am_nrp rfl rfl rfl rfl ?_
                refine st_if_eq O dX7_statement_369 (t := 376) rfl (q := 372) rfl (fun c369 => ?_) (fun c369 => ?_)
                · refine st_aloadn O dX7_statement_376 rfl (q := 377) rfl ?_
                  refine st_bipush O dX7_statement_377 am_bipush_102 (q := 379) rfl ?_
                  refine st_call O dX7_statement_379 cs_X7_statement_379 (q := 382) rfl (am_siq rfl rfl rfl (Nat.le_of_ble_eq_true rfl) rfl ?_)
                  refine ⟨ls, s, 102, _, _, _, _, _, _, _, _, _, _, tA, rfl, ht, hs, by decide, rfl, fun _ _ => ?_, fun z => absurd ⟨hlt, hh⟩ z⟩
                  refine am_nrp rfl rfl rfl rfl ?_
                  refine st_if_eq O dX7_statement_382 (t := 389) rfl (q := 385) rfl (fun c382 => ?_) (fun c382 => ?_)
                  · exact absurd c382 (by decide)
                  refine st_iconst O dX7_statement_385 am_iconst_3 (q := 386) rfl ?_
                  refine st_goto O dX7_statement_386 (t := 390) rfl ?_
                  refine st_istoren O dX7_statement_390 rfl (q := 391) rfl ?_
                  refine st_iloadn O dX7_statement_391 rfl (q := 392) rfl ?_
                  refine st_if_lt O dX7_statement_392 (t := 403) rfl (q := 395) rfl (fun c392 => ?_) (fun c392 => ?_)
                  · exact absurd c392 (by decide)
                  refine st_aloadn O dX7_statement_395 rfl (q := 396) rfl ?_
                  refine st_iconst O dX7_statement_396 am_iconst_1 (q := 397) rfl ?_
                  refine st_call O dX7_statement_397 cs_X7_statement_397 (q := 400) rfl (am_siq rfl rfl rfl (Nat.le_of_ble_eq_true rfl) rfl ?_)
                  refine ⟨ls, s + 1, 1, _, _, _, _, _, _, _, _, _, _, tA, _, rfl, ht, by omega, by decide, rfl, fun _ vB hv => ?_, fun f hf _ hno => absurd (hA4 f hf) hno⟩
                  refine am_nrp rfl rfl rfl rfl ?_
                  have v1 : vB 0 = nI (dgt ls s 1) := hv 0 (by decide)
                  refine st_if_ne O dX7_statement_400 (t := 405) rfl (q := 403) rfl (fun c400 => ?_) (fun c400 => ?_)
                  · refine st_iloadn O dX7_statement_405 rfl (q := 406) rfl ?_
                    refine st_if_ne O dX7_statement_406 (t := 411) rfl (q := 409) rfl (fun c406 => ?_) (fun c406 => ?_)
                    · refine st_iloadn O dX7_statement_411 rfl (q := 412) rfl ?_
                      refine st_if_ne O dX7_statement_412 (t := 439) rfl (q := 415) rfl (fun c412 => ?_) (fun c412 => ?_)
                      · refine st_iloadn O dX7_statement_439 rfl (q := 440) rfl ?_
                        refine st_iconst O dX7_statement_440 am_iconst_1 (q := 441) rfl ?_
                        refine st_icmp_ne O dX7_statement_441 (t := 456) rfl (q := 444) rfl (fun c441 => ?_) (fun c441 => ?_)
                        · refine st_aloadn O dX7_statement_456 rfl (q := 457) rfl ?_
                          refine st_aloadn O dX7_statement_457 rfl (q := 458) rfl ?_
                          refine st_getr O dX7_statement_458 fl_X7_28 rfl rfl rfl (q := 461) rfl ?_
                          refine st_iconst O dX7_statement_461 am_iconst_0 (q := 462) rfl ?_
                          refine sn_ald O dX7_statement_462 rfl rfl rfl ⟨by omega, by decide⟩ v1 (q := 463) rfl ?_
                          refine st_call O dX7_statement_463 cs_X7_statement_463 (q := 466) rfl (am_sipq rfl rfl rfl (Nat.le_of_ble_eq_true rfl) rfl (r := 0) ⟨_, x.1, _, hn, rfl, rfl, by rw [xi_no hn (by omega) (by omega)]; rfl⟩ ?_)
                          refine st_if_ne O dX7_statement_466 (t := 471) rfl (q := 469) rfl (fun c466 => ?_) (fun c466 => ?_)
                          · exact absurd c466 (by decide)
                          refine st_iconst O dX7_statement_469 am_iconst_0 (q := 470) rfl ?_
                          refine st_ireturn O dX7_statement_470 ?_
                          exact hN rfl _ vB
                        exact absurd c441 (by decide)
                      exact absurd c412 (by decide)
                    exact absurd c406 (by decide)
                  exact absurd c400 (by decide)
                exact absurd c369 (by decide)
              exact absurd c356 (by decide)
            exact absurd c343 (by decide)
          exact absurd c205 (by decide)
        exact absurd c6 (by decide)
theorem C_X7_statement : am_ctr yX7_statement cX7_statement 4 (some .int) 4 91 sh_Mod [some 0, none] T_X7_statement := am_mk (by decide) (Or.inr (Or.inl ⟨rfl, rfl⟩)) (by decide) (by decide) (by decide) fl_X7_ok kc_X7_ok ck_X7_statement B_X7_statement
