def am_cs (l : List (Nat × (List am_V → am_D → am_K → Prop))) (pc : Nat) : List am_V → am_D → am_K → Prop := match l.find? (fun q => q.1 == pc) with
  | some q => q.2
  | none => fun _ _ _ => False
theorem am_cs_ok {X : am_X} {nL : Nat} {sh : am_S} {l : List (Nat × (List am_V → am_D → am_K → Prop))} (h : ∀ q ∈ l, am_csok X nL sh q.1 q.2) : ∀ pc, am_csok X nL sh pc (am_cs l pc) := by
  intro pc
  unfold am_cs
  cases hf : l.find? (fun q => q.1 == pc) with
  | none => intro st D k ls h; exact h.elim
  | some q =>
    have h3 := List.find?_some hf
    simp only [beq_iff_eq] at h3
    rw [← h3]
    exact h q (List.mem_of_find?_eq_some hf)
abbrev am_TT : Type := List Int32 → am_D → (List Int32 → am_D → Prop) → Prop
theorem am_n0 : ((0 : Fin 4) : Nat) = 0 := rfl
theorem am_n1 : ((1 : Fin 4) : Nat) = 1 := rfl
theorem am_n2 : ((2 : Fin 4) : Nat) = 2 := rfl
theorem am_n3 : ((3 : Fin 4) : Nat) = 3 := rfl
theorem am_nc (n : Nat) : ((OfNat.ofNat n : Nat) : Int) = OfNat.ofNat n := rfl
theorem am_tl {α : Type} (l : List α) : l.toArray.toList = l := rfl
theorem am_bipush_m9 : (Int8.ofInt (-9)).toInt32 = (-9 : Int32) := by decide
theorem am_bipush_m6 : (Int8.ofInt (-6)).toInt32 = (-6 : Int32) := by decide
theorem am_bipush_m4 : (Int8.ofInt (-4)).toInt32 = (-4 : Int32) := by decide
theorem am_bipush_m3 : (Int8.ofInt (-3)).toInt32 = (-3 : Int32) := by decide
theorem am_bipush_m2 : (Int8.ofInt (-2)).toInt32 = (-2 : Int32) := by decide
theorem am_bipush_6 : (Int8.ofInt 6).toInt32 = (6 : Int32) := by decide
theorem am_bipush_7 : (Int8.ofInt 7).toInt32 = (7 : Int32) := by decide
theorem am_bipush_8 : (Int8.ofInt 8).toInt32 = (8 : Int32) := by decide
theorem am_bipush_9 : (Int8.ofInt 9).toInt32 = (9 : Int32) := by decide
theorem am_bipush_10 : (Int8.ofInt 10).toInt32 = (10 : Int32) := by decide
theorem am_bipush_11 : (Int8.ofInt 11).toInt32 = (11 : Int32) := by decide
theorem am_bipush_12 : (Int8.ofInt 12).toInt32 = (12 : Int32) := by decide
theorem am_bipush_16 : (Int8.ofInt 16).toInt32 = (16 : Int32) := by decide
theorem am_bipush_17 : (Int8.ofInt 17).toInt32 = (17 : Int32) := by decide
theorem am_bipush_18 : (Int8.ofInt 18).toInt32 = (18 : Int32) := by decide
theorem am_bipush_20 : (Int8.ofInt 20).toInt32 = (20 : Int32) := by decide
theorem am_bipush_27 : (Int8.ofInt 27).toInt32 = (27 : Int32) := by decide
theorem am_bipush_36 : (Int8.ofInt 36).toInt32 = (36 : Int32) := by decide
theorem am_bipush_45 : (Int8.ofInt 45).toInt32 = (45 : Int32) := by decide
theorem am_bipush_46 : (Int8.ofInt 46).toInt32 = (46 : Int32) := by decide
theorem am_bipush_47 : (Int8.ofInt 47).toInt32 = (47 : Int32) := by decide
theorem am_bipush_48 : (Int8.ofInt 48).toInt32 = (48 : Int32) := by decide
theorem am_bipush_57 : (Int8.ofInt 57).toInt32 = (57 : Int32) := by decide
theorem am_bipush_59 : (Int8.ofInt 59).toInt32 = (59 : Int32) := by decide
theorem am_bipush_63 : (Int8.ofInt 63).toInt32 = (63 : Int32) := by decide
theorem am_bipush_96 : (Int8.ofInt 96).toInt32 = (96 : Int32) := by decide
theorem am_bipush_98 : (Int8.ofInt 98).toInt32 = (98 : Int32) := by decide
theorem am_bipush_99 : (Int8.ofInt 99).toInt32 = (99 : Int32) := by decide
theorem am_bipush_102 : (Int8.ofInt 102).toInt32 = (102 : Int32) := by decide
theorem am_bipush_111 : (Int8.ofInt 111).toInt32 = (111 : Int32) := by decide
theorem am_bipush_119 : (Int8.ofInt 119).toInt32 = (119 : Int32) := by decide
theorem am_bipush_120 : (Int8.ofInt 120).toInt32 = (120 : Int32) := by decide
theorem am_iconst_m1 : Int32.ofInt (-1) = (-1 : Int32) := by decide
theorem am_iconst_0 : Int32.ofInt 0 = (0 : Int32) := by decide
theorem am_iconst_1 : Int32.ofInt 1 = (1 : Int32) := by decide
theorem am_iconst_2 : Int32.ofInt 2 = (2 : Int32) := by decide
theorem am_iconst_3 : Int32.ofInt 3 = (3 : Int32) := by decide
theorem am_iconst_4 : Int32.ofInt 4 = (4 : Int32) := by decide
theorem am_iconst_5 : Int32.ofInt 5 = (5 : Int32) := by decide
theorem am_sipush_m2000 : (Int16.ofInt (-2000)).toInt32 = (-2000 : Int32) := by decide
theorem am_sipush_m1000 : (Int16.ofInt (-1000)).toInt32 = (-1000 : Int32) := by decide
theorem am_sipush_255 : (Int16.ofInt 255).toInt32 = (255 : Int32) := by decide
theorem am_sipush_256 : (Int16.ofInt 256).toInt32 = (256 : Int32) := by decide
theorem am_sipush_1023 : (Int16.ofInt 1023).toInt32 = (1023 : Int32) := by decide
abbrev sh_None : am_S := []
abbrev sh_Road : am_S := [.inr (3, [.inl 0, .inl 1, .inl 2, .inr 1, .inr 2, .inr 3, .inr 4, .inr 5]), .inl 9, .inl 9, .inl 9, .inl 9, .inl 9]
abbrev sh_RR : am_S := [.inr (3, [.inl 0, .inl 1, .inl 2, .inr 1, .inr 2, .inr 3, .inr 4, .inr 5]), .inl 9, .inl 9, .inl 9, .inl 9, .inl 9, .inr (3, [.inl 0, .inl 1, .inl 2, .inr 7, .inr 8, .inr 9, .inr 10, .inr 11]), .inl 9, .inl 9, .inl 9, .inl 9, .inl 9]
abbrev sh_Pas : am_S := [.inr (2, [.inr 1, .inr 2, .inr 3, .inl 0, .inl 1, .inr 4, .inr 5, .inl 2, .inl 3, .inl 4, .inl 5, .inl 6, .inl 7, .inl 8]), .inl 9, .inl 9, .inl 9, .inl 9, .inl 9]
abbrev sh_PR : am_S := [.inr (2, [.inr 1, .inr 2, .inr 3, .inl 0, .inl 1, .inr 4, .inr 5, .inl 2, .inl 3, .inl 4, .inl 5, .inl 6, .inl 7, .inl 8]), .inl 9, .inl 9, .inl 9, .inl 9, .inl 9, .inr (3, [.inl 0, .inl 1, .inl 2, .inr 7, .inr 8, .inr 9, .inr 10, .inr 11]), .inl 9, .inl 9, .inl 9, .inl 9, .inl 9]
abbrev sh_Txt : am_S := [.inr (4, [.inl 0, .inr 1]), .inl 96]
abbrev sh_TR : am_S := [.inr (4, [.inl 0, .inr 1]), .inl 96, .inr (3, [.inl 0, .inl 1, .inl 2, .inr 3, .inr 4, .inr 5, .inr 6, .inr 7]), .inl 9, .inl 9, .inl 9, .inl 9, .inl 9]
abbrev sh_TRR : am_S := [.inr (4, [.inl 0, .inr 1]), .inl 96, .inr (3, [.inl 0, .inl 1, .inl 2, .inr 3, .inr 4, .inr 5, .inr 6, .inr 7]), .inl 9, .inl 9, .inl 9, .inl 9, .inl 9, .inr (3, [.inl 0, .inl 1, .inl 2, .inr 9, .inr 10, .inr 11, .inr 12, .inr 13]), .inl 9, .inl 9, .inl 9, .inl 9, .inl 9]
abbrev sh_Mod : am_S := [.inr (6, [.inl 0, .inr 1, .inr 2, .inr 3, .inr 4, .inr 5, .inl 1, .inl 2, .inl 3, .inr 6, .inl 4, .inr 7, .inl 5, .inr 8, .inr 9, .inl 6, .inr 10, .inr 11, .inr 12, .inl 7, .inr 13, .inr 14, .inr 15, .inl 8, .inl 9, .inl 10, .inl 11]), .inl 9, .inl 9, .inl 9, .inl 9, .inl 9, .inl 96, .inl 8, .inl 12, .inl 7, .inl 48, .inl 48, .inl 48, .inl 9, .inl 9, .inl 9]
